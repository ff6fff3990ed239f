/-! ===== the class's constructor ===== -/
theorem zF.fr {o o' : Nat} {I I' : Nat → Nat → Int32} {L L' : Nat → Nat → Int64} (h : zF o I L) (ho : o ≤ o') (hf : ∀ a, o' ≤ a → I' a = I a) (hl : ∀ a, o' ≤ a → L' a = L a) : zF o' I' L' := fun c hc j => by
  rw [hf c hc, hl c hc]
  exact h c (by omega) j
theorem wn_new {E : xEx} {d mi pc : Nat} {lv : xLv} {st : List Value} {S : List xSh} {I : Nat → Nat → Int32} {L : Nat → Nat → Int64} {k q : Nat} {Q : Option Value → xMem → Prop} {idx ci : Nat} (pc' o : Nat) (hf : xft mi pc = some (.new idx, 3)) (hp : pc + 3 = pc') (hc : xcl (xOW mi) idx = some ci) (ho : S.length = o) (hz : zF o I L) (h1 : o < 1000) (hk : k + 1 ≤ xBC mi) (hq : q + xNN ci ≤ xBS mi) (kk : xW E d mi pc' lv (.ref o :: st) (S ++ [.inr (.inl (ci, xdf ci))], I, L) (k + 1) (q + xNN ci) Q) : xW E d mi pc lv st (S, I, L) k q Q := by
  subst ho
  exact ws_new pc' hf hp hc (fun j => (hz _ (Nat.le_refl _) j).1) (fun j => (hz _ (Nat.le_refl _) j).2) h1 hk hq kk
def ini4 (j : Nat) : Nat := if j < 15 then [42, 115, 104].getD j 0 else [104].getD (j - 15) 0
def A00 : Nat → Nat → Nat := fun k j => if k = 0 then ini0 j else if k = 1 then 5 else if k = 3 then ini3 j else if k = 4 then ini4 j else if k = 5 then [3, 1].getD j 0 else if k = 6 then 2 else 0
def F00 (j : Nat) : Nat := if j < 10 then lwv (fun i => A00 4 i) 3 (j / 2) (j % 2) else lwv (fun i => A00 4 (15 + i)) 1 ((j - 10) / 2) ((j - 10) % 2)
def s00 : xSt := mkS (mkC A00 F00 (fun _ => 0) (fun _ => 0) 0) (fun _ => mkC A00 F00 (fun _ => 0) (fun _ => 0) 0) (fun _ => false) (fun _ => 0) 0
theorem okL00 : okL (fun i => A00 4 i) 3 := by
  refine ⟨⟨by omega, by decide⟩, fun i hi => ?_⟩
  rcases (show i = 0 ∨ i = 1 ∨ i = 2 by omega) with rfl | rfl | rfl <;> decide
theorem okL01 : okL (fun i => A00 4 (15 + i)) 1 := by
  refine ⟨⟨by omega, by decide⟩, fun i hi => ?_⟩
  obtain rfl : i = 0 := by omega
  decide
theorem OK00 : OK s00 := by
  refine ⟨⟨⟨?_, ?_, ?_, ?_, ?_, fun j hj => ?_⟩, ⟨okL00, okL01, fun j hj => ?_, fun j hj => ?_⟩, fun p _ => Nat.zero_le _, fun p q _ _ _ h => absurd rfl h, fun j _ => Nat.zero_le _, by decide⟩, ⟨Nat.zero_le _, fun i hi => absurd hi (by show ¬ i < 0; omega)⟩, fun n hn hk => by cases hk⟩
  · intro j hj; show ini0 j ≤ 9; rcases (show j = 0 ∨ j = 1 ∨ j = 2 ∨ j = 3 ∨ j = 4 by omega) with rfl | rfl | rfl | rfl | rfl <;> decide
  · intro j hj; show 5 ≤ 9; omega
  · intro j hj; show ini0 j ≤ 99; unfold ini0; rcases (show j / 5 = 0 ∨ j / 5 = 1 ∨ j / 5 = 2 by omega) with e | e | e <;> rw [e] <;> decide
  · show 2 ≤ 99; omega
  · exact okK_iff.mpr (fun k hk i hi => by
      show hlo i ≤ ini3 (k * 6 + i) ∧ ini3 (k * 6 + i) ≤ hhi i
      unfold ini3
      rw [show (k * 6 + i) % 6 = i by omega]
      revert i
      exact fun i hi => p6 (P := fun i => hlo i ≤ [0, 2, 3, 0, 5, 0].getD i 0 ∧ [0, 2, 3, 0, 5, 0].getD i 0 ≤ hhi i) (by decide) (by decide) (by decide) (by decide) (by decide) (by decide) i hi)
  · show F00 j ≤ 1000
    unfold F00
    split <;> exact clv_le _
  · show _ = F00 j
    unfold F00; rw [if_pos hj]; rfl
  · show _ = F00 (10 + j)
    unfold F00; rw [if_neg (by omega), Nat.add_sub_cancel_left]; rfl
theorem i_cls {E : xEx} {I : Nat → Nat → Int32} {L : Nat → Nat → Int64} (hE : xEok E) (hz : zF 1 I L) : xC E 5 46 [.ref 0] ([.inr (.inl (5, xdf 5))], I, L) (fun r t => r = none ∧ ∃ I' L', t = (xC0, I', L') ∧ CR s00 I' ∧ zF 42 I' L') := by
  refine xC.mk [some (.ref 0), none] rfl ?_
  refine ws_aload_0 1 rfl rfl ?_
  refine ws_oinit 4 rfl rfl rfl (by omega) (by decide) ?_
  refine ws_aload_0 5 rfl rfl ?_
  refine wn_new 8 1 rfl rfl rfl rfl hz (by decide) (Nat.le_of_ble_eq_true rfl) (Nat.le_of_ble_eq_true rfl) ?_
  refine ws_dup 9 rfl rfl rfl ?_
  refine ws_invIN (As := []) 12 _ _ rfl rfl rfl (i_pad (hz.mono (by omega))) rfl rfl rfl ?_
  rintro _ _ ⟨rfl, rfl⟩
  have hz1 : zF 5 (wI I 1 3 (nI 0)) L := (hz.mono (by omega)).w (by omega)
  refine ws_putfrF 15 rfl rfl rfl rfl rfl rfl rfl rfl rfl rfl ?_
  refine ws_aload_0 16 rfl rfl ?_
  refine wn_new 19 5 rfl rfl rfl rfl hz1 (by decide) (Nat.le_of_ble_eq_true rfl) (Nat.le_of_ble_eq_true rfl) ?_
  refine ws_dup 20 rfl rfl rfl ?_
  refine ws_invI (As := []) 23 _ _ rfl rfl rfl (i_sc5 hE (hz1.mono (by omega))) rfl rfl rfl ?_
  rintro _ _ ⟨rfl, I2, rfl, hf2, a1, a2, a3, a4, a6, a7⟩
  have hz2 : zF 12 I2 L := hz1.fr (by omega) (fun a ha => hf2 a (by omega)) (fun _ _ => rfl)
  refine ws_putfrF 26 rfl rfl rfl rfl rfl rfl rfl rfl rfl rfl ?_
  refine ws_aload_0 27 rfl rfl ?_
  refine ws_iconst 28 rfl rfl kc_i2 ?_
  refine ws_newq 31 2 rfl rfl rfl rfl (by decide) (by decide) (Nat.le_of_ble_eq_true rfl) (Nat.le_of_ble_eq_true rfl) ?_
  refine ws_putfrF 34 rfl rfl rfl rfl rfl rfl rfl rfl rfl rfl ?_
  refine ws_aload_0 35 rfl rfl ?_
  refine ws_iconst 36 rfl rfl kc_i2 ?_
  refine wn_newZ 38 13 rfl rfl rfl (by decide) rfl (hz2.mono (by omega)) (by decide) (Nat.le_of_ble_eq_true rfl) (Nat.le_of_ble_eq_true rfl) ?_
  refine ws_putfrF 41 rfl rfl rfl rfl rfl rfl rfl rfl rfl rfl ?_
  refine ws_aload_0 42 rfl rfl ?_
  refine wn_new 45 14 rfl rfl rfl rfl (hz2.mono (by omega)) (by decide) (Nat.le_of_ble_eq_true rfl) (Nat.le_of_ble_eq_true rfl) ?_
  refine ws_dup 46 rfl rfl rfl ?_
  refine ws_aload_0 47 rfl rfl ?_
  refine ws_getfr 50 rfl rfl rfl rfl rfl ?_
  refine ws_invI (As := [.ref 5]) 53 _ _ rfl rfl rfl (i_pas (hz2.mono (by omega))) rfl rfl rfl ?_
  rintro _ _ ⟨rfl, rfl⟩
  have hz3 : zF 19 (wI (wI (wI I2 14 5 (nI 0)) 14 6 (nI 0)) 14 7 (nI 0)) L := (((hz2.mono (by omega)).w (by omega)).w (by omega)).w (by omega)
  refine ws_putfrF 56 rfl rfl rfl rfl rfl rfl rfl rfl rfl rfl ?_
  refine ws_aload_0 57 rfl rfl ?_
  refine wn_new 60 19 rfl rfl rfl rfl hz3 (by decide) (Nat.le_of_ble_eq_true rfl) (Nat.le_of_ble_eq_true rfl) ?_
  refine ws_dup 61 rfl rfl rfl ?_
  refine ws_aload_0 62 rfl rfl ?_
  refine ws_getfr 65 rfl rfl rfl rfl rfl ?_
  refine ws_invI (As := [.ref 14]) 68 _ _ rfl rfl rfl (i_win (hz3.mono (by omega))) rfl rfl rfl ?_
  rintro _ _ ⟨rfl, rfl⟩
  obtain ⟨I3, hI3⟩ : ∃ I3, I3 = wI (wI (wI (wI (wI (wI (wI (wI I2 14 5 (nI 0)) 14 6 (nI 0)) 14 7 (nI 0)) 19 3 (nI 0)) 19 5 (nI 0)) 19 9 (nI 0)) 19 10 (nI 0)) 19 11 (nI 0) := ⟨_, rfl⟩
  have hf3 : ∀ a, a ≠ 14 → a ≠ 19 → I3 a = I2 a := fun a b1 b2 => by rw [hI3, wI_ne b2, wI_ne b2, wI_ne b2, wI_ne b2, wI_ne b2, wI_ne b1, wI_ne b1, wI_ne b1]
  have h33 : I3 19 3 = nI 0 := by rw [hI3]; rfl
  have h35 : I3 19 5 = nI 0 := by rw [hI3]; rfl
  have hz4 : zF 26 I3 L := hz2.fr (by omega) (fun a ha => hf3 a (by omega) (by omega)) (fun _ _ => rfl)
  rw [← hI3]
  refine ws_putfrF 71 rfl rfl rfl rfl rfl rfl rfl rfl rfl rfl ?_
  refine ws_aload_0 72 rfl rfl ?_
  refine wn_new 75 26 rfl rfl rfl rfl hz4 (by decide) (Nat.le_of_ble_eq_true rfl) (Nat.le_of_ble_eq_true rfl) ?_
  refine ws_dup 76 rfl rfl rfl ?_
  refine ws_invIN (As := []) 79 _ _ rfl rfl rfl i_lot rfl rfl rfl ?_
  rintro _ _ ⟨rfl, L4, rfl, hl4⟩
  have hz5 : zF 27 I3 L4 := hz4.fr (by omega) (fun _ _ => rfl) (fun a ha => hl4 a (by omega))
  refine ws_putfrF 82 rfl rfl rfl rfl rfl rfl rfl rfl rfl rfl ?_
  refine ws_aload_0 83 rfl rfl ?_
  refine ws_iconst 84 rfl rfl kc_i5 ?_
  refine wn_newI 86 27 rfl rfl rfl (by decide) rfl hz5 (by decide) (Nat.le_of_ble_eq_true rfl) (Nat.le_of_ble_eq_true rfl) ?_
  refine ws_putfrF 89 rfl rfl rfl rfl rfl rfl rfl rfl rfl rfl ?_
  refine ws_iconst 90 rfl rfl kc_i0 ?_
  refine ws_istore_1 91 rfl rfl rfl rfl ?_
  refine ws_iload_1 92 rfl rfl ?_
  refine ws_iconst 93 rfl rfl kc_i2 ?_
  refine ws_icmp_gen 115 96 rfl rfl rfl (by omega) (by omega) (fun h9 => absurd h9 (by omega)) (fun h9 => ?_)
  refine ws_aload_0 97 rfl rfl ?_
  refine ws_getfr 100 rfl rfl rfl rfl rfl ?_
  refine ws_iload_1 101 rfl rfl ?_
  refine wn_new 104 28 rfl rfl rfl rfl (hz5.mono (by omega)) (by decide) (Nat.le_of_ble_eq_true rfl) (Nat.le_of_ble_eq_true rfl) ?_
  refine ws_dup 105 rfl rfl rfl ?_
  refine ws_invI (As := []) 108 _ _ rfl rfl rfl (i_sc28 hE (hz5.mono (by omega))) rfl rfl rfl ?_
  rintro _ _ ⟨rfl, I5, rfl, hf5, -⟩
  have hz6 : zF 35 I5 L4 := hz5.fr (by omega) (fun a ha => hf5 a (by omega)) (fun _ _ => rfl)
  refine ws_aast 109 rfl rfl rfl (vp_in_nI (by decide) (by decide)) rfl ?_
  refine ws_iinc_1 112 rfl rfl (ki_1 _) rfl rfl ?_
  refine ws_goto 91 rfl rfl ?_
  refine ws_iload_1 92 rfl rfl ?_
  refine ws_iconst 93 rfl rfl kc_i2 ?_
  refine ws_icmp_gen 115 96 rfl rfl rfl (by omega) (by omega) (fun h9 => absurd h9 (by omega)) (fun h9 => ?_)
  refine ws_aload_0 97 rfl rfl ?_
  refine ws_getfr 100 rfl rfl rfl rfl rfl ?_
  refine ws_iload_1 101 rfl rfl ?_
  refine wn_new 104 35 rfl rfl rfl rfl hz6 (by decide) (Nat.le_of_ble_eq_true rfl) (Nat.le_of_ble_eq_true rfl) ?_
  refine ws_dup 105 rfl rfl rfl ?_
  refine ws_invI (As := []) 108 _ _ rfl rfl rfl (i_sc35 hE (hz6.mono (by omega))) rfl rfl rfl ?_
  rintro _ _ ⟨rfl, I6, rfl, hf6, -⟩
  have hz7 : zF 42 I6 L4 := hz6.fr (by omega) (fun a ha => hf6 a (by omega)) (fun _ _ => rfl)
  refine ws_aast 109 rfl rfl rfl (vp_in_nI (by decide) (by decide)) rfl ?_
  refine ws_iinc_1 112 rfl rfl (ki_1 _) rfl rfl ?_
  refine ws_goto 91 rfl rfl ?_
  refine ws_iload_1 92 rfl rfl ?_
  refine ws_iconst 93 rfl rfl kc_i2 ?_
  refine ws_icmp_gen 115 96 rfl rfl rfl (by omega) (by omega) (fun h9 => ?_) (fun h9 => absurd h9 (by omega))
  show xW E 5 46 115 [some (.ref 0), some (.int (nI 2))] [] (xC0 ++ [], I6, L4) _ _ _
  have f6 : ∀ a, a < 28 → I6 a = I3 a := fun a ha => by rw [hf6 a (by omega)]; exact hf5 a (by omega)
  have f2 : ∀ a, a < 5 ∨ 9 < a → a < 28 → a ≠ 14 → a ≠ 19 → a ≠ 1 → I6 a = I a := fun a b1 b2 b3 b4 b5 => by rw [f6 a b2, hf3 a b3 b4, hf2 a b1, wI_ne b5]
  have h13 : I6 1 3 = nI 0 := by rw [f6 1 (by omega), hf3 1 (by decide) (by decide), hf2 1 (by omega)]; rfl
  have d40 : ∀ n, n < 40 → decide (n < 40) = true := fun n h => decide_eq_true h
  refine ws_aload_0 116 rfl rfl ?_
  refine ws_getfr 119 rfl rfl rfl rfl rfl ?_
  refine ws_bipush 121 rfl rfl kc_b42 ?_
  refine ws_invV1 124 rfl rfl rfl rfl (c_padAdd (T := []) (n := 0) (nI 42) (by omega) h13) rfl rfl rfl ?_
  rintro _ _ ⟨rfl, rfl⟩
  rw [if_pos (by omega)]
  refine ws_pop 125 rfl rfl rfl ?_
  refine ws_aload_0 126 rfl rfl ?_
  refine ws_getfr 129 rfl rfl rfl rfl rfl ?_
  refine ws_bipush 131 rfl rfl kc_b115 ?_
  refine ws_invV1 134 rfl rfl rfl rfl (c_padAdd (T := []) (n := 1) (nI 115) (by omega) rfl) rfl rfl rfl ?_
  rintro _ _ ⟨rfl, rfl⟩
  rw [if_pos (by omega)]
  refine ws_pop 135 rfl rfl rfl ?_
  refine ws_aload_0 136 rfl rfl ?_
  refine ws_getfr 139 rfl rfl rfl rfl rfl ?_
  refine ws_bipush 141 rfl rfl kc_b104 ?_
  refine ws_invV1 144 rfl rfl rfl rfl (c_padAdd (T := []) (n := 2) (nI 104) (by omega) rfl) rfl rfl rfl ?_
  rintro _ _ ⟨rfl, rfl⟩
  rw [if_pos (by omega)]
  obtain ⟨Ic, hIc⟩ : ∃ Ic, Ic = wI (wI (wI (wI (wI (wI I6 2 0 (nI 42)) 1 3 (nI (0 + 1))) 2 1 (nI 115)) 1 3 (nI (1 + 1))) 2 2 (nI 104)) 1 3 (nI (2 + 1)) := ⟨_, rfl⟩
  have hfc : ∀ a, a ≠ 1 → a ≠ 2 → Ic a = I6 a := fun a b1 b2 => by rw [hIc, wI_ne b1, wI_ne b2, wI_ne b1, wI_ne b2, wI_ne b1, wI_ne b2]
  have hc3 : Ic 1 3 = nI 3 := by rw [hIc]; rfl
  have hct : ∀ i, i < 3 → Ic 2 i = nI (A00 4 i) := fun i hi => by
    rw [hIc]
    rcases (show i = 0 ∨ i = 1 ∨ i = 2 by omega) with rfl | rfl | rfl <;> rfl
  rw [← hIc]
  refine ws_pop 145 rfl rfl rfl ?_
  refine ws_aload_0 146 rfl rfl ?_
  refine ws_getfr 149 rfl rfl rfl rfl rfl ?_
  refine ws_aload_0 150 rfl rfl ?_
  refine ws_getfr 153 rfl rfl rfl rfl rfl ?_
  refine ws_iconst 154 rfl rfl kc_i0 ?_
  refine ws_invV2 157 rfl rfl rfl rfl (c_becomeLaw (T := []) (t := fun i => A00 4 i) (n := 3) 0 (by omega) okL00 hc3 hct) rfl rfl rfl ?_
  rintro _ _ ⟨rfl, I7, L7, rfl, hf7, h73, ha7, hb7, hl7⟩
  refine ws_aload_0 158 rfl rfl ?_
  refine ws_getfr 161 rfl rfl rfl rfl rfl ?_
  refine ws_bipush 163 rfl rfl kc_b104 ?_
  refine ws_invV1 166 rfl rfl rfl rfl (c_padAdd (T := []) (n := 0) (nI 104) (by omega) h73) rfl rfl rfl ?_
  rintro _ _ ⟨rfl, rfl⟩
  rw [if_pos (by omega)]
  obtain ⟨Id, hId⟩ : ∃ Id, Id = wI (wI I7 2 0 (nI 104)) 1 3 (nI (0 + 1)) := ⟨_, rfl⟩
  have hfd : ∀ a, a ≠ 1 → a ≠ 2 → Id a = I7 a := fun a b1 b2 => by rw [hId, wI_ne b1, wI_ne b2]
  have hd3 : Id 1 3 = nI 1 := by rw [hId]; rfl
  have hdt : ∀ i, i < 1 → Id 2 i = nI (A00 4 (15 + i)) := fun i hi => by
    rw [hId]
    obtain rfl : i = 0 := by omega
    rfl
  rw [← hId]
  refine ws_pop 167 rfl rfl rfl ?_
  refine ws_aload_0 168 rfl rfl ?_
  refine ws_getfr 171 rfl rfl rfl rfl rfl ?_
  refine ws_aload_0 172 rfl rfl ?_
  refine ws_getfr 175 rfl rfl rfl rfl rfl ?_
  refine ws_iconst 176 rfl rfl kc_i1 ?_
  refine ws_invV2 179 rfl rfl rfl rfl (c_becomeLaw (T := []) (t := fun i => A00 4 (15 + i)) (n := 1) 1 (by omega) okL01 hd3 hdt) rfl rfl rfl ?_
  rintro _ _ ⟨rfl, I8, L8, rfl, hf8, h83, ha8, hb8, hl8⟩
  have hF : ∀ a, a ≠ 1 → a ≠ 2 → a ≠ 10 → I8 a = I6 a := fun a b1 b2 b3 => by rw [hf8 a b1 b3, hfd a b1 b2, hf7 a b1 b3]; exact hfc a b1 b2
  have hG : ∀ a, a < 28 → a ≠ 1 → a ≠ 2 → a ≠ 10 → a ≠ 14 → a ≠ 19 → I8 a = I2 a := fun a b0 b1 b2 b3 b4 b5 => by rw [hF a b1 b2 b3, f6 a b0]; exact hf3 a b4 b5
  refine ws_vret rfl rfl rfl (Nat.le_of_ble_eq_true rfl) ?_
  refine ⟨rfl, I8, L8, rfl, ⟨⟨fun j hj => ?_, fun j hj => ?_, fun j hj => ?_, fun j hj => ?_, fun j hj => ?_, fun j hj => ?_, ?_, ?_⟩, ⟨Or.inl ?_, Or.inl ?_⟩, ⟨h83, fun i hi => absurd hi (by show ¬ i < 0; omega)⟩, fun n hn => ⟨?_, fun hk => by cases hk⟩⟩, ?_⟩
  · rw [hG 6 (by omega) (by omega) (by omega) (by omega) (by omega) (by omega)]; exact a1 j hj
  · rw [hG 7 (by omega) (by omega) (by omega) (by omega) (by omega) (by omega)]; exact a2 j hj
  · rw [hG 8 (by omega) (by omega) (by omega) (by omega) (by omega) (by omega)]; exact a3 j hj
  · rw [hG 9 (by omega) (by omega) (by omega) (by omega) (by omega) (by omega)]; exact a4 j hj
  · show I8 10 j = nI (F00 j)
    unfold F00
    by_cases h10 : j < 10
    · rw [if_pos h10, hb8 j (by omega), hfd 10 (by decide) (by decide)]
      have := ha7 j h10
      rw [show 0 * 10 + j = j by omega] at this
      exact this
    · rw [if_neg h10]
      have := ha8 (j - 10) (by omega)
      rw [show 1 * 10 + (j - 10) = j by omega] at this
      exact this
  · rw [hF 11 (by decide) (by decide) (by decide), f2 11 (by omega) (by omega) (by omega) (by omega) (by omega), (hz 11 (by omega) j).1]; rfl
  · rw [hG 5 (by omega) (by omega) (by omega) (by omega) (by omega) (by omega)]; exact a6
  · rw [hG 5 (by omega) (by omega) (by omega) (by omega) (by omega) (by omega)]; exact a7
  · rw [hF 19 (by decide) (by decide) (by decide), f6 19 (by omega)]; exact h33
  · rw [hF 19 (by decide) (by decide) (by decide), f6 19 (by omega)]; exact h35
  · rw [hF 13 (by decide) (by decide) (by decide), f2 13 (by omega) (by omega) (by omega) (by omega) (by omega), (hz 13 (by omega) n).1]; rfl
  · exact hz7.fr (by omega) (fun a ha => hF a (by omega) (by omega) (by omega)) (fun a ha => by rw [hl8 a (by omega)]; exact hl7 a (by omega))
