/-! ===== image, restore: the calls ===== -/
/-- what an image of the reference holds -/
def imW (x : xSc) (o : Nat) : Int32 := if o < 15 then nI (x.A 0 o) else if o < 20 then nI (x.A 1 (o - 15)) else if o < 25 then nI (x.b (o - 20)) else if o < 49 then nI (x.A 3 (o - 25)) else if o < 79 then nI (x.A 4 (o - 49)) else if o = 79 then nI (x.A 5 0) else if o = 80 then nI (x.A 5 1) else if o = 81 then nI (x.A 6 0) else if o < 93 then nI (x.C (o - 82)) else nI (x.M / 2 ^ (o - 93) % 2)
theorem imW_0 {x : xSc} {j : Nat} (h : j < 15) : imW x j = nI (x.A 0 j) := by unfold imW; rw [if_pos h]
theorem imW_1 {x : xSc} {j : Nat} (h : j < 5) : imW x (15 + j) = nI (x.A 1 j) := by unfold imW; rw [if_neg (by omega), if_pos (by omega), Nat.add_sub_cancel_left]
theorem imW_2 {x : xSc} {j : Nat} (h : j < 5) : imW x (20 + j) = nI (x.b j) := by unfold imW; rw [if_neg (by omega), if_neg (by omega), if_pos (by omega), Nat.add_sub_cancel_left]
theorem imW_3 {x : xSc} {j : Nat} (h : j < 24) : imW x (25 + j) = nI (x.A 3 j) := by unfold imW; rw [if_neg (by omega), if_neg (by omega), if_neg (by omega), if_pos (by omega), Nat.add_sub_cancel_left]
theorem imW_4 {x : xSc} {j : Nat} (h : j < 30) : imW x (49 + j) = nI (x.A 4 j) := by unfold imW; rw [if_neg (by omega), if_neg (by omega), if_neg (by omega), if_neg (by omega), if_pos (by omega), Nat.add_sub_cancel_left]
theorem imW_7 {x : xSc} {j : Nat} (h : j < 11) : imW x (82 + j) = nI (x.C j) := by unfold imW; rw [if_neg (by omega), if_neg (by omega), if_neg (by omega), if_neg (by omega), if_neg (by omega), if_neg (by omega), if_neg (by omega), if_neg (by omega), if_pos (by omega), Nat.add_sub_cancel_left]
theorem imW_8 {x : xSc} {j : Nat} : imW x (93 + j) = nI (x.M / 2 ^ j % 2) := by unfold imW; rw [if_neg (by omega), if_neg (by omega), if_neg (by omega), if_neg (by omega), if_neg (by omega), if_neg (by omega), if_neg (by omega), if_neg (by omega), if_neg (by omega), Nat.add_sub_cancel_left]
theorem rim_W {n : Nat} {x : xSc} {V : Nat → Int32} (h : ∀ o, o < 104 → V (130 * n + o) = imW x o) : rim n x V := by
  refine ⟨fun j hj => ?_, fun j hj => ?_, fun j hj => ?_, fun j hj => ?_, fun j hj => ?_, ⟨?_, ?_, ?_⟩, fun j hj => ?_, fun j hj => ?_⟩
  · rw [h j (by omega), imW_0 hj]
  · rw [Nat.add_assoc, h (15 + j) (by omega), imW_1 hj]
  · rw [Nat.add_assoc, h (20 + j) (by omega), imW_2 hj]
  · rw [Nat.add_assoc, h (25 + j) (by omega), imW_3 hj]
  · rw [Nat.add_assoc, h (49 + j) (by omega), imW_4 hj]
  · rw [h 79 (by omega)]; rfl
  · rw [h 80 (by omega)]; rfl
  · rw [h 81 (by omega)]; rfl
  · rw [Nat.add_assoc, h (82 + j) (by omega), imW_7 hj]
  · rw [Nat.add_assoc, h (93 + j) (by omega), imW_8]
def Mv (x : xSc) (n : Nat) (I I' : Nat → Nat → Int32) (D : Nat → Prop) : Prop := (∀ a, a ≠ 61 → I' a = I a) ∧ (∀ o, o < 104 → D o → I' 61 (130 * n + o) = imW x o) ∧ ∀ m o, m < 2 → m ≠ n → o < 130 → I' 61 (130 * m + o) = I 61 (130 * m + o)
theorem Mv.st {x : xSc} {n : Nat} {I I' : Nat → Nat → Int32} {D D' : Nat → Prop} {v : Int32} (h : Mv x n I I' D) (o0 idx : Nat) (hn : n < 2) (ho : o0 < 104) (hi : idx = 130 * n + o0) (hv : v = imW x o0) (hD : ∀ o, o < 104 → D' o → D o ∨ o = o0) : Mv x n I (wI I' 61 idx v) D' := by
  obtain ⟨h1, h2, h3⟩ := h
  refine ⟨fun a ha => by rw [wI_ne ha]; exact h1 a ha, fun o ho' hd => ?_, fun m o hm hmn ho' => ?_⟩
  · rw [wI_eq]
    by_cases e : o = o0
    · rw [e, ← hi, pk_us]; exact hv
    · rw [pk_un (by omega)]
      exact h2 o ho' ((hD o ho' hd).resolve_right e)
  · rw [wI_eq, pk_un (by omega)]
    exact h3 m o hm hmn ho'
theorem scn_img {n : Nat} (hn : n < 2) : 28 + 7 * n = 28 ∨ 28 + 7 * n = 35 := by omega
def imS (s : xSt) (n : Nat) : xSt := mkS s.c (fun m => if m = n then s.c else s.i m) (fun m => decide (m = n) || s.K m) s.t s.n
theorem f_image (x : Int32) : Fx 76 135 [.int x] := by
  intro E s hE hs
  have p1 := p_below x 2 1 (by omega) rfl
  have p2 := p_in x (nI 0) (nI 1) 0 1 rfl rfl
  cases hr : rg 0 1 x with
  | false =>
    rw [hr] at p1 p2
    refine ⟨(-2), s, hs, fun I L hC => ?_, fun I L hR => ?_⟩
    · refine xC.mk [some (.ref 0), some (.int x)] rfl ?_
      refine ws_iload_1 1 rfl rfl ?_
      refine ws_iconst 2 rfl rfl kc_i2 ?_
      refine ws_invS2p 5 rfl rfl rfl (p1) rfl rfl rfl ?_
      refine ws_if_neb 11 8 rfl rfl rfl (fun h9 => absurd h9 (by first | decide | simp_all)) (fun h9 => ?_)
      refine ws_bipush 10 rfl rfl kc_bm2 ?_
      refine ws_iret rfl rfl rfl (Nat.le_of_ble_eq_true rfl) ?_
      exact cQ.sm hC
    · refine xC.mk [some (.ref 42), some (.int x), none, none] rfl ?_
      refine ws_iload_1 1 rfl rfl ?_
      refine ws_iconst 2 rfl rfl kc_i0 ?_
      refine ws_iconst 3 rfl rfl kc_i1 ?_
      refine ws_invS3p 6 rfl rfl rfl (p2) rfl rfl rfl ?_
      refine ws_if_neb 12 9 rfl rfl rfl (fun h9 => absurd h9 (by first | decide | simp_all)) (fun h9 => ?_)
      refine ws_bipush 11 rfl rfl kc_bm2 ?_
      refine ws_iret rfl rfl rfl (Nat.le_of_ble_eq_true rfl) ?_
      exact mQ.sm hR
  | true =>
    rw [hr] at p1 p2
    obtain ⟨n, -, hn, rfl⟩ := rg_nat (a := 0) (b := 1) hr (by omega)
    refine ⟨(nI 1), imS s n, ⟨hs.1, hs.2.1, fun m hm hk => ?_⟩, fun I L hC => ?_, fun I L hR => ?_⟩
    · show okS (if m = n then s.c else s.i m)
      split
      · exact hs.1
      · rename_i hne
        refine hs.2.2 m hm ?_
        have hk : (decide (m = n) || s.K m) = true := hk
        rw [decide_eq_false hne] at hk
        exact hk
    · refine xC.mk [some (.ref 0), some (.int (nI n))] rfl ?_
      have fin : ∀ (I1 : Nat → Nat → Int32), (∀ a, a < 28 + 7 * n ∨ 28 + 7 * n + 6 < a → I1 a = I a) → scn (28 + 7 * n) s.c I1 → cQ I (imS s n) (.int (nI 1)) (some (.int (nI 1))) (xS, wI I1 13 n (nI 1), L) := by
        intro I1 hf1 hsc
        obtain ⟨h1, h2, h3, h4⟩ := hC
        have hf : ∀ a, a ≠ 13 → (a < 28 + 7 * n ∨ 28 + 7 * n + 6 < a) → wI I1 13 n (nI 1) a = I a := fun a a1 a2 => by rw [wI_ne a1]; exact hf1 a a2
        refine ⟨rfl, _, _, rfl, ⟨h1.keep (fun a a1 a2 => hf a (by omega) (by omega)), h2.keep (fun a a1 a2 => hf a (by omega) (by omega)) (by rw [hf 19 (by omega) (by omega)]) (by rw [hf 19 (by omega) (by omega)]), ?_, fun m hm => ?_⟩, fun a ha => hf a (by omega) (by omega)⟩
        · rw [hf 1 (by omega) (by omega), hf 2 (by omega) (by omega)]; exact h3
        · by_cases e : m = n
          · refine ⟨?_, fun _ => ?_⟩
            · show _ = xb (decide (m = n) || s.K m)
              rw [decide_eq_true e, wI_eq, e, pk_us]; rfl
            · show scn (28 + 7 * m) (if m = n then s.c else s.i m) _
              rw [if_pos e, e]
              exact hsc.keep (fun a a1 a2 => wI_ne (by omega))
          · refine ⟨?_, fun hk => ?_⟩
            · show _ = xb (decide (m = n) || s.K m)
              rw [decide_eq_false e, wI_eq, pk_un e, hf1 13 (by omega)]
              exact (h4 m hm).1
            · show scn (28 + 7 * m) (if m = n then s.c else s.i m) _
              rw [if_neg e]
              have hk : (decide (m = n) || s.K m) = true := hk
              rw [decide_eq_false e] at hk
              exact ((h4 m hm).2 hk).keep (fun a a1 a2 => hf a (by omega) (by omega))
      rcases (show n = 0 ∨ n = 1 by omega) with rfl | rfl
      · refine ws_iload_1 1 rfl rfl ?_
        refine ws_iconst 2 rfl rfl kc_i2 ?_
        refine ws_invS2p 5 rfl rfl rfl (p1) rfl rfl rfl ?_
        refine ws_if_neb 11 8 rfl rfl rfl (fun h9 => ?_) (fun h9 => absurd h9 (by first | decide | simp_all))
        refine ws_aload_0 12 rfl rfl ?_
        refine ws_getfr 15 rfl rfl rfl rfl rfl ?_
        refine ws_iload_1 16 rfl rfl ?_
        refine ws_aaldn 17 rfl rfl rfl (by first | omega | decide) (by decide) rfl ?_
        refine ws_aload_0 18 rfl rfl ?_
        refine ws_getfr 21 rfl rfl rfl rfl rfl ?_
        refine ws_invV1 24 rfl rfl rfl rfl (k_take0 hC.1) rfl rfl rfl ?_
        rintro _ _ ⟨rfl, I1, rfl, hf1, hsc⟩
        refine ws_aload_0 25 rfl rfl ?_
        refine ws_getfr 28 rfl rfl rfl rfl rfl ?_
        refine ws_iload_1 29 rfl rfl ?_
        refine ws_iconst 30 rfl rfl kc_i1 ?_
        refine ws_zastn 31 rfl rfl rfl (by omega) (by omega) (by decide) ?_
        refine ws_iconst 32 rfl rfl kc_i1 ?_
        refine ws_iret rfl rfl rfl (Nat.le_of_ble_eq_true rfl) ?_
        exact fin I1 hf1 hsc
      · refine ws_iload_1 1 rfl rfl ?_
        refine ws_iconst 2 rfl rfl kc_i2 ?_
        refine ws_invS2p 5 rfl rfl rfl (p1) rfl rfl rfl ?_
        refine ws_if_neb 11 8 rfl rfl rfl (fun h9 => ?_) (fun h9 => absurd h9 (by first | decide | simp_all))
        refine ws_aload_0 12 rfl rfl ?_
        refine ws_getfr 15 rfl rfl rfl rfl rfl ?_
        refine ws_iload_1 16 rfl rfl ?_
        refine ws_aaldn 17 rfl rfl rfl (by first | omega | decide) (by decide) rfl ?_
        refine ws_aload_0 18 rfl rfl ?_
        refine ws_getfr 21 rfl rfl rfl rfl rfl ?_
        refine ws_invV1 24 rfl rfl rfl rfl (k_take1 hC.1) rfl rfl rfl ?_
        rintro _ _ ⟨rfl, I1, rfl, hf1, hsc⟩
        refine ws_aload_0 25 rfl rfl ?_
        refine ws_getfr 28 rfl rfl rfl rfl rfl ?_
        refine ws_iload_1 29 rfl rfl ?_
        refine ws_iconst 30 rfl rfl kc_i1 ?_
        refine ws_zastn 31 rfl rfl rfl (by omega) (by omega) (by decide) ?_
        refine ws_iconst 32 rfl rfl kc_i1 ?_
        refine ws_iret rfl rfl rfl (Nat.le_of_ble_eq_true rfl) ?_
        exact fin I1 hf1 hsc
    · refine xC.mk [some (.ref 42), some (.int (nI n)), none, none] rfl ?_
      obtain ⟨r1, r2, r3, r4, r5, ⟨r6, r6'⟩, r7, r8, r9⟩ := hR.1
      have l5 : ∀ (m k : Nat) (I' : Nat → Nat → Int32), k + m = 11 → Mv s.c n I I' (fun o => o < 82 + k ∨ (93 ≤ o ∧ o < 93 + k)) → xW E 20 135 200 [some (.ref 42), some (.int (nI n)), some (.int (nI (130 * n))), some (.int (nI k))] [] (xS, I', L) 0 0 (mQ I (imS s n) (.int (nI 1))) := by
        intro m
        induction m with
        | zero =>
          intro k I' hk hM
          obtain rfl : k = 11 := by omega
          obtain ⟨m1, m2, m3⟩ := hM
          have hf : ∀ a, a ≠ 61 → a ≠ 62 → wI I' 62 n (nI 1) a = I a := fun a a1 a2 => by rw [wI_ne a2]; exact m1 a a1
          refine ws_iload_3 201 rfl rfl ?_
          refine ws_bipush 203 rfl rfl kc_b11 ?_
          refine ws_icmp_gen 254 206 rfl rfl rfl (by omega) (by omega) (fun h9 => ?_) (fun h9 => absurd h9 (by omega))
          refine ws_aload_0 255 rfl rfl ?_
          refine ws_getfr 258 rfl rfl rfl rfl rfl ?_
          refine ws_iload_1 259 rfl rfl ?_
          refine ws_iconst 260 rfl rfl kc_i1 ?_
          refine ws_zastn 261 rfl rfl rfl (by omega) (by omega) (by decide) ?_
          refine ws_iconst 262 rfl rfl kc_i1 ?_
          refine ws_iret rfl rfl rfl (Nat.le_of_ble_eq_true rfl) ?_
          refine ⟨rfl, _, _, rfl, ⟨hR.1.keep (fun a a1 a2 => hf a (by omega) (by omega)) (by rw [hf 42 (by omega) (by omega)]), ?_, ?_, fun m hm => ?_⟩, fun a ha => hf a (by omega) (by omega)⟩
          · have h2 := hR.2.1
            unfold PL LD at h2 ⊢
            rw [hf 42 (by omega) (by omega), hf 60 (by omega) (by omega)]
            exact h2
          · rw [hf 42 (by omega) (by omega), hf 45 (by omega) (by omega)]; exact hR.2.2.1
          · rw [wI_ne (show (61 : Nat) ≠ 62 by decide)]
            by_cases e : m = n
            · refine ⟨?_, fun _ => ?_⟩
              · show _ = xb (decide (m = n) || s.K m)
                rw [decide_eq_true e, wI_eq, e, pk_us]; rfl
              · show rim m (if m = n then s.c else s.i m) _
                rw [if_pos e, e]
                exact rim_W (fun o ho => m2 o ho (by omega))
            · refine ⟨?_, fun hk => ?_⟩
              · show _ = xb (decide (m = n) || s.K m)
                rw [decide_eq_false e, wI_eq, pk_un e, m1 62 (by omega)]
                exact (hR.2.2.2 m hm).1
              · show rim m (if m = n then s.c else s.i m) _
                rw [if_neg e]
                have hk : (decide (m = n) || s.K m) = true := hk
                rw [decide_eq_false e] at hk
                obtain ⟨q1, q2, q3, q4, q5, ⟨q6, q7, q8⟩, q9, q10⟩ := (hR.2.2.2 m hm).2 hk
                refine ⟨fun j hj => ?_, fun j hj => ?_, fun j hj => ?_, fun j hj => ?_, fun j hj => ?_, ⟨?_, ?_, ?_⟩, fun j hj => ?_, fun j hj => ?_⟩
                · rw [m3 m j hm e (by omega)]; exact q1 j hj
                · rw [Nat.add_assoc, m3 m (15 + j) hm e (by omega), ← Nat.add_assoc]; exact q2 j hj
                · rw [Nat.add_assoc, m3 m (20 + j) hm e (by omega), ← Nat.add_assoc]; exact q3 j hj
                · rw [Nat.add_assoc, m3 m (25 + j) hm e (by omega), ← Nat.add_assoc]; exact q4 j hj
                · rw [Nat.add_assoc, m3 m (49 + j) hm e (by omega), ← Nat.add_assoc]; exact q5 j hj
                · rw [m3 m 79 hm e (by omega)]; exact q6
                · rw [m3 m 80 hm e (by omega)]; exact q7
                · rw [m3 m 81 hm e (by omega)]; exact q8
                · rw [Nat.add_assoc, m3 m (82 + j) hm e (by omega), ← Nat.add_assoc]; exact q9 j hj
                · rw [Nat.add_assoc, m3 m (93 + j) hm e (by omega), ← Nat.add_assoc]; exact q10 j hj
        | succ m ih =>
          intro k I' hk hM
          have g1 : I' 50 k = nI (s.c.C k) := by rw [hM.1 50 (by decide)]; exact r8 k (by omega)
          have g2 : wI I' 61 (130 * n + 82 + k) (nI (s.c.C k)) 51 k = nI (s.c.M / 2 ^ k % 2) := by rw [wI_ne (by decide), hM.1 51 (by decide)]; exact r9 k (by omega)
          have s1 := hM.st (D' := fun o => o < 82 + (k + 1) ∨ (93 ≤ o ∧ o < 93 + k)) (82 + k) (130 * n + 82 + k) (by omega) (by omega) (by omega) (imW_7 (by omega)).symm (fun o ho hd => by omega)
          have fin : xW E 20 135 248 [some (.ref 42), some (.int (nI n)), some (.int (nI (130 * n))), some (.int (nI k))] [] (xS, wI (wI I' 61 (130 * n + 82 + k) (nI (s.c.C k))) 61 (130 * n + 93 + k) (nI (s.c.M / 2 ^ k % 2)), L) 0 0 (mQ I (imS s n) (.int (nI 1))) := by
            refine ws_iinc_3 251 rfl rfl (ki_1 _) rfl rfl ?_
            refine ws_goto 200 rfl rfl ?_
            exact ih (k + 1) _ (by omega) (s1.st (93 + k) (130 * n + 93 + k) (by omega) (by omega) (by omega) imW_8.symm (fun o ho hd => by omega))
          rcases (show s.c.M / 2 ^ k % 2 = 0 ∨ s.c.M / 2 ^ k % 2 = 1 by omega) with e | e
          · rw [e] at g2 fin
            refine ws_iload_3 201 rfl rfl ?_
            refine ws_bipush 203 rfl rfl kc_b11 ?_
            refine ws_icmp_gen 254 206 rfl rfl rfl (by omega) (by omega) (fun h9 => absurd h9 (by omega)) (fun h9 => ?_)
            refine ws_aload_0 207 rfl rfl ?_
            refine ws_getfr 210 rfl rfl rfl rfl rfl ?_
            refine ws_iload_2 211 rfl rfl ?_
            refine ws_bipush 213 rfl rfl kc_b82 ?_
            refine ws_iadd 214 rfl rfl (nI_add _ _) ?_
            refine ws_iload_3 215 rfl rfl ?_
            refine ws_iadd 216 rfl rfl (nI_add _ _) ?_
            refine ws_aload_0 217 rfl rfl ?_
            refine ws_getfr 220 rfl rfl rfl rfl rfl ?_
            refine ws_iload_3 221 rfl rfl ?_
            refine ws_ialdn 222 rfl rfl rfl (by omega) (by omega) g1 ?_
            refine ws_iastn 223 rfl rfl rfl (by omega) (by omega) ?_
            refine ws_aload_0 224 rfl rfl ?_
            refine ws_getfr 227 rfl rfl rfl rfl rfl ?_
            refine ws_iload_2 228 rfl rfl ?_
            refine ws_bipush 230 rfl rfl kc_b93 ?_
            refine ws_iadd 231 rfl rfl (nI_add _ _) ?_
            refine ws_iload_3 232 rfl rfl ?_
            refine ws_iadd 233 rfl rfl (nI_add _ _) ?_
            refine ws_aload_0 234 rfl rfl ?_
            refine ws_getfr 237 rfl rfl rfl rfl rfl ?_
            refine ws_iload_3 238 rfl rfl ?_
            refine ws_zaldn 239 rfl rfl rfl (by omega) (by omega) g2 ?_
            refine ws_if_eqn 246 242 rfl rfl rfl (by omega) (fun h9 => ?_) (fun h9 => absurd h9 (by omega))
            refine ws_iconst 247 rfl rfl kc_i0 ?_
            refine ws_iastn 248 rfl rfl rfl (by omega) (by omega) ?_
            exact fin
          · rw [e] at g2 fin
            refine ws_iload_3 201 rfl rfl ?_
            refine ws_bipush 203 rfl rfl kc_b11 ?_
            refine ws_icmp_gen 254 206 rfl rfl rfl (by omega) (by omega) (fun h9 => absurd h9 (by omega)) (fun h9 => ?_)
            refine ws_aload_0 207 rfl rfl ?_
            refine ws_getfr 210 rfl rfl rfl rfl rfl ?_
            refine ws_iload_2 211 rfl rfl ?_
            refine ws_bipush 213 rfl rfl kc_b82 ?_
            refine ws_iadd 214 rfl rfl (nI_add _ _) ?_
            refine ws_iload_3 215 rfl rfl ?_
            refine ws_iadd 216 rfl rfl (nI_add _ _) ?_
            refine ws_aload_0 217 rfl rfl ?_
            refine ws_getfr 220 rfl rfl rfl rfl rfl ?_
            refine ws_iload_3 221 rfl rfl ?_
            refine ws_ialdn 222 rfl rfl rfl (by omega) (by omega) g1 ?_
            refine ws_iastn 223 rfl rfl rfl (by omega) (by omega) ?_
            refine ws_aload_0 224 rfl rfl ?_
            refine ws_getfr 227 rfl rfl rfl rfl rfl ?_
            refine ws_iload_2 228 rfl rfl ?_
            refine ws_bipush 230 rfl rfl kc_b93 ?_
            refine ws_iadd 231 rfl rfl (nI_add _ _) ?_
            refine ws_iload_3 232 rfl rfl ?_
            refine ws_iadd 233 rfl rfl (nI_add _ _) ?_
            refine ws_aload_0 234 rfl rfl ?_
            refine ws_getfr 237 rfl rfl rfl rfl rfl ?_
            refine ws_iload_3 238 rfl rfl ?_
            refine ws_zaldn 239 rfl rfl rfl (by omega) (by omega) g2 ?_
            refine ws_if_eqn 246 242 rfl rfl rfl (by omega) (fun h9 => absurd h9 (by omega)) (fun h9 => ?_)
            refine ws_iconst 243 rfl rfl kc_i1 ?_
            refine ws_goto 247 rfl rfl ?_
            refine ws_iastn 248 rfl rfl rfl (by omega) (by omega) ?_
            exact fin
      have l4 : ∀ (m k : Nat) (I' : Nat → Nat → Int32), k + m = 30 → Mv s.c n I I' (fun o => o < 49 + k) → xW E 20 135 126 [some (.ref 42), some (.int (nI n)), some (.int (nI (130 * n))), some (.int (nI k))] [] (xS, I', L) 0 0 (mQ I (imS s n) (.int (nI 1))) := by
        intro m
        induction m with
        | zero =>
          intro k I' hk hM
          obtain rfl : k = 30 := by omega
          have g1 : I' 48 0 = nI (s.c.A 5 0) := by rw [hM.1 48 (by decide)]; exact r6
          have g2 : wI I' 61 (130 * n + 79) (nI (s.c.A 5 0)) 48 1 = nI (s.c.A 5 1) := by rw [wI_ne (by decide), hM.1 48 (by decide)]; exact r6'
          have g3 : wI (wI I' 61 (130 * n + 79) (nI (s.c.A 5 0))) 61 (130 * n + 80) (nI (s.c.A 5 1)) 42 8 = nI (s.c.A 6 0) := by rw [wI_ne (by decide), wI_ne (by decide), hM.1 42 (by decide)]; exact r7
          have s1 := hM.st (D' := fun o => o < 80) 79 (130 * n + 79) (v := nI (s.c.A 5 0)) (by omega) (by omega) rfl rfl (fun o ho hd => by omega)
          have s2 := s1.st (D' := fun o => o < 81) 80 (130 * n + 80) (v := nI (s.c.A 5 1)) (by omega) (by omega) rfl rfl (fun o ho hd => by omega)
          have s3 := s2.st (D' := fun o => o < 82 + 0 ∨ (93 ≤ o ∧ o < 93 + 0)) 81 (130 * n + 81) (v := nI (s.c.A 6 0)) (by omega) (by omega) rfl rfl (fun o ho hd => by omega)
          refine ws_iload_3 127 rfl rfl ?_
          refine ws_bipush 129 rfl rfl kc_b30 ?_
          refine ws_icmp_gen 155 132 rfl rfl rfl (by omega) (by omega) (fun h9 => ?_) (fun h9 => absurd h9 (by omega))
          refine ws_aload_0 156 rfl rfl ?_
          refine ws_getfr 159 rfl rfl rfl rfl rfl ?_
          refine ws_iload_2 160 rfl rfl ?_
          refine ws_bipush 162 rfl rfl kc_b79 ?_
          refine ws_iadd 163 rfl rfl (nI_add _ _) ?_
          refine ws_aload_0 164 rfl rfl ?_
          refine ws_getfr 167 rfl rfl rfl rfl rfl ?_
          refine ws_iconst 168 rfl rfl kc_i0 ?_
          refine ws_ialdn 169 rfl rfl rfl (by omega) (by omega) g1 ?_
          refine ws_iastn 170 rfl rfl rfl (by omega) (by omega) ?_
          refine ws_aload_0 171 rfl rfl ?_
          refine ws_getfr 174 rfl rfl rfl rfl rfl ?_
          refine ws_iload_2 175 rfl rfl ?_
          refine ws_bipush 177 rfl rfl kc_b80 ?_
          refine ws_iadd 178 rfl rfl (nI_add _ _) ?_
          refine ws_aload_0 179 rfl rfl ?_
          refine ws_getfr 182 rfl rfl rfl rfl rfl ?_
          refine ws_iconst 183 rfl rfl kc_i1 ?_
          refine ws_ialdn 184 rfl rfl rfl (by omega) (by omega) g2 ?_
          refine ws_iastn 185 rfl rfl rfl (by omega) (by omega) ?_
          refine ws_aload_0 186 rfl rfl ?_
          refine ws_getfr 189 rfl rfl rfl rfl rfl ?_
          refine ws_iload_2 190 rfl rfl ?_
          refine ws_bipush 192 rfl rfl kc_b81 ?_
          refine ws_iadd 193 rfl rfl (nI_add _ _) ?_
          refine ws_aload_0 194 rfl rfl ?_
          refine ws_getfi 197 rfl rfl rfl rfl rfl g3 ?_
          refine ws_iastn 198 rfl rfl rfl (by omega) (by omega) ?_
          refine ws_iconst 199 rfl rfl kc_i0 ?_
          refine ws_istore_3 200 rfl rfl rfl rfl ?_
          exact l5 11 0 _ rfl s3
        | succ m ih =>
          intro k I' hk hM
          have g1 : I' 49 k = nI (s.c.A 4 k) := by rw [hM.1 49 (by decide)]; exact r5 k (by omega)
          refine ws_iload_3 127 rfl rfl ?_
          refine ws_bipush 129 rfl rfl kc_b30 ?_
          refine ws_icmp_gen 155 132 rfl rfl rfl (by omega) (by omega) (fun h9 => absurd h9 (by omega)) (fun h9 => ?_)
          refine ws_aload_0 133 rfl rfl ?_
          refine ws_getfr 136 rfl rfl rfl rfl rfl ?_
          refine ws_iload_2 137 rfl rfl ?_
          refine ws_bipush 139 rfl rfl kc_b49 ?_
          refine ws_iadd 140 rfl rfl (nI_add _ _) ?_
          refine ws_iload_3 141 rfl rfl ?_
          refine ws_iadd 142 rfl rfl (nI_add _ _) ?_
          refine ws_aload_0 143 rfl rfl ?_
          refine ws_getfr 146 rfl rfl rfl rfl rfl ?_
          refine ws_iload_3 147 rfl rfl ?_
          refine ws_ialdn 148 rfl rfl rfl (by omega) (by omega) g1 ?_
          refine ws_iastn 149 rfl rfl rfl (by omega) (by omega) ?_
          refine ws_iinc_3 152 rfl rfl (ki_1 _) rfl rfl ?_
          refine ws_goto 126 rfl rfl ?_
          exact ih (k + 1) _ (by omega) (hM.st (49 + k) (130 * n + 49 + k) (by omega) (by omega) (by omega) (imW_4 (by omega)).symm (fun o ho hd => by omega))
      have l3 : ∀ (m k : Nat) (I' : Nat → Nat → Int32), k + m = 24 → Mv s.c n I I' (fun o => o < 25 + k) → xW E 20 135 95 [some (.ref 42), some (.int (nI n)), some (.int (nI (130 * n))), some (.int (nI k))] [] (xS, I', L) 0 0 (mQ I (imS s n) (.int (nI 1))) := by
        intro m
        induction m with
        | zero =>
          intro k I' hk hM
          obtain rfl : k = 24 := by omega
          refine ws_iload_3 96 rfl rfl ?_
          refine ws_bipush 98 rfl rfl kc_b24 ?_
          refine ws_icmp_gen 124 101 rfl rfl rfl (by omega) (by omega) (fun h9 => ?_) (fun h9 => absurd h9 (by omega))
          refine ws_iconst 125 rfl rfl kc_i0 ?_
          refine ws_istore_3 126 rfl rfl rfl rfl ?_
          exact l4 30 0 _ rfl hM
        | succ m ih =>
          intro k I' hk hM
          have g1 : I' 47 k = nI (s.c.A 3 k) := by rw [hM.1 47 (by decide)]; exact r4 k (by omega)
          refine ws_iload_3 96 rfl rfl ?_
          refine ws_bipush 98 rfl rfl kc_b24 ?_
          refine ws_icmp_gen 124 101 rfl rfl rfl (by omega) (by omega) (fun h9 => absurd h9 (by omega)) (fun h9 => ?_)
          refine ws_aload_0 102 rfl rfl ?_
          refine ws_getfr 105 rfl rfl rfl rfl rfl ?_
          refine ws_iload_2 106 rfl rfl ?_
          refine ws_bipush 108 rfl rfl kc_b25 ?_
          refine ws_iadd 109 rfl rfl (nI_add _ _) ?_
          refine ws_iload_3 110 rfl rfl ?_
          refine ws_iadd 111 rfl rfl (nI_add _ _) ?_
          refine ws_aload_0 112 rfl rfl ?_
          refine ws_getfr 115 rfl rfl rfl rfl rfl ?_
          refine ws_iload_3 116 rfl rfl ?_
          refine ws_ialdn 117 rfl rfl rfl (by omega) (by omega) g1 ?_
          refine ws_iastn 118 rfl rfl rfl (by omega) (by omega) ?_
          refine ws_iinc_3 121 rfl rfl (ki_1 _) rfl rfl ?_
          refine ws_goto 95 rfl rfl ?_
          exact ih (k + 1) _ (by omega) (hM.st (25 + k) (130 * n + 25 + k) (by omega) (by omega) (by omega) (imW_3 (by omega)).symm (fun o ho hd => by omega))
      have l2 : ∀ (m k : Nat) (I' : Nat → Nat → Int32), k + m = 5 → Mv s.c n I I' (fun o => o < 15 + k ∨ (20 ≤ o ∧ o < 20 + k)) → xW E 20 135 48 [some (.ref 42), some (.int (nI n)), some (.int (nI (130 * n))), some (.int (nI k))] [] (xS, I', L) 0 0 (mQ I (imS s n) (.int (nI 1))) := by
        intro m
        induction m with
        | zero =>
          intro k I' hk hM
          obtain rfl : k = 5 := by omega
          refine ws_iload_3 49 rfl rfl ?_
          refine ws_iconst 50 rfl rfl kc_i5 ?_
          refine ws_icmp_gen 93 53 rfl rfl rfl (by omega) (by omega) (fun h9 => ?_) (fun h9 => absurd h9 (by omega))
          refine ws_iconst 94 rfl rfl kc_i0 ?_
          refine ws_istore_3 95 rfl rfl rfl rfl ?_
          exact l3 24 0 _ rfl ⟨hM.1, fun o ho hd => hM.2.1 o ho (by omega), hM.2.2⟩
        | succ m ih =>
          intro k I' hk hM
          have g1 : I' 44 k = nI (s.c.A 1 k) := by rw [hM.1 44 (by decide)]; exact r2 k (by omega)
          have g2 : wI I' 61 (130 * n + 15 + k) (nI (s.c.A 1 k)) 46 k = nI (s.c.b k) := by rw [wI_ne (by decide), hM.1 46 (by decide)]; exact r3 k (by omega)
          have s1 := hM.st (D' := fun o => o < 15 + (k + 1) ∨ (20 ≤ o ∧ o < 20 + k)) (15 + k) (130 * n + 15 + k) (by omega) (by omega) (by omega) (imW_1 (by omega)).symm (fun o ho hd => by omega)
          refine ws_iload_3 49 rfl rfl ?_
          refine ws_iconst 50 rfl rfl kc_i5 ?_
          refine ws_icmp_gen 93 53 rfl rfl rfl (by omega) (by omega) (fun h9 => absurd h9 (by omega)) (fun h9 => ?_)
          refine ws_aload_0 54 rfl rfl ?_
          refine ws_getfr 57 rfl rfl rfl rfl rfl ?_
          refine ws_iload_2 58 rfl rfl ?_
          refine ws_bipush 60 rfl rfl kc_b15 ?_
          refine ws_iadd 61 rfl rfl (nI_add _ _) ?_
          refine ws_iload_3 62 rfl rfl ?_
          refine ws_iadd 63 rfl rfl (nI_add _ _) ?_
          refine ws_aload_0 64 rfl rfl ?_
          refine ws_getfr 67 rfl rfl rfl rfl rfl ?_
          refine ws_iload_3 68 rfl rfl ?_
          refine ws_ialdn 69 rfl rfl rfl (by omega) (by omega) g1 ?_
          refine ws_iastn 70 rfl rfl rfl (by omega) (by omega) ?_
          refine ws_aload_0 71 rfl rfl ?_
          refine ws_getfr 74 rfl rfl rfl rfl rfl ?_
          refine ws_iload_2 75 rfl rfl ?_
          refine ws_bipush 77 rfl rfl kc_b20 ?_
          refine ws_iadd 78 rfl rfl (nI_add _ _) ?_
          refine ws_iload_3 79 rfl rfl ?_
          refine ws_iadd 80 rfl rfl (nI_add _ _) ?_
          refine ws_aload_0 81 rfl rfl ?_
          refine ws_getfr 84 rfl rfl rfl rfl rfl ?_
          refine ws_iload_3 85 rfl rfl ?_
          refine ws_ialdn 86 rfl rfl rfl (by omega) (by omega) g2 ?_
          refine ws_iastn 87 rfl rfl rfl (by omega) (by omega) ?_
          refine ws_iinc_3 90 rfl rfl (ki_1 _) rfl rfl ?_
          refine ws_goto 48 rfl rfl ?_
          exact ih (k + 1) _ (by omega) (s1.st (20 + k) (130 * n + 20 + k) (by omega) (by omega) (by omega) (imW_2 (by omega)).symm (fun o ho hd => by omega))
      have l1 : ∀ (m k : Nat) (I' : Nat → Nat → Int32), k + m = 15 → Mv s.c n I I' (fun o => o < k) → xW E 20 135 20 [some (.ref 42), some (.int (nI n)), some (.int (nI (130 * n))), some (.int (nI k))] [] (xS, I', L) 0 0 (mQ I (imS s n) (.int (nI 1))) := by
        intro m
        induction m with
        | zero =>
          intro k I' hk hM
          obtain rfl : k = 15 := by omega
          refine ws_iload_3 21 rfl rfl ?_
          refine ws_bipush 23 rfl rfl kc_b15 ?_
          refine ws_icmp_gen 46 26 rfl rfl rfl (by omega) (by omega) (fun h9 => ?_) (fun h9 => absurd h9 (by omega))
          refine ws_iconst 47 rfl rfl kc_i0 ?_
          refine ws_istore_3 48 rfl rfl rfl rfl ?_
          exact l2 5 0 _ rfl ⟨hM.1, fun o ho hd => hM.2.1 o ho (by omega), hM.2.2⟩
        | succ m ih =>
          intro k I' hk hM
          have g1 : I' 43 k = nI (s.c.A 0 k) := by rw [hM.1 43 (by decide)]; exact r1 k (by omega)
          refine ws_iload_3 21 rfl rfl ?_
          refine ws_bipush 23 rfl rfl kc_b15 ?_
          refine ws_icmp_gen 46 26 rfl rfl rfl (by omega) (by omega) (fun h9 => absurd h9 (by omega)) (fun h9 => ?_)
          refine ws_aload_0 27 rfl rfl ?_
          refine ws_getfr 30 rfl rfl rfl rfl rfl ?_
          refine ws_iload_2 31 rfl rfl ?_
          refine ws_iload_3 32 rfl rfl ?_
          refine ws_iadd 33 rfl rfl (nI_add _ _) ?_
          refine ws_aload_0 34 rfl rfl ?_
          refine ws_getfr 37 rfl rfl rfl rfl rfl ?_
          refine ws_iload_3 38 rfl rfl ?_
          refine ws_ialdn 39 rfl rfl rfl (by omega) (by omega) g1 ?_
          refine ws_iastn 40 rfl rfl rfl (by omega) (by omega) ?_
          refine ws_iinc_3 43 rfl rfl (ki_1 _) rfl rfl ?_
          refine ws_goto 20 rfl rfl ?_
          exact ih (k + 1) _ (by omega) (hM.st k (130 * n + k) (by omega) (by omega) rfl (imW_0 (by omega)).symm (fun o ho hd => by omega))
      refine ws_iload_1 1 rfl rfl ?_
      refine ws_iconst 2 rfl rfl kc_i0 ?_
      refine ws_iconst 3 rfl rfl kc_i1 ?_
      refine ws_invS3p 6 rfl rfl rfl (p2) rfl rfl rfl ?_
      refine ws_if_neb 12 9 rfl rfl rfl (fun h9 => ?_) (fun h9 => absurd h9 (by first | decide | simp_all))
      refine ws_sipush 15 rfl rfl kc_s130 ?_
      refine ws_iload_1 16 rfl rfl ?_
      refine ws_imul 17 rfl rfl (pk_mul _ _) ?_
      refine ws_istore_2 18 rfl rfl rfl rfl ?_
      refine ws_iconst 19 rfl rfl kc_i0 ?_
      refine ws_istore_3 20 rfl rfl rfl rfl ?_
      exact l1 15 0 I rfl ⟨fun _ _ => rfl, fun o _ hd => absurd hd (by omega), fun _ _ _ _ _ => rfl⟩
