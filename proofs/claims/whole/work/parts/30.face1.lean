/-! ===== calls that change a number ===== -/
def uA (A : Nat → Nat → Nat) (k p v : Nat) : Nat → Nat → Nat := fun k' j => if k' = k ∧ j = p then v else A k' j
theorem uA_ne {A : Nat → Nat → Nat} {k p v k' : Nat} (h : k' ≠ k) : uA A k p v k' = A k' := by
  funext j
  unfold uA
  rw [if_neg (fun q => h q.1)]
theorem uA_eq {A : Nat → Nat → Nat} {k p v j : Nat} : uA A k p v k j = if j = p then v else A k j := by
  unfold uA
  by_cases e : j = p
  · rw [if_pos ⟨rfl, e⟩, if_pos e]
  · rw [if_neg (fun q => e q.2), if_neg e]
theorem upA {A : Nat → Nat → Nat} {k p v n : Nat} {f : Nat → Int32} (h : ∀ j, j < n → f j = nI (A k j)) : ∀ j, j < n → upd f p (nI v) j = nI (uA A k p v k j) := by
  intro j hj
  rw [uA_eq]
  by_cases e : j = p
  · rw [e, pk_us, if_pos rfl]
  · rw [pk_un e, if_neg e]; exact h j hj
def xA (x : xSc) (k p v : Nat) : xSc := mkC (uA x.A k p v) x.F x.b x.C x.M
def sA (s : xSt) (x : xSc) : xSt := mkS x s.i s.K s.t s.n
theorem scn_A {x : xSc} {I I' : Nat → Nat → Int32} {k cl p v : Nat} (h : scn 5 x I) (hk : (k = 0 ∧ cl = 6) ∨ (k = 1 ∧ cl = 7) ∨ (k = 3 ∧ cl = 9)) (hf : ∀ a, 5 ≤ a → a ≤ 11 → a ≠ cl → I' a = I a) (hu : I' cl = upd (I cl) p (nI v)) : scn 5 (xA x k p v) I' := by
  obtain ⟨h1, h2, h3, h4, h5, h6, h7, h8⟩ := h
  have key : ∀ k', k' ≠ k → (xA x k p v).A k' = x.A k' := fun k' hk' => uA_ne hk'
  unfold scn
  rcases hk with ⟨rfl, rfl⟩ | ⟨rfl, rfl⟩ | ⟨rfl, rfl⟩
  · rw [key 1 (by decide), key 3 (by decide), key 6 (by decide), hf 7 (by omega) (by omega) (by omega), hf 8 (by omega) (by omega) (by omega), hf 9 (by omega) (by omega) (by omega), hf 10 (by omega) (by omega) (by omega), hf 11 (by omega) (by omega) (by omega), hf 5 (by omega) (by omega) (by omega), hu]
    exact ⟨upA h1, h2, h3, h4, h5, h6, h7, h8⟩
  · rw [key 0 (by decide), key 3 (by decide), key 6 (by decide), hf 6 (by omega) (by omega) (by omega), hf 8 (by omega) (by omega) (by omega), hf 9 (by omega) (by omega) (by omega), hf 10 (by omega) (by omega) (by omega), hf 11 (by omega) (by omega) (by omega), hf 5 (by omega) (by omega) (by omega), hu]
    exact ⟨h1, upA h2, h3, h4, h5, h6, h7, h8⟩
  · rw [key 0 (by decide), key 1 (by decide), key 6 (by decide), hf 6 (by omega) (by omega) (by omega), hf 7 (by omega) (by omega) (by omega), hf 8 (by omega) (by omega) (by omega), hf 10 (by omega) (by omega) (by omega), hf 11 (by omega) (by omega) (by omega), hf 5 (by omega) (by omega) (by omega), hu]
    exact ⟨h1, h2, h3, upA h4, h5, h6, h7, h8⟩
theorem rsn_A {x : xSc} {I I' : Nat → Nat → Int32} {k cl p v : Nat} (h : rsn x I) (hk : (k = 0 ∧ cl = 43) ∨ (k = 1 ∧ cl = 44) ∨ (k = 3 ∧ cl = 47)) (hf : ∀ a, 42 < a → a < 52 → a ≠ cl → I' a = I a) (h42 : I' 42 8 = I 42 8) (hu : I' cl = upd (I cl) p (nI v)) : rsn (xA x k p v) I' := by
  obtain ⟨h1, h2, h3, h4, h5, h6, h7, h8, h9⟩ := h
  have key : ∀ k', k' ≠ k → (xA x k p v).A k' = x.A k' := fun k' hk' => uA_ne hk'
  unfold rsn
  rcases hk with ⟨rfl, rfl⟩ | ⟨rfl, rfl⟩ | ⟨rfl, rfl⟩
  · rw [key 1 (by decide), key 3 (by decide), key 4 (by decide), key 5 (by decide), key 6 (by decide), hf 44 (by omega) (by omega) (by omega), hf 46 (by omega) (by omega) (by omega), hf 47 (by omega) (by omega) (by omega), hf 48 (by omega) (by omega) (by omega), hf 49 (by omega) (by omega) (by omega), hf 50 (by omega) (by omega) (by omega), hf 51 (by omega) (by omega) (by omega), h42, hu]
    exact ⟨upA h1, h2, h3, h4, h5, h6, h7, h8, h9⟩
  · rw [key 0 (by decide), key 3 (by decide), key 4 (by decide), key 5 (by decide), key 6 (by decide), hf 43 (by omega) (by omega) (by omega), hf 46 (by omega) (by omega) (by omega), hf 47 (by omega) (by omega) (by omega), hf 48 (by omega) (by omega) (by omega), hf 49 (by omega) (by omega) (by omega), hf 50 (by omega) (by omega) (by omega), hf 51 (by omega) (by omega) (by omega), h42, hu]
    exact ⟨h1, upA h2, h3, h4, h5, h6, h7, h8, h9⟩
  · rw [key 0 (by decide), key 1 (by decide), key 4 (by decide), key 5 (by decide), key 6 (by decide), hf 43 (by omega) (by omega) (by omega), hf 44 (by omega) (by omega) (by omega), hf 46 (by omega) (by omega) (by omega), hf 48 (by omega) (by omega) (by omega), hf 49 (by omega) (by omega) (by omega), hf 50 (by omega) (by omega) (by omega), hf 51 (by omega) (by omega) (by omega), h42, hu]
    exact ⟨h1, h2, h3, upA h4, h5, h6, h7, h8, h9⟩
/-- the class's scene moved, weeks forgotten -/
theorem CR.mv {s : xSt} {x' : xSc} {I I' : Nat → Nat → Int32} (h : CR s I) (hs : scn 5 x' I') (hf : ∀ a, a = 1 ∨ a = 2 ∨ a = 13 ∨ a = 20 ∨ a = 21 ∨ (28 ≤ a ∧ a < 42) → I' a = I a) (h3 : I' 19 3 = I 19 3) (h5 : I' 19 5 = nI 0) : CR (sA s x') I' := by
  obtain ⟨-, h2, hp, h4⟩ := h
  refine ⟨hs, h2.no (fun a a1 a2 => hf a (by omega)) h3 h5, ?_, fun n hn => ?_⟩
  · rw [hf 1 (by omega), hf 2 (by omega)]; exact hp
  · rw [hf 13 (by omega)]
    exact ⟨(h4 n hn).1, fun hk => ((h4 n hn).2 hk).keep (fun a a1 a2 => hf a (by omega))⟩
theorem RR.mv {s : xSt} {x' : xSc} {I I' : Nat → Nat → Int32} (h : RR s I) (hs : rsn x' I') (hf : ∀ a, a = 45 ∨ 60 < a → I' a = I a) (h2 : I' 42 2 = I 42 2) (h11 : I' 42 11 = nI 0) : RR (sA s x') I' := by
  obtain ⟨-, -, hp, h4⟩ := h
  refine ⟨hs, Or.inl h11, ?_, fun n hn => ?_⟩
  · rw [h2, hf 45 (by omega)]; exact hp
  · rw [hf 61 (by omega), hf 62 (by omega)]; exact h4 n hn
theorem cA_done {s : xSt} {I : Nat → Nat → Int32} {L : Nat → Nat → Int64} {k cl p v : Nat} {v0 : Value} (h : CR s I) (hk : (k = 0 ∧ cl = 6) ∨ (k = 1 ∧ cl = 7) ∨ (k = 3 ∧ cl = 9)) : cQ I (sA s (xA s.c k p v)) v0 (some v0) (xS, wI (wI I cl p (nI v)) 19 5 (nI 0), L) := by
  refine ⟨rfl, _, _, rfl, h.mv (scn_A h.1 hk (fun a a1 a2 a3 => by rw [wI_ne (by omega), wI_ne a3]) (by rw [wI_ne (by omega), wI_eq])) (fun a ha => by rw [wI_ne (by omega), wI_ne (by omega)]) (by rw [wI_eq, pk_un (by decide), wI_ne (by omega)]) rfl, fun a ha => by rw [wI_ne (by omega), wI_ne (by omega)]⟩
theorem mA_done {s : xSt} {I : Nat → Nat → Int32} {L : Nat → Nat → Int64} {k cl p v : Nat} {v0 : Value} (h : RR s I) (hk : (k = 0 ∧ cl = 43) ∨ (k = 1 ∧ cl = 44) ∨ (k = 3 ∧ cl = 47)) : mQ I (sA s (xA s.c k p v)) v0 (some v0) (xS, wI (wI I cl p (nI v)) 42 11 (nI 0), L) := by
  refine ⟨rfl, _, _, rfl, h.mv (rsn_A h.1 hk (fun a a1 a2 a3 => by rw [wI_ne (by omega), wI_ne a3]) (by rw [wI_eq, pk_un (by decide), wI_ne (by omega)]) (by rw [wI_ne (by omega), wI_eq])) (fun a ha => by rw [wI_ne (by omega), wI_ne (by omega)]) (by rw [wI_eq, pk_un (by decide), wI_ne (by omega)]) rfl, fun a ha => by rw [wI_ne (by omega), wI_ne (by omega)]⟩
theorem OK_A {s : xSt} {k p v : Nat} (hs : OK s) (hA : okA (uA s.c.A k p v) s.c.F) (h4 : k ≠ 4) (h5 : k ≠ 5) : OK (sA s (xA s.c k p v)) := by
  obtain ⟨⟨-, h2, h3⟩, hp, hi⟩ := hs
  refine ⟨⟨hA, ?_, h3⟩, hp, hi⟩
  show okF (uA s.c.A k p v) s.c.F
  unfold okF at h2 ⊢
  rw [uA_ne (Ne.symm h4), uA_ne (Ne.symm h5)]
  exact h2
def hlo (w : Nat) : Nat := [0, 1, 1, 0, 0, 0].getD w 0
def hhi (w : Nat) : Nat := [1, 4, 5, 9, 5, 999].getD w 0
def tmx (w : Nat) : Nat := [9, 99, 2].getD w 0
theorem p6 {P : Nat → Prop} (h0 : P 0) (h1 : P 1) (h2 : P 2) (h3 : P 3) (h4 : P 4) (h5 : P 5) : ∀ p, p < 6 → P p := by
  intro p hp
  rcases (show p = 0 ∨ p = 1 ∨ p = 2 ∨ p = 3 ∨ p = 4 ∨ p = 5 by omega) with rfl | rfl | rfl | rfl | rfl | rfl
  · exact h0
  · exact h1
  · exact h2
  · exact h3
  · exact h4
  · exact h5
theorem hhi_le : ∀ w, w < 6 → hlo w ≤ hhi w ∧ hhi w ≤ 999 := p6 (by decide) (by decide) (by decide) (by decide) (by decide) (by decide)
theorem okK_iff {A : Nat → Nat → Nat} : okK A ↔ ∀ k, k < 4 → ∀ i, i < 6 → hlo i ≤ A 3 (k * 6 + i) ∧ A 3 (k * 6 + i) ≤ hhi i := by
  constructor
  · intro h k hk
    obtain ⟨h0, h1, h2, h3, h4, h5⟩ := h k hk
    exact p6 ⟨Nat.zero_le _, h0⟩ h1 h2 ⟨Nat.zero_le _, h3⟩ ⟨Nat.zero_le _, h4⟩ ⟨Nat.zero_le _, h5⟩
  · intro h k hk
    exact ⟨(h k hk 0 (by omega)).2, h k hk 1 (by omega), h k hk 2 (by omega), (h k hk 3 (by omega)).2, (h k hk 4 (by omega)).2, (h k hk 5 (by omega)).2⟩
theorem p_mostOf : ∀ w, w < 6 → xP 1 100 [.int (nI w)] (.int (nI (hhi w))) := by
  refine p6 ?_ ?_ ?_ ?_ ?_ ?_
  · intro E σ
    refine xC.mk [some (.int (nI 0))] rfl ?_
    refine ws_iload_0 1 rfl rfl ?_
    refine ws_tswn 0 0 51 40 (by omega) rfl rfl rfl (by decide) rfl rfl ?_
    refine ws_iconst 41 rfl rfl kc_i1 ?_
    refine ws_iret rfl rfl rfl (Nat.le_of_ble_eq_true rfl) ?_
    exact ⟨rfl, rfl⟩
  · intro E σ
    refine xC.mk [some (.int (nI 1))] rfl ?_
    refine ws_iload_0 1 rfl rfl ?_
    refine ws_tswn 1 1 51 42 (by omega) rfl rfl rfl (by decide) rfl rfl ?_
    refine ws_iconst 43 rfl rfl kc_i4 ?_
    refine ws_iret rfl rfl rfl (Nat.le_of_ble_eq_true rfl) ?_
    exact ⟨rfl, rfl⟩
  · intro E σ
    refine xC.mk [some (.int (nI 2))] rfl ?_
    refine ws_iload_0 1 rfl rfl ?_
    refine ws_tswn 2 2 51 51 (by omega) rfl rfl rfl (by decide) rfl rfl ?_
    refine ws_iconst 52 rfl rfl kc_i5 ?_
    refine ws_iret rfl rfl rfl (Nat.le_of_ble_eq_true rfl) ?_
    exact ⟨rfl, rfl⟩
  · intro E σ
    refine xC.mk [some (.int (nI 3))] rfl ?_
    refine ws_iload_0 1 rfl rfl ?_
    refine ws_tswn 3 3 51 44 (by omega) rfl rfl rfl (by decide) rfl rfl ?_
    refine ws_bipush 46 rfl rfl kc_b9 ?_
    refine ws_iret rfl rfl rfl (Nat.le_of_ble_eq_true rfl) ?_
    exact ⟨rfl, rfl⟩
  · intro E σ
    refine xC.mk [some (.int (nI 4))] rfl ?_
    refine ws_iload_0 1 rfl rfl ?_
    refine ws_tswn 4 4 51 51 (by omega) rfl rfl rfl (by decide) rfl rfl ?_
    refine ws_iconst 52 rfl rfl kc_i5 ?_
    refine ws_iret rfl rfl rfl (Nat.le_of_ble_eq_true rfl) ?_
    exact ⟨rfl, rfl⟩
  · intro E σ
    refine xC.mk [some (.int (nI 5))] rfl ?_
    refine ws_iload_0 1 rfl rfl ?_
    refine ws_tswn 5 5 51 47 (by omega) rfl rfl rfl (by decide) rfl rfl ?_
    refine ws_sipush 50 rfl rfl kc_s999 ?_
    refine ws_iret rfl rfl rfl (Nat.le_of_ble_eq_true rfl) ?_
    exact ⟨rfl, rfl⟩
theorem p_leastOf6 (w : Nat) (hw : w < 6) : xP 1 99 [.int (nI w)] (.int (nI (hlo w))) := by
  have h := p_leastOf w (by omega)
  rwa [show (if w = 1 ∨ w = 2 then 1 else 0) = hlo w from by
    revert w
    exact fun w hw _ => p6 (P := fun w => (if w = 1 ∨ w = 2 then 1 else 0) = hlo w) rfl rfl rfl rfl rfl rfl w hw] at h
theorem f_light (x y : Int32) : Fx 48 86 [.int x, .int y] := by
  intro E s hE hs
  have p1 := p_below5 x
  have p2 := p_isFive x
  have p3 := p_between y (nI 0) (nI 9) 0 9 rfl rfl
  have p4 := p_in y (nI 0) (nI 9) 0 9 rfl rfl
  cases hr : rg 0 4 x with
  | false =>
    rw [hr] at p1 p2
    refine ⟨(-1), s, hs, fun I L hC => ?_, fun I L hR => ?_⟩
    · refine xC.mk [some (.ref 0), some (.int x), some (.int y), none] rfl ?_
      refine ws_iload_1 1 rfl rfl ?_
      refine ws_iconst 2 rfl rfl kc_i5 ?_
      refine ws_invS2p 5 rfl rfl rfl (p1) rfl rfl rfl ?_
      refine ws_if_neb 10 8 rfl rfl rfl (fun h9 => absurd h9 (by first | decide | simp_all)) (fun h9 => ?_)
      refine ws_iconst 9 rfl rfl kc_im1 ?_
      refine ws_iret rfl rfl rfl (Nat.le_of_ble_eq_true rfl) ?_
      exact cQ.sm hC
    · refine xC.mk [some (.ref 42), some (.int x), some (.int y), none] rfl ?_
      refine ws_iload_1 1 rfl rfl ?_
      refine ws_invS1p 4 rfl rfl rfl (p2) rfl rfl rfl ?_
      refine ws_if_neb 9 7 rfl rfl rfl (fun h9 => absurd h9 (by first | decide | simp_all)) (fun h9 => ?_)
      refine ws_iconst 8 rfl rfl kc_im1 ?_
      refine ws_iret rfl rfl rfl (Nat.le_of_ble_eq_true rfl) ?_
      exact mQ.sm hR
  | true =>
    rw [hr] at p1 p2
    cases hy : rg 0 9 y with
    | false =>
      rw [hy] at p3 p4
      refine ⟨(-2), s, hs, fun I L hC => ?_, fun I L hR => ?_⟩
      · refine xC.mk [some (.ref 0), some (.int x), some (.int y), none] rfl ?_
        refine ws_iload_1 1 rfl rfl ?_
        refine ws_iconst 2 rfl rfl kc_i5 ?_
        refine ws_invS2p 5 rfl rfl rfl (p1) rfl rfl rfl ?_
        refine ws_if_neb 10 8 rfl rfl rfl (fun h9 => ?_) (fun h9 => absurd h9 (by first | decide | simp_all))
        refine ws_iload_2 11 rfl rfl ?_
        refine ws_iconst 12 rfl rfl kc_i0 ?_
        refine ws_bipush 14 rfl rfl kc_b9 ?_
        refine ws_invS3p 17 rfl rfl rfl (p3) rfl rfl rfl ?_
        refine ws_if_neb 23 20 rfl rfl rfl (fun h9 => absurd h9 (by first | decide | simp_all)) (fun h9 => ?_)
        refine ws_bipush 22 rfl rfl kc_bm2 ?_
        refine ws_iret rfl rfl rfl (Nat.le_of_ble_eq_true rfl) ?_
        exact cQ.sm hC
      · refine xC.mk [some (.ref 42), some (.int x), some (.int y), none] rfl ?_
        refine ws_iload_1 1 rfl rfl ?_
        refine ws_invS1p 4 rfl rfl rfl (p2) rfl rfl rfl ?_
        refine ws_if_neb 9 7 rfl rfl rfl (fun h9 => ?_) (fun h9 => absurd h9 (by first | decide | simp_all))
        refine ws_iload_2 10 rfl rfl ?_
        refine ws_iconst 11 rfl rfl kc_i0 ?_
        refine ws_bipush 13 rfl rfl kc_b9 ?_
        refine ws_invS3p 16 rfl rfl rfl (p4) rfl rfl rfl ?_
        refine ws_if_neb 22 19 rfl rfl rfl (fun h9 => absurd h9 (by first | decide | simp_all)) (fun h9 => ?_)
        refine ws_bipush 21 rfl rfl kc_bm2 ?_
        refine ws_iret rfl rfl rfl (Nat.le_of_ble_eq_true rfl) ?_
        exact mQ.sm hR
    | true =>
      rw [hy] at p3 p4
      obtain ⟨p, -, hp4, rfl⟩ := rg_nat (a := 0) (b := 4) hr (by omega)
      obtain ⟨v, -, hv9, rfl⟩ := rg_nat (a := 0) (b := 9) hy (by omega)
      refine ⟨(nI (s.c.A 1 p)), sA s (xA s.c 1 p v), OK_A hs ?_ (by decide) (by decide), fun I L hC => ?_, fun I L hR => ?_⟩
      · obtain ⟨o1, o2, o3, o4, o5, o6⟩ := hs.1.1
        refine ⟨?_, fun j hj => ?_, ?_, ?_, ?_, o6⟩
        · rw [uA_ne (by decide)]; exact o1
        · rw [uA_eq]; split
          · omega
          · exact o2 j hj
        · rw [uA_ne (by decide)]; exact o3
        · rw [uA_ne (by decide)]; exact o4
        · unfold okK; rw [uA_ne (by decide)]; exact o5
      · refine xC.mk [some (.ref 0), some (.int (nI p)), some (.int (nI v)), none] rfl ?_
        have h7 : I 7 p = nI (s.c.A 1 p) := hC.1.2.1 p (by omega)
        refine ws_iload_1 1 rfl rfl ?_
        refine ws_iconst 2 rfl rfl kc_i5 ?_
        refine ws_invS2p 5 rfl rfl rfl (p1) rfl rfl rfl ?_
        refine ws_if_neb 10 8 rfl rfl rfl (fun h9 => ?_) (fun h9 => absurd h9 (by first | decide | simp_all))
        refine ws_iload_2 11 rfl rfl ?_
        refine ws_iconst 12 rfl rfl kc_i0 ?_
        refine ws_bipush 14 rfl rfl kc_b9 ?_
        refine ws_invS3p 17 rfl rfl rfl (p3) rfl rfl rfl ?_
        refine ws_if_neb 23 20 rfl rfl rfl (fun h9 => ?_) (fun h9 => absurd h9 (by first | decide | simp_all))
        refine ws_aload_0 24 rfl rfl ?_
        refine ws_getfr 27 rfl rfl rfl rfl rfl ?_
        refine ws_getfr 30 rfl rfl rfl rfl rfl ?_
        refine ws_iload_1 31 rfl rfl ?_
        refine ws_ialdn 32 rfl rfl rfl (by omega) (by omega) h7 ?_
        refine ws_istore_3 33 rfl rfl rfl rfl ?_
        refine ws_aload_0 34 rfl rfl ?_
        refine ws_getfr 37 rfl rfl rfl rfl rfl ?_
        refine ws_getfr 40 rfl rfl rfl rfl rfl ?_
        refine ws_iload_1 41 rfl rfl ?_
        refine ws_iload_2 42 rfl rfl ?_
        refine ws_iastn 43 rfl rfl rfl (by omega) (by omega) ?_
        refine ws_aload_0 44 rfl rfl ?_
        refine ws_getfr 47 rfl rfl rfl rfl rfl ?_
        refine ws_invV0 50 rfl rfl rfl rfl (c_forget) rfl rfl rfl ?_
        rintro _ _ ⟨rfl, rfl⟩
        refine ws_iload_3 51 rfl rfl ?_
        refine ws_iret rfl rfl rfl (Nat.le_of_ble_eq_true rfl) ?_
        exact cA_done hC (by omega)
      · refine xC.mk [some (.ref 42), some (.int (nI p)), some (.int (nI v)), none] rfl ?_
        have h44 : I 44 p = nI (s.c.A 1 p) := hR.1.2.1 p (by omega)
        refine ws_iload_1 1 rfl rfl ?_
        refine ws_invS1p 4 rfl rfl rfl (p2) rfl rfl rfl ?_
        refine ws_if_neb 9 7 rfl rfl rfl (fun h9 => ?_) (fun h9 => absurd h9 (by first | decide | simp_all))
        refine ws_iload_2 10 rfl rfl ?_
        refine ws_iconst 11 rfl rfl kc_i0 ?_
        refine ws_bipush 13 rfl rfl kc_b9 ?_
        refine ws_invS3p 16 rfl rfl rfl (p4) rfl rfl rfl ?_
        refine ws_if_neb 22 19 rfl rfl rfl (fun h9 => ?_) (fun h9 => absurd h9 (by first | decide | simp_all))
        refine ws_aload_0 23 rfl rfl ?_
        refine ws_getfr 26 rfl rfl rfl rfl rfl ?_
        refine ws_iload_1 27 rfl rfl ?_
        refine ws_ialdn 28 rfl rfl rfl (by omega) (by omega) h44 ?_
        refine ws_istore_3 29 rfl rfl rfl rfl ?_
        refine ws_aload_0 30 rfl rfl ?_
        refine ws_getfr 33 rfl rfl rfl rfl rfl ?_
        refine ws_iload_1 34 rfl rfl ?_
        refine ws_iload_2 35 rfl rfl ?_
        refine ws_iastn 36 rfl rfl rfl (by omega) (by omega) ?_
        refine ws_aload_0 37 rfl rfl ?_
        refine ws_iconst 38 rfl rfl kc_i0 ?_
        refine ws_putfi 41 rfl rfl rfl rfl rfl rfl rfl rfl ?_
        refine ws_iload_3 42 rfl rfl ?_
        refine ws_iret rfl rfl rfl (Nat.le_of_ble_eq_true rfl) ?_
        exact mA_done hR (by omega)
