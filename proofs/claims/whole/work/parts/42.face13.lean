/-! ===== restore ===== -/
/-- the reference on its way back to an image -/
def Rv (x : xSc) (I I' : Nat → Nat → Int32) (k0 k1 k2 k3 k4 k5 k7 k8 k6 : Nat) : Prop := ((∀ a, (a < 42 ∨ a = 45 ∨ 51 < a) → I' a = I a) ∧ ∀ j, j ≠ 8 → j ≠ 11 → I' 42 j = I 42 j) ∧ (∀ j, j < k0 → I' 43 j = nI (x.A 0 j)) ∧ (∀ j, j < k1 → I' 44 j = nI (x.A 1 j)) ∧ (∀ j, j < k2 → I' 46 j = nI (x.b j)) ∧ (∀ j, j < k3 → I' 47 j = nI (x.A 3 j)) ∧ (∀ j, j < k4 → I' 49 j = nI (x.A 4 j)) ∧ (∀ j, j < k5 → I' 48 j = nI (x.A 5 j)) ∧ (∀ j, j < k7 → I' 50 j = nI (x.C j)) ∧ (∀ j, j < k8 → I' 51 j = nI (x.M / 2 ^ j % 2)) ∧ (k6 = 1 → I' 42 8 = nI (x.A 6 0))
theorem Rv.s0 {x : xSc} {I I' : Nat → Nat → Int32} {k0 k1 k2 k3 k4 k5 k7 k8 k6 : Nat} (h : Rv x I I' k0 k1 k2 k3 k4 k5 k7 k8 k6) : Rv x I (wI I' 43 k0 (nI (x.A 0 k0))) (k0 + 1) k1 k2 k3 k4 k5 k7 k8 k6 := by
  obtain ⟨⟨f1, f2⟩, hk0, hk1, hk2, hk3, hk4, hk5, hk7, hk8, h6⟩ := h
  exact ⟨⟨fun a ha => by rw [wI_ne (by omega)]; exact f1 a ha, fun j j1 j2 => by rw [wI_ne (by decide)]; exact f2 j j1 j2⟩, by rw [wI_eq]; exact fl (g := fun j => nI (x.A 0 j)) hk0 rfl, by rw [wI_ne (show (44 : Nat) ≠ 43 by decide)]; exact hk1, by rw [wI_ne (show (46 : Nat) ≠ 43 by decide)]; exact hk2, by rw [wI_ne (show (47 : Nat) ≠ 43 by decide)]; exact hk3, by rw [wI_ne (show (49 : Nat) ≠ 43 by decide)]; exact hk4, by rw [wI_ne (show (48 : Nat) ≠ 43 by decide)]; exact hk5, by rw [wI_ne (show (50 : Nat) ≠ 43 by decide)]; exact hk7, by rw [wI_ne (show (51 : Nat) ≠ 43 by decide)]; exact hk8, fun q => by rw [wI_ne (by decide)]; exact h6 q⟩
theorem Rv.s1 {x : xSc} {I I' : Nat → Nat → Int32} {k0 k1 k2 k3 k4 k5 k7 k8 k6 : Nat} (h : Rv x I I' k0 k1 k2 k3 k4 k5 k7 k8 k6) : Rv x I (wI I' 44 k1 (nI (x.A 1 k1))) k0 (k1 + 1) k2 k3 k4 k5 k7 k8 k6 := by
  obtain ⟨⟨f1, f2⟩, hk0, hk1, hk2, hk3, hk4, hk5, hk7, hk8, h6⟩ := h
  exact ⟨⟨fun a ha => by rw [wI_ne (by omega)]; exact f1 a ha, fun j j1 j2 => by rw [wI_ne (by decide)]; exact f2 j j1 j2⟩, by rw [wI_ne (show (43 : Nat) ≠ 44 by decide)]; exact hk0, by rw [wI_eq]; exact fl (g := fun j => nI (x.A 1 j)) hk1 rfl, by rw [wI_ne (show (46 : Nat) ≠ 44 by decide)]; exact hk2, by rw [wI_ne (show (47 : Nat) ≠ 44 by decide)]; exact hk3, by rw [wI_ne (show (49 : Nat) ≠ 44 by decide)]; exact hk4, by rw [wI_ne (show (48 : Nat) ≠ 44 by decide)]; exact hk5, by rw [wI_ne (show (50 : Nat) ≠ 44 by decide)]; exact hk7, by rw [wI_ne (show (51 : Nat) ≠ 44 by decide)]; exact hk8, fun q => by rw [wI_ne (by decide)]; exact h6 q⟩
theorem Rv.s2 {x : xSc} {I I' : Nat → Nat → Int32} {k0 k1 k2 k3 k4 k5 k7 k8 k6 : Nat} (h : Rv x I I' k0 k1 k2 k3 k4 k5 k7 k8 k6) : Rv x I (wI I' 46 k2 (nI (x.b k2))) k0 k1 (k2 + 1) k3 k4 k5 k7 k8 k6 := by
  obtain ⟨⟨f1, f2⟩, hk0, hk1, hk2, hk3, hk4, hk5, hk7, hk8, h6⟩ := h
  exact ⟨⟨fun a ha => by rw [wI_ne (by omega)]; exact f1 a ha, fun j j1 j2 => by rw [wI_ne (by decide)]; exact f2 j j1 j2⟩, by rw [wI_ne (show (43 : Nat) ≠ 46 by decide)]; exact hk0, by rw [wI_ne (show (44 : Nat) ≠ 46 by decide)]; exact hk1, by rw [wI_eq]; exact fl (g := fun j => nI (x.b j)) hk2 rfl, by rw [wI_ne (show (47 : Nat) ≠ 46 by decide)]; exact hk3, by rw [wI_ne (show (49 : Nat) ≠ 46 by decide)]; exact hk4, by rw [wI_ne (show (48 : Nat) ≠ 46 by decide)]; exact hk5, by rw [wI_ne (show (50 : Nat) ≠ 46 by decide)]; exact hk7, by rw [wI_ne (show (51 : Nat) ≠ 46 by decide)]; exact hk8, fun q => by rw [wI_ne (by decide)]; exact h6 q⟩
theorem Rv.s3 {x : xSc} {I I' : Nat → Nat → Int32} {k0 k1 k2 k3 k4 k5 k7 k8 k6 : Nat} (h : Rv x I I' k0 k1 k2 k3 k4 k5 k7 k8 k6) : Rv x I (wI I' 47 k3 (nI (x.A 3 k3))) k0 k1 k2 (k3 + 1) k4 k5 k7 k8 k6 := by
  obtain ⟨⟨f1, f2⟩, hk0, hk1, hk2, hk3, hk4, hk5, hk7, hk8, h6⟩ := h
  exact ⟨⟨fun a ha => by rw [wI_ne (by omega)]; exact f1 a ha, fun j j1 j2 => by rw [wI_ne (by decide)]; exact f2 j j1 j2⟩, by rw [wI_ne (show (43 : Nat) ≠ 47 by decide)]; exact hk0, by rw [wI_ne (show (44 : Nat) ≠ 47 by decide)]; exact hk1, by rw [wI_ne (show (46 : Nat) ≠ 47 by decide)]; exact hk2, by rw [wI_eq]; exact fl (g := fun j => nI (x.A 3 j)) hk3 rfl, by rw [wI_ne (show (49 : Nat) ≠ 47 by decide)]; exact hk4, by rw [wI_ne (show (48 : Nat) ≠ 47 by decide)]; exact hk5, by rw [wI_ne (show (50 : Nat) ≠ 47 by decide)]; exact hk7, by rw [wI_ne (show (51 : Nat) ≠ 47 by decide)]; exact hk8, fun q => by rw [wI_ne (by decide)]; exact h6 q⟩
theorem Rv.s4 {x : xSc} {I I' : Nat → Nat → Int32} {k0 k1 k2 k3 k4 k5 k7 k8 k6 : Nat} (h : Rv x I I' k0 k1 k2 k3 k4 k5 k7 k8 k6) : Rv x I (wI I' 49 k4 (nI (x.A 4 k4))) k0 k1 k2 k3 (k4 + 1) k5 k7 k8 k6 := by
  obtain ⟨⟨f1, f2⟩, hk0, hk1, hk2, hk3, hk4, hk5, hk7, hk8, h6⟩ := h
  exact ⟨⟨fun a ha => by rw [wI_ne (by omega)]; exact f1 a ha, fun j j1 j2 => by rw [wI_ne (by decide)]; exact f2 j j1 j2⟩, by rw [wI_ne (show (43 : Nat) ≠ 49 by decide)]; exact hk0, by rw [wI_ne (show (44 : Nat) ≠ 49 by decide)]; exact hk1, by rw [wI_ne (show (46 : Nat) ≠ 49 by decide)]; exact hk2, by rw [wI_ne (show (47 : Nat) ≠ 49 by decide)]; exact hk3, by rw [wI_eq]; exact fl (g := fun j => nI (x.A 4 j)) hk4 rfl, by rw [wI_ne (show (48 : Nat) ≠ 49 by decide)]; exact hk5, by rw [wI_ne (show (50 : Nat) ≠ 49 by decide)]; exact hk7, by rw [wI_ne (show (51 : Nat) ≠ 49 by decide)]; exact hk8, fun q => by rw [wI_ne (by decide)]; exact h6 q⟩
theorem Rv.s5 {x : xSc} {I I' : Nat → Nat → Int32} {k0 k1 k2 k3 k4 k5 k7 k8 k6 : Nat} (h : Rv x I I' k0 k1 k2 k3 k4 k5 k7 k8 k6) : Rv x I (wI I' 48 k5 (nI (x.A 5 k5))) k0 k1 k2 k3 k4 (k5 + 1) k7 k8 k6 := by
  obtain ⟨⟨f1, f2⟩, hk0, hk1, hk2, hk3, hk4, hk5, hk7, hk8, h6⟩ := h
  exact ⟨⟨fun a ha => by rw [wI_ne (by omega)]; exact f1 a ha, fun j j1 j2 => by rw [wI_ne (by decide)]; exact f2 j j1 j2⟩, by rw [wI_ne (show (43 : Nat) ≠ 48 by decide)]; exact hk0, by rw [wI_ne (show (44 : Nat) ≠ 48 by decide)]; exact hk1, by rw [wI_ne (show (46 : Nat) ≠ 48 by decide)]; exact hk2, by rw [wI_ne (show (47 : Nat) ≠ 48 by decide)]; exact hk3, by rw [wI_ne (show (49 : Nat) ≠ 48 by decide)]; exact hk4, by rw [wI_eq]; exact fl (g := fun j => nI (x.A 5 j)) hk5 rfl, by rw [wI_ne (show (50 : Nat) ≠ 48 by decide)]; exact hk7, by rw [wI_ne (show (51 : Nat) ≠ 48 by decide)]; exact hk8, fun q => by rw [wI_ne (by decide)]; exact h6 q⟩
theorem Rv.s7 {x : xSc} {I I' : Nat → Nat → Int32} {k0 k1 k2 k3 k4 k5 k7 k8 k6 : Nat} (h : Rv x I I' k0 k1 k2 k3 k4 k5 k7 k8 k6) : Rv x I (wI I' 50 k7 (nI (x.C k7))) k0 k1 k2 k3 k4 k5 (k7 + 1) k8 k6 := by
  obtain ⟨⟨f1, f2⟩, hk0, hk1, hk2, hk3, hk4, hk5, hk7, hk8, h6⟩ := h
  exact ⟨⟨fun a ha => by rw [wI_ne (by omega)]; exact f1 a ha, fun j j1 j2 => by rw [wI_ne (by decide)]; exact f2 j j1 j2⟩, by rw [wI_ne (show (43 : Nat) ≠ 50 by decide)]; exact hk0, by rw [wI_ne (show (44 : Nat) ≠ 50 by decide)]; exact hk1, by rw [wI_ne (show (46 : Nat) ≠ 50 by decide)]; exact hk2, by rw [wI_ne (show (47 : Nat) ≠ 50 by decide)]; exact hk3, by rw [wI_ne (show (49 : Nat) ≠ 50 by decide)]; exact hk4, by rw [wI_ne (show (48 : Nat) ≠ 50 by decide)]; exact hk5, by rw [wI_eq]; exact fl (g := fun j => nI (x.C j)) hk7 rfl, by rw [wI_ne (show (51 : Nat) ≠ 50 by decide)]; exact hk8, fun q => by rw [wI_ne (by decide)]; exact h6 q⟩
theorem Rv.s8 {x : xSc} {I I' : Nat → Nat → Int32} {k0 k1 k2 k3 k4 k5 k7 k8 k6 : Nat} (h : Rv x I I' k0 k1 k2 k3 k4 k5 k7 k8 k6) : Rv x I (wI I' 51 k8 (nI (x.M / 2 ^ k8 % 2))) k0 k1 k2 k3 k4 k5 k7 (k8 + 1) k6 := by
  obtain ⟨⟨f1, f2⟩, hk0, hk1, hk2, hk3, hk4, hk5, hk7, hk8, h6⟩ := h
  exact ⟨⟨fun a ha => by rw [wI_ne (by omega)]; exact f1 a ha, fun j j1 j2 => by rw [wI_ne (by decide)]; exact f2 j j1 j2⟩, by rw [wI_ne (show (43 : Nat) ≠ 51 by decide)]; exact hk0, by rw [wI_ne (show (44 : Nat) ≠ 51 by decide)]; exact hk1, by rw [wI_ne (show (46 : Nat) ≠ 51 by decide)]; exact hk2, by rw [wI_ne (show (47 : Nat) ≠ 51 by decide)]; exact hk3, by rw [wI_ne (show (49 : Nat) ≠ 51 by decide)]; exact hk4, by rw [wI_ne (show (48 : Nat) ≠ 51 by decide)]; exact hk5, by rw [wI_ne (show (50 : Nat) ≠ 51 by decide)]; exact hk7, by rw [wI_eq]; exact fl (g := fun j => nI (x.M / 2 ^ j % 2)) hk8 rfl, fun q => by rw [wI_ne (by decide)]; exact h6 q⟩
theorem Rv.s6 {x : xSc} {I I' : Nat → Nat → Int32} {k0 k1 k2 k3 k4 k5 k7 k8 k6 : Nat} (h : Rv x I I' k0 k1 k2 k3 k4 k5 k7 k8 k6) : Rv x I (wI I' 42 8 (nI (x.A 6 0))) k0 k1 k2 k3 k4 k5 k7 k8 1 := by
  obtain ⟨⟨f1, f2⟩, hk0, hk1, hk2, hk3, hk4, hk5, hk7, hk8, h6⟩ := h
  exact ⟨⟨fun a ha => by rw [wI_ne (by omega)]; exact f1 a ha, fun j j1 j2 => by rw [wI_eq, pk_un j1]; exact f2 j j1 j2⟩, by rw [wI_ne (show (43 : Nat) ≠ 42 by decide)]; exact hk0, by rw [wI_ne (show (44 : Nat) ≠ 42 by decide)]; exact hk1, by rw [wI_ne (show (46 : Nat) ≠ 42 by decide)]; exact hk2, by rw [wI_ne (show (47 : Nat) ≠ 42 by decide)]; exact hk3, by rw [wI_ne (show (49 : Nat) ≠ 42 by decide)]; exact hk4, by rw [wI_ne (show (48 : Nat) ≠ 42 by decide)]; exact hk5, by rw [wI_ne (show (50 : Nat) ≠ 42 by decide)]; exact hk7, by rw [wI_ne (show (51 : Nat) ≠ 42 by decide)]; exact hk8, fun _ => rfl⟩
theorem f_restore (x : Int32) : Fx 77 136 [.int x] := by
  intro E s hE hs
  have p1 := p_below x 2 1 (by omega) rfl
  have p2 := p_in x (nI 0) (nI 1) 0 1 rfl rfl
  cases hr : rg 0 1 x with
  | false =>
    rw [hr] at p1 p2
    refine ⟨(-2), s, hs, fun I L hC => ?_, fun I L hR => ?_⟩
    · refine xC.mk [some (.ref 0), some (.int x)] rfl ?_
      refine ws_iload_1 1 rfl rfl ?_
      refine ws_iconst 2 rfl rfl kc_i2 ?_
      refine ws_invS2p 5 rfl rfl rfl (p1) rfl rfl rfl ?_
      refine ws_if_neb 11 8 rfl rfl rfl (fun h9 => absurd h9 (by first | decide | simp_all)) (fun h9 => ?_)
      refine ws_bipush 10 rfl rfl kc_bm2 ?_
      refine ws_iret rfl rfl rfl (Nat.le_of_ble_eq_true rfl) ?_
      exact cQ.sm hC
    · refine xC.mk [some (.ref 42), some (.int x), none, none] rfl ?_
      refine ws_iload_1 1 rfl rfl ?_
      refine ws_iconst 2 rfl rfl kc_i0 ?_
      refine ws_iconst 3 rfl rfl kc_i1 ?_
      refine ws_invS3p 6 rfl rfl rfl (p2) rfl rfl rfl ?_
      refine ws_if_neb 12 9 rfl rfl rfl (fun h9 => absurd h9 (by first | decide | simp_all)) (fun h9 => ?_)
      refine ws_bipush 11 rfl rfl kc_bm2 ?_
      refine ws_iret rfl rfl rfl (Nat.le_of_ble_eq_true rfl) ?_
      exact mQ.sm hR
  | true =>
    rw [hr] at p1 p2
    obtain ⟨n, -, hn, rfl⟩ := rg_nat (a := 0) (b := 1) hr (by omega)
    cases hK : s.K n with
    | false =>
      refine ⟨(-3), s, hs, fun I L hC => ?_, fun I L hR => ?_⟩
      · refine xC.mk [some (.ref 0), some (.int (nI n))] rfl ?_
        have g := (hC.2.2.2 n (by omega)).1
        rw [hK] at g
        have g : I 13 n = nI 0 := g
        refine ws_iload_1 1 rfl rfl ?_
        refine ws_iconst 2 rfl rfl kc_i2 ?_
        refine ws_invS2p 5 rfl rfl rfl (p1) rfl rfl rfl ?_
        refine ws_if_neb 11 8 rfl rfl rfl (fun h9 => ?_) (fun h9 => absurd h9 (by first | decide | simp_all))
        refine ws_aload_0 12 rfl rfl ?_
        refine ws_getfr 15 rfl rfl rfl rfl rfl ?_
        refine ws_iload_1 16 rfl rfl ?_
        refine ws_zaldn 17 rfl rfl rfl (by omega) (by omega) g ?_
        refine ws_if_nen 23 20 rfl rfl rfl (by omega) (fun h9 => absurd h9 (by omega)) (fun h9 => ?_)
        refine ws_bipush 22 rfl rfl kc_bm3 ?_
        refine ws_iret rfl rfl rfl (Nat.le_of_ble_eq_true rfl) ?_
        exact cQ.sm hC
      · refine xC.mk [some (.ref 42), some (.int (nI n)), none, none] rfl ?_
        have g := (hR.2.2.2 n (by omega)).1
        rw [hK] at g
        have g : I 62 n = nI 0 := g
        refine ws_iload_1 1 rfl rfl ?_
        refine ws_iconst 2 rfl rfl kc_i0 ?_
        refine ws_iconst 3 rfl rfl kc_i1 ?_
        refine ws_invS3p 6 rfl rfl rfl (p2) rfl rfl rfl ?_
        refine ws_if_neb 12 9 rfl rfl rfl (fun h9 => ?_) (fun h9 => absurd h9 (by first | decide | simp_all))
        refine ws_aload_0 13 rfl rfl ?_
        refine ws_getfr 16 rfl rfl rfl rfl rfl ?_
        refine ws_iload_1 17 rfl rfl ?_
        refine ws_zaldn 18 rfl rfl rfl (by omega) (by omega) g ?_
        refine ws_if_nen 24 21 rfl rfl rfl (by omega) (fun h9 => absurd h9 (by omega)) (fun h9 => ?_)
        refine ws_bipush 23 rfl rfl kc_bm3 ?_
        refine ws_iret rfl rfl rfl (Nat.le_of_ble_eq_true rfl) ?_
        exact mQ.sm hR
    | true =>
      refine ⟨(nI 1), sA s (s.i n), ⟨hs.2.2 n (by omega) hK, hs.2⟩, fun I L hC => ?_, fun I L hR => ?_⟩
      · refine xC.mk [some (.ref 0), some (.int (nI n))] rfl ?_
        obtain ⟨g, hsc⟩ := hC.2.2.2 n (by omega)
        rw [hK] at g
        have g : I 13 n = nI 1 := g
        have hsc := hsc hK
        have fin : ∀ (I1 : Nat → Nat → Int32), (∀ a, a < 5 ∨ 5 + 6 < a → I1 a = I a) → scn 5 (s.i n) I1 → cQ I (sA s (s.i n)) (.int (nI 1)) (some (.int (nI 1))) (xS, wI I1 19 5 (nI 0), L) := fun I1 hf1 h5 => ⟨rfl, _, _, rfl, hC.mv (h5.keep (fun a a1 a2 => wI_ne (by omega))) (fun a ha => by rw [wI_ne (by omega)]; exact hf1 a (by omega)) (by rw [wI_eq, pk_un (by decide), hf1 19 (by omega)]) rfl, fun a ha => by rw [wI_ne (by omega)]; exact hf1 a (by omega)⟩
        rcases (show n = 0 ∨ n = 1 by omega) with rfl | rfl
        · refine ws_iload_1 1 rfl rfl ?_
          refine ws_iconst 2 rfl rfl kc_i2 ?_
          refine ws_invS2p 5 rfl rfl rfl (p1) rfl rfl rfl ?_
          refine ws_if_neb 11 8 rfl rfl rfl (fun h9 => ?_) (fun h9 => absurd h9 (by first | decide | simp_all))
          refine ws_aload_0 12 rfl rfl ?_
          refine ws_getfr 15 rfl rfl rfl rfl rfl ?_
          refine ws_iload_1 16 rfl rfl ?_
          refine ws_zaldn 17 rfl rfl rfl (by omega) (by omega) g ?_
          refine ws_if_nen 23 20 rfl rfl rfl (by omega) (fun h9 => ?_) (fun h9 => absurd h9 (by omega))
          refine ws_aload_0 24 rfl rfl ?_
          refine ws_getfr 27 rfl rfl rfl rfl rfl ?_
          refine ws_aload_0 28 rfl rfl ?_
          refine ws_getfr 31 rfl rfl rfl rfl rfl ?_
          refine ws_iload_1 32 rfl rfl ?_
          refine ws_aaldn 33 rfl rfl rfl (by first | omega | decide) (by decide) rfl ?_
          refine ws_invV1 36 rfl rfl rfl rfl (k_back0 hsc) rfl rfl rfl ?_
          rintro _ _ ⟨rfl, I1, rfl, hf1, h5⟩
          refine ws_aload_0 37 rfl rfl ?_
          refine ws_getfr 40 rfl rfl rfl rfl rfl ?_
          refine ws_invV0 43 rfl rfl rfl rfl (c_forget) rfl rfl rfl ?_
          rintro _ _ ⟨rfl, rfl⟩
          refine ws_iconst 44 rfl rfl kc_i1 ?_
          refine ws_iret rfl rfl rfl (Nat.le_of_ble_eq_true rfl) ?_
          exact fin I1 hf1 h5
        · refine ws_iload_1 1 rfl rfl ?_
          refine ws_iconst 2 rfl rfl kc_i2 ?_
          refine ws_invS2p 5 rfl rfl rfl (p1) rfl rfl rfl ?_
          refine ws_if_neb 11 8 rfl rfl rfl (fun h9 => ?_) (fun h9 => absurd h9 (by first | decide | simp_all))
          refine ws_aload_0 12 rfl rfl ?_
          refine ws_getfr 15 rfl rfl rfl rfl rfl ?_
          refine ws_iload_1 16 rfl rfl ?_
          refine ws_zaldn 17 rfl rfl rfl (by omega) (by omega) g ?_
          refine ws_if_nen 23 20 rfl rfl rfl (by omega) (fun h9 => ?_) (fun h9 => absurd h9 (by omega))
          refine ws_aload_0 24 rfl rfl ?_
          refine ws_getfr 27 rfl rfl rfl rfl rfl ?_
          refine ws_aload_0 28 rfl rfl ?_
          refine ws_getfr 31 rfl rfl rfl rfl rfl ?_
          refine ws_iload_1 32 rfl rfl ?_
          refine ws_aaldn 33 rfl rfl rfl (by first | omega | decide) (by decide) rfl ?_
          refine ws_invV1 36 rfl rfl rfl rfl (k_back1 hsc) rfl rfl rfl ?_
          rintro _ _ ⟨rfl, I1, rfl, hf1, h5⟩
          refine ws_aload_0 37 rfl rfl ?_
          refine ws_getfr 40 rfl rfl rfl rfl rfl ?_
          refine ws_invV0 43 rfl rfl rfl rfl (c_forget) rfl rfl rfl ?_
          rintro _ _ ⟨rfl, rfl⟩
          refine ws_iconst 44 rfl rfl kc_i1 ?_
          refine ws_iret rfl rfl rfl (Nat.le_of_ble_eq_true rfl) ?_
          exact fin I1 hf1 h5
      · refine xC.mk [some (.ref 42), some (.int (nI n)), none, none] rfl ?_
        obtain ⟨g, hri⟩ := hR.2.2.2 n (by omega)
        rw [hK] at g
        have g : I 62 n = nI 1 := g
        obtain ⟨q1, q2, q3, q4, q5, ⟨q6, q7, q8⟩, q9, q10⟩ := hri hK
        have l5 : ∀ (m k : Nat) (I' : Nat → Nat → Int32), k + m = 11 → Rv (s.i n) I I' 15 5 5 24 30 2 k k 1 → xW E 20 136 212 [some (.ref 42), some (.int (nI n)), some (.int (nI (130 * n))), some (.int (nI k))] [] (xS, I', L) 0 0 (mQ I (sA s (s.i n)) (.int (nI 1))) := by
          intro m
          induction m with
          | zero =>
            intro k I' hk hM
            obtain rfl : k = 11 := by omega
            have hf := hM.1
            refine ws_iload_3 213 rfl rfl ?_
            refine ws_bipush 215 rfl rfl kc_b11 ?_
            refine ws_icmp_gen 267 218 rfl rfl rfl (by omega) (by omega) (fun h9 => ?_) (fun h9 => absurd h9 (by omega))
            refine ws_aload_0 268 rfl rfl ?_
            refine ws_iconst 269 rfl rfl kc_i0 ?_
            refine ws_putfi 272 rfl rfl rfl rfl rfl rfl rfl rfl ?_
            refine ws_iconst 273 rfl rfl kc_i1 ?_
            refine ws_iret rfl rfl rfl (Nat.le_of_ble_eq_true rfl) ?_
            refine ⟨rfl, _, _, rfl, hR.mv ?_ (fun a ha => by rw [wI_ne (by omega)]; exact hf.1 a (by omega)) (by rw [wI_eq, pk_un (by decide)]; exact hf.2 2 (by decide) (by decide)) rfl, fun a ha => by rw [wI_ne (by omega)]; exact hf.1 a (by omega)⟩
            obtain ⟨-, h0, h1, h2, h3, h4, h5, h7, h8, h6⟩ := hM
            have w9 : ∀ a, a ≠ 42 → wI I' 42 11 (nI 0) a = I' a := fun a ha => wI_ne ha
            unfold rsn
            rw [w9 43 (by decide), w9 44 (by decide), w9 46 (by decide), w9 47 (by decide), w9 48 (by decide), w9 49 (by decide), w9 50 (by decide), w9 51 (by decide)]
            exact ⟨h0, h1, h2, h3, h4, ⟨h5 0 (by omega), h5 1 (by omega)⟩, by rw [wI_eq, pk_un (by decide)]; exact h6 rfl, h7, h8⟩
          | succ m ih =>
            intro k I' hk hM
            have g1 : I' 61 (130 * n + 82 + k) = nI ((s.i n).C k) := by rw [hM.1.1 61 (by omega)]; exact q9 k (by omega)
            have g2 : wI I' 50 k (nI ((s.i n).C k)) 61 (130 * n + 93 + k) = nI ((s.i n).M / 2 ^ k % 2) := by rw [wI_ne (by decide), hM.1.1 61 (by omega)]; exact q10 k (by omega)
            have s1 := hM.s7.s8
            rcases (show (s.i n).M / 2 ^ k % 2 = 0 ∨ (s.i n).M / 2 ^ k % 2 = 1 by omega) with e | e
            · rw [e] at g2 s1
              refine ws_iload_3 213 rfl rfl ?_
              refine ws_bipush 215 rfl rfl kc_b11 ?_
              refine ws_icmp_gen 267 218 rfl rfl rfl (by omega) (by omega) (fun h9 => absurd h9 (by omega)) (fun h9 => ?_)
              refine ws_aload_0 219 rfl rfl ?_
              refine ws_getfr 222 rfl rfl rfl rfl rfl ?_
              refine ws_iload_3 223 rfl rfl ?_
              refine ws_aload_0 224 rfl rfl ?_
              refine ws_getfr 227 rfl rfl rfl rfl rfl ?_
              refine ws_iload_2 228 rfl rfl ?_
              refine ws_bipush 230 rfl rfl kc_b82 ?_
              refine ws_iadd 231 rfl rfl (nI_add _ _) ?_
              refine ws_iload_3 232 rfl rfl ?_
              refine ws_iadd 233 rfl rfl (nI_add _ _) ?_
              refine ws_ialdn 234 rfl rfl rfl (by omega) (by omega) g1 ?_
              refine ws_iastn 235 rfl rfl rfl (by omega) (by omega) ?_
              refine ws_aload_0 236 rfl rfl ?_
              refine ws_getfr 239 rfl rfl rfl rfl rfl ?_
              refine ws_iload_3 240 rfl rfl ?_
              refine ws_aload_0 241 rfl rfl ?_
              refine ws_getfr 244 rfl rfl rfl rfl rfl ?_
              refine ws_iload_2 245 rfl rfl ?_
              refine ws_bipush 247 rfl rfl kc_b93 ?_
              refine ws_iadd 248 rfl rfl (nI_add _ _) ?_
              refine ws_iload_3 249 rfl rfl ?_
              refine ws_iadd 250 rfl rfl (nI_add _ _) ?_
              refine ws_ialdn 251 rfl rfl rfl (by omega) (by omega) g2 ?_
              refine ws_iconst 252 rfl rfl kc_i1 ?_
              refine ws_icmp_nen 259 255 rfl rfl rfl (by omega) (by omega) (fun h9 => ?_) (fun h9 => absurd h9 (by omega))
              refine ws_iconst 260 rfl rfl kc_i0 ?_
              refine ws_zastn 261 rfl rfl rfl (by omega) (by omega) (by decide) ?_
              refine ws_iinc_3 264 rfl rfl (ki_1 _) rfl rfl ?_
              refine ws_goto 212 rfl rfl ?_
              exact ih (k + 1) _ (by omega) s1
            · rw [e] at g2 s1
              refine ws_iload_3 213 rfl rfl ?_
              refine ws_bipush 215 rfl rfl kc_b11 ?_
              refine ws_icmp_gen 267 218 rfl rfl rfl (by omega) (by omega) (fun h9 => absurd h9 (by omega)) (fun h9 => ?_)
              refine ws_aload_0 219 rfl rfl ?_
              refine ws_getfr 222 rfl rfl rfl rfl rfl ?_
              refine ws_iload_3 223 rfl rfl ?_
              refine ws_aload_0 224 rfl rfl ?_
              refine ws_getfr 227 rfl rfl rfl rfl rfl ?_
              refine ws_iload_2 228 rfl rfl ?_
              refine ws_bipush 230 rfl rfl kc_b82 ?_
              refine ws_iadd 231 rfl rfl (nI_add _ _) ?_
              refine ws_iload_3 232 rfl rfl ?_
              refine ws_iadd 233 rfl rfl (nI_add _ _) ?_
              refine ws_ialdn 234 rfl rfl rfl (by omega) (by omega) g1 ?_
              refine ws_iastn 235 rfl rfl rfl (by omega) (by omega) ?_
              refine ws_aload_0 236 rfl rfl ?_
              refine ws_getfr 239 rfl rfl rfl rfl rfl ?_
              refine ws_iload_3 240 rfl rfl ?_
              refine ws_aload_0 241 rfl rfl ?_
              refine ws_getfr 244 rfl rfl rfl rfl rfl ?_
              refine ws_iload_2 245 rfl rfl ?_
              refine ws_bipush 247 rfl rfl kc_b93 ?_
              refine ws_iadd 248 rfl rfl (nI_add _ _) ?_
              refine ws_iload_3 249 rfl rfl ?_
              refine ws_iadd 250 rfl rfl (nI_add _ _) ?_
              refine ws_ialdn 251 rfl rfl rfl (by omega) (by omega) g2 ?_
              refine ws_iconst 252 rfl rfl kc_i1 ?_
              refine ws_icmp_nen 259 255 rfl rfl rfl (by omega) (by omega) (fun h9 => absurd h9 (by omega)) (fun h9 => ?_)
              refine ws_iconst 256 rfl rfl kc_i1 ?_
              refine ws_goto 260 rfl rfl ?_
              refine ws_zastn 261 rfl rfl rfl (by omega) (by omega) (by decide) ?_
              refine ws_iinc_3 264 rfl rfl (ki_1 _) rfl rfl ?_
              refine ws_goto 212 rfl rfl ?_
              exact ih (k + 1) _ (by omega) s1
        have l4 : ∀ (m k : Nat) (I' : Nat → Nat → Int32), k + m = 30 → Rv (s.i n) I I' 15 5 5 24 k 0 0 0 0 → xW E 20 136 138 [some (.ref 42), some (.int (nI n)), some (.int (nI (130 * n))), some (.int (nI k))] [] (xS, I', L) 0 0 (mQ I (sA s (s.i n)) (.int (nI 1))) := by
          intro m
          induction m with
          | zero =>
            intro k I' hk hM
            obtain rfl : k = 30 := by omega
            have g1 : I' 61 (130 * n + 79) = nI ((s.i n).A 5 0) := by rw [hM.1.1 61 (by omega)]; exact q6
            have g2 : wI I' 48 0 (nI ((s.i n).A 5 0)) 61 (130 * n + 80) = nI ((s.i n).A 5 1) := by rw [wI_ne (by decide), hM.1.1 61 (by omega)]; exact q7
            have g3 : wI (wI I' 48 0 (nI ((s.i n).A 5 0))) 48 1 (nI ((s.i n).A 5 1)) 61 (130 * n + 81) = nI ((s.i n).A 6 0) := by rw [wI_ne (by decide), wI_ne (by decide), hM.1.1 61 (by omega)]; exact q8
            refine ws_iload_3 139 rfl rfl ?_
            refine ws_bipush 141 rfl rfl kc_b30 ?_
            refine ws_icmp_gen 167 144 rfl rfl rfl (by omega) (by omega) (fun h9 => ?_) (fun h9 => absurd h9 (by omega))
            refine ws_aload_0 168 rfl rfl ?_
            refine ws_getfr 171 rfl rfl rfl rfl rfl ?_
            refine ws_iconst 172 rfl rfl kc_i0 ?_
            refine ws_aload_0 173 rfl rfl ?_
            refine ws_getfr 176 rfl rfl rfl rfl rfl ?_
            refine ws_iload_2 177 rfl rfl ?_
            refine ws_bipush 179 rfl rfl kc_b79 ?_
            refine ws_iadd 180 rfl rfl (nI_add _ _) ?_
            refine ws_ialdn 181 rfl rfl rfl (by omega) (by omega) g1 ?_
            refine ws_iastn 182 rfl rfl rfl (by omega) (by omega) ?_
            refine ws_aload_0 183 rfl rfl ?_
            refine ws_getfr 186 rfl rfl rfl rfl rfl ?_
            refine ws_iconst 187 rfl rfl kc_i1 ?_
            refine ws_aload_0 188 rfl rfl ?_
            refine ws_getfr 191 rfl rfl rfl rfl rfl ?_
            refine ws_iload_2 192 rfl rfl ?_
            refine ws_bipush 194 rfl rfl kc_b80 ?_
            refine ws_iadd 195 rfl rfl (nI_add _ _) ?_
            refine ws_ialdn 196 rfl rfl rfl (by omega) (by omega) g2 ?_
            refine ws_iastn 197 rfl rfl rfl (by omega) (by omega) ?_
            refine ws_aload_0 198 rfl rfl ?_
            refine ws_aload_0 199 rfl rfl ?_
            refine ws_getfr 202 rfl rfl rfl rfl rfl ?_
            refine ws_iload_2 203 rfl rfl ?_
            refine ws_bipush 205 rfl rfl kc_b81 ?_
            refine ws_iadd 206 rfl rfl (nI_add _ _) ?_
            refine ws_ialdn 207 rfl rfl rfl (by omega) (by omega) g3 ?_
            refine ws_putfi 210 rfl rfl rfl rfl rfl rfl rfl rfl ?_
            refine ws_iconst 211 rfl rfl kc_i0 ?_
            refine ws_istore_3 212 rfl rfl rfl rfl ?_
            exact l5 11 0 _ rfl hM.s5.s5.s6
          | succ m ih =>
            intro k I' hk hM
            have g1 : I' 61 (130 * n + 49 + k) = nI ((s.i n).A 4 k) := by rw [hM.1.1 61 (by omega)]; exact q5 k (by omega)
            refine ws_iload_3 139 rfl rfl ?_
            refine ws_bipush 141 rfl rfl kc_b30 ?_
            refine ws_icmp_gen 167 144 rfl rfl rfl (by omega) (by omega) (fun h9 => absurd h9 (by omega)) (fun h9 => ?_)
            refine ws_aload_0 145 rfl rfl ?_
            refine ws_getfr 148 rfl rfl rfl rfl rfl ?_
            refine ws_iload_3 149 rfl rfl ?_
            refine ws_aload_0 150 rfl rfl ?_
            refine ws_getfr 153 rfl rfl rfl rfl rfl ?_
            refine ws_iload_2 154 rfl rfl ?_
            refine ws_bipush 156 rfl rfl kc_b49 ?_
            refine ws_iadd 157 rfl rfl (nI_add _ _) ?_
            refine ws_iload_3 158 rfl rfl ?_
            refine ws_iadd 159 rfl rfl (nI_add _ _) ?_
            refine ws_ialdn 160 rfl rfl rfl (by omega) (by omega) g1 ?_
            refine ws_iastn 161 rfl rfl rfl (by omega) (by omega) ?_
            refine ws_iinc_3 164 rfl rfl (ki_1 _) rfl rfl ?_
            refine ws_goto 138 rfl rfl ?_
            exact ih (k + 1) _ (by omega) hM.s4
        have l3 : ∀ (m k : Nat) (I' : Nat → Nat → Int32), k + m = 24 → Rv (s.i n) I I' 15 5 5 k 0 0 0 0 0 → xW E 20 136 107 [some (.ref 42), some (.int (nI n)), some (.int (nI (130 * n))), some (.int (nI k))] [] (xS, I', L) 0 0 (mQ I (sA s (s.i n)) (.int (nI 1))) := by
          intro m
          induction m with
          | zero =>
            intro k I' hk hM
            obtain rfl : k = 24 := by omega
            refine ws_iload_3 108 rfl rfl ?_
            refine ws_bipush 110 rfl rfl kc_b24 ?_
            refine ws_icmp_gen 136 113 rfl rfl rfl (by omega) (by omega) (fun h9 => ?_) (fun h9 => absurd h9 (by omega))
            refine ws_iconst 137 rfl rfl kc_i0 ?_
            refine ws_istore_3 138 rfl rfl rfl rfl ?_
            exact l4 30 0 _ rfl hM
          | succ m ih =>
            intro k I' hk hM
            have g1 : I' 61 (130 * n + 25 + k) = nI ((s.i n).A 3 k) := by rw [hM.1.1 61 (by omega)]; exact q4 k (by omega)
            refine ws_iload_3 108 rfl rfl ?_
            refine ws_bipush 110 rfl rfl kc_b24 ?_
            refine ws_icmp_gen 136 113 rfl rfl rfl (by omega) (by omega) (fun h9 => absurd h9 (by omega)) (fun h9 => ?_)
            refine ws_aload_0 114 rfl rfl ?_
            refine ws_getfr 117 rfl rfl rfl rfl rfl ?_
            refine ws_iload_3 118 rfl rfl ?_
            refine ws_aload_0 119 rfl rfl ?_
            refine ws_getfr 122 rfl rfl rfl rfl rfl ?_
            refine ws_iload_2 123 rfl rfl ?_
            refine ws_bipush 125 rfl rfl kc_b25 ?_
            refine ws_iadd 126 rfl rfl (nI_add _ _) ?_
            refine ws_iload_3 127 rfl rfl ?_
            refine ws_iadd 128 rfl rfl (nI_add _ _) ?_
            refine ws_ialdn 129 rfl rfl rfl (by omega) (by omega) g1 ?_
            refine ws_iastn 130 rfl rfl rfl (by omega) (by omega) ?_
            refine ws_iinc_3 133 rfl rfl (ki_1 _) rfl rfl ?_
            refine ws_goto 107 rfl rfl ?_
            exact ih (k + 1) _ (by omega) hM.s3
        have l2 : ∀ (m k : Nat) (I' : Nat → Nat → Int32), k + m = 5 → Rv (s.i n) I I' 15 k k 0 0 0 0 0 0 → xW E 20 136 60 [some (.ref 42), some (.int (nI n)), some (.int (nI (130 * n))), some (.int (nI k))] [] (xS, I', L) 0 0 (mQ I (sA s (s.i n)) (.int (nI 1))) := by
          intro m
          induction m with
          | zero =>
            intro k I' hk hM
            obtain rfl : k = 5 := by omega
            refine ws_iload_3 61 rfl rfl ?_
            refine ws_iconst 62 rfl rfl kc_i5 ?_
            refine ws_icmp_gen 105 65 rfl rfl rfl (by omega) (by omega) (fun h9 => ?_) (fun h9 => absurd h9 (by omega))
            refine ws_iconst 106 rfl rfl kc_i0 ?_
            refine ws_istore_3 107 rfl rfl rfl rfl ?_
            exact l3 24 0 _ rfl hM
          | succ m ih =>
            intro k I' hk hM
            have g1 : I' 61 (130 * n + 15 + k) = nI ((s.i n).A 1 k) := by rw [hM.1.1 61 (by omega)]; exact q2 k (by omega)
            have g2 : wI I' 44 k (nI ((s.i n).A 1 k)) 61 (130 * n + 20 + k) = nI ((s.i n).b k) := by rw [wI_ne (by decide), hM.1.1 61 (by omega)]; exact q3 k (by omega)
            refine ws_iload_3 61 rfl rfl ?_
            refine ws_iconst 62 rfl rfl kc_i5 ?_
            refine ws_icmp_gen 105 65 rfl rfl rfl (by omega) (by omega) (fun h9 => absurd h9 (by omega)) (fun h9 => ?_)
            refine ws_aload_0 66 rfl rfl ?_
            refine ws_getfr 69 rfl rfl rfl rfl rfl ?_
            refine ws_iload_3 70 rfl rfl ?_
            refine ws_aload_0 71 rfl rfl ?_
            refine ws_getfr 74 rfl rfl rfl rfl rfl ?_
            refine ws_iload_2 75 rfl rfl ?_
            refine ws_bipush 77 rfl rfl kc_b15 ?_
            refine ws_iadd 78 rfl rfl (nI_add _ _) ?_
            refine ws_iload_3 79 rfl rfl ?_
            refine ws_iadd 80 rfl rfl (nI_add _ _) ?_
            refine ws_ialdn 81 rfl rfl rfl (by omega) (by omega) g1 ?_
            refine ws_iastn 82 rfl rfl rfl (by omega) (by omega) ?_
            refine ws_aload_0 83 rfl rfl ?_
            refine ws_getfr 86 rfl rfl rfl rfl rfl ?_
            refine ws_iload_3 87 rfl rfl ?_
            refine ws_aload_0 88 rfl rfl ?_
            refine ws_getfr 91 rfl rfl rfl rfl rfl ?_
            refine ws_iload_2 92 rfl rfl ?_
            refine ws_bipush 94 rfl rfl kc_b20 ?_
            refine ws_iadd 95 rfl rfl (nI_add _ _) ?_
            refine ws_iload_3 96 rfl rfl ?_
            refine ws_iadd 97 rfl rfl (nI_add _ _) ?_
            refine ws_ialdn 98 rfl rfl rfl (by omega) (by omega) g2 ?_
            refine ws_iastn 99 rfl rfl rfl (by omega) (by omega) ?_
            refine ws_iinc_3 102 rfl rfl (ki_1 _) rfl rfl ?_
            refine ws_goto 60 rfl rfl ?_
            exact ih (k + 1) _ (by omega) hM.s1.s2
        have l1 : ∀ (m k : Nat) (I' : Nat → Nat → Int32), k + m = 15 → Rv (s.i n) I I' k 0 0 0 0 0 0 0 0 → xW E 20 136 32 [some (.ref 42), some (.int (nI n)), some (.int (nI (130 * n))), some (.int (nI k))] [] (xS, I', L) 0 0 (mQ I (sA s (s.i n)) (.int (nI 1))) := by
          intro m
          induction m with
          | zero =>
            intro k I' hk hM
            obtain rfl : k = 15 := by omega
            refine ws_iload_3 33 rfl rfl ?_
            refine ws_bipush 35 rfl rfl kc_b15 ?_
            refine ws_icmp_gen 58 38 rfl rfl rfl (by omega) (by omega) (fun h9 => ?_) (fun h9 => absurd h9 (by omega))
            refine ws_iconst 59 rfl rfl kc_i0 ?_
            refine ws_istore_3 60 rfl rfl rfl rfl ?_
            exact l2 5 0 _ rfl hM
          | succ m ih =>
            intro k I' hk hM
            have g1 : I' 61 (130 * n + k) = nI ((s.i n).A 0 k) := by rw [hM.1.1 61 (by omega)]; exact q1 k (by omega)
            refine ws_iload_3 33 rfl rfl ?_
            refine ws_bipush 35 rfl rfl kc_b15 ?_
            refine ws_icmp_gen 58 38 rfl rfl rfl (by omega) (by omega) (fun h9 => absurd h9 (by omega)) (fun h9 => ?_)
            refine ws_aload_0 39 rfl rfl ?_
            refine ws_getfr 42 rfl rfl rfl rfl rfl ?_
            refine ws_iload_3 43 rfl rfl ?_
            refine ws_aload_0 44 rfl rfl ?_
            refine ws_getfr 47 rfl rfl rfl rfl rfl ?_
            refine ws_iload_2 48 rfl rfl ?_
            refine ws_iload_3 49 rfl rfl ?_
            refine ws_iadd 50 rfl rfl (nI_add _ _) ?_
            refine ws_ialdn 51 rfl rfl rfl (by omega) (by omega) g1 ?_
            refine ws_iastn 52 rfl rfl rfl (by omega) (by omega) ?_
            refine ws_iinc_3 55 rfl rfl (ki_1 _) rfl rfl ?_
            refine ws_goto 32 rfl rfl ?_
            exact ih (k + 1) _ (by omega) hM.s0
        refine ws_iload_1 1 rfl rfl ?_
        refine ws_iconst 2 rfl rfl kc_i0 ?_
        refine ws_iconst 3 rfl rfl kc_i1 ?_
        refine ws_invS3p 6 rfl rfl rfl (p2) rfl rfl rfl ?_
        refine ws_if_neb 12 9 rfl rfl rfl (fun h9 => ?_) (fun h9 => absurd h9 (by first | decide | simp_all))
        refine ws_aload_0 13 rfl rfl ?_
        refine ws_getfr 16 rfl rfl rfl rfl rfl ?_
        refine ws_iload_1 17 rfl rfl ?_
        refine ws_zaldn 18 rfl rfl rfl (by omega) (by omega) g ?_
        refine ws_if_nen 24 21 rfl rfl rfl (by omega) (fun h9 => ?_) (fun h9 => absurd h9 (by omega))
        refine ws_sipush 27 rfl rfl kc_s130 ?_
        refine ws_iload_1 28 rfl rfl ?_
        refine ws_imul 29 rfl rfl (pk_mul _ _) ?_
        refine ws_istore_2 30 rfl rfl rfl rfl ?_
        refine ws_iconst 31 rfl rfl kc_i0 ?_
        refine ws_istore_3 32 rfl rfl rfl rfl ?_
        exact l1 15 0 I rfl ⟨⟨fun _ _ => rfl, fun _ _ _ => rfl⟩, fun _ h => by omega, fun _ h => by omega, fun _ h => by omega, fun _ h => by omega, fun _ h => by omega, fun _ h => by omega, fun _ h => by omega, fun _ h => by omega, fun h => by omega⟩
