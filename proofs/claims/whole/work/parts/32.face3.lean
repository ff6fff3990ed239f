/-! ===== draws, part, seen, does, week ===== -/
section FACE3
variable {E : xEx} {s : xSt} {I : Nat → Nat → Int32} {L : Nat → Nat → Int64}
theorem k_sb (hs : OK s) (hC : CR s I) : xC E 3 16 [.ref 14, .ref 8] (xS, I, L) (fun r t => r = none ∧ ∃ I', t = (xS, I', L) ∧ (∀ a, a ≠ 15 → a ≠ 16 → I' a = I a) ∧ (∀ p, p < 5 → I' 15 p = nI (bt s.c.b p)) ∧ ∀ p, p < 5 → I' 16 p = nI (dz s.c.A s.c.b p)) := by
  obtain ⟨⟨⟨o1, o2, o3, o4, o5, o6⟩, -, hb, -⟩, -⟩ := hs
  exact c_standBefore (T := xM0) 8 (by decide) (by decide) rfl hC.1.1 hC.1.2.1 o1 o2 o3 hb hC.1.2.2.1
theorem k_go {I' : Nat → Nat → Int32} (k : Nat) (hk : k < 4) (hs : OK s) (hC : CR s I) (hf : ∀ a, a ≠ 15 → a ≠ 16 → I' a = I a) (h15 : ∀ p, p < 5 → I' 15 p = nI (bt s.c.b p)) (h16 : ∀ p, p < 5 → I' 16 p = nI (dz s.c.A s.c.b p)) : xC E 3 19 [.ref 14, .int (nI k), .int (nI 0)] (xS, I', L) (fun r t => r = none ∧ ∃ I', t = (xS, I', L) ∧ (∀ a, a < 15 ∨ 18 < a → I' a = I a) ∧ ∀ u, u < 32 → I' 18 u = nI (pt s.c.A s.c.b k 0 (s.c.A 3 (k * 6 + 1)) u)) := by
  obtain ⟨⟨⟨o1, o2, o3, o4, o5, o6⟩, -, hb, -⟩, -⟩ := hs
  refine (c_goBy (T := xM0) (A := s.c.A) (b := s.c.b) k 0 hk (by omega) (fun j hj => by rw [hf 9 (by decide) (by decide)]; exact hC.1.2.2.2.1 j hj) o5 o1 o2 hb h15 h16).mono ?_
  rintro _ _ ⟨rfl, I2, rfl, hf2, h18⟩
  exact ⟨rfl, I2, rfl, fun a ha => by rw [hf2 a (by omega) (by omega)]; exact hf a (by omega) (by omega), h18⟩
theorem r_look (hR : RR s I) : xC E 1 97 [.ref 42] (xS, I, L) (fun r t => r = none ∧ ∃ I', t = (xS, I', L) ∧ (∀ a, a ≠ 53 → I' a = I a) ∧ ∀ p, p < 5 → I' 53 p = nI (s.c.b p)) := m_lookAtWindow hR.1.2.2.1
theorem r_laws (hs : OK s) (hR : RR s I) : xC E 4 111 [.ref 42] (xS, I, L) (fun r u => r = none ∧ ∃ I' L', u = (xS, I', L') ∧ (∀ a, a ≠ 58 → a ≠ 59 → I' a = I a) ∧ (∀ j, j < 12 → I' 58 j = nI (lwv (fun i => s.c.A 4 i) (s.c.A 5 0) (j / 2) (j % 2))) ∧ ∀ j, j < 12 → I' 59 j = nI (lwv (fun i => s.c.A 4 (15 + i)) (s.c.A 5 1) (j / 2) (j % 2))) := by
  obtain ⟨-, -, -, -, ⟨m1, m2⟩, m3, m4⟩ := hR.1.ms hs.1
  obtain ⟨f1, f2, -⟩ := hs.1.2.1
  refine (m_layLaws f1 f2 m1 m2 m3 m4).mono ?_
  rintro _ _ ⟨rfl, I', L', rfl, h1, -, h3, h4⟩
  exact ⟨rfl, I', L', rfl, h1, h3, h4⟩
theorem MW.of {I1 I2 : Nat → Nat → Int32} (hs : OK s) (hR : RR s I) (hf1 : ∀ a, a ≠ 58 → a ≠ 59 → I1 a = I a) (h58 : ∀ j, j < 12 → I1 58 j = nI (lwv (fun i => s.c.A 4 i) (s.c.A 5 0) (j / 2) (j % 2))) (h59 : ∀ j, j < 12 → I1 59 j = nI (lwv (fun i => s.c.A 4 (15 + i)) (s.c.A 5 1) (j / 2) (j % 2))) (hf2 : ∀ a, a ≠ 53 → I2 a = I1 a) (h53 : ∀ p, p < 5 → I2 53 p = nI (s.c.b p)) : MW s.c.A s.c.b I2 ∧ ∀ a, a ≠ 53 → a ≠ 58 → a ≠ 59 → I2 a = I a := by
  have hf : ∀ a, a ≠ 53 → a ≠ 58 → a ≠ 59 → I2 a = I a := fun a a1 a2 a3 => by rw [hf2 a a1]; exact hf1 a a2 a3
  refine ⟨⟨(hR.1.ms hs.1).keep (fun a a1 a2 => hf a (by omega) (by omega) (by omega)) (by rw [hf 42 (by decide) (by decide) (by decide)]), fun j hj => by rw [hf2 58 (by decide)]; exact h58 j hj, fun j hj => by rw [hf2 59 (by decide)]; exact h59 j hj, h53⟩, hf⟩
end FACE3
theorem f_week : Fx 61 115 [] := by
  intro E s hE hs
  refine ⟨(nI (wkF s.c.A s.c.F s.c.b 0)), s, hs, fun I L hC => ?_, fun I L hR => ?_⟩
  · refine xC.mk [some (.ref 0)] rfl ?_
    obtain ⟨⟨⟨o1, o2, o3, o4, o5, o6⟩, -, hb, -⟩, -⟩ := hs
    obtain ⟨h1, h2, h3, h4, h5, h6, h7, h8⟩ := hC.1
    refine ws_aload_0 1 rfl rfl ?_
    refine ws_getfr 4 rfl rfl rfl rfl rfl ?_
    refine ws_aload_0 5 rfl rfl ?_
    refine ws_getfr 8 rfl rfl rfl rfl rfl ?_
    refine ws_getfr 11 rfl rfl rfl rfl rfl ?_
    refine ws_iconst 12 rfl rfl kc_i0 ?_
    refine ws_invV2 15 rfl rfl rfl rfl (c_weekOf (T := xM0) 8 0 (by decide) (by decide) (by decide) (by omega) rfl h1 h2 h4 h5 h8 o1 o2 o3 o4 o5 o6 hb h3) rfl rfl rfl ?_
    rintro _ _ ⟨rfl, I1, rfl, hf1⟩
    refine ws_iret rfl rfl rfl (Nat.le_of_ble_eq_true rfl) ?_
    exact ⟨rfl, I1, L, rfl, hC.scp (fun a ha => hf1 a (by omega)), fun a ha => hf1 a (by omega)⟩
  · refine xC.mk [some (.ref 42)] rfl ?_
    refine ws_aload_0 1 rfl rfl ?_
    refine ws_invV0 4 rfl rfl rfl rfl (r_laws hs hR) rfl rfl rfl ?_
    rintro _ _ ⟨rfl, I1, L1, rfl, hf1, h58, h59⟩
    have hR1 : RR s I1 := hR.scp (fun a ha => hf1 a (by omega) (by omega))
    refine ws_aload_0 5 rfl rfl ?_
    refine ws_invV0 8 rfl rfl rfl rfl (r_look hR1) rfl rfl rfl ?_
    rintro _ _ ⟨rfl, I2, rfl, hf2, h53⟩
    obtain ⟨hM, hf⟩ := MW.of hs hR hf1 h58 h59 hf2 h53
    refine ws_aload_0 9 rfl rfl ?_
    refine ws_iconst 10 rfl rfl kc_i0 ?_
    refine ws_invV1 13 rfl rfl rfl rfl (m_wk 0 (by omega) hs.1.1 hs.1.2.1 hs.1.2.2.1 hM) rfl rfl rfl ?_
    rintro _ _ ⟨rfl, I3, L3, rfl, hf3, -⟩
    have hf4 : ∀ a, a < 53 ∨ 59 < a → I3 a = I a := fun a ha => by rw [hf3 a (by omega) (by omega) (by omega)]; exact hf a (by omega) (by omega) (by omega)
    refine ws_iret rfl rfl rfl (Nat.le_of_ble_eq_true rfl) ?_
    exact ⟨rfl, I3, L3, rfl, hR.scp (fun a ha => hf4 a (by omega)), fun a ha => hf4 a (by omega)⟩
theorem f_draws (x y : Int32) : Fx 54 98 [.int x, .int y] := by
  intro E s hE hs
  have p1 := p_below5 x
  have p2 := p_isFive x
  have p3 := p_between y (nI 0) (nI 18) 0 18 rfl rfl
  have p4 := p_in y (nI 0) (nI 18) 0 18 rfl rfl
  cases hr : rg 0 4 x with
  | false =>
    rw [hr] at p1 p2
    refine ⟨(-1), s, hs, fun I L hC => ?_, fun I L hR => ?_⟩
    · refine xC.mk [some (.ref 0), some (.int x), some (.int y)] rfl ?_
      refine ws_iload_1 1 rfl rfl ?_
      refine ws_iconst 2 rfl rfl kc_i5 ?_
      refine ws_invS2p 5 rfl rfl rfl (p1) rfl rfl rfl ?_
      refine ws_if_neb 10 8 rfl rfl rfl (fun h9 => absurd h9 (by first | decide | simp_all)) (fun h9 => ?_)
      refine ws_iconst 9 rfl rfl kc_im1 ?_
      refine ws_iret rfl rfl rfl (Nat.le_of_ble_eq_true rfl) ?_
      exact cQ.sm hC
    · refine xC.mk [some (.ref 42), some (.int x), some (.int y)] rfl ?_
      refine ws_iload_1 1 rfl rfl ?_
      refine ws_invS1p 4 rfl rfl rfl (p2) rfl rfl rfl ?_
      refine ws_if_neb 9 7 rfl rfl rfl (fun h9 => absurd h9 (by first | decide | simp_all)) (fun h9 => ?_)
      refine ws_iconst 8 rfl rfl kc_im1 ?_
      refine ws_iret rfl rfl rfl (Nat.le_of_ble_eq_true rfl) ?_
      exact mQ.sm hR
  | true =>
    rw [hr] at p1 p2
    cases hy : rg 0 18 y with
    | false =>
      rw [hy] at p3 p4
      refine ⟨(-2), s, hs, fun I L hC => ?_, fun I L hR => ?_⟩
      · refine xC.mk [some (.ref 0), some (.int x), some (.int y)] rfl ?_
        refine ws_iload_1 1 rfl rfl ?_
        refine ws_iconst 2 rfl rfl kc_i5 ?_
        refine ws_invS2p 5 rfl rfl rfl (p1) rfl rfl rfl ?_
        refine ws_if_neb 10 8 rfl rfl rfl (fun h9 => ?_) (fun h9 => absurd h9 (by first | decide | simp_all))
        refine ws_iload_2 11 rfl rfl ?_
        refine ws_iconst 12 rfl rfl kc_i0 ?_
        refine ws_bipush 14 rfl rfl kc_b18 ?_
        refine ws_invS3p 17 rfl rfl rfl (p3) rfl rfl rfl ?_
        refine ws_if_neb 23 20 rfl rfl rfl (fun h9 => absurd h9 (by first | decide | simp_all)) (fun h9 => ?_)
        refine ws_bipush 22 rfl rfl kc_bm2 ?_
        refine ws_iret rfl rfl rfl (Nat.le_of_ble_eq_true rfl) ?_
        exact cQ.sm hC
      · refine xC.mk [some (.ref 42), some (.int x), some (.int y)] rfl ?_
        refine ws_iload_1 1 rfl rfl ?_
        refine ws_invS1p 4 rfl rfl rfl (p2) rfl rfl rfl ?_
        refine ws_if_neb 9 7 rfl rfl rfl (fun h9 => ?_) (fun h9 => absurd h9 (by first | decide | simp_all))
        refine ws_iload_2 10 rfl rfl ?_
        refine ws_iconst 11 rfl rfl kc_i0 ?_
        refine ws_bipush 13 rfl rfl kc_b18 ?_
        refine ws_invS3p 16 rfl rfl rfl (p4) rfl rfl rfl ?_
        refine ws_if_neb 22 19 rfl rfl rfl (fun h9 => absurd h9 (by first | decide | simp_all)) (fun h9 => ?_)
        refine ws_bipush 21 rfl rfl kc_bm2 ?_
        refine ws_iret rfl rfl rfl (Nat.le_of_ble_eq_true rfl) ?_
        exact mQ.sm hR
    | true =>
      rw [hy] at p3 p4
      obtain ⟨p, -, hp4, rfl⟩ := rg_nat (a := 0) (b := 4) hr (by omega)
      obtain ⟨n, -, hn, rfl⟩ := rg_nat (a := 0) (b := 18) hy (by omega)
      refine ⟨(nI (dw s.c.A s.c.b p n)), s, hs, fun I L hC => ?_, fun I L hR => ?_⟩
      · refine xC.mk [some (.ref 0), some (.int (nI p)), some (.int (nI n))] rfl ?_
        refine ws_iload_1 1 rfl rfl ?_
        refine ws_iconst 2 rfl rfl kc_i5 ?_
        refine ws_invS2p 5 rfl rfl rfl (p1) rfl rfl rfl ?_
        refine ws_if_neb 10 8 rfl rfl rfl (fun h9 => ?_) (fun h9 => absurd h9 (by first | decide | simp_all))
        refine ws_iload_2 11 rfl rfl ?_
        refine ws_iconst 12 rfl rfl kc_i0 ?_
        refine ws_bipush 14 rfl rfl kc_b18 ?_
        refine ws_invS3p 17 rfl rfl rfl (p3) rfl rfl rfl ?_
        refine ws_if_neb 23 20 rfl rfl rfl (fun h9 => ?_) (fun h9 => absurd h9 (by first | decide | simp_all))
        refine ws_aload_0 24 rfl rfl ?_
        refine ws_getfr 27 rfl rfl rfl rfl rfl ?_
        refine ws_aload_0 28 rfl rfl ?_
        refine ws_getfr 31 rfl rfl rfl rfl rfl ?_
        refine ws_getfr 34 rfl rfl rfl rfl rfl ?_
        refine ws_invV1 37 rfl rfl rfl rfl (k_sb hs hC) rfl rfl rfl ?_
        rintro _ _ ⟨rfl, I1, rfl, hf1, h15, h16⟩
        refine ws_aload_0 38 rfl rfl ?_
        refine ws_getfr 41 rfl rfl rfl rfl rfl ?_
        refine ws_iload_1 42 rfl rfl ?_
        refine ws_iload_2 43 rfl rfl ?_
        refine ws_invV2p 46 rfl rfl rfl rfl (c_pullOn (T := xM0) p n (by omega) (by omega) hs.1.1.1 hs.1.1.2.1 (hs.1.2.2.1 p (by omega)) (h16 p (by omega))) rfl rfl rfl ?_
        refine ws_iret rfl rfl rfl (Nat.le_of_ble_eq_true rfl) ?_
        exact ⟨rfl, I1, L, rfl, hC.scp (fun a ha => hf1 a (by omega) (by omega)), fun a ha => hf1 a (by omega) (by omega)⟩
      · refine xC.mk [some (.ref 42), some (.int (nI p)), some (.int (nI n))] rfl ?_
        refine ws_iload_1 1 rfl rfl ?_
        refine ws_invS1p 4 rfl rfl rfl (p2) rfl rfl rfl ?_
        refine ws_if_neb 9 7 rfl rfl rfl (fun h9 => ?_) (fun h9 => absurd h9 (by first | decide | simp_all))
        refine ws_iload_2 10 rfl rfl ?_
        refine ws_iconst 11 rfl rfl kc_i0 ?_
        refine ws_bipush 13 rfl rfl kc_b18 ?_
        refine ws_invS3p 16 rfl rfl rfl (p4) rfl rfl rfl ?_
        refine ws_if_neb 22 19 rfl rfl rfl (fun h9 => ?_) (fun h9 => absurd h9 (by first | decide | simp_all))
        refine ws_aload_0 23 rfl rfl ?_
        refine ws_invV0 26 rfl rfl rfl rfl (r_look hR) rfl rfl rfl ?_
        rintro _ _ ⟨rfl, I1, rfl, hf1, h53⟩
        have hM := (hR.1.ms hs.1).keep (I' := I1) (fun a a1 a2 => hf1 a (by omega)) (by rw [hf1 42 (by decide)])
        refine ws_aload_0 27 rfl rfl ?_
        refine ws_iload_1 28 rfl rfl ?_
        refine ws_iload_2 29 rfl rfl ?_
        refine ws_invV2p 32 rfl rfl rfl rfl (m_drawsOf (A := s.c.A) (b := s.c.b) p n (by omega) (by omega) hM.1 hM.2.1 hs.1.1.1 hs.1.1.2.1 hs.1.1.2.2.1 hs.1.2.2.1 h53) rfl rfl rfl ?_
        refine ws_iret rfl rfl rfl (Nat.le_of_ble_eq_true rfl) ?_
        exact ⟨rfl, I1, L, rfl, hR.scp (fun a ha => hf1 a (by omega)), fun a ha => hf1 a (by omega)⟩
theorem f_part (x y : Int32) : Fx 58 108 [.int x, .int y] := by
  intro E s hE hs
  have p1 := p_below x 4 3 (by omega) rfl
  have p2 := p_in x (nI 0) (nI 3) 0 3 rfl rfl
  have p3 := p_below y 32 31 (by omega) rfl
  have p4 := p_in y (nI 0) (nI 31) 0 31 rfl rfl
  cases hr : rg 0 3 x with
  | false =>
    rw [hr] at p1 p2
    refine ⟨(-1), s, hs, fun I L hC => ?_, fun I L hR => ?_⟩
    · refine xC.mk [some (.ref 0), some (.int x), some (.int y)] rfl ?_
      refine ws_iload_1 1 rfl rfl ?_
      refine ws_iconst 2 rfl rfl kc_i4 ?_
      refine ws_invS2p 5 rfl rfl rfl (p1) rfl rfl rfl ?_
      refine ws_if_neb 10 8 rfl rfl rfl (fun h9 => absurd h9 (by first | decide | simp_all)) (fun h9 => ?_)
      refine ws_iconst 9 rfl rfl kc_im1 ?_
      refine ws_iret rfl rfl rfl (Nat.le_of_ble_eq_true rfl) ?_
      exact cQ.sm hC
    · refine xC.mk [some (.ref 42), some (.int x), some (.int y)] rfl ?_
      refine ws_iload_1 1 rfl rfl ?_
      refine ws_iconst 2 rfl rfl kc_i0 ?_
      refine ws_iconst 3 rfl rfl kc_i3 ?_
      refine ws_invS3p 6 rfl rfl rfl (p2) rfl rfl rfl ?_
      refine ws_if_neb 11 9 rfl rfl rfl (fun h9 => absurd h9 (by first | decide | simp_all)) (fun h9 => ?_)
      refine ws_iconst 10 rfl rfl kc_im1 ?_
      refine ws_iret rfl rfl rfl (Nat.le_of_ble_eq_true rfl) ?_
      exact mQ.sm hR
  | true =>
    rw [hr] at p1 p2
    cases hy : rg 0 31 y with
    | false =>
      rw [hy] at p3 p4
      refine ⟨(-2), s, hs, fun I L hC => ?_, fun I L hR => ?_⟩
      · refine xC.mk [some (.ref 0), some (.int x), some (.int y)] rfl ?_
        refine ws_iload_1 1 rfl rfl ?_
        refine ws_iconst 2 rfl rfl kc_i4 ?_
        refine ws_invS2p 5 rfl rfl rfl (p1) rfl rfl rfl ?_
        refine ws_if_neb 10 8 rfl rfl rfl (fun h9 => ?_) (fun h9 => absurd h9 (by first | decide | simp_all))
        refine ws_iload_2 11 rfl rfl ?_
        refine ws_bipush 13 rfl rfl kc_b32 ?_
        refine ws_invS2p 16 rfl rfl rfl (p3) rfl rfl rfl ?_
        refine ws_if_neb 22 19 rfl rfl rfl (fun h9 => absurd h9 (by first | decide | simp_all)) (fun h9 => ?_)
        refine ws_bipush 21 rfl rfl kc_bm2 ?_
        refine ws_iret rfl rfl rfl (Nat.le_of_ble_eq_true rfl) ?_
        exact cQ.sm hC
      · refine xC.mk [some (.ref 42), some (.int x), some (.int y)] rfl ?_
        refine ws_iload_1 1 rfl rfl ?_
        refine ws_iconst 2 rfl rfl kc_i0 ?_
        refine ws_iconst 3 rfl rfl kc_i3 ?_
        refine ws_invS3p 6 rfl rfl rfl (p2) rfl rfl rfl ?_
        refine ws_if_neb 11 9 rfl rfl rfl (fun h9 => ?_) (fun h9 => absurd h9 (by first | decide | simp_all))
        refine ws_iload_2 12 rfl rfl ?_
        refine ws_iconst 13 rfl rfl kc_i0 ?_
        refine ws_bipush 15 rfl rfl kc_b31 ?_
        refine ws_invS3p 18 rfl rfl rfl (p4) rfl rfl rfl ?_
        refine ws_if_neb 24 21 rfl rfl rfl (fun h9 => absurd h9 (by first | decide | simp_all)) (fun h9 => ?_)
        refine ws_bipush 23 rfl rfl kc_bm2 ?_
        refine ws_iret rfl rfl rfl (Nat.le_of_ble_eq_true rfl) ?_
        exact mQ.sm hR
    | true =>
      rw [hy] at p3 p4
      obtain ⟨k, -, hk3, rfl⟩ := rg_nat (a := 0) (b := 3) hr (by omega)
      obtain ⟨u, -, hu, rfl⟩ := rg_nat (a := 0) (b := 31) hy (by omega)
      refine ⟨(nI (pt s.c.A s.c.b k 0 (s.c.A 3 (k * 6 + 1)) u)), s, hs, fun I L hC => ?_, fun I L hR => ?_⟩
      · refine xC.mk [some (.ref 0), some (.int (nI k)), some (.int (nI u))] rfl ?_
        refine ws_iload_1 1 rfl rfl ?_
        refine ws_iconst 2 rfl rfl kc_i4 ?_
        refine ws_invS2p 5 rfl rfl rfl (p1) rfl rfl rfl ?_
        refine ws_if_neb 10 8 rfl rfl rfl (fun h9 => ?_) (fun h9 => absurd h9 (by first | decide | simp_all))
        refine ws_iload_2 11 rfl rfl ?_
        refine ws_bipush 13 rfl rfl kc_b32 ?_
        refine ws_invS2p 16 rfl rfl rfl (p3) rfl rfl rfl ?_
        refine ws_if_neb 22 19 rfl rfl rfl (fun h9 => ?_) (fun h9 => absurd h9 (by first | decide | simp_all))
        refine ws_aload_0 23 rfl rfl ?_
        refine ws_getfr 26 rfl rfl rfl rfl rfl ?_
        refine ws_aload_0 27 rfl rfl ?_
        refine ws_getfr 30 rfl rfl rfl rfl rfl ?_
        refine ws_getfr 33 rfl rfl rfl rfl rfl ?_
        refine ws_invV1 36 rfl rfl rfl rfl (k_sb hs hC) rfl rfl rfl ?_
        rintro _ _ ⟨rfl, I1, rfl, hf1, h15, h16⟩
        refine ws_aload_0 37 rfl rfl ?_
        refine ws_getfr 40 rfl rfl rfl rfl rfl ?_
        refine ws_iload_1 41 rfl rfl ?_
        refine ws_iconst 42 rfl rfl kc_i0 ?_
        refine ws_invV2 45 rfl rfl rfl rfl (k_go k (by omega) hs hC hf1 h15 h16) rfl rfl rfl ?_
        rintro _ _ ⟨rfl, I2, rfl, hf2, h18⟩
        have h18u := h18 u (by omega)
        refine ws_aload_0 46 rfl rfl ?_
        refine ws_getfr 49 rfl rfl rfl rfl rfl ?_
        refine ws_getfr 52 rfl rfl rfl rfl rfl ?_
        refine ws_iload_2 53 rfl rfl ?_
        refine ws_ialdn 54 rfl rfl rfl (by omega) (by omega) h18u ?_
        refine ws_iret rfl rfl rfl (Nat.le_of_ble_eq_true rfl) ?_
        exact ⟨rfl, I2, L, rfl, hC.scp (fun a ha => hf2 a (by omega)), fun a ha => hf2 a (by omega)⟩
      · refine xC.mk [some (.ref 42), some (.int (nI k)), some (.int (nI u))] rfl ?_
        refine ws_iload_1 1 rfl rfl ?_
        refine ws_iconst 2 rfl rfl kc_i0 ?_
        refine ws_iconst 3 rfl rfl kc_i3 ?_
        refine ws_invS3p 6 rfl rfl rfl (p2) rfl rfl rfl ?_
        refine ws_if_neb 11 9 rfl rfl rfl (fun h9 => ?_) (fun h9 => absurd h9 (by first | decide | simp_all))
        refine ws_iload_2 12 rfl rfl ?_
        refine ws_iconst 13 rfl rfl kc_i0 ?_
        refine ws_bipush 15 rfl rfl kc_b31 ?_
        refine ws_invS3p 18 rfl rfl rfl (p4) rfl rfl rfl ?_
        refine ws_if_neb 24 21 rfl rfl rfl (fun h9 => ?_) (fun h9 => absurd h9 (by first | decide | simp_all))
        refine ws_aload_0 25 rfl rfl ?_
        refine ws_invV0 28 rfl rfl rfl rfl (r_look hR) rfl rfl rfl ?_
        rintro _ _ ⟨rfl, I1, rfl, hf1, h53⟩
        have hM := (hR.1.ms hs.1).keep (I' := I1) (fun a a1 a2 => hf1 a (by omega)) (by rw [hf1 42 (by decide)])
        refine ws_aload_0 29 rfl rfl ?_
        refine ws_iload_1 30 rfl rfl ?_
        refine ws_iconst 31 rfl rfl kc_i0 ?_
        refine ws_invV2 34 rfl rfl rfl rfl (m_layParts (A := s.c.A) (b := s.c.b) k 0 (by omega) (by omega) hM.1 hM.2.1 hM.2.2.1 hs.1.1.2.2.2.2.1 hs.1.1.1 hs.1.1.2.1 hs.1.1.2.2.1 hs.1.2.2.1 h53) rfl rfl rfl ?_
        rintro _ _ ⟨rfl, I2, rfl, hf2, h56⟩
        have h56u := h56 u (by omega)
        have hf4 : ∀ a, a < 53 ∨ 57 < a → I2 a = I a := fun a ha => by rw [hf2 a (by omega) (by omega) (by omega)]; exact hf1 a (by omega)
        refine ws_aload_0 35 rfl rfl ?_
        refine ws_getfr 38 rfl rfl rfl rfl rfl ?_
        refine ws_iload_2 39 rfl rfl ?_
        refine ws_ialdn 40 rfl rfl rfl (by omega) (by omega) h56u ?_
        refine ws_iret rfl rfl rfl (Nat.le_of_ble_eq_true rfl) ?_
        exact ⟨rfl, I2, L, rfl, hR.scp (fun a ha => hf4 a (by omega)), fun a ha => hf4 a (by omega)⟩
theorem f_seen (x y : Int32) : Fx 59 109 [.int x, .int y] := by
  intro E s hE hs
  have p1 := p_below x 4 3 (by omega) rfl
  have p2 := p_in x (nI 0) (nI 3) 0 3 rfl rfl
  have p3 := p_below5 y
  have p4 := p_isFive y
  cases hr : rg 0 3 x with
  | false =>
    rw [hr] at p1 p2
    refine ⟨(-1), s, hs, fun I L hC => ?_, fun I L hR => ?_⟩
    · refine xC.mk [some (.ref 0), some (.int x), some (.int y)] rfl ?_
      refine ws_iload_1 1 rfl rfl ?_
      refine ws_iconst 2 rfl rfl kc_i4 ?_
      refine ws_invS2p 5 rfl rfl rfl (p1) rfl rfl rfl ?_
      refine ws_if_eqb 16 8 rfl rfl rfl (fun h9 => ?_) (fun h9 => absurd h9 (by first | decide | simp_all))
      refine ws_iconst 17 rfl rfl kc_im1 ?_
      refine ws_iret rfl rfl rfl (Nat.le_of_ble_eq_true rfl) ?_
      exact cQ.sm hC
    · refine xC.mk [some (.ref 42), some (.int x), some (.int y), none, none] rfl ?_
      refine ws_iload_1 1 rfl rfl ?_
      refine ws_iconst 2 rfl rfl kc_i0 ?_
      refine ws_iconst 3 rfl rfl kc_i3 ?_
      refine ws_invS3p 6 rfl rfl rfl (p2) rfl rfl rfl ?_
      refine ws_if_eqb 16 9 rfl rfl rfl (fun h9 => ?_) (fun h9 => absurd h9 (by first | decide | simp_all))
      refine ws_iconst 17 rfl rfl kc_im1 ?_
      refine ws_iret rfl rfl rfl (Nat.le_of_ble_eq_true rfl) ?_
      exact mQ.sm hR
  | true =>
    rw [hr] at p1 p2
    cases hy : rg 0 4 y with
    | false =>
      rw [hy] at p3 p4
      refine ⟨(-1), s, hs, fun I L hC => ?_, fun I L hR => ?_⟩
      · refine xC.mk [some (.ref 0), some (.int x), some (.int y)] rfl ?_
        refine ws_iload_1 1 rfl rfl ?_
        refine ws_iconst 2 rfl rfl kc_i4 ?_
        refine ws_invS2p 5 rfl rfl rfl (p1) rfl rfl rfl ?_
        refine ws_if_eqb 16 8 rfl rfl rfl (fun h9 => absurd h9 (by first | decide | simp_all)) (fun h9 => ?_)
        refine ws_iload_2 9 rfl rfl ?_
        refine ws_iconst 10 rfl rfl kc_i5 ?_
        refine ws_invS2p 13 rfl rfl rfl (p3) rfl rfl rfl ?_
        refine ws_if_neb 18 16 rfl rfl rfl (fun h9 => absurd h9 (by first | decide | simp_all)) (fun h9 => ?_)
        refine ws_iconst 17 rfl rfl kc_im1 ?_
        refine ws_iret rfl rfl rfl (Nat.le_of_ble_eq_true rfl) ?_
        exact cQ.sm hC
      · refine xC.mk [some (.ref 42), some (.int x), some (.int y), none, none] rfl ?_
        refine ws_iload_1 1 rfl rfl ?_
        refine ws_iconst 2 rfl rfl kc_i0 ?_
        refine ws_iconst 3 rfl rfl kc_i3 ?_
        refine ws_invS3p 6 rfl rfl rfl (p2) rfl rfl rfl ?_
        refine ws_if_eqb 16 9 rfl rfl rfl (fun h9 => absurd h9 (by first | decide | simp_all)) (fun h9 => ?_)
        refine ws_iload_2 10 rfl rfl ?_
        refine ws_invS1p 13 rfl rfl rfl (p4) rfl rfl rfl ?_
        refine ws_if_neb 18 16 rfl rfl rfl (fun h9 => absurd h9 (by first | decide | simp_all)) (fun h9 => ?_)
        refine ws_iconst 17 rfl rfl kc_im1 ?_
        refine ws_iret rfl rfl rfl (Nat.le_of_ble_eq_true rfl) ?_
        exact mQ.sm hR
    | true =>
      rw [hy] at p3 p4
      obtain ⟨k, -, hk3, rfl⟩ := rg_nat (a := 0) (b := 3) hr (by omega)
      obtain ⟨t, -, ht, rfl⟩ := rg_nat (a := 0) (b := 4) hy (by omega)
      obtain ⟨P, hP⟩ : ∃ P, P = pt s.c.A s.c.b k 0 (s.c.A 3 (k * 6 + 1)) := ⟨_, rfl⟩
      refine ⟨(nI (sg (fun u => if u / 2 ^ t % 2 = 1 then P u else 0) 0 32)), s, hs, fun I L hC => ?_, fun I L hR => ?_⟩
      · refine xC.mk [some (.ref 0), some (.int (nI k)), some (.int (nI t))] rfl ?_
        refine ws_iload_1 1 rfl rfl ?_
        refine ws_iconst 2 rfl rfl kc_i4 ?_
        refine ws_invS2p 5 rfl rfl rfl (p1) rfl rfl rfl ?_
        refine ws_if_eqb 16 8 rfl rfl rfl (fun h9 => absurd h9 (by first | decide | simp_all)) (fun h9 => ?_)
        refine ws_iload_2 9 rfl rfl ?_
        refine ws_iconst 10 rfl rfl kc_i5 ?_
        refine ws_invS2p 13 rfl rfl rfl (p3) rfl rfl rfl ?_
        refine ws_if_neb 18 16 rfl rfl rfl (fun h9 => ?_) (fun h9 => absurd h9 (by first | decide | simp_all))
        refine ws_aload_0 19 rfl rfl ?_
        refine ws_getfr 22 rfl rfl rfl rfl rfl ?_
        refine ws_aload_0 23 rfl rfl ?_
        refine ws_getfr 26 rfl rfl rfl rfl rfl ?_
        refine ws_getfr 29 rfl rfl rfl rfl rfl ?_
        refine ws_invV1 32 rfl rfl rfl rfl (k_sb hs hC) rfl rfl rfl ?_
        rintro _ _ ⟨rfl, I1, rfl, hf1, h15, h16⟩
        refine ws_aload_0 33 rfl rfl ?_
        refine ws_getfr 36 rfl rfl rfl rfl rfl ?_
        refine ws_iload_1 37 rfl rfl ?_
        refine ws_iconst 38 rfl rfl kc_i0 ?_
        refine ws_invV2 41 rfl rfl rfl rfl (k_go k (by omega) hs hC hf1 h15 h16) rfl rfl rfl ?_
        rintro _ _ ⟨rfl, I2, rfl, hf2, h18⟩
        rw [← hP] at h18
        refine ws_aload_0 42 rfl rfl ?_
        refine ws_getfr 45 rfl rfl rfl rfl rfl ?_
        refine ws_iload_2 46 rfl rfl ?_
        refine ws_invV1p 49 rfl rfl rfl rfl (c_sawIt (T := xM0) t (by omega) h18) rfl rfl rfl ?_
        refine ws_iret rfl rfl rfl (Nat.le_of_ble_eq_true rfl) ?_
        exact ⟨rfl, I2, L, rfl, hC.scp (fun a ha => hf2 a (by omega)), fun a ha => hf2 a (by omega)⟩
      · refine xC.mk [some (.ref 42), some (.int (nI k)), some (.int (nI t)), none, none] rfl ?_
        refine ws_iload_1 1 rfl rfl ?_
        refine ws_iconst 2 rfl rfl kc_i0 ?_
        refine ws_iconst 3 rfl rfl kc_i3 ?_
        refine ws_invS3p 6 rfl rfl rfl (p2) rfl rfl rfl ?_
        refine ws_if_eqb 16 9 rfl rfl rfl (fun h9 => absurd h9 (by first | decide | simp_all)) (fun h9 => ?_)
        refine ws_iload_2 10 rfl rfl ?_
        refine ws_invS1p 13 rfl rfl rfl (p4) rfl rfl rfl ?_
        refine ws_if_neb 18 16 rfl rfl rfl (fun h9 => ?_) (fun h9 => absurd h9 (by first | decide | simp_all))
        refine ws_aload_0 19 rfl rfl ?_
        refine ws_invV0 22 rfl rfl rfl rfl (r_look hR) rfl rfl rfl ?_
        rintro _ _ ⟨rfl, I1, rfl, hf1, h53⟩
        have hM := (hR.1.ms hs.1).keep (I' := I1) (fun a a1 a2 => hf1 a (by omega)) (by rw [hf1 42 (by decide)])
        refine ws_aload_0 23 rfl rfl ?_
        refine ws_iload_1 24 rfl rfl ?_
        refine ws_iconst 25 rfl rfl kc_i0 ?_
        refine ws_invV2 28 rfl rfl rfl rfl (m_layParts (A := s.c.A) (b := s.c.b) k 0 (by omega) (by omega) hM.1 hM.2.1 hM.2.2.1 hs.1.1.2.2.2.2.1 hs.1.1.1 hs.1.1.2.1 hs.1.1.2.2.1 hs.1.2.2.1 h53) rfl rfl rfl ?_
        rintro _ _ ⟨rfl, I2, rfl, hf2, h56⟩
        rw [← hP] at h56
        have hf4 : ∀ a, a < 53 ∨ 57 < a → I2 a = I a := fun a ha => by rw [hf2 a (by omega) (by omega) (by omega)]; exact hf1 a (by omega)
        have loop : ∀ (m u : Nat), u + m = 32 → xW E 20 109 33 [some (.ref 42), some (.int (nI k)), some (.int (nI t)), some (.int (nI (sg (fun u => if u / 2 ^ t % 2 = 1 then P u else 0) 0 u))), some (.int (nI u))] [] (xS, I2, L) 0 0 (mQ I s (.int (nI (sg (fun u => if u / 2 ^ t % 2 = 1 then P u else 0) 0 32)))) := by
          intro m
          induction m with
          | zero =>
            intro u hu
            obtain rfl : u = 32 := by omega
            refine ws_iload_4 35 rfl rfl ?_
            refine ws_bipush 37 rfl rfl kc_b32 ?_
            refine ws_icmp_gen 70 40 rfl rfl rfl (by omega) (by omega) (fun h9 => ?_) (fun h9 => absurd h9 (by omega))
            refine ws_iload_3 71 rfl rfl ?_
            refine ws_iret rfl rfl rfl (Nat.le_of_ble_eq_true rfl) ?_
            exact ⟨rfl, I2, L, rfl, hR.scp (fun a ha => hf4 a (by omega)), fun a ha => hf4 a (by omega)⟩
          | succ m ih =>
            intro u hu
            have h56u := h56 u (by omega)
            have e : nI (u / 2 ^ t) &&& nI 1 = nI (u / 2 ^ t % 2) := by rw [kn_and, Nat.and_one_is_mod]
            have ih' := ih (u + 1) (by omega)
            rw [show sg (fun u => if u / 2 ^ t % 2 = 1 then P u else 0) 0 (u + 1) = sg (fun u => if u / 2 ^ t % 2 = 1 then P u else 0) 0 u + (if u / 2 ^ t % 2 = 1 then P u else 0) by rw [sg, Nat.zero_add]] at ih'
            refine ws_iload_4 35 rfl rfl ?_
            refine ws_bipush 37 rfl rfl kc_b32 ?_
            refine ws_icmp_gen 70 40 rfl rfl rfl (by omega) (by omega) (fun h9 => absurd h9 (by omega)) (fun h9 => ?_)
            refine ws_iload_3 41 rfl rfl ?_
            refine ws_iload_4 43 rfl rfl ?_
            refine ws_iload_2 44 rfl rfl ?_
            refine ws_ishr 45 rfl rfl (kn_shr (by omega) (by omega)) ?_
            refine ws_iconst 46 rfl rfl kc_i1 ?_
            refine ws_iand 47 rfl rfl e ?_
            refine ws_iconst 48 rfl rfl kc_i1 ?_
            refine ws_icmp_nen 61 51 rfl rfl rfl (by omega) (by omega) (fun c1 => ?_) (fun c1 => ?_)
            · rw [if_neg c1] at ih'
              refine ws_iconst 62 rfl rfl kc_i0 ?_
              refine ws_iadd 63 rfl rfl (nI_add _ _) ?_
              refine ws_istore_3 64 rfl rfl rfl rfl ?_
              refine ws_iinc_4 67 rfl rfl (ki_1 _) rfl rfl ?_
              refine ws_goto 33 rfl rfl ?_
              exact ih'
            · rw [if_pos (by omega)] at ih'
              refine ws_aload_0 52 rfl rfl ?_
              refine ws_getfr 55 rfl rfl rfl rfl rfl ?_
              refine ws_iload_4 57 rfl rfl ?_
              refine ws_ialdn 58 rfl rfl rfl (by omega) (by omega) h56u ?_
              refine ws_goto 62 rfl rfl ?_
              refine ws_iadd 63 rfl rfl (nI_add _ _) ?_
              refine ws_istore_3 64 rfl rfl rfl rfl ?_
              refine ws_iinc_4 67 rfl rfl (ki_1 _) rfl rfl ?_
              refine ws_goto 33 rfl rfl ?_
              exact ih'
        refine ws_iconst 29 rfl rfl kc_i0 ?_
        refine ws_istore_3 30 rfl rfl rfl rfl ?_
        refine ws_iconst 31 rfl rfl kc_i0 ?_
        refine ws_istore_4 33 rfl rfl rfl rfl ?_
        exact loop 32 0 rfl
theorem f_does (x y : Int32) : Fx 60 113 [.int x, .int y] := by
  intro E s hE hs
  have p1 := p_below x 4 3 (by omega) rfl
  have p2 := p_in x (nI 0) (nI 3) 0 3 rfl rfl
  have p3 := p_below y 3 2 (by omega) rfl
  have p4 := p_in y (nI 0) (nI 2) 0 2 rfl rfl
  cases hr : rg 0 3 x with
  | false =>
    rw [hr] at p1 p2
    refine ⟨(-1), s, hs, fun I L hC => ?_, fun I L hR => ?_⟩
    · refine xC.mk [some (.ref 0), some (.int x), some (.int y)] rfl ?_
      refine ws_iload_1 1 rfl rfl ?_
      refine ws_iconst 2 rfl rfl kc_i4 ?_
      refine ws_invS2p 5 rfl rfl rfl (p1) rfl rfl rfl ?_
      refine ws_if_neb 10 8 rfl rfl rfl (fun h9 => absurd h9 (by first | decide | simp_all)) (fun h9 => ?_)
      refine ws_iconst 9 rfl rfl kc_im1 ?_
      refine ws_iret rfl rfl rfl (Nat.le_of_ble_eq_true rfl) ?_
      exact cQ.sm hC
    · refine xC.mk [some (.ref 42), some (.int x), some (.int y)] rfl ?_
      refine ws_iload_1 1 rfl rfl ?_
      refine ws_iconst 2 rfl rfl kc_i0 ?_
      refine ws_iconst 3 rfl rfl kc_i3 ?_
      refine ws_invS3p 6 rfl rfl rfl (p2) rfl rfl rfl ?_
      refine ws_if_neb 11 9 rfl rfl rfl (fun h9 => absurd h9 (by first | decide | simp_all)) (fun h9 => ?_)
      refine ws_iconst 10 rfl rfl kc_im1 ?_
      refine ws_iret rfl rfl rfl (Nat.le_of_ble_eq_true rfl) ?_
      exact mQ.sm hR
  | true =>
    rw [hr] at p1 p2
    cases hy : rg 0 2 y with
    | false =>
      rw [hy] at p3 p4
      refine ⟨(-2), s, hs, fun I L hC => ?_, fun I L hR => ?_⟩
      · refine xC.mk [some (.ref 0), some (.int x), some (.int y)] rfl ?_
        refine ws_iload_1 1 rfl rfl ?_
        refine ws_iconst 2 rfl rfl kc_i4 ?_
        refine ws_invS2p 5 rfl rfl rfl (p1) rfl rfl rfl ?_
        refine ws_if_neb 10 8 rfl rfl rfl (fun h9 => ?_) (fun h9 => absurd h9 (by first | decide | simp_all))
        refine ws_iload_2 11 rfl rfl ?_
        refine ws_iconst 12 rfl rfl kc_i3 ?_
        refine ws_invS2p 15 rfl rfl rfl (p3) rfl rfl rfl ?_
        refine ws_if_neb 21 18 rfl rfl rfl (fun h9 => absurd h9 (by first | decide | simp_all)) (fun h9 => ?_)
        refine ws_bipush 20 rfl rfl kc_bm2 ?_
        refine ws_iret rfl rfl rfl (Nat.le_of_ble_eq_true rfl) ?_
        exact cQ.sm hC
      · refine xC.mk [some (.ref 42), some (.int x), some (.int y)] rfl ?_
        refine ws_iload_1 1 rfl rfl ?_
        refine ws_iconst 2 rfl rfl kc_i0 ?_
        refine ws_iconst 3 rfl rfl kc_i3 ?_
        refine ws_invS3p 6 rfl rfl rfl (p2) rfl rfl rfl ?_
        refine ws_if_neb 11 9 rfl rfl rfl (fun h9 => ?_) (fun h9 => absurd h9 (by first | decide | simp_all))
        refine ws_iload_2 12 rfl rfl ?_
        refine ws_iconst 13 rfl rfl kc_i0 ?_
        refine ws_iconst 14 rfl rfl kc_i2 ?_
        refine ws_invS3p 17 rfl rfl rfl (p4) rfl rfl rfl ?_
        refine ws_if_neb 23 20 rfl rfl rfl (fun h9 => absurd h9 (by first | decide | simp_all)) (fun h9 => ?_)
        refine ws_bipush 22 rfl rfl kc_bm2 ?_
        refine ws_iret rfl rfl rfl (Nat.le_of_ble_eq_true rfl) ?_
        exact mQ.sm hR
    | true =>
      rw [hy] at p3 p4
      obtain ⟨k, -, hk3, rfl⟩ := rg_nat (a := 0) (b := 3) hr (by omega)
      obtain ⟨w, -, hw, rfl⟩ := rg_nat (a := 0) (b := 2) hy (by omega)
      obtain ⟨P, hP⟩ : ∃ P, P = pt s.c.A s.c.b k 0 (s.c.A 3 (k * 6 + 1)) := ⟨_, rfl⟩
      have hk1 := (hs.1.1.2.2.2.2.1 k (by omega)).2.1.2
      have hP1 : ∀ u, u < 32 → P u ≤ 1000000 := fun u hu => by rw [hP]; exact pt_le hs.1.2.2.1 (by omega) hu
      have hP2 : ∀ u, u < 32 → 4 < pop 5 u → P u = 0 := fun u hu h => by rw [hP]; exact pt_pop hs.1.2.2.1 _ (by omega) u hu (by omega)
      refine ⟨(nI (if w = 0 then sg (soS s.c.A s.c.F P k) 0 32 else if w = 1 then sg (coS s.c.A s.c.F P k) 0 32 else sg (paS s.c.A s.c.F P k) 0 32)), s, hs, fun I L hC => ?_, fun I L hR => ?_⟩
      · refine xC.mk [some (.ref 0), some (.int (nI k)), some (.int (nI w))] rfl ?_
        refine ws_iload_1 1 rfl rfl ?_
        refine ws_iconst 2 rfl rfl kc_i4 ?_
        refine ws_invS2p 5 rfl rfl rfl (p1) rfl rfl rfl ?_
        refine ws_if_neb 10 8 rfl rfl rfl (fun h9 => ?_) (fun h9 => absurd h9 (by first | decide | simp_all))
        refine ws_iload_2 11 rfl rfl ?_
        refine ws_iconst 12 rfl rfl kc_i3 ?_
        refine ws_invS2p 15 rfl rfl rfl (p3) rfl rfl rfl ?_
        refine ws_if_neb 21 18 rfl rfl rfl (fun h9 => ?_) (fun h9 => absurd h9 (by first | decide | simp_all))
        refine ws_aload_0 22 rfl rfl ?_
        refine ws_getfr 25 rfl rfl rfl rfl rfl ?_
        refine ws_aload_0 26 rfl rfl ?_
        refine ws_getfr 29 rfl rfl rfl rfl rfl ?_
        refine ws_getfr 32 rfl rfl rfl rfl rfl ?_
        refine ws_invV1 35 rfl rfl rfl rfl (k_sb hs hC) rfl rfl rfl ?_
        rintro _ _ ⟨rfl, I1, rfl, hf1, h15, h16⟩
        refine ws_aload_0 36 rfl rfl ?_
        refine ws_getfr 39 rfl rfl rfl rfl rfl ?_
        refine ws_iload_1 40 rfl rfl ?_
        refine ws_iconst 41 rfl rfl kc_i0 ?_
        refine ws_invV2 44 rfl rfl rfl rfl (k_go k (by omega) hs hC hf1 h15 h16) rfl rfl rfl ?_
        rintro _ _ ⟨rfl, I2, rfl, hf2, h18⟩
        rw [← hP] at h18
        obtain ⟨s1, s2, s3, s4, s5⟩ := hC.1.sc.keep (I' := I2) (fun a ha => hf2 a (by omega))
        refine ws_aload_0 45 rfl rfl ?_
        refine ws_getfr 48 rfl rfl rfl rfl rfl ?_
        refine ws_iload_1 49 rfl rfl ?_
        refine ws_invV1 52 rfl rfl rfl rfl (c_reckon (T := xM0) (A := s.c.A) (F := s.c.F) k (by omega) s1 s3 s4 s5 hs.1.1.2.2.2.2.1 hs.1.1.2.2.2.2.2 h18 hP1 hP2) rfl rfl rfl ?_
        rintro _ _ ⟨rfl, I3, rfl, hf3, r5, r6, r7⟩
        have hf4 : ∀ a, a < 14 ∨ 18 < a → I3 a = I a := fun a ha => by rw [hf3 a (by omega)]; exact hf2 a (by omega)
        rcases (show w = 0 ∨ w = 1 ∨ w = 2 by omega) with rfl | rfl | rfl
        · refine ws_iload_2 53 rfl rfl ?_
          refine ws_if_nen 66 56 rfl rfl rfl (by omega) (fun h9 => absurd h9 (by omega)) (fun h9 => ?_)
          refine ws_aload_0 57 rfl rfl ?_
          refine ws_getfr 60 rfl rfl rfl rfl rfl ?_
          refine ws_getfi 63 rfl rfl rfl rfl rfl r5 ?_
          refine ws_goto 88 rfl rfl ?_
          refine ws_iret rfl rfl rfl (Nat.le_of_ble_eq_true rfl) ?_
          exact ⟨rfl, I3, L, rfl, hC.scp (fun a ha => hf4 a (by omega)), fun a ha => hf4 a (by omega)⟩
        · refine ws_iload_2 53 rfl rfl ?_
          refine ws_if_nen 66 56 rfl rfl rfl (by omega) (fun h9 => ?_) (fun h9 => absurd h9 (by omega))
          refine ws_iload_2 67 rfl rfl ?_
          refine ws_iconst 68 rfl rfl kc_i1 ?_
          refine ws_icmp_nen 81 71 rfl rfl rfl (by omega) (by omega) (fun h9 => absurd h9 (by omega)) (fun h9 => ?_)
          refine ws_aload_0 72 rfl rfl ?_
          refine ws_getfr 75 rfl rfl rfl rfl rfl ?_
          refine ws_getfi 78 rfl rfl rfl rfl rfl r6 ?_
          refine ws_goto 88 rfl rfl ?_
          refine ws_iret rfl rfl rfl (Nat.le_of_ble_eq_true rfl) ?_
          exact ⟨rfl, I3, L, rfl, hC.scp (fun a ha => hf4 a (by omega)), fun a ha => hf4 a (by omega)⟩
        · refine ws_iload_2 53 rfl rfl ?_
          refine ws_if_nen 66 56 rfl rfl rfl (by omega) (fun h9 => ?_) (fun h9 => absurd h9 (by omega))
          refine ws_iload_2 67 rfl rfl ?_
          refine ws_iconst 68 rfl rfl kc_i1 ?_
          refine ws_icmp_nen 81 71 rfl rfl rfl (by omega) (by omega) (fun h9 => ?_) (fun h9 => absurd h9 (by omega))
          refine ws_aload_0 82 rfl rfl ?_
          refine ws_getfr 85 rfl rfl rfl rfl rfl ?_
          refine ws_getfi 88 rfl rfl rfl rfl rfl r7 ?_
          refine ws_iret rfl rfl rfl (Nat.le_of_ble_eq_true rfl) ?_
          exact ⟨rfl, I3, L, rfl, hC.scp (fun a ha => hf4 a (by omega)), fun a ha => hf4 a (by omega)⟩
      · refine xC.mk [some (.ref 42), some (.int (nI k)), some (.int (nI w))] rfl ?_
        refine ws_iload_1 1 rfl rfl ?_
        refine ws_iconst 2 rfl rfl kc_i0 ?_
        refine ws_iconst 3 rfl rfl kc_i3 ?_
        refine ws_invS3p 6 rfl rfl rfl (p2) rfl rfl rfl ?_
        refine ws_if_neb 11 9 rfl rfl rfl (fun h9 => ?_) (fun h9 => absurd h9 (by first | decide | simp_all))
        refine ws_iload_2 12 rfl rfl ?_
        refine ws_iconst 13 rfl rfl kc_i0 ?_
        refine ws_iconst 14 rfl rfl kc_i2 ?_
        refine ws_invS3p 17 rfl rfl rfl (p4) rfl rfl rfl ?_
        refine ws_if_neb 23 20 rfl rfl rfl (fun h9 => ?_) (fun h9 => absurd h9 (by first | decide | simp_all))
        refine ws_aload_0 24 rfl rfl ?_
        refine ws_invV0 27 rfl rfl rfl rfl (r_laws hs hR) rfl rfl rfl ?_
        rintro _ _ ⟨rfl, I1, L1, rfl, hf1, h58, h59⟩
        have hR1 : RR s I1 := hR.scp (fun a ha => hf1 a (by omega) (by omega))
        refine ws_aload_0 28 rfl rfl ?_
        refine ws_invV0 31 rfl rfl rfl rfl (r_look hR1) rfl rfl rfl ?_
        rintro _ _ ⟨rfl, I2, rfl, hf2, h53⟩
        obtain ⟨hM, hf⟩ := MW.of hs hR hf1 h58 h59 hf2 h53
        obtain ⟨⟨m1, m2, m3, m4, -⟩, g58, g59, g53⟩ := hM
        obtain ⟨⟨o1, o2, o3, o4, o5, o6⟩, ⟨f1, f2, f3, f4⟩, hb, -⟩ := hs.1
        refine ws_aload_0 32 rfl rfl ?_
        refine ws_iload_1 33 rfl rfl ?_
        refine ws_iconst 34 rfl rfl kc_i0 ?_
        refine ws_invV2 37 rfl rfl rfl rfl (m_layDeeds (A := s.c.A) (F := s.c.F) (b := s.c.b) k 0 (by omega) (by omega) m1 m2 m3 m4 g58 g59 f3 f4 o5 o6 o1 o2 o3 o4 hb g53) rfl rfl rfl ?_
        rintro _ _ ⟨rfl, I3, L3, rfl, hf3, -, r5, r6, r7⟩
        rw [← hP] at r5 r6
        have r7 : L3 42 22 = lN (sg (paS s.c.A s.c.F P k) 0 32) := by rw [r7, hP]; rfl
        have hf4 : ∀ a, a < 53 ∨ 59 < a → I3 a = I a := fun a ha => by rw [hf3 a (by omega) (by omega) (by omega)]; exact hf a (by omega) (by omega) (by omega)
        rcases (show w = 0 ∨ w = 1 ∨ w = 2 by omega) with rfl | rfl | rfl
        · refine ws_iload_2 38 rfl rfl ?_
          refine ws_if_nen 48 41 rfl rfl rfl (by omega) (fun h9 => absurd h9 (by omega)) (fun h9 => ?_)
          refine ws_aload_0 42 rfl rfl ?_
          refine ws_getfl 45 rfl rfl rfl rfl rfl r5 ?_
          refine ws_goto 64 rfl rfl ?_
          refine ws_l2i 65 rfl rfl (lN_i _) ?_
          refine ws_iret rfl rfl rfl (Nat.le_of_ble_eq_true rfl) ?_
          exact ⟨rfl, I3, L3, rfl, hR.scp (fun a ha => hf4 a (by omega)), fun a ha => hf4 a (by omega)⟩
        · refine ws_iload_2 38 rfl rfl ?_
          refine ws_if_nen 48 41 rfl rfl rfl (by omega) (fun h9 => ?_) (fun h9 => absurd h9 (by omega))
          refine ws_iload_2 49 rfl rfl ?_
          refine ws_iconst 50 rfl rfl kc_i1 ?_
          refine ws_icmp_nen 60 53 rfl rfl rfl (by omega) (by omega) (fun h9 => absurd h9 (by omega)) (fun h9 => ?_)
          refine ws_aload_0 54 rfl rfl ?_
          refine ws_getfl 57 rfl rfl rfl rfl rfl r6 ?_
          refine ws_goto 64 rfl rfl ?_
          refine ws_l2i 65 rfl rfl (lN_i _) ?_
          refine ws_iret rfl rfl rfl (Nat.le_of_ble_eq_true rfl) ?_
          exact ⟨rfl, I3, L3, rfl, hR.scp (fun a ha => hf4 a (by omega)), fun a ha => hf4 a (by omega)⟩
        · refine ws_iload_2 38 rfl rfl ?_
          refine ws_if_nen 48 41 rfl rfl rfl (by omega) (fun h9 => ?_) (fun h9 => absurd h9 (by omega))
          refine ws_iload_2 49 rfl rfl ?_
          refine ws_iconst 50 rfl rfl kc_i1 ?_
          refine ws_icmp_nen 60 53 rfl rfl rfl (by omega) (by omega) (fun h9 => ?_) (fun h9 => absurd h9 (by omega))
          refine ws_aload_0 61 rfl rfl ?_
          refine ws_getfl 64 rfl rfl rfl rfl rfl r7 ?_
          refine ws_l2i 65 rfl rfl (lN_i _) ?_
          refine ws_iret rfl rfl rfl (Nat.le_of_ble_eq_true rfl) ?_
          exact ⟨rfl, I3, L3, rfl, hR.scp (fun a ha => hf4 a (by omega)), fun a ha => hf4 a (by omega)⟩
