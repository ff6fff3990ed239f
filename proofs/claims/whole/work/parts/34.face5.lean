/-! ===== best, many, rid, exchanges ===== -/
theorem gsel_ex {A : Nat → Nat → Nat} {F : Nat → Nat} {may must : Nat} {o : Option Nat} (c0 : Nat) (hc0 : okC c0) (hf0 : ftC may must o c0 = true) : ∃ c, gsel A F may must o = some c ∧ okC c := by
  obtain ⟨c, hc⟩ := bst_some (ft := ftC may must o) (g := wkc A F) (pq := pqC) c0 hc0.1 hc0.2 hf0
  exact ⟨c, hc, bst_ok hc⟩
theorem ok_0 : okC 0 := ⟨by decide, by decide⟩
theorem ft_0 : ∀ x, x < 32 → ftC x 0 none 0 = true := by decide +kernel
theorem ok_t : ∀ t, t < 5 → okC (t + 1) := fun t ht => ⟨by omega, by
  rcases (show t = 0 ∨ t = 1 ∨ t = 2 ∨ t = 3 ∨ t = 4 by omega) with rfl | rfl | rfl | rfl | rfl <;> decide⟩
theorem ft_t : ∀ t, t < 5 → ftC 31 (2 ^ t) none (t + 1) = true := by decide +kernel
def nC (n : Nat) : Nat := [0, 1, 8, 51, 310, 1865].getD n 0
theorem ok_n : ∀ n, n < 6 → okC (nC n) := fun n hn => ⟨by
  rcases (show n = 0 ∨ n = 1 ∨ n = 2 ∨ n = 3 ∨ n = 4 ∨ n = 5 by omega) with rfl | rfl | rfl | rfl | rfl | rfl <;> decide, by
  rcases (show n = 0 ∨ n = 1 ∨ n = 2 ∨ n = 3 ∨ n = 4 ∨ n = 5 by omega) with rfl | rfl | rfl | rfl | rfl | rfl <;> decide +kernel⟩
theorem ft_n : ∀ n, n < 6 → ftC 31 0 (some n) (nC n) = true := by decide +kernel
section FACE5
variable {E : xEx} {s : xSt} {I : Nat → Nat → Int32} {L : Nat → Nat → Int64}
theorem k_gr (may must : Nat) (o : Option Nat) (ho : ∀ n, o = some n → n ≤ 5) (c0 : Nat) (hc0 : okC c0) (hf0 : ftC may must o c0 = true) (c : Nat) (hc : gsel s.c.A s.c.F may must o = some c) (hs : OK s) (hC : CR s I) : xC E 9 37 [.ref 19, .int (nI may), .int (nI must), .int (szI o)] (xS, I, L) (fun r t => ∃ i, i < 1546 ∧ vcn i = c ∧ r = some (.int (nI i)) ∧ ∃ I', t = (xS, I', L) ∧ CR s I' ∧ RD (wkc s.c.A s.c.F) I' ∧ (∀ a, 42 ≤ a → I' a = I a) ∧ ∀ j, j ≠ 3 → j ≠ 5 → I' 19 j = I 19 j) := by
  refine (c_greatest (T := xM0) may must o ho c0 hc0.1 hc0.2 hf0 hs.1.1 hC.1.sc hC.2.1).mono ?_
  rintro _ _ ⟨i, c', hi, hv, hg, rfl, I', rfl, hf, hR⟩
  rw [hc] at hg
  have e := Option.some.inj hg
  exact ⟨i, hi, by rw [hv, e], rfl, I', rfl, hC.scr (fun a ha => hf.1 a (by omega)) hR.pr, hR, fun a ha => hf.1 a (by omega), hf.2⟩
theorem k_wk (i : Nat) (hi : i < 1546) (hs : OK s) (hC : CR s I) (hR : RD (wkc s.c.A s.c.F) I) : xC E 5 35 [.ref 19, .int (nI i)] (xS, I, L) (fun r t => r = some (.int (nI (wkc s.c.A s.c.F (vcn i)))) ∧ ∃ I', t = (xS, I', L) ∧ CR s I' ∧ RD (wkc s.c.A s.c.F) I' ∧ (∀ a, 42 ≤ a → I' a = I a) ∧ I' 19 = I 19) := by
  refine (c_weekAt (T := xM0) i hi hs.1.1 hC.1.sc hR).mono ?_
  rintro _ _ ⟨rfl, I', rfl, hf, hR'⟩
  exact ⟨rfl, I', rfl, hC.scr (fun a ha => hf a (by omega)) hR'.pr, hR', fun a ha => hf a (by omega), hf 19 (by omega)⟩
theorem k_gw (c : Nat) (hc : gsel s.c.A s.c.F 31 0 none = some c) (hs : OK s) (hC : CR s I) : xC E 10 69 [.ref 0] (xS, I, L) (fun r t => r = some (.int (nI (wkc s.c.A s.c.F c))) ∧ ∃ I', t = (xS, I', L) ∧ CR s I' ∧ (∀ a, 42 ≤ a → I' a = I a) ∧ ∀ j, j ≠ 3 → j ≠ 5 → I' 19 j = I 19 j) := by
  refine xC.mk [some (.ref 0)] rfl ?_
  refine ws_aload_0 1 rfl rfl ?_
  refine ws_getfr 4 rfl rfl rfl rfl rfl ?_
  refine ws_aload_0 5 rfl rfl ?_
  refine ws_getfr 8 rfl rfl rfl rfl rfl ?_
  refine ws_bipush 10 rfl rfl kc_b31 ?_
  refine ws_iconst 11 rfl rfl kc_i0 ?_
  refine ws_bipush 13 rfl rfl kc_bm6 ?_
  refine ws_invV3 16 rfl rfl rfl rfl (k_gr 31 0 none (fun n h => by cases h) 0 ok_0 (ft_0 31 (by omega)) c hc hs hC) rfl rfl rfl ?_
  rintro _ _ ⟨i, hi, hv, rfl, I1, rfl, hC1, hR1, hf1, hj1⟩
  refine ws_invV1 19 rfl rfl rfl rfl (k_wk i hi hs hC1 hR1) rfl rfl rfl ?_
  rintro _ _ ⟨rfl, I2, rfl, hC2, hR2, hf2, hj2⟩
  rw [hv]
  refine ws_iret rfl rfl rfl (Nat.le_of_ble_eq_true rfl) ?_
  exact ⟨rfl, I2, rfl, hC2, fun a ha => by rw [hf2 a ha]; exact hf1 a ha, fun j j1 j2 => by rw [hj2]; exact hj1 j j1 j2⟩
theorem r_be (may must : Nat) (o : Option Nat) (ho : ∀ n, o = some n → n ≤ 5) (c0 : Nat) (hc0 : okC c0) (hf0 : ftC may must o c0 = true) (c : Nat) (hc : gsel s.c.A s.c.F may must o = some c) (hs : OK s) (hR : RR s I) : xC E 7 121 [.ref 42, .int (nI may), .int (nI must), .int (szI o)] (xS, I, L) (fun r t => r = some (.int (nI c)) ∧ ∃ I' L', t = (xS, I', L') ∧ RR s I' ∧ LD (wkc s.c.A s.c.F) I' ∧ (∀ a, a < 42 → I' a = I a)) := by
  refine (m_bestOf may must o ho c0 hc0.1 hc0.2 hf0 hs.1.1 hs.1.2.1 (hR.1.ms hs.1) hR.2.1).mono ?_
  rintro _ _ ⟨c', hg, rfl, I', L', rfl, hf, -, hL⟩
  rw [hc] at hg
  have e := Option.some.inj hg
  exact ⟨by rw [e], I', L', rfl, hR.scr (fun a ha => hf.1 a (by omega)) (hf.2 2 (by decide)) (hf.2 8 (by decide)) (Or.inr hL), hL, fun a ha => hf.1 a (by omega)⟩
end FACE5
theorem f_many (x : Int32) : Fx 64 123 [.int x] := by
  intro E s hE hs
  have p1 := p_between x (nI 0) (nI 5) 0 5 rfl rfl
  have p2 := p_in x (nI 0) (nI 5) 0 5 rfl rfl
  cases hr : rg 0 5 x with
  | false =>
    rw [hr] at p1 p2
    refine ⟨(-2), s, hs, fun I L hC => ?_, fun I L hR => ?_⟩
    · refine xC.mk [some (.ref 0), some (.int x)] rfl ?_
      refine ws_iload_1 1 rfl rfl ?_
      refine ws_iconst 2 rfl rfl kc_i0 ?_
      refine ws_iconst 3 rfl rfl kc_i5 ?_
      refine ws_invS3p 6 rfl rfl rfl (p1) rfl rfl rfl ?_
      refine ws_if_neb 12 9 rfl rfl rfl (fun h9 => absurd h9 (by first | decide | simp_all)) (fun h9 => ?_)
      refine ws_bipush 11 rfl rfl kc_bm2 ?_
      refine ws_iret rfl rfl rfl (Nat.le_of_ble_eq_true rfl) ?_
      exact cQ.sm hC
    · refine xC.mk [some (.ref 42), some (.int x)] rfl ?_
      refine ws_iload_1 1 rfl rfl ?_
      refine ws_iconst 2 rfl rfl kc_i0 ?_
      refine ws_iconst 3 rfl rfl kc_i5 ?_
      refine ws_invS3p 6 rfl rfl rfl (p2) rfl rfl rfl ?_
      refine ws_if_eqb 25 9 rfl rfl rfl (fun h9 => ?_) (fun h9 => absurd h9 (by first | decide | simp_all))
      refine ws_bipush 27 rfl rfl kc_bm2 ?_
      refine ws_iret rfl rfl rfl (Nat.le_of_ble_eq_true rfl) ?_
      exact mQ.sm hR
  | true =>
    rw [hr] at p1 p2
    obtain ⟨n, -, hn, rfl⟩ := rg_nat (a := 0) (b := 5) hr (by omega)
    obtain ⟨c, hc, hcok⟩ := gsel_ex (A := s.c.A) (F := s.c.F) (nC n) (ok_n n (by omega)) (ft_n n (by omega))
    have hc7 := hcok.1
    refine ⟨(nI (wkc s.c.A s.c.F c)), s, hs, fun I L hC => ?_, fun I L hR => ?_⟩
    · refine xC.mk [some (.ref 0), some (.int (nI n))] rfl ?_
      refine ws_iload_1 1 rfl rfl ?_
      refine ws_iconst 2 rfl rfl kc_i0 ?_
      refine ws_iconst 3 rfl rfl kc_i5 ?_
      refine ws_invS3p 6 rfl rfl rfl (p1) rfl rfl rfl ?_
      refine ws_if_neb 12 9 rfl rfl rfl (fun h9 => ?_) (fun h9 => absurd h9 (by first | decide | simp_all))
      refine ws_aload_0 13 rfl rfl ?_
      refine ws_getfr 16 rfl rfl rfl rfl rfl ?_
      refine ws_aload_0 17 rfl rfl ?_
      refine ws_getfr 20 rfl rfl rfl rfl rfl ?_
      refine ws_bipush 22 rfl rfl kc_b31 ?_
      refine ws_iconst 23 rfl rfl kc_i0 ?_
      refine ws_iload_1 24 rfl rfl ?_
      refine ws_invV3 27 rfl rfl rfl rfl (k_gr 31 0 (some n) (fun m h => by cases h; omega) _ (ok_n n (by omega)) (ft_n n (by omega)) c hc hs hC) rfl rfl rfl ?_
      rintro _ _ ⟨i, hi, hv, rfl, I1, rfl, hC1, hR1, hf1, hj1⟩
      refine ws_invV1 30 rfl rfl rfl rfl (k_wk i hi hs hC1 hR1) rfl rfl rfl ?_
      rintro _ _ ⟨rfl, I2, rfl, hC2, hR2, hf2, hj2⟩
      rw [hv]
      refine ws_iret rfl rfl rfl (Nat.le_of_ble_eq_true rfl) ?_
      exact ⟨rfl, I2, L, rfl, hC2, fun a ha => by rw [hf2 a ha]; exact hf1 a ha⟩
    · refine xC.mk [some (.ref 42), some (.int (nI n))] rfl ?_
      refine ws_iload_1 1 rfl rfl ?_
      refine ws_iconst 2 rfl rfl kc_i0 ?_
      refine ws_iconst 3 rfl rfl kc_i5 ?_
      refine ws_invS3p 6 rfl rfl rfl (p2) rfl rfl rfl ?_
      refine ws_if_eqb 25 9 rfl rfl rfl (fun h9 => absurd h9 (by first | decide | simp_all)) (fun h9 => ?_)
      refine ws_aload_0 10 rfl rfl ?_
      refine ws_getfr 13 rfl rfl rfl rfl rfl ?_
      refine ws_aload_0 14 rfl rfl ?_
      refine ws_bipush 16 rfl rfl kc_b31 ?_
      refine ws_iconst 17 rfl rfl kc_i0 ?_
      refine ws_iload_1 18 rfl rfl ?_
      refine ws_invV3 21 rfl rfl rfl rfl (r_be 31 0 (some n) (fun m h => by cases h; omega) _ (ok_n n (by omega)) (ft_n n (by omega)) c hc hs hR) rfl rfl rfl ?_
      rintro _ _ ⟨rfl, I1, L1, rfl, hR1, hL1, hf1⟩
      refine ws_ialdn 22 rfl rfl rfl (by omega) (by omega) (hL1.at hcok) ?_
      refine ws_goto 27 rfl rfl ?_
      refine ws_iret rfl rfl rfl (Nat.le_of_ble_eq_true rfl) ?_
      exact ⟨rfl, I1, L1, rfl, hR1, hf1⟩
theorem f_best (x y : Int32) : Fx 63 122 [.int x, .int y] := by
  intro E s hE hs
  have p1 := p_below x 32 31 (by omega) rfl
  have p2 := p_in x (nI 0) (nI 31) 0 31 rfl rfl
  have p3 := p_below5 y
  have p4 := p_isFive y
  by_cases hy1 : y = -1
  · have hn1 : ¬ ¬ y = -1 := fun q => q hy1
    cases hr : rg 0 31 x with
    | false =>
      rw [hr] at p1 p2
      refine ⟨(-2), s, hs, fun I L hC => ?_, fun I L hR => ?_⟩
      · refine xC.mk [some (.ref 0), some (.int x), some (.int y), none] rfl ?_
        refine ws_iload_2 1 rfl rfl ?_
        refine ws_iconst 2 rfl rfl kc_im1 ?_
        refine ws_icmp_eq 15 5 rfl rfl rfl (fun h9 => ?_) (fun h9 => absurd h9 hn1)
        refine ws_iload_1 16 rfl rfl ?_
        refine ws_bipush 18 rfl rfl kc_b32 ?_
        refine ws_invS2p 21 rfl rfl rfl (p1) rfl rfl rfl ?_
        refine ws_if_neb 27 24 rfl rfl rfl (fun h9 => absurd h9 (by first | decide | simp_all)) (fun h9 => ?_)
        refine ws_bipush 26 rfl rfl kc_bm2 ?_
        refine ws_iret rfl rfl rfl (Nat.le_of_ble_eq_true rfl) ?_
        exact cQ.sm hC
      · refine xC.mk [some (.ref 42), some (.int x), some (.int y), none] rfl ?_
        refine ws_iload_2 1 rfl rfl ?_
        refine ws_iconst 2 rfl rfl kc_im1 ?_
        refine ws_icmp_eq 14 5 rfl rfl rfl (fun h9 => ?_) (fun h9 => absurd h9 hn1)
        refine ws_iload_1 15 rfl rfl ?_
        refine ws_iconst 16 rfl rfl kc_i0 ?_
        refine ws_bipush 18 rfl rfl kc_b31 ?_
        refine ws_invS3p 21 rfl rfl rfl (p2) rfl rfl rfl ?_
        refine ws_if_neb 27 24 rfl rfl rfl (fun h9 => absurd h9 (by first | decide | simp_all)) (fun h9 => ?_)
        refine ws_bipush 26 rfl rfl kc_bm2 ?_
        refine ws_iret rfl rfl rfl (Nat.le_of_ble_eq_true rfl) ?_
        exact mQ.sm hR
    | true =>
      rw [hr] at p1 p2
      obtain ⟨n, -, hn, rfl⟩ := rg_nat (a := 0) (b := 31) hr (by omega)
      obtain ⟨c, hc, hcok⟩ := gsel_ex (A := s.c.A) (F := s.c.F) 0 ok_0 (ft_0 n (by omega))
      have hc7 := hcok.1
      refine ⟨(nI (wkc s.c.A s.c.F c)), s, hs, fun I L hC => ?_, fun I L hR => ?_⟩
      · refine xC.mk [some (.ref 0), some (.int (nI n)), some (.int y), none] rfl ?_
        refine ws_iload_2 1 rfl rfl ?_
        refine ws_iconst 2 rfl rfl kc_im1 ?_
        refine ws_icmp_eq 15 5 rfl rfl rfl (fun h9 => ?_) (fun h9 => absurd h9 hn1)
        refine ws_iload_1 16 rfl rfl ?_
        refine ws_bipush 18 rfl rfl kc_b32 ?_
        refine ws_invS2p 21 rfl rfl rfl (p1) rfl rfl rfl ?_
        refine ws_if_neb 27 24 rfl rfl rfl (fun h9 => ?_) (fun h9 => absurd h9 (by first | decide | simp_all))
        refine ws_aload_0 28 rfl rfl ?_
        refine ws_getfr 31 rfl rfl rfl rfl rfl ?_
        refine ws_iload_1 32 rfl rfl ?_
        refine ws_iconst 33 rfl rfl kc_i0 ?_
        refine ws_bipush 35 rfl rfl kc_bm6 ?_
        refine ws_invV3 38 rfl rfl rfl rfl (k_gr n 0 none (fun m h => by cases h) _ ok_0 (ft_0 n (by omega)) c hc hs hC) rfl rfl rfl ?_
        rintro _ _ ⟨i, hi, hv, rfl, I1, rfl, hC1, hR1, hf1, hj1⟩
        refine ws_istore_3 39 rfl rfl rfl rfl ?_
        refine ws_iload_2 40 rfl rfl ?_
        refine ws_iconst 41 rfl rfl kc_im1 ?_
        refine ws_icmp_ne 55 44 rfl rfl rfl (fun h9 => absurd h9 hn1) (fun h9 => ?_)
        refine ws_aload_0 45 rfl rfl ?_
        refine ws_getfr 48 rfl rfl rfl rfl rfl ?_
        refine ws_iload_3 49 rfl rfl ?_
        refine ws_invV1 52 rfl rfl rfl rfl (k_wk i hi hs hC1 hR1) rfl rfl rfl ?_
        rintro _ _ ⟨rfl, I2, rfl, hC2, hR2, hf2, hj2⟩
        rw [hv]
        refine ws_goto 64 rfl rfl ?_
        refine ws_iret rfl rfl rfl (Nat.le_of_ble_eq_true rfl) ?_
        exact ⟨rfl, I2, L, rfl, hC2, fun a ha => by rw [hf2 a ha]; exact hf1 a ha⟩
      · refine xC.mk [some (.ref 42), some (.int (nI n)), some (.int y), none] rfl ?_
        refine ws_iload_2 1 rfl rfl ?_
        refine ws_iconst 2 rfl rfl kc_im1 ?_
        refine ws_icmp_eq 14 5 rfl rfl rfl (fun h9 => ?_) (fun h9 => absurd h9 hn1)
        refine ws_iload_1 15 rfl rfl ?_
        refine ws_iconst 16 rfl rfl kc_i0 ?_
        refine ws_bipush 18 rfl rfl kc_b31 ?_
        refine ws_invS3p 21 rfl rfl rfl (p2) rfl rfl rfl ?_
        refine ws_if_neb 27 24 rfl rfl rfl (fun h9 => ?_) (fun h9 => absurd h9 (by first | decide | simp_all))
        refine ws_aload_0 28 rfl rfl ?_
        refine ws_iload_1 29 rfl rfl ?_
        refine ws_iconst 30 rfl rfl kc_i0 ?_
        refine ws_bipush 32 rfl rfl kc_bm6 ?_
        refine ws_invV3 35 rfl rfl rfl rfl (r_be n 0 none (fun m h => by cases h) _ ok_0 (ft_0 n (by omega)) c hc hs hR) rfl rfl rfl ?_
        rintro _ _ ⟨rfl, I1, L1, rfl, hR1, hL1, hf1⟩
        refine ws_istore_3 36 rfl rfl rfl rfl ?_
        refine ws_iload_2 37 rfl rfl ?_
        refine ws_iconst 38 rfl rfl kc_im1 ?_
        refine ws_icmp_ne 50 41 rfl rfl rfl (fun h9 => absurd h9 hn1) (fun h9 => ?_)
        refine ws_aload_0 42 rfl rfl ?_
        refine ws_getfr 45 rfl rfl rfl rfl rfl ?_
        refine ws_iload_3 46 rfl rfl ?_
        refine ws_ialdn 47 rfl rfl rfl (by omega) (by omega) (hL1.at hcok) ?_
        refine ws_goto 70 rfl rfl ?_
        refine ws_iret rfl rfl rfl (Nat.le_of_ble_eq_true rfl) ?_
        exact ⟨rfl, I1, L1, rfl, hR1, hf1⟩
  · cases hy : rg 0 4 y with
    | false =>
      rw [hy] at p3 p4
      refine ⟨(-1), s, hs, fun I L hC => ?_, fun I L hR => ?_⟩
      · refine xC.mk [some (.ref 0), some (.int x), some (.int y), none] rfl ?_
        refine ws_iload_2 1 rfl rfl ?_
        refine ws_iconst 2 rfl rfl kc_im1 ?_
        refine ws_icmp_eq 15 5 rfl rfl rfl (fun h9 => absurd h9 hy1) (fun h9 => ?_)
        refine ws_iload_2 6 rfl rfl ?_
        refine ws_iconst 7 rfl rfl kc_i5 ?_
        refine ws_invS2p 10 rfl rfl rfl (p3) rfl rfl rfl ?_
        refine ws_if_neb 15 13 rfl rfl rfl (fun h9 => absurd h9 (by first | decide | simp_all)) (fun h9 => ?_)
        refine ws_iconst 14 rfl rfl kc_im1 ?_
        refine ws_iret rfl rfl rfl (Nat.le_of_ble_eq_true rfl) ?_
        exact cQ.sm hC
      · refine xC.mk [some (.ref 42), some (.int x), some (.int y), none] rfl ?_
        refine ws_iload_2 1 rfl rfl ?_
        refine ws_iconst 2 rfl rfl kc_im1 ?_
        refine ws_icmp_eq 14 5 rfl rfl rfl (fun h9 => absurd h9 hy1) (fun h9 => ?_)
        refine ws_iload_2 6 rfl rfl ?_
        refine ws_invS1p 9 rfl rfl rfl (p4) rfl rfl rfl ?_
        refine ws_if_neb 14 12 rfl rfl rfl (fun h9 => absurd h9 (by first | decide | simp_all)) (fun h9 => ?_)
        refine ws_iconst 13 rfl rfl kc_im1 ?_
        refine ws_iret rfl rfl rfl (Nat.le_of_ble_eq_true rfl) ?_
        exact mQ.sm hR
    | true =>
      rw [hy] at p3 p4
      cases hr : rg 0 31 x with
      | false =>
        rw [hr] at p1 p2
        refine ⟨(-2), s, hs, fun I L hC => ?_, fun I L hR => ?_⟩
        · refine xC.mk [some (.ref 0), some (.int x), some (.int y), none] rfl ?_
          refine ws_iload_2 1 rfl rfl ?_
          refine ws_iconst 2 rfl rfl kc_im1 ?_
          refine ws_icmp_eq 15 5 rfl rfl rfl (fun h9 => absurd h9 hy1) (fun h9 => ?_)
          refine ws_iload_2 6 rfl rfl ?_
          refine ws_iconst 7 rfl rfl kc_i5 ?_
          refine ws_invS2p 10 rfl rfl rfl (p3) rfl rfl rfl ?_
          refine ws_if_neb 15 13 rfl rfl rfl (fun h9 => ?_) (fun h9 => absurd h9 (by first | decide | simp_all))
          refine ws_iload_1 16 rfl rfl ?_
          refine ws_bipush 18 rfl rfl kc_b32 ?_
          refine ws_invS2p 21 rfl rfl rfl (p1) rfl rfl rfl ?_
          refine ws_if_neb 27 24 rfl rfl rfl (fun h9 => absurd h9 (by first | decide | simp_all)) (fun h9 => ?_)
          refine ws_bipush 26 rfl rfl kc_bm2 ?_
          refine ws_iret rfl rfl rfl (Nat.le_of_ble_eq_true rfl) ?_
          exact cQ.sm hC
        · refine xC.mk [some (.ref 42), some (.int x), some (.int y), none] rfl ?_
          refine ws_iload_2 1 rfl rfl ?_
          refine ws_iconst 2 rfl rfl kc_im1 ?_
          refine ws_icmp_eq 14 5 rfl rfl rfl (fun h9 => absurd h9 hy1) (fun h9 => ?_)
          refine ws_iload_2 6 rfl rfl ?_
          refine ws_invS1p 9 rfl rfl rfl (p4) rfl rfl rfl ?_
          refine ws_if_neb 14 12 rfl rfl rfl (fun h9 => ?_) (fun h9 => absurd h9 (by first | decide | simp_all))
          refine ws_iload_1 15 rfl rfl ?_
          refine ws_iconst 16 rfl rfl kc_i0 ?_
          refine ws_bipush 18 rfl rfl kc_b31 ?_
          refine ws_invS3p 21 rfl rfl rfl (p2) rfl rfl rfl ?_
          refine ws_if_neb 27 24 rfl rfl rfl (fun h9 => absurd h9 (by first | decide | simp_all)) (fun h9 => ?_)
          refine ws_bipush 26 rfl rfl kc_bm2 ?_
          refine ws_iret rfl rfl rfl (Nat.le_of_ble_eq_true rfl) ?_
          exact mQ.sm hR
      | true =>
        rw [hr] at p1 p2
        obtain ⟨n, -, hn, rfl⟩ := rg_nat (a := 0) (b := 31) hr (by omega)
        obtain ⟨p, -, hp, rfl⟩ := rg_nat (a := 0) (b := 4) hy (by omega)
        obtain ⟨c, hc, hcok⟩ := gsel_ex (A := s.c.A) (F := s.c.F) 0 ok_0 (ft_0 n (by omega))
        have hc7 := hcok.1
        refine ⟨(rw6 (dg c p)), s, hs, fun I L hC => ?_, fun I L hR => ?_⟩
        · refine xC.mk [some (.ref 0), some (.int (nI n)), some (.int (nI p)), none] rfl ?_
          refine ws_iload_2 1 rfl rfl ?_
          refine ws_iconst 2 rfl rfl kc_im1 ?_
          refine ws_icmp_eq 15 5 rfl rfl rfl (fun h9 => absurd h9 hy1) (fun h9 => ?_)
          refine ws_iload_2 6 rfl rfl ?_
          refine ws_iconst 7 rfl rfl kc_i5 ?_
          refine ws_invS2p 10 rfl rfl rfl (p3) rfl rfl rfl ?_
          refine ws_if_neb 15 13 rfl rfl rfl (fun h9 => ?_) (fun h9 => absurd h9 (by first | decide | simp_all))
          refine ws_iload_1 16 rfl rfl ?_
          refine ws_bipush 18 rfl rfl kc_b32 ?_
          refine ws_invS2p 21 rfl rfl rfl (p1) rfl rfl rfl ?_
          refine ws_if_neb 27 24 rfl rfl rfl (fun h9 => ?_) (fun h9 => absurd h9 (by first | decide | simp_all))
          refine ws_aload_0 28 rfl rfl ?_
          refine ws_getfr 31 rfl rfl rfl rfl rfl ?_
          refine ws_iload_1 32 rfl rfl ?_
          refine ws_iconst 33 rfl rfl kc_i0 ?_
          refine ws_bipush 35 rfl rfl kc_bm6 ?_
          refine ws_invV3 38 rfl rfl rfl rfl (k_gr n 0 none (fun m h => by cases h) _ ok_0 (ft_0 n (by omega)) c hc hs hC) rfl rfl rfl ?_
          rintro _ _ ⟨i, hi, hv, rfl, I1, rfl, hC1, hR1, hf1, hj1⟩
          have ct := c_thingAt (E := E) (T := xM0) (L := L) i p hi (by omega) (hR1.num hi).1
          rw [hv] at ct
          refine ws_istore_3 39 rfl rfl rfl rfl ?_
          refine ws_iload_2 40 rfl rfl ?_
          refine ws_iconst 41 rfl rfl kc_im1 ?_
          refine ws_icmp_ne 55 44 rfl rfl rfl (fun h9 => ?_) (fun h9 => absurd h9 hy1)
          refine ws_aload_0 56 rfl rfl ?_
          refine ws_getfr 59 rfl rfl rfl rfl rfl ?_
          refine ws_iload_3 60 rfl rfl ?_
          refine ws_iload_2 61 rfl rfl ?_
          refine ws_invV2p 64 rfl rfl rfl rfl (ct) rfl rfl rfl ?_
          refine ws_iret rfl rfl rfl (Nat.le_of_ble_eq_true rfl) ?_
          exact ⟨rfl, I1, L, rfl, hC1, hf1⟩
        · refine xC.mk [some (.ref 42), some (.int (nI n)), some (.int (nI p)), none] rfl ?_
          refine ws_iload_2 1 rfl rfl ?_
          refine ws_iconst 2 rfl rfl kc_im1 ?_
          refine ws_icmp_eq 14 5 rfl rfl rfl (fun h9 => absurd h9 hy1) (fun h9 => ?_)
          refine ws_iload_2 6 rfl rfl ?_
          refine ws_invS1p 9 rfl rfl rfl (p4) rfl rfl rfl ?_
          refine ws_if_neb 14 12 rfl rfl rfl (fun h9 => ?_) (fun h9 => absurd h9 (by first | decide | simp_all))
          refine ws_iload_1 15 rfl rfl ?_
          refine ws_iconst 16 rfl rfl kc_i0 ?_
          refine ws_bipush 18 rfl rfl kc_b31 ?_
          refine ws_invS3p 21 rfl rfl rfl (p2) rfl rfl rfl ?_
          refine ws_if_neb 27 24 rfl rfl rfl (fun h9 => ?_) (fun h9 => absurd h9 (by first | decide | simp_all))
          refine ws_aload_0 28 rfl rfl ?_
          refine ws_iload_1 29 rfl rfl ?_
          refine ws_iconst 30 rfl rfl kc_i0 ?_
          refine ws_bipush 32 rfl rfl kc_bm6 ?_
          refine ws_invV3 35 rfl rfl rfl rfl (r_be n 0 none (fun m h => by cases h) _ ok_0 (ft_0 n (by omega)) c hc hs hR) rfl rfl rfl ?_
          rintro _ _ ⟨rfl, I1, L1, rfl, hR1, hL1, hf1⟩
          have pd := p_digit c p hcok.1 (by omega)
          have hd5 := dg_le c p
          by_cases h0 : dg c p = 0
          · rw [rw6_0 h0]
            refine ws_istore_3 36 rfl rfl rfl rfl ?_
            refine ws_iload_2 37 rfl rfl ?_
            refine ws_iconst 38 rfl rfl kc_im1 ?_
            refine ws_icmp_ne 50 41 rfl rfl rfl (fun h9 => ?_) (fun h9 => absurd h9 hy1)
            refine ws_iload_3 51 rfl rfl ?_
            refine ws_iload_2 52 rfl rfl ?_
            refine ws_invS2p 55 rfl rfl rfl (pd) rfl rfl rfl ?_
            refine ws_if_nen 63 58 rfl rfl rfl (by omega) (fun h9 => absurd h9 (by omega)) (fun h9 => ?_)
            refine ws_bipush 60 rfl rfl kc_bm6 ?_
            refine ws_goto 70 rfl rfl ?_
            refine ws_iret rfl rfl rfl (Nat.le_of_ble_eq_true rfl) ?_
            exact ⟨rfl, I1, L1, rfl, hR1, hf1⟩
          · rw [rw6_1 h0]
            refine ws_istore_3 36 rfl rfl rfl rfl ?_
            refine ws_iload_2 37 rfl rfl ?_
            refine ws_iconst 38 rfl rfl kc_im1 ?_
            refine ws_icmp_ne 50 41 rfl rfl rfl (fun h9 => ?_) (fun h9 => absurd h9 hy1)
            refine ws_iload_3 51 rfl rfl ?_
            refine ws_iload_2 52 rfl rfl ?_
            refine ws_invS2p 55 rfl rfl rfl (pd) rfl rfl rfl ?_
            refine ws_if_nen 63 58 rfl rfl rfl (by omega) (fun h9 => ?_) (fun h9 => absurd h9 (by omega))
            refine ws_iload_3 64 rfl rfl ?_
            refine ws_iload_2 65 rfl rfl ?_
            refine ws_invS2p 68 rfl rfl rfl (pd) rfl rfl rfl ?_
            refine ws_iconst 69 rfl rfl kc_i1 ?_
            refine ws_isub 70 rfl rfl (pk_sub (by omega)) ?_
            refine ws_iret rfl rfl rfl (Nat.le_of_ble_eq_true rfl) ?_
            exact ⟨rfl, I1, L1, rfl, hR1, hf1⟩
theorem f_rid (x y : Int32) : Fx 66 128 [.int x, .int y] := by
  intro E s hE hs
  have p1 := p_below5 x
  have p2 := p_isFive x
  have p3 := p_below5 y
  have p4 := p_isFive y
  have m12 : ¬ (-1 : Int32) = -2 := by decide
  cases hr : rg 0 4 x with
  | false =>
    rw [hr] at p1 p2
    refine ⟨(-1), s, hs, fun I L hC => ?_, fun I L hR => ?_⟩
    · refine xC.mk [some (.ref 0), some (.int x), some (.int y), none, none, none] rfl ?_
      have go : ∀ q : Nat, q ≤ 1 → xW E 20 66 16 [some (.ref 0), some (.int x), some (.int y), none, none, none] [.int (nI q)] (xS, I, L) 0 0 (cQ I s (.int (-1))) := by
        intro q hq
        refine ws_istore_3 17 rfl rfl rfl rfl ?_
        refine ws_iload_1 18 rfl rfl ?_
        refine ws_iconst 19 rfl rfl kc_i5 ?_
        refine ws_invS2p 22 rfl rfl rfl (p1) rfl rfl rfl ?_
        refine ws_if_eqb 37 25 rfl rfl rfl (fun h9 => ?_) (fun h9 => absurd h9 (by first | decide | simp_all))
        refine ws_iconst 38 rfl rfl kc_im1 ?_
        refine ws_iret rfl rfl rfl (Nat.le_of_ble_eq_true rfl) ?_
        exact cQ.sm hC
      by_cases y1 : y = -1
      · refine ws_iload_2 1 rfl rfl ?_
        refine ws_iconst 2 rfl rfl kc_im1 ?_
        refine ws_icmp_eq 11 5 rfl rfl rfl (fun h9 => ?_) (fun h9 => absurd h9 (not_not_intro y1))
        refine ws_iconst 12 rfl rfl kc_i1 ?_
        refine ws_goto 16 rfl rfl ?_
        exact go 1 (by omega)
      · by_cases y2 : y = -2
        · refine ws_iload_2 1 rfl rfl ?_
          refine ws_iconst 2 rfl rfl kc_im1 ?_
          refine ws_icmp_eq 11 5 rfl rfl rfl (fun h9 => absurd h9 y1) (fun h9 => ?_)
          refine ws_iload_2 6 rfl rfl ?_
          refine ws_bipush 8 rfl rfl kc_bm2 ?_
          refine ws_icmp_ne 15 11 rfl rfl rfl (fun h9 => absurd h9 (not_not_intro y2)) (fun h9 => ?_)
          refine ws_iconst 12 rfl rfl kc_i1 ?_
          refine ws_goto 16 rfl rfl ?_
          exact go 1 (by omega)
        · refine ws_iload_2 1 rfl rfl ?_
          refine ws_iconst 2 rfl rfl kc_im1 ?_
          refine ws_icmp_eq 11 5 rfl rfl rfl (fun h9 => absurd h9 y1) (fun h9 => ?_)
          refine ws_iload_2 6 rfl rfl ?_
          refine ws_bipush 8 rfl rfl kc_bm2 ?_
          refine ws_icmp_ne 15 11 rfl rfl rfl (fun h9 => ?_) (fun h9 => absurd h9 y2)
          refine ws_iconst 16 rfl rfl kc_i0 ?_
          exact go 0 (by omega)
    · refine xC.mk [some (.ref 42), some (.int x), some (.int y), none] rfl ?_
      refine ws_iload_1 1 rfl rfl ?_
      refine ws_invS1p 4 rfl rfl rfl (p2) rfl rfl rfl ?_
      refine ws_if_eqb 25 7 rfl rfl rfl (fun h9 => ?_) (fun h9 => absurd h9 (by first | decide | simp_all))
      refine ws_iconst 26 rfl rfl kc_im1 ?_
      refine ws_iret rfl rfl rfl (Nat.le_of_ble_eq_true rfl) ?_
      exact mQ.sm hR
  | true =>
    rw [hr] at p1 p2
    obtain ⟨t, -, ht, rfl⟩ := rg_nat (a := 0) (b := 4) hr (by omega)
    have hpw : 1 * 2 ^ t < 4294967296 := by
      have : 2 ^ t ≤ 2 ^ 4 := Nat.pow_le_pow_right (by omega) (by omega)
      omega
    obtain ⟨c, hc, hcok⟩ := gsel_ex (A := s.c.A) (F := s.c.F) (t + 1) (ok_t t (by omega)) (ft_t t (by omega))
    obtain ⟨c1, hc1, hc1ok⟩ := gsel_ex (A := s.c.A) (F := s.c.F) 0 ok_0 (ft_0 31 (by omega))
    have hc7 := hcok.1
    have hc17 := hc1ok.1
    have fig : y = -1 ∨ y = -2 → ∀ (I : Nat → Nat → Int32) (L : Nat → Nat → Int64), CR s I → xC E 20 66 [.ref 0, .int (nI t), .int y] (xS, I, L) (cQ I s (.int (if y = -1 then nI (wkc s.c.A s.c.F c) else nI (wkc s.c.A s.c.F c1) - nI (wkc s.c.A s.c.F c)))) := by
      intro hy I L hC
      refine xC.mk [some (.ref 0), some (.int (nI t)), some (.int y), none, none, none] rfl ?_
      have go : xW E 20 66 16 [some (.ref 0), some (.int (nI t)), some (.int y), none, none, none] [.int (nI 1)] (xS, I, L) 0 0 (cQ I s (.int (if y = -1 then nI (wkc s.c.A s.c.F c) else nI (wkc s.c.A s.c.F c1) - nI (wkc s.c.A s.c.F c)))) := by
        refine ws_istore_3 17 rfl rfl rfl rfl ?_
        refine ws_iload_1 18 rfl rfl ?_
        refine ws_iconst 19 rfl rfl kc_i5 ?_
        refine ws_invS2p 22 rfl rfl rfl (p1) rfl rfl rfl ?_
        refine ws_if_eqb 37 25 rfl rfl rfl (fun h9 => absurd h9 (by first | decide | simp_all)) (fun h9 => ?_)
        refine ws_iload_3 26 rfl rfl ?_
        refine ws_if_nen 39 29 rfl rfl rfl (by omega) (fun h9 => ?_) (fun h9 => absurd h9 (by omega))
        refine ws_aload_0 40 rfl rfl ?_
        refine ws_getfr 43 rfl rfl rfl rfl rfl ?_
        refine ws_bipush 45 rfl rfl kc_b31 ?_
        refine ws_iconst 46 rfl rfl kc_i1 ?_
        refine ws_iload_1 47 rfl rfl ?_
        refine ws_ishl 48 rfl rfl (kn_shl (by omega) hpw) ?_
        rw [Nat.one_mul]
        refine ws_bipush 50 rfl rfl kc_bm6 ?_
        refine ws_invV3 53 rfl rfl rfl rfl (k_gr 31 (2 ^ t) none (fun m h => by cases h) _ (ok_t t (by omega)) (ft_t t (by omega)) c hc hs hC) rfl rfl rfl ?_
        rintro _ _ ⟨i, hi, hv, rfl, I1, rfl, hC1, hR1, hf1, hj1⟩
        refine ws_istore_4 55 rfl rfl rfl rfl ?_
        refine ws_iload_3 56 rfl rfl ?_
        refine ws_if_nen 70 59 rfl rfl rfl (by omega) (fun h9 => ?_) (fun h9 => absurd h9 (by omega))
        refine ws_aload_0 71 rfl rfl ?_
        refine ws_getfr 74 rfl rfl rfl rfl rfl ?_
        refine ws_iload_4 76 rfl rfl ?_
        refine ws_invV1 79 rfl rfl rfl rfl (k_wk i hi hs hC1 hR1) rfl rfl rfl ?_
        rintro _ _ ⟨rfl, I2, rfl, hC2, hR2, hf2, hj2⟩
        rw [hv]
        by_cases y1 : y = -1
        · rw [if_pos y1]
          refine ws_istore_5 81 rfl rfl rfl rfl ?_
          refine ws_iload_2 82 rfl rfl ?_
          refine ws_iconst 83 rfl rfl kc_im1 ?_
          refine ws_icmp_ne 91 86 rfl rfl rfl (fun h9 => absurd h9 (not_not_intro y1)) (fun h9 => ?_)
          refine ws_iload_5 88 rfl rfl ?_
          refine ws_goto 98 rfl rfl ?_
          refine ws_iret rfl rfl rfl (Nat.le_of_ble_eq_true rfl) ?_
          exact ⟨rfl, I2, L, rfl, hC2, fun a ha => by rw [hf2 a ha]; exact hf1 a ha⟩
        · rw [if_neg y1]
          refine ws_istore_5 81 rfl rfl rfl rfl ?_
          refine ws_iload_2 82 rfl rfl ?_
          refine ws_iconst 83 rfl rfl kc_im1 ?_
          refine ws_icmp_ne 91 86 rfl rfl rfl (fun h9 => ?_) (fun h9 => absurd h9 y1)
          refine ws_aload_0 92 rfl rfl ?_
          refine ws_invV0 95 rfl rfl rfl rfl (k_gw c1 hc1 hs hC2) rfl rfl rfl ?_
          rintro _ _ ⟨rfl, I3, rfl, hC3, hf3, -⟩
          refine ws_iload_5 97 rfl rfl ?_
          refine ws_isub 98 rfl rfl rfl ?_
          refine ws_iret rfl rfl rfl (Nat.le_of_ble_eq_true rfl) ?_
          exact ⟨rfl, I3, L, rfl, hC3, fun a ha => by rw [hf3 a ha, hf2 a ha]; exact hf1 a ha⟩
      by_cases y1 : y = -1
      · refine ws_iload_2 1 rfl rfl ?_
        refine ws_iconst 2 rfl rfl kc_im1 ?_
        refine ws_icmp_eq 11 5 rfl rfl rfl (fun h9 => ?_) (fun h9 => absurd h9 (not_not_intro y1))
        refine ws_iconst 12 rfl rfl kc_i1 ?_
        refine ws_goto 16 rfl rfl ?_
        exact go
      · have y2 : y = -2 := hy.resolve_left y1
        refine ws_iload_2 1 rfl rfl ?_
        refine ws_iconst 2 rfl rfl kc_im1 ?_
        refine ws_icmp_eq 11 5 rfl rfl rfl (fun h9 => absurd h9 y1) (fun h9 => ?_)
        refine ws_iload_2 6 rfl rfl ?_
        refine ws_bipush 8 rfl rfl kc_bm2 ?_
        refine ws_icmp_ne 15 11 rfl rfl rfl (fun h9 => absurd h9 (not_not_intro y2)) (fun h9 => ?_)
        refine ws_iconst 12 rfl rfl kc_i1 ?_
        refine ws_goto 16 rfl rfl ?_
        exact go
    by_cases y1 : y = -1
    · refine ⟨(nI (wkc s.c.A s.c.F c)), s, hs, fun I L hC => ?_, fun I L hR => ?_⟩
      · have h := fig (Or.inl y1) I L hC
        rw [if_pos y1] at h
        exact h
      · refine xC.mk [some (.ref 42), some (.int (nI t)), some (.int y), none] rfl ?_
        have y2 : ¬ y = -2 := fun q => m12 (y1.symm.trans q)
        refine ws_iload_1 1 rfl rfl ?_
        refine ws_invS1p 4 rfl rfl rfl (p2) rfl rfl rfl ?_
        refine ws_if_eqb 25 7 rfl rfl rfl (fun h9 => absurd h9 (by first | decide | simp_all)) (fun h9 => ?_)
        refine ws_iload_2 8 rfl rfl ?_
        refine ws_iconst 9 rfl rfl kc_im1 ?_
        refine ws_icmp_eq 27 12 rfl rfl rfl (fun h9 => ?_) (fun h9 => absurd h9 (not_not_intro y1))
        refine ws_aload_0 28 rfl rfl ?_
        refine ws_bipush 30 rfl rfl kc_b31 ?_
        refine ws_iconst 31 rfl rfl kc_i1 ?_
        refine ws_iload_1 32 rfl rfl ?_
        refine ws_ishl 33 rfl rfl (kn_shl (by omega) hpw) ?_
        rw [Nat.one_mul]
        refine ws_bipush 35 rfl rfl kc_bm6 ?_
        refine ws_invV3 38 rfl rfl rfl rfl (r_be 31 (2 ^ t) none (fun m h => by cases h) _ (ok_t t (by omega)) (ft_t t (by omega)) c hc hs hR) rfl rfl rfl ?_
        rintro _ _ ⟨rfl, I1, L1, rfl, hR1, hL1, hf1⟩
        refine ws_istore_3 39 rfl rfl rfl rfl ?_
        refine ws_iload_2 40 rfl rfl ?_
        refine ws_bipush 42 rfl rfl kc_bm2 ?_
        refine ws_icmp_ne 67 45 rfl rfl rfl (fun h9 => ?_) (fun h9 => absurd h9 y2)
        refine ws_iload_2 68 rfl rfl ?_
        refine ws_iconst 69 rfl rfl kc_im1 ?_
        refine ws_icmp_ne 81 72 rfl rfl rfl (fun h9 => absurd h9 (not_not_intro y1)) (fun h9 => ?_)
        refine ws_aload_0 73 rfl rfl ?_
        refine ws_getfr 76 rfl rfl rfl rfl rfl ?_
        refine ws_iload_3 77 rfl rfl ?_
        refine ws_ialdn 78 rfl rfl rfl (by omega) (by omega) (hL1.at hcok) ?_
        refine ws_goto 101 rfl rfl ?_
        refine ws_iret rfl rfl rfl (Nat.le_of_ble_eq_true rfl) ?_
        exact ⟨rfl, I1, L1, rfl, hR1, hf1⟩
    · by_cases y2 : y = -2
      · refine ⟨(nI (wkc s.c.A s.c.F c1) - nI (wkc s.c.A s.c.F c)), s, hs, fun I L hC => ?_, fun I L hR => ?_⟩
        · have h := fig (Or.inr y2) I L hC
          rw [if_neg y1] at h
          exact h
        · refine xC.mk [some (.ref 42), some (.int (nI t)), some (.int y), none] rfl ?_
          refine ws_iload_1 1 rfl rfl ?_
          refine ws_invS1p 4 rfl rfl rfl (p2) rfl rfl rfl ?_
          refine ws_if_eqb 25 7 rfl rfl rfl (fun h9 => absurd h9 (by first | decide | simp_all)) (fun h9 => ?_)
          refine ws_iload_2 8 rfl rfl ?_
          refine ws_iconst 9 rfl rfl kc_im1 ?_
          refine ws_icmp_eq 27 12 rfl rfl rfl (fun h9 => absurd h9 y1) (fun h9 => ?_)
          refine ws_iload_2 13 rfl rfl ?_
          refine ws_bipush 15 rfl rfl kc_bm2 ?_
          refine ws_icmp_eq 27 18 rfl rfl rfl (fun h9 => ?_) (fun h9 => absurd h9 (not_not_intro y2))
          refine ws_aload_0 28 rfl rfl ?_
          refine ws_bipush 30 rfl rfl kc_b31 ?_
          refine ws_iconst 31 rfl rfl kc_i1 ?_
          refine ws_iload_1 32 rfl rfl ?_
          refine ws_ishl 33 rfl rfl (kn_shl (by omega) hpw) ?_
          rw [Nat.one_mul]
          refine ws_bipush 35 rfl rfl kc_bm6 ?_
          refine ws_invV3 38 rfl rfl rfl rfl (r_be 31 (2 ^ t) none (fun m h => by cases h) _ (ok_t t (by omega)) (ft_t t (by omega)) c hc hs hR) rfl rfl rfl ?_
          rintro _ _ ⟨rfl, I1, L1, rfl, hR1, hL1, hf1⟩
          refine ws_istore_3 39 rfl rfl rfl rfl ?_
          refine ws_iload_2 40 rfl rfl ?_
          refine ws_bipush 42 rfl rfl kc_bm2 ?_
          refine ws_icmp_ne 67 45 rfl rfl rfl (fun h9 => absurd h9 (not_not_intro y2)) (fun h9 => ?_)
          refine ws_aload_0 46 rfl rfl ?_
          refine ws_getfr 49 rfl rfl rfl rfl rfl ?_
          refine ws_aload_0 50 rfl rfl ?_
          refine ws_bipush 52 rfl rfl kc_b31 ?_
          refine ws_iconst 53 rfl rfl kc_i0 ?_
          refine ws_bipush 55 rfl rfl kc_bm6 ?_
          refine ws_invV3 58 rfl rfl rfl rfl (r_be 31 0 none (fun m h => by cases h) _ ok_0 (ft_0 31 (by omega)) c1 hc1 hs hR1) rfl rfl rfl ?_
          rintro _ _ ⟨rfl, I2, L2, rfl, hR2, hL2, hf2⟩
          refine ws_ialdn 59 rfl rfl rfl (by omega) (by omega) (hL2.at hc1ok) ?_
          refine ws_aload_0 60 rfl rfl ?_
          refine ws_getfr 63 rfl rfl rfl rfl rfl ?_
          refine ws_iload_3 64 rfl rfl ?_
          refine ws_ialdn 65 rfl rfl rfl (by omega) (by omega) (hL2.at hcok) ?_
          refine ws_isub 66 rfl rfl rfl ?_
          refine ws_iret rfl rfl rfl (Nat.le_of_ble_eq_true rfl) ?_
          exact ⟨rfl, I2, L2, rfl, hR2, fun a ha => by rw [hf2 a ha]; exact hf1 a ha⟩
      · cases hy : rg 0 4 y with
        | false =>
          rw [hy] at p3 p4
          refine ⟨(-1), s, hs, fun I L hC => ?_, fun I L hR => ?_⟩
          · refine xC.mk [some (.ref 0), some (.int (nI t)), some (.int y), none, none, none] rfl ?_
            refine ws_iload_2 1 rfl rfl ?_
            refine ws_iconst 2 rfl rfl kc_im1 ?_
            refine ws_icmp_eq 11 5 rfl rfl rfl (fun h9 => absurd h9 y1) (fun h9 => ?_)
            refine ws_iload_2 6 rfl rfl ?_
            refine ws_bipush 8 rfl rfl kc_bm2 ?_
            refine ws_icmp_ne 15 11 rfl rfl rfl (fun h9 => ?_) (fun h9 => absurd h9 y2)
            refine ws_iconst 16 rfl rfl kc_i0 ?_
            refine ws_istore_3 17 rfl rfl rfl rfl ?_
            refine ws_iload_1 18 rfl rfl ?_
            refine ws_iconst 19 rfl rfl kc_i5 ?_
            refine ws_invS2p 22 rfl rfl rfl (p1) rfl rfl rfl ?_
            refine ws_if_eqb 37 25 rfl rfl rfl (fun h9 => absurd h9 (by first | decide | simp_all)) (fun h9 => ?_)
            refine ws_iload_3 26 rfl rfl ?_
            refine ws_if_nen 39 29 rfl rfl rfl (by omega) (fun h9 => absurd h9 (by omega)) (fun h9 => ?_)
            refine ws_iload_2 30 rfl rfl ?_
            refine ws_iconst 31 rfl rfl kc_i5 ?_
            refine ws_invS2p 34 rfl rfl rfl (p3) rfl rfl rfl ?_
            refine ws_if_neb 39 37 rfl rfl rfl (fun h9 => absurd h9 (by first | decide | simp_all)) (fun h9 => ?_)
            refine ws_iconst 38 rfl rfl kc_im1 ?_
            refine ws_iret rfl rfl rfl (Nat.le_of_ble_eq_true rfl) ?_
            exact cQ.sm hC
          · refine xC.mk [some (.ref 42), some (.int (nI t)), some (.int y), none] rfl ?_
            refine ws_iload_1 1 rfl rfl ?_
            refine ws_invS1p 4 rfl rfl rfl (p2) rfl rfl rfl ?_
            refine ws_if_eqb 25 7 rfl rfl rfl (fun h9 => absurd h9 (by first | decide | simp_all)) (fun h9 => ?_)
            refine ws_iload_2 8 rfl rfl ?_
            refine ws_iconst 9 rfl rfl kc_im1 ?_
            refine ws_icmp_eq 27 12 rfl rfl rfl (fun h9 => absurd h9 y1) (fun h9 => ?_)
            refine ws_iload_2 13 rfl rfl ?_
            refine ws_bipush 15 rfl rfl kc_bm2 ?_
            refine ws_icmp_eq 27 18 rfl rfl rfl (fun h9 => absurd h9 y2) (fun h9 => ?_)
            refine ws_iload_2 19 rfl rfl ?_
            refine ws_invS1p 22 rfl rfl rfl (p4) rfl rfl rfl ?_
            refine ws_if_neb 27 25 rfl rfl rfl (fun h9 => absurd h9 (by first | decide | simp_all)) (fun h9 => ?_)
            refine ws_iconst 26 rfl rfl kc_im1 ?_
            refine ws_iret rfl rfl rfl (Nat.le_of_ble_eq_true rfl) ?_
            exact mQ.sm hR
        | true =>
          rw [hy] at p3 p4
          obtain ⟨p, -, hp, rfl⟩ := rg_nat (a := 0) (b := 4) hy (by omega)
          refine ⟨(rw6 (dg c p)), s, hs, fun I L hC => ?_, fun I L hR => ?_⟩
          · refine xC.mk [some (.ref 0), some (.int (nI t)), some (.int (nI p)), none, none, none] rfl ?_
            refine ws_iload_2 1 rfl rfl ?_
            refine ws_iconst 2 rfl rfl kc_im1 ?_
            refine ws_icmp_eq 11 5 rfl rfl rfl (fun h9 => absurd h9 y1) (fun h9 => ?_)
            refine ws_iload_2 6 rfl rfl ?_
            refine ws_bipush 8 rfl rfl kc_bm2 ?_
            refine ws_icmp_ne 15 11 rfl rfl rfl (fun h9 => ?_) (fun h9 => absurd h9 y2)
            refine ws_iconst 16 rfl rfl kc_i0 ?_
            refine ws_istore_3 17 rfl rfl rfl rfl ?_
            refine ws_iload_1 18 rfl rfl ?_
            refine ws_iconst 19 rfl rfl kc_i5 ?_
            refine ws_invS2p 22 rfl rfl rfl (p1) rfl rfl rfl ?_
            refine ws_if_eqb 37 25 rfl rfl rfl (fun h9 => absurd h9 (by first | decide | simp_all)) (fun h9 => ?_)
            refine ws_iload_3 26 rfl rfl ?_
            refine ws_if_nen 39 29 rfl rfl rfl (by omega) (fun h9 => absurd h9 (by omega)) (fun h9 => ?_)
            refine ws_iload_2 30 rfl rfl ?_
            refine ws_iconst 31 rfl rfl kc_i5 ?_
            refine ws_invS2p 34 rfl rfl rfl (p3) rfl rfl rfl ?_
            refine ws_if_neb 39 37 rfl rfl rfl (fun h9 => ?_) (fun h9 => absurd h9 (by first | decide | simp_all))
            refine ws_aload_0 40 rfl rfl ?_
            refine ws_getfr 43 rfl rfl rfl rfl rfl ?_
            refine ws_bipush 45 rfl rfl kc_b31 ?_
            refine ws_iconst 46 rfl rfl kc_i1 ?_
            refine ws_iload_1 47 rfl rfl ?_
            refine ws_ishl 48 rfl rfl (kn_shl (by omega) hpw) ?_
            rw [Nat.one_mul]
            refine ws_bipush 50 rfl rfl kc_bm6 ?_
            refine ws_invV3 53 rfl rfl rfl rfl (k_gr 31 (2 ^ t) none (fun m h => by cases h) _ (ok_t t (by omega)) (ft_t t (by omega)) c hc hs hC) rfl rfl rfl ?_
            rintro _ _ ⟨i, hi, hv, rfl, I1, rfl, hC1, hR1, hf1, hj1⟩
            have ct := c_thingAt (E := E) (T := xM0) (L := L) i p hi (by omega) (hR1.num hi).1
            rw [hv] at ct
            refine ws_istore_4 55 rfl rfl rfl rfl ?_
            refine ws_iload_3 56 rfl rfl ?_
            refine ws_if_nen 70 59 rfl rfl rfl (by omega) (fun h9 => absurd h9 (by omega)) (fun h9 => ?_)
            refine ws_aload_0 60 rfl rfl ?_
            refine ws_getfr 63 rfl rfl rfl rfl rfl ?_
            refine ws_iload_4 65 rfl rfl ?_
            refine ws_iload_2 66 rfl rfl ?_
            refine ws_invV2p 69 rfl rfl rfl rfl (ct) rfl rfl rfl ?_
            refine ws_iret rfl rfl rfl (Nat.le_of_ble_eq_true rfl) ?_
            exact ⟨rfl, I1, L, rfl, hC1, hf1⟩
          · refine xC.mk [some (.ref 42), some (.int (nI t)), some (.int (nI p)), none] rfl ?_
            refine ws_iload_1 1 rfl rfl ?_
            refine ws_invS1p 4 rfl rfl rfl (p2) rfl rfl rfl ?_
            refine ws_if_eqb 25 7 rfl rfl rfl (fun h9 => absurd h9 (by first | decide | simp_all)) (fun h9 => ?_)
            refine ws_iload_2 8 rfl rfl ?_
            refine ws_iconst 9 rfl rfl kc_im1 ?_
            refine ws_icmp_eq 27 12 rfl rfl rfl (fun h9 => absurd h9 y1) (fun h9 => ?_)
            refine ws_iload_2 13 rfl rfl ?_
            refine ws_bipush 15 rfl rfl kc_bm2 ?_
            refine ws_icmp_eq 27 18 rfl rfl rfl (fun h9 => absurd h9 y2) (fun h9 => ?_)
            refine ws_iload_2 19 rfl rfl ?_
            refine ws_invS1p 22 rfl rfl rfl (p4) rfl rfl rfl ?_
            refine ws_if_neb 27 25 rfl rfl rfl (fun h9 => ?_) (fun h9 => absurd h9 (by first | decide | simp_all))
            refine ws_aload_0 28 rfl rfl ?_
            refine ws_bipush 30 rfl rfl kc_b31 ?_
            refine ws_iconst 31 rfl rfl kc_i1 ?_
            refine ws_iload_1 32 rfl rfl ?_
            refine ws_ishl 33 rfl rfl (kn_shl (by omega) hpw) ?_
            rw [Nat.one_mul]
            refine ws_bipush 35 rfl rfl kc_bm6 ?_
            refine ws_invV3 38 rfl rfl rfl rfl (r_be 31 (2 ^ t) none (fun m h => by cases h) _ (ok_t t (by omega)) (ft_t t (by omega)) c hc hs hR) rfl rfl rfl ?_
            rintro _ _ ⟨rfl, I1, L1, rfl, hR1, hL1, hf1⟩
            have pd := p_digit c p hcok.1 (by omega)
            have hd5 := dg_le c p
            by_cases h0 : dg c p = 0
            · rw [rw6_0 h0]
              refine ws_istore_3 39 rfl rfl rfl rfl ?_
              refine ws_iload_2 40 rfl rfl ?_
              refine ws_bipush 42 rfl rfl kc_bm2 ?_
              refine ws_icmp_ne 67 45 rfl rfl rfl (fun h9 => ?_) (fun h9 => absurd h9 y2)
              refine ws_iload_2 68 rfl rfl ?_
              refine ws_iconst 69 rfl rfl kc_im1 ?_
              refine ws_icmp_ne 81 72 rfl rfl rfl (fun h9 => ?_) (fun h9 => absurd h9 y1)
              refine ws_iload_3 82 rfl rfl ?_
              refine ws_iload_2 83 rfl rfl ?_
              refine ws_invS2p 86 rfl rfl rfl (pd) rfl rfl rfl ?_
              refine ws_if_nen 94 89 rfl rfl rfl (by omega) (fun h9 => absurd h9 (by omega)) (fun h9 => ?_)
              refine ws_bipush 91 rfl rfl kc_bm6 ?_
              refine ws_goto 101 rfl rfl ?_
              refine ws_iret rfl rfl rfl (Nat.le_of_ble_eq_true rfl) ?_
              exact ⟨rfl, I1, L1, rfl, hR1, hf1⟩
            · rw [rw6_1 h0]
              refine ws_istore_3 39 rfl rfl rfl rfl ?_
              refine ws_iload_2 40 rfl rfl ?_
              refine ws_bipush 42 rfl rfl kc_bm2 ?_
              refine ws_icmp_ne 67 45 rfl rfl rfl (fun h9 => ?_) (fun h9 => absurd h9 y2)
              refine ws_iload_2 68 rfl rfl ?_
              refine ws_iconst 69 rfl rfl kc_im1 ?_
              refine ws_icmp_ne 81 72 rfl rfl rfl (fun h9 => ?_) (fun h9 => absurd h9 y1)
              refine ws_iload_3 82 rfl rfl ?_
              refine ws_iload_2 83 rfl rfl ?_
              refine ws_invS2p 86 rfl rfl rfl (pd) rfl rfl rfl ?_
              refine ws_if_nen 94 89 rfl rfl rfl (by omega) (fun h9 => ?_) (fun h9 => absurd h9 (by omega))
              refine ws_iload_3 95 rfl rfl ?_
              refine ws_iload_2 96 rfl rfl ?_
              refine ws_invS2p 99 rfl rfl rfl (pd) rfl rfl rfl ?_
              refine ws_iconst 100 rfl rfl kc_i1 ?_
              refine ws_isub 101 rfl rfl (pk_sub (by omega)) ?_
              refine ws_iret rfl rfl rfl (Nat.le_of_ble_eq_true rfl) ?_
              exact ⟨rfl, I1, L1, rfl, hR1, hf1⟩
