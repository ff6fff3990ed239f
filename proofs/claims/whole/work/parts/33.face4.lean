/-! ===== say, fault, says, boys, lot, shop ===== -/
theorem CR.pad {s : xSt} {I I' : Nat → Nat → Int32} {t' : Nat → Nat} {n' : Nat} (h : CR s I) (hf : ∀ a, a ≠ 1 → a ≠ 2 → a < 42 → I' a = I a) (hp : I' 1 3 = nI n' ∧ ∀ i, i < n' → I' 2 i = nI (t' i)) : CR (mkS s.c s.i s.K t' n') I' := by
  obtain ⟨h1, h2, h3, h4⟩ := h
  refine ⟨h1.keep (fun a a1 a2 => hf a (by omega) (by omega) (by omega)), h2.keep (fun a a1 a2 => hf a (by omega) (by omega) (by omega)) (by rw [hf 19 (by decide) (by decide) (by decide)]) (by rw [hf 19 (by decide) (by decide) (by decide)]), hp, fun n hn => ?_⟩
  rw [hf 13 (by decide) (by decide) (by decide)]
  exact ⟨(h4 n hn).1, fun hk => ((h4 n hn).2 hk).keep (fun a a1 a2 => hf a (by omega) (by omega) (by omega))⟩
theorem RR.pad {s : xSt} {I I' : Nat → Nat → Int32} {t' : Nat → Nat} {n' : Nat} (h : RR s I) (hf : ∀ a, 42 < a → a ≠ 45 → I' a = I a) (hf2 : ∀ j, j ≠ 2 → I' 42 j = I 42 j) (hp : I' 42 2 = nI n' ∧ ∀ i, i < n' → I' 45 i = nI (t' i)) : RR (mkS s.c s.i s.K t' n') I' := by
  obtain ⟨h1, h2, h3, h4⟩ := h
  refine ⟨?_, ?_, hp, fun n hn => ?_⟩
  · unfold rsn at h1 ⊢
    rw [hf 43 (by decide) (by decide), hf 44 (by decide) (by decide), hf 46 (by decide) (by decide), hf 47 (by decide) (by decide), hf 48 (by decide) (by decide), hf 49 (by decide) (by decide), hf 50 (by decide) (by decide), hf 51 (by decide) (by decide), hf2 8 (by decide)]
    exact h1
  · unfold PL LD at h2 ⊢
    rw [hf2 11 (by decide), hf 60 (by decide) (by decide)]
    exact h2
  · rw [hf 62 (by decide) (by decide), hf 61 (by decide) (by decide)]; exact h4 n hn
theorem c_padAdd {E : xEx} {T : List xSh} {I : Nat → Nat → Int32} {L : Nat → Nat → Int64} {n : Nat} (x : Int32) (hn : n ≤ 40) (h3 : I 1 3 = nI n) : xC E 1 5 [.ref 1, .int x] (xC0 ++ T, I, L) (fun r t => r = some (.int (xb (decide (n < 40)))) ∧ t = (xC0 ++ T, (if n < 40 then wI (wI I 2 n x) 1 3 (nI (n + 1)) else I), L)) := by
  refine xC.mk [some (.ref 1), some (.int x)] rfl ?_
  have h3' : ∀ x : Int32, wI I 2 n x 1 3 = nI n := fun x => by rw [wI_ne (by decide)]; exact h3
  by_cases h : n < 40
  · rw [decide_eq_true h, if_pos h]
    refine ws_aload_0 1 rfl rfl ?_
    refine ws_getfi 4 rfl rfl rfl rfl rfl h3 ?_
    refine ws_bipush 6 rfl rfl kc_b40 ?_
    refine ws_icmp_ltn 11 9 rfl rfl rfl (by omega) (by omega) (fun h9 => ?_) (fun h9 => absurd h9 (by omega))
    refine ws_aload_0 12 rfl rfl ?_
    refine ws_getfr 15 rfl rfl rfl rfl rfl ?_
    refine ws_aload_0 16 rfl rfl ?_
    refine ws_getfi 19 rfl rfl rfl rfl rfl h3 ?_
    refine ws_iload_1 20 rfl rfl ?_
    refine ws_iastn 21 rfl rfl rfl (by omega) (by omega) ?_
    refine ws_aload_0 22 rfl rfl ?_
    refine ws_dup 23 rfl rfl rfl ?_
    refine ws_getfi 26 rfl rfl rfl rfl rfl (h3' _) ?_
    refine ws_iconst 27 rfl rfl kc_i1 ?_
    refine ws_iadd 28 rfl rfl (nI_add _ _) ?_
    refine ws_putfi 31 rfl rfl rfl rfl rfl rfl rfl rfl ?_
    refine ws_iconst 32 rfl rfl kc_i1 ?_
    refine ws_zret rfl rfl (by first | exact xb_01 _ | decide) rfl (Nat.le_of_ble_eq_true rfl) ?_
    exact ⟨rfl, rfl⟩
  · rw [decide_eq_false h, if_neg h]
    refine ws_aload_0 1 rfl rfl ?_
    refine ws_getfi 4 rfl rfl rfl rfl rfl h3 ?_
    refine ws_bipush 6 rfl rfl kc_b40 ?_
    refine ws_icmp_ltn 11 9 rfl rfl rfl (by omega) (by omega) (fun h9 => absurd h9 (by omega)) (fun h9 => ?_)
    refine ws_iconst 10 rfl rfl kc_i0 ?_
    refine ws_zret rfl rfl (by first | exact xb_01 _ | decide) rfl (Nat.le_of_ble_eq_true rfl) ?_
    exact ⟨rfl, rfl⟩
theorem f_say (x : Int32) : Fx 49 87 [.int x] := by
  intro E s hE hs
  have p1 := p_between x (nI 33) (nI 126) 33 126 rfl rfl
  have p2 := p_in x (nI 33) (nI 126) 33 126 rfl rfl
  cases hr : rg 33 126 x with
  | false =>
    rw [hr] at p1 p2
    refine ⟨(-2), s, hs, fun I L hC => ?_, fun I L hR => ?_⟩
    · refine xC.mk [some (.ref 0), some (.int x)] rfl ?_
      refine ws_iload_1 1 rfl rfl ?_
      refine ws_bipush 3 rfl rfl kc_b33 ?_
      refine ws_bipush 5 rfl rfl kc_b126 ?_
      refine ws_invS3p 8 rfl rfl rfl (p1) rfl rfl rfl ?_
      refine ws_if_neb 14 11 rfl rfl rfl (fun h9 => absurd h9 (by first | decide | simp_all)) (fun h9 => ?_)
      refine ws_bipush 13 rfl rfl kc_bm2 ?_
      refine ws_iret rfl rfl rfl (Nat.le_of_ble_eq_true rfl) ?_
      exact cQ.sm hC
    · refine xC.mk [some (.ref 42), some (.int x)] rfl ?_
      refine ws_iload_1 1 rfl rfl ?_
      refine ws_bipush 3 rfl rfl kc_b33 ?_
      refine ws_bipush 5 rfl rfl kc_b126 ?_
      refine ws_invS3p 8 rfl rfl rfl (p2) rfl rfl rfl ?_
      refine ws_if_neb 14 11 rfl rfl rfl (fun h9 => absurd h9 (by first | decide | simp_all)) (fun h9 => ?_)
      refine ws_bipush 13 rfl rfl kc_bm2 ?_
      refine ws_iret rfl rfl rfl (Nat.le_of_ble_eq_true rfl) ?_
      exact mQ.sm hR
  | true =>
    rw [hr] at p1 p2
    obtain ⟨v, hv1, hv2, rfl⟩ := rg_nat (a := 33) (b := 126) hr (by omega)
    have hn40 := hs.2.1.1
    by_cases hn : s.n < 40
    · refine ⟨(nI (s.n + 1)), mkS s.c s.i s.K (fun i => if i = s.n then v else s.t i) (s.n + 1), ⟨hs.1, ⟨hn, fun i hi => ?_⟩, hs.2.2⟩, fun I L hC => ?_, fun I L hR => ?_⟩
      · have hi : i < s.n + 1 := hi
        show 33 ≤ (if i = s.n then v else s.t i) ∧ (if i = s.n then v else s.t i) ≤ 126
        split
        · exact ⟨hv1, hv2⟩
        · exact hs.2.1.2 i (by omega)
      · refine xC.mk [some (.ref 0), some (.int (nI v))] rfl ?_
        have ca := c_padAdd (E := E) (T := xM0) (L := L) (nI v) hn40 hC.2.2.1.1
        rw [decide_eq_true hn, if_pos hn] at ca
        have h13 : wI (wI I 2 s.n (nI v)) 1 3 (nI (s.n + 1)) 1 3 = nI (s.n + 1) := rfl
        refine ws_iload_1 1 rfl rfl ?_
        refine ws_bipush 3 rfl rfl kc_b33 ?_
        refine ws_bipush 5 rfl rfl kc_b126 ?_
        refine ws_invS3p 8 rfl rfl rfl (p1) rfl rfl rfl ?_
        refine ws_if_neb 14 11 rfl rfl rfl (fun h9 => ?_) (fun h9 => absurd h9 (by first | decide | simp_all))
        refine ws_aload_0 15 rfl rfl ?_
        refine ws_getfr 18 rfl rfl rfl rfl rfl ?_
        refine ws_iload_1 19 rfl rfl ?_
        refine ws_invV1 22 rfl rfl rfl rfl (ca) rfl rfl rfl ?_
        rintro _ _ ⟨rfl, rfl⟩
        refine ws_if_eqb 35 25 rfl rfl rfl (fun h9 => absurd h9 (by first | decide | simp_all)) (fun h9 => ?_)
        refine ws_aload_0 26 rfl rfl ?_
        refine ws_getfr 29 rfl rfl rfl rfl rfl ?_
        refine ws_getfi 32 rfl rfl rfl rfl rfl h13 ?_
        refine ws_goto 37 rfl rfl ?_
        refine ws_iret rfl rfl rfl (Nat.le_of_ble_eq_true rfl) ?_
        refine ⟨rfl, _, _, rfl, hC.pad (fun a a1 a2 _ => by rw [wI_ne a1, wI_ne a2]) ⟨rfl, fun i hi => ?_⟩, fun a ha => by rw [wI_ne (by omega), wI_ne (by omega)]⟩
        rw [wI_ne (by decide), wI_eq]
        by_cases e : i = s.n
        · rw [e, pk_us, if_pos rfl]
        · rw [pk_un e, if_neg e]; exact hC.2.2.1.2 i (by omega)
      · refine xC.mk [some (.ref 42), some (.int (nI v))] rfl ?_
        have h2 := hR.2.2.1.1
        have h2' : wI I 45 s.n (nI v) 42 2 = nI s.n := by rw [wI_ne (by decide)]; exact h2
        have h2'' : wI (wI I 45 s.n (nI v)) 42 2 (nI (s.n + 1)) 42 2 = nI (s.n + 1) := rfl
        refine ws_iload_1 1 rfl rfl ?_
        refine ws_bipush 3 rfl rfl kc_b33 ?_
        refine ws_bipush 5 rfl rfl kc_b126 ?_
        refine ws_invS3p 8 rfl rfl rfl (p2) rfl rfl rfl ?_
        refine ws_if_neb 14 11 rfl rfl rfl (fun h9 => ?_) (fun h9 => absurd h9 (by first | decide | simp_all))
        refine ws_aload_0 15 rfl rfl ?_
        refine ws_getfi 18 rfl rfl rfl rfl rfl h2 ?_
        refine ws_bipush 20 rfl rfl kc_b40 ?_
        refine ws_icmp_nen 26 23 rfl rfl rfl (by omega) (by omega) (fun h9 => ?_) (fun h9 => absurd h9 (by omega))
        refine ws_aload_0 27 rfl rfl ?_
        refine ws_getfr 30 rfl rfl rfl rfl rfl ?_
        refine ws_aload_0 31 rfl rfl ?_
        refine ws_getfi 34 rfl rfl rfl rfl rfl h2 ?_
        refine ws_iload_1 35 rfl rfl ?_
        refine ws_iastn 36 rfl rfl rfl (by omega) (by omega) ?_
        refine ws_aload_0 37 rfl rfl ?_
        refine ws_dup 38 rfl rfl rfl ?_
        refine ws_getfi 41 rfl rfl rfl rfl rfl h2' ?_
        refine ws_iconst 42 rfl rfl kc_i1 ?_
        refine ws_iadd 43 rfl rfl (nI_add _ _) ?_
        refine ws_putfi 46 rfl rfl rfl rfl rfl rfl rfl rfl ?_
        refine ws_aload_0 47 rfl rfl ?_
        refine ws_getfi 50 rfl rfl rfl rfl rfl h2'' ?_
        refine ws_iret rfl rfl rfl (Nat.le_of_ble_eq_true rfl) ?_
        refine ⟨rfl, _, _, rfl, hR.pad (fun a a1 a2 => by rw [wI_ne (by omega), wI_ne a2]) (fun j hj => by rw [wI_eq, pk_un hj, wI_ne (by decide)]) ⟨rfl, fun i hi => ?_⟩, fun a ha => by rw [wI_ne (by omega), wI_ne (by omega)]⟩
        rw [wI_ne (by decide), wI_eq]
        by_cases e : i = s.n
        · rw [e, pk_us, if_pos rfl]
        · rw [pk_un e, if_neg e]; exact hR.2.2.1.2 i (by omega)
    · refine ⟨(-4), s, hs, fun I L hC => ?_, fun I L hR => ?_⟩
      · refine xC.mk [some (.ref 0), some (.int (nI v))] rfl ?_
        have ca := c_padAdd (E := E) (T := xM0) (L := L) (nI v) hn40 hC.2.2.1.1
        rw [decide_eq_false hn, if_neg hn] at ca
        refine ws_iload_1 1 rfl rfl ?_
        refine ws_bipush 3 rfl rfl kc_b33 ?_
        refine ws_bipush 5 rfl rfl kc_b126 ?_
        refine ws_invS3p 8 rfl rfl rfl (p1) rfl rfl rfl ?_
        refine ws_if_neb 14 11 rfl rfl rfl (fun h9 => ?_) (fun h9 => absurd h9 (by first | decide | simp_all))
        refine ws_aload_0 15 rfl rfl ?_
        refine ws_getfr 18 rfl rfl rfl rfl rfl ?_
        refine ws_iload_1 19 rfl rfl ?_
        refine ws_invV1 22 rfl rfl rfl rfl (ca) rfl rfl rfl ?_
        rintro _ _ ⟨rfl, rfl⟩
        refine ws_if_eqb 35 25 rfl rfl rfl (fun h9 => ?_) (fun h9 => absurd h9 (by first | decide | simp_all))
        refine ws_bipush 37 rfl rfl kc_bm4 ?_
        refine ws_iret rfl rfl rfl (Nat.le_of_ble_eq_true rfl) ?_
        exact cQ.sm hC
      · refine xC.mk [some (.ref 42), some (.int (nI v))] rfl ?_
        have h2 := hR.2.2.1.1
        refine ws_iload_1 1 rfl rfl ?_
        refine ws_bipush 3 rfl rfl kc_b33 ?_
        refine ws_bipush 5 rfl rfl kc_b126 ?_
        refine ws_invS3p 8 rfl rfl rfl (p2) rfl rfl rfl ?_
        refine ws_if_neb 14 11 rfl rfl rfl (fun h9 => ?_) (fun h9 => absurd h9 (by first | decide | simp_all))
        refine ws_aload_0 15 rfl rfl ?_
        refine ws_getfi 18 rfl rfl rfl rfl rfl h2 ?_
        refine ws_bipush 20 rfl rfl kc_b40 ?_
        refine ws_icmp_nen 26 23 rfl rfl rfl (by omega) (by omega) (fun h9 => absurd h9 (by omega)) (fun h9 => ?_)
        refine ws_bipush 25 rfl rfl kc_bm4 ?_
        refine ws_iret rfl rfl rfl (Nat.le_of_ble_eq_true rfl) ?_
        exact mQ.sm hR
theorem f_fault (x : Int32) : Fx 51 92 [.int x] := by
  intro E s hE hs
  have p1 := p_below x 2 1 (by omega) rfl
  have hn40 := hs.2.1.1
  have ht : ∀ i, i < s.n → s.t i < 128 := fun i hi => by have := hs.2.1.2 i hi; omega
  cases hr : rg 0 1 x with
  | false =>
    rw [hr] at p1
    have h0 := rg_f hr
    have hx0 : ¬ x = 0 := fun e => by rw [e] at h0; exact absurd h0 (by decide)
    have hx1 : ¬ x = nI 1 := fun e => by rw [e] at h0; exact absurd h0 (by decide)
    refine ⟨(-2), s, hs, fun I L hC => ?_, fun I L hR => ?_⟩
    · refine xC.mk [some (.ref 0), some (.int x)] rfl ?_
      refine ws_iload_1 1 rfl rfl ?_
      refine ws_iconst 2 rfl rfl kc_i2 ?_
      refine ws_invS2p 5 rfl rfl rfl (p1) rfl rfl rfl ?_
      refine ws_if_neb 11 8 rfl rfl rfl (fun h9 => absurd h9 (by first | decide | simp_all)) (fun h9 => ?_)
      refine ws_bipush 10 rfl rfl kc_bm2 ?_
      refine ws_iret rfl rfl rfl (Nat.le_of_ble_eq_true rfl) ?_
      exact cQ.sm hC
    · refine xC.mk [some (.ref 42), some (.int x)] rfl ?_
      refine ws_iload_1 1 rfl rfl ?_
      refine ws_if_ne 11 4 rfl rfl rfl (fun h9 => ?_) (fun h9 => absurd h9 hx0)
      refine ws_iload_1 12 rfl rfl ?_
      refine ws_iconst 13 rfl rfl kc_i1 ?_
      refine ws_icmp_ne 23 16 rfl rfl rfl (fun h9 => ?_) (fun h9 => absurd h9 hx1)
      refine ws_bipush 25 rfl rfl kc_bm2 ?_
      refine ws_iret rfl rfl rfl (Nat.le_of_ble_eq_true rfl) ?_
      exact mQ.sm hR
  | true =>
    rw [hr] at p1
    obtain ⟨w, -, hw, rfl⟩ := rg_nat (a := 0) (b := 1) hr (by omega)
    rcases (show w = 0 ∨ w = 1 by omega) with rfl | rfl
    · refine ⟨(fo (wfa s.t s.n 0 0)), s, hs, fun I L hC => ?_, fun I L hR => ?_⟩
      · refine xC.mk [some (.ref 0), some (.int (nI 0))] rfl ?_
        refine ws_iload_1 1 rfl rfl ?_
        refine ws_iconst 2 rfl rfl kc_i2 ?_
        refine ws_invS2p 5 rfl rfl rfl (p1) rfl rfl rfl ?_
        refine ws_if_neb 11 8 rfl rfl rfl (fun h9 => ?_) (fun h9 => absurd h9 (by first | decide | simp_all))
        refine ws_iload_1 12 rfl rfl ?_
        refine ws_if_nen 25 15 rfl rfl rfl (by omega) (fun h9 => absurd h9 (by omega)) (fun h9 => ?_)
        refine ws_aload_0 16 rfl rfl ?_
        refine ws_getfr 19 rfl rfl rfl rfl rfl ?_
        refine ws_invV0p 22 rfl rfl rfl rfl (c_faultAsWindow (T := xM0) hn40 ht hC.2.2.1.1 hC.2.2.1.2) rfl rfl rfl ?_
        refine ws_goto 32 rfl rfl ?_
        refine ws_iret rfl rfl rfl (Nat.le_of_ble_eq_true rfl) ?_
        exact cQ.sm hC
      · refine xC.mk [some (.ref 42), some (.int (nI 0))] rfl ?_
        refine ws_iload_1 1 rfl rfl ?_
        refine ws_if_nen 11 4 rfl rfl rfl (by omega) (fun h9 => absurd h9 (by omega)) (fun h9 => ?_)
        refine ws_aload_0 5 rfl rfl ?_
        refine ws_invV0p 8 rfl rfl rfl rfl (m_windowFault hn40 ht hR.2.2.1.1 hR.2.2.1.2) rfl rfl rfl ?_
        refine ws_goto 25 rfl rfl ?_
        refine ws_iret rfl rfl rfl (Nat.le_of_ble_eq_true rfl) ?_
        exact mQ.sm hR
    · refine ⟨(fo (lfa s.t s.n s.n 0 [0])), s, hs, fun I L hC => ?_, fun I L hR => ?_⟩
      · refine xC.mk [some (.ref 0), some (.int (nI 1))] rfl ?_
        refine ws_iload_1 1 rfl rfl ?_
        refine ws_iconst 2 rfl rfl kc_i2 ?_
        refine ws_invS2p 5 rfl rfl rfl (p1) rfl rfl rfl ?_
        refine ws_if_neb 11 8 rfl rfl rfl (fun h9 => ?_) (fun h9 => absurd h9 (by first | decide | simp_all))
        refine ws_iload_1 12 rfl rfl ?_
        refine ws_if_nen 25 15 rfl rfl rfl (by omega) (fun h9 => ?_) (fun h9 => absurd h9 (by omega))
        refine ws_aload_0 26 rfl rfl ?_
        refine ws_getfr 29 rfl rfl rfl rfl rfl ?_
        refine ws_invV0 32 rfl rfl rfl rfl (c_faultAsLaw (T := xM0) hn40 ht hC.2.2.1.1 hC.2.2.1.2) rfl rfl rfl ?_
        rintro _ _ ⟨rfl, I1, rfl, hf1⟩
        refine ws_iret rfl rfl rfl (Nat.le_of_ble_eq_true rfl) ?_
        exact ⟨rfl, I1, L, rfl, hC.scp (fun a ha => hf1 a (by omega)), fun a ha => hf1 a (by omega)⟩
      · refine xC.mk [some (.ref 42), some (.int (nI 1))] rfl ?_
        refine ws_iload_1 1 rfl rfl ?_
        refine ws_if_nen 11 4 rfl rfl rfl (by omega) (fun h9 => ?_) (fun h9 => absurd h9 (by omega))
        refine ws_iload_1 12 rfl rfl ?_
        refine ws_iconst 13 rfl rfl kc_i1 ?_
        refine ws_icmp_nen 23 16 rfl rfl rfl (by omega) (by omega) (fun h9 => absurd h9 (by omega)) (fun h9 => ?_)
        refine ws_aload_0 17 rfl rfl ?_
        refine ws_invV0 20 rfl rfl rfl rfl (m_lawFault hn40 ht hR.2.2.1.1 hR.2.2.1.2) rfl rfl rfl ?_
        rintro _ _ ⟨rfl, I1, rfl, hf1⟩
        refine ws_goto 25 rfl rfl ?_
        refine ws_iret rfl rfl rfl (Nat.le_of_ble_eq_true rfl) ?_
        exact ⟨rfl, I1, L, rfl, hR.scp (fun a ha => hf1 a (by omega)), fun a ha => hf1 a (by omega)⟩
theorem f_says (x y z : Int32) : Fx 57 104 [.int x, .int y, .int z] := by
  intro E s hE hs
  have p1 := p_below x 2 1 (by omega) rfl
  have p2 := p_in x (nI 0) (nI 1) 0 1 rfl rfl
  have p3 := p_between y (nI 0) (nI 4) 0 4 rfl rfl
  have p4 := p_in y (nI 0) (nI 4) 0 4 rfl rfl
  have p5 := p_between z (nI 0) (nI 1) 0 1 rfl rfl
  have p6 := p_in z (nI 0) (nI 1) 0 1 rfl rfl
  cases hr : rg 0 1 x with
  | false =>
    rw [hr] at p1 p2
    refine ⟨(-2), s, hs, fun I L hC => ?_, fun I L hR => ?_⟩
    · refine xC.mk [some (.ref 0), some (.int x), some (.int y), some (.int z)] rfl ?_
      refine ws_iload_1 1 rfl rfl ?_
      refine ws_iconst 2 rfl rfl kc_i2 ?_
      refine ws_invS2p 5 rfl rfl rfl (p1) rfl rfl rfl ?_
      refine ws_if_eqb 26 8 rfl rfl rfl (fun h9 => ?_) (fun h9 => absurd h9 (by first | decide | simp_all))
      refine ws_bipush 28 rfl rfl kc_bm2 ?_
      refine ws_iret rfl rfl rfl (Nat.le_of_ble_eq_true rfl) ?_
      exact cQ.sm hC
    · refine xC.mk [some (.ref 42), some (.int x), some (.int y), some (.int z)] rfl ?_
      refine ws_iload_1 1 rfl rfl ?_
      refine ws_iconst 2 rfl rfl kc_i0 ?_
      refine ws_iconst 3 rfl rfl kc_i1 ?_
      refine ws_invS3p 6 rfl rfl rfl (p2) rfl rfl rfl ?_
      refine ws_if_eqb 37 9 rfl rfl rfl (fun h9 => ?_) (fun h9 => absurd h9 (by first | decide | simp_all))
      refine ws_bipush 39 rfl rfl kc_bm2 ?_
      refine ws_iret rfl rfl rfl (Nat.le_of_ble_eq_true rfl) ?_
      exact mQ.sm hR
  | true =>
    rw [hr] at p1 p2
    cases hy : rg 0 4 y with
    | false =>
      rw [hy] at p3 p4
      refine ⟨(-2), s, hs, fun I L hC => ?_, fun I L hR => ?_⟩
      · refine xC.mk [some (.ref 0), some (.int x), some (.int y), some (.int z)] rfl ?_
        refine ws_iload_1 1 rfl rfl ?_
        refine ws_iconst 2 rfl rfl kc_i2 ?_
        refine ws_invS2p 5 rfl rfl rfl (p1) rfl rfl rfl ?_
        refine ws_if_eqb 26 8 rfl rfl rfl (fun h9 => absurd h9 (by first | decide | simp_all)) (fun h9 => ?_)
        refine ws_iload_2 9 rfl rfl ?_
        refine ws_iconst 10 rfl rfl kc_i0 ?_
        refine ws_iconst 11 rfl rfl kc_i4 ?_
        refine ws_invS3p 14 rfl rfl rfl (p3) rfl rfl rfl ?_
        refine ws_if_eqb 26 17 rfl rfl rfl (fun h9 => ?_) (fun h9 => absurd h9 (by first | decide | simp_all))
        refine ws_bipush 28 rfl rfl kc_bm2 ?_
        refine ws_iret rfl rfl rfl (Nat.le_of_ble_eq_true rfl) ?_
        exact cQ.sm hC
      · refine xC.mk [some (.ref 42), some (.int x), some (.int y), some (.int z)] rfl ?_
        refine ws_iload_1 1 rfl rfl ?_
        refine ws_iconst 2 rfl rfl kc_i0 ?_
        refine ws_iconst 3 rfl rfl kc_i1 ?_
        refine ws_invS3p 6 rfl rfl rfl (p2) rfl rfl rfl ?_
        refine ws_if_eqb 37 9 rfl rfl rfl (fun h9 => absurd h9 (by first | decide | simp_all)) (fun h9 => ?_)
        refine ws_iload_2 10 rfl rfl ?_
        refine ws_iconst 11 rfl rfl kc_i0 ?_
        refine ws_iconst 12 rfl rfl kc_i4 ?_
        refine ws_invS3p 15 rfl rfl rfl (p4) rfl rfl rfl ?_
        refine ws_if_eqb 37 18 rfl rfl rfl (fun h9 => ?_) (fun h9 => absurd h9 (by first | decide | simp_all))
        refine ws_bipush 39 rfl rfl kc_bm2 ?_
        refine ws_iret rfl rfl rfl (Nat.le_of_ble_eq_true rfl) ?_
        exact mQ.sm hR
    | true =>
      rw [hy] at p3 p4
      cases hz : rg 0 1 z with
      | false =>
        rw [hz] at p5 p6
        refine ⟨(-2), s, hs, fun I L hC => ?_, fun I L hR => ?_⟩
        · refine xC.mk [some (.ref 0), some (.int x), some (.int y), some (.int z)] rfl ?_
          refine ws_iload_1 1 rfl rfl ?_
          refine ws_iconst 2 rfl rfl kc_i2 ?_
          refine ws_invS2p 5 rfl rfl rfl (p1) rfl rfl rfl ?_
          refine ws_if_eqb 26 8 rfl rfl rfl (fun h9 => absurd h9 (by first | decide | simp_all)) (fun h9 => ?_)
          refine ws_iload_2 9 rfl rfl ?_
          refine ws_iconst 10 rfl rfl kc_i0 ?_
          refine ws_iconst 11 rfl rfl kc_i4 ?_
          refine ws_invS3p 14 rfl rfl rfl (p3) rfl rfl rfl ?_
          refine ws_if_eqb 26 17 rfl rfl rfl (fun h9 => absurd h9 (by first | decide | simp_all)) (fun h9 => ?_)
          refine ws_iload_3 18 rfl rfl ?_
          refine ws_iconst 19 rfl rfl kc_i0 ?_
          refine ws_iconst 20 rfl rfl kc_i1 ?_
          refine ws_invS3p 23 rfl rfl rfl (p5) rfl rfl rfl ?_
          refine ws_if_neb 29 26 rfl rfl rfl (fun h9 => absurd h9 (by first | decide | simp_all)) (fun h9 => ?_)
          refine ws_bipush 28 rfl rfl kc_bm2 ?_
          refine ws_iret rfl rfl rfl (Nat.le_of_ble_eq_true rfl) ?_
          exact cQ.sm hC
        · refine xC.mk [some (.ref 42), some (.int x), some (.int y), some (.int z)] rfl ?_
          refine ws_iload_1 1 rfl rfl ?_
          refine ws_iconst 2 rfl rfl kc_i0 ?_
          refine ws_iconst 3 rfl rfl kc_i1 ?_
          refine ws_invS3p 6 rfl rfl rfl (p2) rfl rfl rfl ?_
          refine ws_if_eqb 37 9 rfl rfl rfl (fun h9 => absurd h9 (by first | decide | simp_all)) (fun h9 => ?_)
          refine ws_iload_2 10 rfl rfl ?_
          refine ws_iconst 11 rfl rfl kc_i0 ?_
          refine ws_iconst 12 rfl rfl kc_i4 ?_
          refine ws_invS3p 15 rfl rfl rfl (p4) rfl rfl rfl ?_
          refine ws_if_eqb 37 18 rfl rfl rfl (fun h9 => absurd h9 (by first | decide | simp_all)) (fun h9 => ?_)
          refine ws_iload_3 19 rfl rfl ?_
          refine ws_iconst 20 rfl rfl kc_i0 ?_
          refine ws_iconst 21 rfl rfl kc_i1 ?_
          refine ws_invS3p 24 rfl rfl rfl (p6) rfl rfl rfl ?_
          refine ws_if_eqb 37 27 rfl rfl rfl (fun h9 => ?_) (fun h9 => absurd h9 (by first | decide | simp_all))
          refine ws_bipush 39 rfl rfl kc_bm2 ?_
          refine ws_iret rfl rfl rfl (Nat.le_of_ble_eq_true rfl) ?_
          exact mQ.sm hR
      | true =>
        rw [hz] at p5 p6
        obtain ⟨w, -, hw, rfl⟩ := rg_nat (a := 0) (b := 1) hr (by omega)
        obtain ⟨a, -, ha, rfl⟩ := rg_nat (a := 0) (b := 4) hy (by omega)
        obtain ⟨c, -, hc, rfl⟩ := rg_nat (a := 0) (b := 1) hz (by omega)
        refine ⟨(nI (s.c.F (w * 10 + 2 * a + c))), s, hs, fun I L hC => ?_, fun I L hR => ?_⟩
        · refine xC.mk [some (.ref 0), some (.int (nI w)), some (.int (nI a)), some (.int (nI c))] rfl ?_
          refine ws_iload_1 1 rfl rfl ?_
          refine ws_iconst 2 rfl rfl kc_i2 ?_
          refine ws_invS2p 5 rfl rfl rfl (p1) rfl rfl rfl ?_
          refine ws_if_eqb 26 8 rfl rfl rfl (fun h9 => absurd h9 (by first | decide | simp_all)) (fun h9 => ?_)
          refine ws_iload_2 9 rfl rfl ?_
          refine ws_iconst 10 rfl rfl kc_i0 ?_
          refine ws_iconst 11 rfl rfl kc_i4 ?_
          refine ws_invS3p 14 rfl rfl rfl (p3) rfl rfl rfl ?_
          refine ws_if_eqb 26 17 rfl rfl rfl (fun h9 => absurd h9 (by first | decide | simp_all)) (fun h9 => ?_)
          refine ws_iload_3 18 rfl rfl ?_
          refine ws_iconst 19 rfl rfl kc_i0 ?_
          refine ws_iconst 20 rfl rfl kc_i1 ?_
          refine ws_invS3p 23 rfl rfl rfl (p5) rfl rfl rfl ?_
          refine ws_if_neb 29 26 rfl rfl rfl (fun h9 => ?_) (fun h9 => absurd h9 (by first | decide | simp_all))
          refine ws_aload_0 30 rfl rfl ?_
          refine ws_getfr 33 rfl rfl rfl rfl rfl ?_
          refine ws_iload_1 34 rfl rfl ?_
          refine ws_iload_2 35 rfl rfl ?_
          refine ws_iload_3 36 rfl rfl ?_
          refine ws_invV3p 39 rfl rfl rfl rfl (c_answer (T := xM0) hC.1.2.2.2.2.1 w a c (by omega) (by omega) (by omega)) rfl rfl rfl ?_
          refine ws_iret rfl rfl rfl (Nat.le_of_ble_eq_true rfl) ?_
          exact cQ.sm hC
        · refine xC.mk [some (.ref 42), some (.int (nI w)), some (.int (nI a)), some (.int (nI c))] rfl ?_
          obtain ⟨-, -, -, -, ⟨m1, m2⟩, m3, m4⟩ := hR.1.ms hs.1
          obtain ⟨f1, f2, f3, f4⟩ := hs.1.2.1
          have e1 : (2 * a + c) / 2 = a := by omega
          have e2 : (2 * a + c) % 2 = c := by omega
          rcases (show w = 0 ∨ w = 1 by omega) with rfl | rfl
          · have e := f3 (2 * a + c) (by omega)
            rw [e1, e2] at e
            rw [show 0 * 10 + 2 * a + c = 2 * a + c by omega, ← e]
            refine ws_iload_1 1 rfl rfl ?_
            refine ws_iconst 2 rfl rfl kc_i0 ?_
            refine ws_iconst 3 rfl rfl kc_i1 ?_
            refine ws_invS3p 6 rfl rfl rfl (p2) rfl rfl rfl ?_
            refine ws_if_eqb 37 9 rfl rfl rfl (fun h9 => absurd h9 (by first | decide | simp_all)) (fun h9 => ?_)
            refine ws_iload_2 10 rfl rfl ?_
            refine ws_iconst 11 rfl rfl kc_i0 ?_
            refine ws_iconst 12 rfl rfl kc_i4 ?_
            refine ws_invS3p 15 rfl rfl rfl (p4) rfl rfl rfl ?_
            refine ws_if_eqb 37 18 rfl rfl rfl (fun h9 => absurd h9 (by first | decide | simp_all)) (fun h9 => ?_)
            refine ws_iload_3 19 rfl rfl ?_
            refine ws_iconst 20 rfl rfl kc_i0 ?_
            refine ws_iconst 21 rfl rfl kc_i1 ?_
            refine ws_invS3p 24 rfl rfl rfl (p6) rfl rfl rfl ?_
            refine ws_if_eqb 37 27 rfl rfl rfl (fun h9 => absurd h9 (by first | decide | simp_all)) (fun h9 => ?_)
            refine ws_aload_0 28 rfl rfl ?_
            refine ws_iload_1 29 rfl rfl ?_
            refine ws_iload_2 30 rfl rfl ?_
            refine ws_iload_3 31 rfl rfl ?_
            refine ws_invV3 34 rfl rfl rfl rfl (m_saysOf 0 a c (by omega) (by omega) (by omega) f1 m1 m3) rfl rfl rfl ?_
            rintro _ _ ⟨rfl, L1, rfl, -⟩
            refine ws_goto 39 rfl rfl ?_
            refine ws_iret rfl rfl rfl (Nat.le_of_ble_eq_true rfl) ?_
            exact ⟨rfl, I, L1, rfl, hR, fun _ _ => rfl⟩
          · have e := f4 (2 * a + c) (by omega)
            rw [e1, e2] at e
            rw [show 1 * 10 + 2 * a + c = 10 + (2 * a + c) by omega, ← e]
            refine ws_iload_1 1 rfl rfl ?_
            refine ws_iconst 2 rfl rfl kc_i0 ?_
            refine ws_iconst 3 rfl rfl kc_i1 ?_
            refine ws_invS3p 6 rfl rfl rfl (p2) rfl rfl rfl ?_
            refine ws_if_eqb 37 9 rfl rfl rfl (fun h9 => absurd h9 (by first | decide | simp_all)) (fun h9 => ?_)
            refine ws_iload_2 10 rfl rfl ?_
            refine ws_iconst 11 rfl rfl kc_i0 ?_
            refine ws_iconst 12 rfl rfl kc_i4 ?_
            refine ws_invS3p 15 rfl rfl rfl (p4) rfl rfl rfl ?_
            refine ws_if_eqb 37 18 rfl rfl rfl (fun h9 => absurd h9 (by first | decide | simp_all)) (fun h9 => ?_)
            refine ws_iload_3 19 rfl rfl ?_
            refine ws_iconst 20 rfl rfl kc_i0 ?_
            refine ws_iconst 21 rfl rfl kc_i1 ?_
            refine ws_invS3p 24 rfl rfl rfl (p6) rfl rfl rfl ?_
            refine ws_if_eqb 37 27 rfl rfl rfl (fun h9 => absurd h9 (by first | decide | simp_all)) (fun h9 => ?_)
            refine ws_aload_0 28 rfl rfl ?_
            refine ws_iload_1 29 rfl rfl ?_
            refine ws_iload_2 30 rfl rfl ?_
            refine ws_iload_3 31 rfl rfl ?_
            refine ws_invV3 34 rfl rfl rfl rfl (m_saysOf 1 a c (by omega) (by omega) (by omega) f2 m2 m4) rfl rfl rfl ?_
            rintro _ _ ⟨rfl, L1, rfl, -⟩
            refine ws_goto 39 rfl rfl ?_
            refine ws_iret rfl rfl rfl (Nat.le_of_ble_eq_true rfl) ?_
            exact ⟨rfl, I, L1, rfl, hR, fun _ _ => rfl⟩
theorem f_lot (x : Int32) : Fl 74 133 [.int x] := by
  intro E s hE hs
  have p1 := p_below x 2 1 (by omega) rfl
  obtain ⟨-, -, -, -, hC9, hM⟩ := hs.1
  refine ⟨(lotV s.c.C s.c.M x), s, hs, fun I L hC => ?_, fun I L hR => ?_⟩
  · refine xC.mk [some (.ref 0), some (.int x)] rfl ?_
    unfold lotV
    cases hr : rg 0 1 x with
    | false =>
      rw [hr] at p1
      refine ws_iload_1 1 rfl rfl ?_
      refine ws_iconst 2 rfl rfl kc_i2 ?_
      refine ws_invS2p 5 rfl rfl rfl (p1) rfl rfl rfl ?_
      refine ws_if_neb 12 8 rfl rfl rfl (fun h9 => absurd h9 (by first | decide | simp_all)) (fun h9 => ?_)
      refine ws_ldc2 11 rfl rfl rfl rfl ?_
      refine ws_lret rfl rfl rfl (Nat.le_of_ble_eq_true rfl) ?_
      exact cQ.sm hC
    | true =>
      rw [hr] at p1
      obtain ⟨w, -, hw, rfl⟩ := rg_nat (a := 0) (b := 1) hr (by omega)
      obtain ⟨-, -, -, -, -, h6, h7, -⟩ := hC.1
      refine ws_iload_1 1 rfl rfl ?_
      refine ws_iconst 2 rfl rfl kc_i2 ?_
      refine ws_invS2p 5 rfl rfl rfl (p1) rfl rfl rfl ?_
      refine ws_if_neb 12 8 rfl rfl rfl (fun h9 => ?_) (fun h9 => absurd h9 (by first | decide | simp_all))
      refine ws_aload_0 13 rfl rfl ?_
      refine ws_getfr 16 rfl rfl rfl rfl rfl ?_
      refine ws_aload_0 17 rfl rfl ?_
      refine ws_getfr 20 rfl rfl rfl rfl rfl ?_
      refine ws_getfr 23 rfl rfl rfl rfl rfl ?_
      refine ws_aload_0 24 rfl rfl ?_
      refine ws_getfr 27 rfl rfl rfl rfl rfl ?_
      refine ws_getfi 30 rfl rfl rfl rfl rfl h7 ?_
      refine ws_invV2 33 rfl rfl rfl rfl (c_draw (T := xM0) hM hC9 h6) rfl rfl rfl ?_
      rintro _ _ ⟨rfl, L1, rfl, -, u0, u1⟩
      rcases (show w = 0 ∨ w = 1 by omega) with rfl | rfl
      · refine ws_iload_1 34 rfl rfl ?_
        refine ws_if_nen 47 37 rfl rfl rfl (by omega) (fun h9 => absurd h9 (by omega)) (fun h9 => ?_)
        refine ws_aload_0 38 rfl rfl ?_
        refine ws_getfr 41 rfl rfl rfl rfl rfl ?_
        refine ws_getfl 44 rfl rfl rfl rfl rfl u0 ?_
        refine ws_goto 54 rfl rfl ?_
        refine ws_lret rfl rfl rfl (Nat.le_of_ble_eq_true rfl) ?_
        exact ⟨rfl, I, L1, rfl, hC, fun _ _ => rfl⟩
      · refine ws_iload_1 34 rfl rfl ?_
        refine ws_if_nen 47 37 rfl rfl rfl (by omega) (fun h9 => ?_) (fun h9 => absurd h9 (by omega))
        refine ws_aload_0 48 rfl rfl ?_
        refine ws_getfr 51 rfl rfl rfl rfl rfl ?_
        refine ws_getfl 54 rfl rfl rfl rfl rfl u1 ?_
        refine ws_lret rfl rfl rfl (Nat.le_of_ble_eq_true rfl) ?_
        exact ⟨rfl, I, L1, rfl, hC, fun _ _ => rfl⟩
  · refine ((m_lot x hM hC9 hR.1.2.2.2.2.2.2.2.1 hR.1.2.2.2.2.2.2.2.2).deep (by omega)).mono ?_
    rintro _ _ ⟨rfl, rfl⟩
    exact mQ.sm hR
theorem f_boys (x y z w : Int32) : Fx 75 134 [.int x, .int y, .int z, .int w] := by
  intro E s hE hs
  have p1 := p_between x (nI 0) (nI 999) 0 999 rfl rfl
  have p2 := p_in x (nI 0) (nI 999) 0 999 rfl rfl
  have p3 := p_between y (nI 0) (nI 999) 0 999 rfl rfl
  have p4 := p_in y (nI 0) (nI 999) 0 999 rfl rfl
  cases hr : rg 0 999 x with
  | false =>
    rw [hr] at p1 p2
    refine ⟨(-2), s, hs, fun I L hC => ?_, fun I L hR => ?_⟩
    · refine xC.mk [some (.ref 0), some (.int x), some (.int y), some (.int z), some (.int w), none, none] rfl ?_
      refine ws_iload_1 1 rfl rfl ?_
      refine ws_iconst 2 rfl rfl kc_i0 ?_
      refine ws_sipush 5 rfl rfl kc_s999 ?_
      refine ws_invS3p 8 rfl rfl rfl (p1) rfl rfl rfl ?_
      refine ws_if_eqb 44 11 rfl rfl rfl (fun h9 => ?_) (fun h9 => absurd h9 (by first | decide | simp_all))
      refine ws_bipush 46 rfl rfl kc_bm2 ?_
      refine ws_iret rfl rfl rfl (Nat.le_of_ble_eq_true rfl) ?_
      exact cQ.sm hC
    · refine xC.mk [some (.ref 42), some (.int x), some (.int y), some (.int z), some (.int w), none] rfl ?_
      refine ws_iload_1 1 rfl rfl ?_
      refine ws_iconst 2 rfl rfl kc_i0 ?_
      refine ws_sipush 5 rfl rfl kc_s999 ?_
      refine ws_invS3p 8 rfl rfl rfl (p2) rfl rfl rfl ?_
      refine ws_if_eqb 50 11 rfl rfl rfl (fun h9 => ?_) (fun h9 => absurd h9 (by first | decide | simp_all))
      refine ws_bipush 52 rfl rfl kc_bm2 ?_
      refine ws_iret rfl rfl rfl (Nat.le_of_ble_eq_true rfl) ?_
      exact mQ.sm hR
  | true =>
    rw [hr] at p1 p2
    cases hy : rg 0 999 y with
    | false =>
      rw [hy] at p3 p4
      refine ⟨(-2), s, hs, fun I L hC => ?_, fun I L hR => ?_⟩
      · refine xC.mk [some (.ref 0), some (.int x), some (.int y), some (.int z), some (.int w), none, none] rfl ?_
        refine ws_iload_1 1 rfl rfl ?_
        refine ws_iconst 2 rfl rfl kc_i0 ?_
        refine ws_sipush 5 rfl rfl kc_s999 ?_
        refine ws_invS3p 8 rfl rfl rfl (p1) rfl rfl rfl ?_
        refine ws_if_eqb 44 11 rfl rfl rfl (fun h9 => absurd h9 (by first | decide | simp_all)) (fun h9 => ?_)
        refine ws_iload_2 12 rfl rfl ?_
        refine ws_iconst 13 rfl rfl kc_i0 ?_
        refine ws_sipush 16 rfl rfl kc_s999 ?_
        refine ws_invS3p 19 rfl rfl rfl (p3) rfl rfl rfl ?_
        refine ws_if_eqb 44 22 rfl rfl rfl (fun h9 => ?_) (fun h9 => absurd h9 (by first | decide | simp_all))
        refine ws_bipush 46 rfl rfl kc_bm2 ?_
        refine ws_iret rfl rfl rfl (Nat.le_of_ble_eq_true rfl) ?_
        exact cQ.sm hC
      · refine xC.mk [some (.ref 42), some (.int x), some (.int y), some (.int z), some (.int w), none] rfl ?_
        refine ws_iload_1 1 rfl rfl ?_
        refine ws_iconst 2 rfl rfl kc_i0 ?_
        refine ws_sipush 5 rfl rfl kc_s999 ?_
        refine ws_invS3p 8 rfl rfl rfl (p2) rfl rfl rfl ?_
        refine ws_if_eqb 50 11 rfl rfl rfl (fun h9 => absurd h9 (by first | decide | simp_all)) (fun h9 => ?_)
        refine ws_iload_2 12 rfl rfl ?_
        refine ws_iconst 13 rfl rfl kc_i0 ?_
        refine ws_sipush 16 rfl rfl kc_s999 ?_
        refine ws_invS3p 19 rfl rfl rfl (p4) rfl rfl rfl ?_
        refine ws_if_eqb 50 22 rfl rfl rfl (fun h9 => ?_) (fun h9 => absurd h9 (by first | decide | simp_all))
        refine ws_bipush 52 rfl rfl kc_bm2 ?_
        refine ws_iret rfl rfl rfl (Nat.le_of_ble_eq_true rfl) ?_
        exact mQ.sm hR
    | true =>
      rw [hy] at p3 p4
      obtain ⟨n, -, hn, rfl⟩ := rg_nat (a := 0) (b := 999) hr (by omega)
      obtain ⟨m, -, hm, rfl⟩ := rg_nat (a := 0) (b := 999) hy (by omega)
      have hmn : min n m ≤ 999 := by omega
      have pn := p_minn n m (by omega) (by omega)
      have p5 := p_between z (nI 0) (nI (min n m)) 0 (min n m : Nat) rfl (nI_toInt (by omega))
      have p6 := p_in z (nI 0) (nI (min n m)) 0 (min n m : Nat) rfl (nI_toInt (by omega))
      have p7 := p_below w 3 2 (by omega) rfl
      have p8 := p_in w (nI 0) (nI 2) 0 2 rfl rfl
      have toM : ∀ (σ : xMem) (Q : Option Value → xMem → Prop), xW E 20 134 34 [some (.ref 42), some (.int (nI n)), some (.int (nI m)), some (.int z), some (.int w), none] [.int (nI (min n m)), .int (nI 0), .int z] σ 0 0 Q → xW E 20 134 0 [some (.ref 42), some (.int (nI n)), some (.int (nI m)), some (.int z), some (.int w), none] [] σ 0 0 Q := by
        intro σ Q hk
        rcases Nat.lt_or_ge n m with h | h
        · rw [show min n m = n by omega] at hk
          refine ws_iload_1 1 rfl rfl ?_
          refine ws_iconst 2 rfl rfl kc_i0 ?_
          refine ws_sipush 5 rfl rfl kc_s999 ?_
          refine ws_invS3p 8 rfl rfl rfl (p2) rfl rfl rfl ?_
          refine ws_if_eqb 50 11 rfl rfl rfl (fun h9 => absurd h9 (by first | decide | simp_all)) (fun h9 => ?_)
          refine ws_iload_2 12 rfl rfl ?_
          refine ws_iconst 13 rfl rfl kc_i0 ?_
          refine ws_sipush 16 rfl rfl kc_s999 ?_
          refine ws_invS3p 19 rfl rfl rfl (p4) rfl rfl rfl ?_
          refine ws_if_eqb 50 22 rfl rfl rfl (fun h9 => absurd h9 (by first | decide | simp_all)) (fun h9 => ?_)
          refine ws_iload_3 23 rfl rfl ?_
          refine ws_iconst 24 rfl rfl kc_i0 ?_
          refine ws_iload_1 25 rfl rfl ?_
          refine ws_iload_2 26 rfl rfl ?_
          refine ws_icmp_gen 33 29 rfl rfl rfl (by omega) (by omega) (fun h9 => absurd h9 (by omega)) (fun h9 => ?_)
          refine ws_iload_1 30 rfl rfl ?_
          refine ws_goto 34 rfl rfl ?_
          exact hk
        · rw [show min n m = m by omega] at hk
          refine ws_iload_1 1 rfl rfl ?_
          refine ws_iconst 2 rfl rfl kc_i0 ?_
          refine ws_sipush 5 rfl rfl kc_s999 ?_
          refine ws_invS3p 8 rfl rfl rfl (p2) rfl rfl rfl ?_
          refine ws_if_eqb 50 11 rfl rfl rfl (fun h9 => absurd h9 (by first | decide | simp_all)) (fun h9 => ?_)
          refine ws_iload_2 12 rfl rfl ?_
          refine ws_iconst 13 rfl rfl kc_i0 ?_
          refine ws_sipush 16 rfl rfl kc_s999 ?_
          refine ws_invS3p 19 rfl rfl rfl (p4) rfl rfl rfl ?_
          refine ws_if_eqb 50 22 rfl rfl rfl (fun h9 => absurd h9 (by first | decide | simp_all)) (fun h9 => ?_)
          refine ws_iload_3 23 rfl rfl ?_
          refine ws_iconst 24 rfl rfl kc_i0 ?_
          refine ws_iload_1 25 rfl rfl ?_
          refine ws_iload_2 26 rfl rfl ?_
          refine ws_icmp_gen 33 29 rfl rfl rfl (by omega) (by omega) (fun h9 => ?_) (fun h9 => absurd h9 (by omega))
          refine ws_iload_2 34 rfl rfl ?_
          exact hk
      cases hz : rg 0 (min n m : Nat) z with
      | false =>
        rw [hz] at p5 p6
        refine ⟨(-2), s, hs, fun I L hC => ?_, fun I L hR => ?_⟩
        · refine xC.mk [some (.ref 0), some (.int (nI n)), some (.int (nI m)), some (.int z), some (.int w), none, none] rfl ?_
          refine ws_iload_1 1 rfl rfl ?_
          refine ws_iconst 2 rfl rfl kc_i0 ?_
          refine ws_sipush 5 rfl rfl kc_s999 ?_
          refine ws_invS3p 8 rfl rfl rfl (p1) rfl rfl rfl ?_
          refine ws_if_eqb 44 11 rfl rfl rfl (fun h9 => absurd h9 (by first | decide | simp_all)) (fun h9 => ?_)
          refine ws_iload_2 12 rfl rfl ?_
          refine ws_iconst 13 rfl rfl kc_i0 ?_
          refine ws_sipush 16 rfl rfl kc_s999 ?_
          refine ws_invS3p 19 rfl rfl rfl (p3) rfl rfl rfl ?_
          refine ws_if_eqb 44 22 rfl rfl rfl (fun h9 => absurd h9 (by first | decide | simp_all)) (fun h9 => ?_)
          refine ws_iload_3 23 rfl rfl ?_
          refine ws_iconst 24 rfl rfl kc_i0 ?_
          refine ws_iload_1 25 rfl rfl ?_
          refine ws_iload_2 26 rfl rfl ?_
          refine ws_invS2p 29 rfl rfl rfl (pn) rfl rfl rfl ?_
          refine ws_invS3p 32 rfl rfl rfl (p5) rfl rfl rfl ?_
          refine ws_if_eqb 44 35 rfl rfl rfl (fun h9 => ?_) (fun h9 => absurd h9 (by first | decide | simp_all))
          refine ws_bipush 46 rfl rfl kc_bm2 ?_
          refine ws_iret rfl rfl rfl (Nat.le_of_ble_eq_true rfl) ?_
          exact cQ.sm hC
        · refine xC.mk [some (.ref 42), some (.int (nI n)), some (.int (nI m)), some (.int z), some (.int w), none] rfl ?_
          refine toM _ _ ?_
          refine ws_invS3p 37 rfl rfl rfl (p6) rfl rfl rfl ?_
          refine ws_if_eqb 50 40 rfl rfl rfl (fun h9 => ?_) (fun h9 => absurd h9 (by first | decide | simp_all))
          refine ws_bipush 52 rfl rfl kc_bm2 ?_
          refine ws_iret rfl rfl rfl (Nat.le_of_ble_eq_true rfl) ?_
          exact mQ.sm hR
      | true =>
        rw [hz] at p5 p6
        cases hw : rg 0 2 w with
        | false =>
          rw [hw] at p7 p8
          refine ⟨(-2), s, hs, fun I L hC => ?_, fun I L hR => ?_⟩
          · refine xC.mk [some (.ref 0), some (.int (nI n)), some (.int (nI m)), some (.int z), some (.int w), none, none] rfl ?_
            refine ws_iload_1 1 rfl rfl ?_
            refine ws_iconst 2 rfl rfl kc_i0 ?_
            refine ws_sipush 5 rfl rfl kc_s999 ?_
            refine ws_invS3p 8 rfl rfl rfl (p1) rfl rfl rfl ?_
            refine ws_if_eqb 44 11 rfl rfl rfl (fun h9 => absurd h9 (by first | decide | simp_all)) (fun h9 => ?_)
            refine ws_iload_2 12 rfl rfl ?_
            refine ws_iconst 13 rfl rfl kc_i0 ?_
            refine ws_sipush 16 rfl rfl kc_s999 ?_
            refine ws_invS3p 19 rfl rfl rfl (p3) rfl rfl rfl ?_
            refine ws_if_eqb 44 22 rfl rfl rfl (fun h9 => absurd h9 (by first | decide | simp_all)) (fun h9 => ?_)
            refine ws_iload_3 23 rfl rfl ?_
            refine ws_iconst 24 rfl rfl kc_i0 ?_
            refine ws_iload_1 25 rfl rfl ?_
            refine ws_iload_2 26 rfl rfl ?_
            refine ws_invS2p 29 rfl rfl rfl (pn) rfl rfl rfl ?_
            refine ws_invS3p 32 rfl rfl rfl (p5) rfl rfl rfl ?_
            refine ws_if_eqb 44 35 rfl rfl rfl (fun h9 => absurd h9 (by first | decide | simp_all)) (fun h9 => ?_)
            refine ws_iload_4 37 rfl rfl ?_
            refine ws_iconst 38 rfl rfl kc_i3 ?_
            refine ws_invS2p 41 rfl rfl rfl (p7) rfl rfl rfl ?_
            refine ws_if_neb 47 44 rfl rfl rfl (fun h9 => absurd h9 (by first | decide | simp_all)) (fun h9 => ?_)
            refine ws_bipush 46 rfl rfl kc_bm2 ?_
            refine ws_iret rfl rfl rfl (Nat.le_of_ble_eq_true rfl) ?_
            exact cQ.sm hC
          · refine xC.mk [some (.ref 42), some (.int (nI n)), some (.int (nI m)), some (.int z), some (.int w), none] rfl ?_
            refine toM _ _ ?_
            refine ws_invS3p 37 rfl rfl rfl (p6) rfl rfl rfl ?_
            refine ws_if_eqb 50 40 rfl rfl rfl (fun h9 => absurd h9 (by first | decide | simp_all)) (fun h9 => ?_)
            refine ws_iload_4 42 rfl rfl ?_
            refine ws_iconst 43 rfl rfl kc_i0 ?_
            refine ws_iconst 44 rfl rfl kc_i2 ?_
            refine ws_invS3p 47 rfl rfl rfl (p8) rfl rfl rfl ?_
            refine ws_if_neb 53 50 rfl rfl rfl (fun h9 => absurd h9 (by first | decide | simp_all)) (fun h9 => ?_)
            refine ws_bipush 52 rfl rfl kc_bm2 ?_
            refine ws_iret rfl rfl rfl (Nat.le_of_ble_eq_true rfl) ?_
            exact mQ.sm hR
        | true =>
          rw [hw] at p7 p8
          obtain ⟨b, -, hb, rfl⟩ := rg_nat (a := 0) (b := min n m) hz (by omega)
          obtain ⟨q, -, hq, rfl⟩ := rg_nat (a := 0) (b := 2) hw (by omega)
          have hnm : n * m ≤ 998001 := Nat.mul_le_mul hn hm
          have hdv : n * m / b ≤ n * m := Nat.div_le_self _ _
          refine ⟨(if q = 0 then nI (n + m - b) else if b = 0 then -6 else if q = 1 then nI (n * m / b) else nI (n * m / b) - nI (n + m - b)), s, hs, fun I L hC => ?_, fun I L hR => ?_⟩
          · refine xC.mk [some (.ref 0), some (.int (nI n)), some (.int (nI m)), some (.int (nI b)), some (.int (nI q)), none, none] rfl ?_
            refine ws_iload_1 1 rfl rfl ?_
            refine ws_iconst 2 rfl rfl kc_i0 ?_
            refine ws_sipush 5 rfl rfl kc_s999 ?_
            refine ws_invS3p 8 rfl rfl rfl (p1) rfl rfl rfl ?_
            refine ws_if_eqb 44 11 rfl rfl rfl (fun h9 => absurd h9 (by first | decide | simp_all)) (fun h9 => ?_)
            refine ws_iload_2 12 rfl rfl ?_
            refine ws_iconst 13 rfl rfl kc_i0 ?_
            refine ws_sipush 16 rfl rfl kc_s999 ?_
            refine ws_invS3p 19 rfl rfl rfl (p3) rfl rfl rfl ?_
            refine ws_if_eqb 44 22 rfl rfl rfl (fun h9 => absurd h9 (by first | decide | simp_all)) (fun h9 => ?_)
            refine ws_iload_3 23 rfl rfl ?_
            refine ws_iconst 24 rfl rfl kc_i0 ?_
            refine ws_iload_1 25 rfl rfl ?_
            refine ws_iload_2 26 rfl rfl ?_
            refine ws_invS2p 29 rfl rfl rfl (pn) rfl rfl rfl ?_
            refine ws_invS3p 32 rfl rfl rfl (p5) rfl rfl rfl ?_
            refine ws_if_eqb 44 35 rfl rfl rfl (fun h9 => absurd h9 (by first | decide | simp_all)) (fun h9 => ?_)
            refine ws_iload_4 37 rfl rfl ?_
            refine ws_iconst 38 rfl rfl kc_i3 ?_
            refine ws_invS2p 41 rfl rfl rfl (p7) rfl rfl rfl ?_
            refine ws_if_neb 47 44 rfl rfl rfl (fun h9 => ?_) (fun h9 => absurd h9 (by first | decide | simp_all))
            refine ws_iload_1 48 rfl rfl ?_
            refine ws_iload_2 49 rfl rfl ?_
            refine ws_iadd 50 rfl rfl (nI_add _ _) ?_
            refine ws_iload_3 51 rfl rfl ?_
            refine ws_isub 52 rfl rfl (pk_sub (by omega)) ?_
            refine ws_istore_5 54 rfl rfl rfl rfl ?_
            by_cases h0 : q = 0
            · rw [if_pos h0]
              refine ws_iload_4 56 rfl rfl ?_
              refine ws_if_nen 62 59 rfl rfl rfl (by omega) (fun h9 => absurd h9 (by omega)) (fun h9 => ?_)
              refine ws_iload_5 61 rfl rfl ?_
              refine ws_iret rfl rfl rfl (Nat.le_of_ble_eq_true rfl) ?_
              exact cQ.sm hC
            · rw [if_neg h0]
              by_cases hb0 : b = 0
              · rw [if_pos hb0]
                refine ws_iload_4 56 rfl rfl ?_
                refine ws_if_nen 62 59 rfl rfl rfl (by omega) (fun h9 => ?_) (fun h9 => absurd h9 (by omega))
                refine ws_iload_3 63 rfl rfl ?_
                refine ws_if_nen 69 66 rfl rfl rfl (by omega) (fun h9 => absurd h9 (by omega)) (fun h9 => ?_)
                refine ws_bipush 68 rfl rfl kc_bm6 ?_
                refine ws_iret rfl rfl rfl (Nat.le_of_ble_eq_true rfl) ?_
                exact cQ.sm hC
              · rw [if_neg hb0]
                by_cases h1 : q = 1
                · rw [if_pos h1]
                  refine ws_iload_4 56 rfl rfl ?_
                  refine ws_if_nen 62 59 rfl rfl rfl (by omega) (fun h9 => ?_) (fun h9 => absurd h9 (by omega))
                  refine ws_iload_3 63 rfl rfl ?_
                  refine ws_if_nen 69 66 rfl rfl rfl (by omega) (fun h9 => ?_) (fun h9 => absurd h9 (by omega))
                  refine ws_iload_1 70 rfl rfl ?_
                  refine ws_iload_2 71 rfl rfl ?_
                  refine ws_imul 72 rfl rfl (pk_mul _ _) ?_
                  refine ws_iload_3 73 rfl rfl ?_
                  refine ws_idiv 74 rfl rfl (kn_ne0 (by omega) (by omega)) (pk_div (by omega) (by omega) (by omega)) ?_
                  refine ws_istore_6 76 rfl rfl rfl rfl ?_
                  refine ws_iload_4 78 rfl rfl ?_
                  refine ws_iconst 79 rfl rfl kc_i1 ?_
                  refine ws_icmp_nen 87 82 rfl rfl rfl (by omega) (by omega) (fun h9 => absurd h9 (by omega)) (fun h9 => ?_)
                  refine ws_iload_6 84 rfl rfl ?_
                  refine ws_goto 92 rfl rfl ?_
                  refine ws_iret rfl rfl rfl (Nat.le_of_ble_eq_true rfl) ?_
                  exact cQ.sm hC
                · rw [if_neg h1]
                  refine ws_iload_4 56 rfl rfl ?_
                  refine ws_if_nen 62 59 rfl rfl rfl (by omega) (fun h9 => ?_) (fun h9 => absurd h9 (by omega))
                  refine ws_iload_3 63 rfl rfl ?_
                  refine ws_if_nen 69 66 rfl rfl rfl (by omega) (fun h9 => ?_) (fun h9 => absurd h9 (by omega))
                  refine ws_iload_1 70 rfl rfl ?_
                  refine ws_iload_2 71 rfl rfl ?_
                  refine ws_imul 72 rfl rfl (pk_mul _ _) ?_
                  refine ws_iload_3 73 rfl rfl ?_
                  refine ws_idiv 74 rfl rfl (kn_ne0 (by omega) (by omega)) (pk_div (by omega) (by omega) (by omega)) ?_
                  refine ws_istore_6 76 rfl rfl rfl rfl ?_
                  refine ws_iload_4 78 rfl rfl ?_
                  refine ws_iconst 79 rfl rfl kc_i1 ?_
                  refine ws_icmp_nen 87 82 rfl rfl rfl (by omega) (by omega) (fun h9 => ?_) (fun h9 => absurd h9 (by omega))
                  refine ws_iload_6 89 rfl rfl ?_
                  refine ws_iload_5 91 rfl rfl ?_
                  refine ws_isub 92 rfl rfl rfl ?_
                  refine ws_iret rfl rfl rfl (Nat.le_of_ble_eq_true rfl) ?_
                  exact cQ.sm hC
          · refine xC.mk [some (.ref 42), some (.int (nI n)), some (.int (nI m)), some (.int (nI b)), some (.int (nI q)), none] rfl ?_
            refine toM _ _ ?_
            refine ws_invS3p 37 rfl rfl rfl (p6) rfl rfl rfl ?_
            refine ws_if_eqb 50 40 rfl rfl rfl (fun h9 => absurd h9 (by first | decide | simp_all)) (fun h9 => ?_)
            refine ws_iload_4 42 rfl rfl ?_
            refine ws_iconst 43 rfl rfl kc_i0 ?_
            refine ws_iconst 44 rfl rfl kc_i2 ?_
            refine ws_invS3p 47 rfl rfl rfl (p8) rfl rfl rfl ?_
            refine ws_if_neb 53 50 rfl rfl rfl (fun h9 => ?_) (fun h9 => absurd h9 (by first | decide | simp_all))
            refine ws_iload_1 54 rfl rfl ?_
            refine ws_iload_2 55 rfl rfl ?_
            refine ws_iadd 56 rfl rfl (nI_add _ _) ?_
            refine ws_iload_3 57 rfl rfl ?_
            refine ws_isub 58 rfl rfl (pk_sub (by omega)) ?_
            refine ws_istore_5 60 rfl rfl rfl rfl ?_
            by_cases h0 : q = 0
            · rw [if_pos h0]
              refine ws_iload_4 62 rfl rfl ?_
              refine ws_if_nen 68 65 rfl rfl rfl (by omega) (fun h9 => absurd h9 (by omega)) (fun h9 => ?_)
              refine ws_iload_5 67 rfl rfl ?_
              refine ws_iret rfl rfl rfl (Nat.le_of_ble_eq_true rfl) ?_
              exact mQ.sm hR
            · rw [if_neg h0]
              by_cases hb0 : b = 0
              · rw [if_pos hb0]
                refine ws_iload_4 62 rfl rfl ?_
                refine ws_if_nen 68 65 rfl rfl rfl (by omega) (fun h9 => ?_) (fun h9 => absurd h9 (by omega))
                refine ws_iload_3 69 rfl rfl ?_
                refine ws_if_nen 77 72 rfl rfl rfl (by omega) (fun h9 => absurd h9 (by omega)) (fun h9 => ?_)
                refine ws_bipush 74 rfl rfl kc_bm6 ?_
                refine ws_goto 99 rfl rfl ?_
                refine ws_iret rfl rfl rfl (Nat.le_of_ble_eq_true rfl) ?_
                exact mQ.sm hR
              · rw [if_neg hb0]
                by_cases h1 : q = 1
                · rw [if_pos h1]
                  refine ws_iload_4 62 rfl rfl ?_
                  refine ws_if_nen 68 65 rfl rfl rfl (by omega) (fun h9 => ?_) (fun h9 => absurd h9 (by omega))
                  refine ws_iload_3 69 rfl rfl ?_
                  refine ws_if_nen 77 72 rfl rfl rfl (by omega) (fun h9 => ?_) (fun h9 => absurd h9 (by omega))
                  refine ws_iload_4 79 rfl rfl ?_
                  refine ws_iconst 80 rfl rfl kc_i1 ?_
                  refine ws_icmp_nen 91 83 rfl rfl rfl (by omega) (by omega) (fun h9 => absurd h9 (by omega)) (fun h9 => ?_)
                  refine ws_iload_1 84 rfl rfl ?_
                  refine ws_iload_2 85 rfl rfl ?_
                  refine ws_imul 86 rfl rfl (pk_mul _ _) ?_
                  refine ws_iload_3 87 rfl rfl ?_
                  refine ws_idiv 88 rfl rfl (kn_ne0 (by omega) (by omega)) (pk_div (by omega) (by omega) (by omega)) ?_
                  refine ws_goto 99 rfl rfl ?_
                  refine ws_iret rfl rfl rfl (Nat.le_of_ble_eq_true rfl) ?_
                  exact mQ.sm hR
                · rw [if_neg h1]
                  refine ws_iload_4 62 rfl rfl ?_
                  refine ws_if_nen 68 65 rfl rfl rfl (by omega) (fun h9 => ?_) (fun h9 => absurd h9 (by omega))
                  refine ws_iload_3 69 rfl rfl ?_
                  refine ws_if_nen 77 72 rfl rfl rfl (by omega) (fun h9 => ?_) (fun h9 => absurd h9 (by omega))
                  refine ws_iload_4 79 rfl rfl ?_
                  refine ws_iconst 80 rfl rfl kc_i1 ?_
                  refine ws_icmp_nen 91 83 rfl rfl rfl (by omega) (by omega) (fun h9 => ?_) (fun h9 => absurd h9 (by omega))
                  refine ws_iload_1 92 rfl rfl ?_
                  refine ws_iload_2 93 rfl rfl ?_
                  refine ws_imul 94 rfl rfl (pk_mul _ _) ?_
                  refine ws_iload_3 95 rfl rfl ?_
                  refine ws_idiv 96 rfl rfl (kn_ne0 (by omega) (by omega)) (pk_div (by omega) (by omega) (by omega)) ?_
                  refine ws_iload_5 98 rfl rfl ?_
                  refine ws_isub 99 rfl rfl rfl ?_
                  refine ws_iret rfl rfl rfl (Nat.le_of_ble_eq_true rfl) ?_
                  exact mQ.sm hR
