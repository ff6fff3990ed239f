/-! ===== thing, kind, other, say, fault, says, boys ===== -/
theorem f_thing (x y z : Int32) : Fx 47 85 [.int x, .int y, .int z] := by
  intro E s hE hs
  have p1 := p_below5 x
  have p2 := p_isFive x
  cases hr : rg 0 4 x with
  | false =>
    rw [hr] at p1 p2
    refine ⟨(-1), s, hs, fun I L hC => ?_, fun I L hR => ?_⟩
    · refine xC.mk [some (.ref 0), some (.int x), some (.int y), some (.int z), none] rfl ?_
      refine ws_iload_1 1 rfl rfl ?_
      refine ws_iconst 2 rfl rfl kc_i5 ?_
      refine ws_invS2p 5 rfl rfl rfl (p1) rfl rfl rfl ?_
      refine ws_if_neb 10 8 rfl rfl rfl (fun h9 => absurd h9 (by first | decide | simp_all)) (fun h9 => ?_)
      refine ws_iconst 9 rfl rfl kc_im1 ?_
      refine ws_iret rfl rfl rfl (Nat.le_of_ble_eq_true rfl) ?_
      exact cQ.sm hC
    · refine xC.mk [some (.ref 42), some (.int x), some (.int y), some (.int z), none] rfl ?_
      refine ws_iload_1 1 rfl rfl ?_
      refine ws_invS1p 4 rfl rfl rfl (p2) rfl rfl rfl ?_
      refine ws_if_neb 9 7 rfl rfl rfl (fun h9 => absurd h9 (by first | decide | simp_all)) (fun h9 => ?_)
      refine ws_iconst 8 rfl rfl kc_im1 ?_
      refine ws_iret rfl rfl rfl (Nat.le_of_ble_eq_true rfl) ?_
      exact mQ.sm hR
  | true =>
    rw [hr] at p1 p2
    have p3 := p_below y 3 2 (by omega) rfl
    have p4 := p_in y (nI 0) (nI 2) 0 2 rfl rfl
    cases hy : rg 0 2 y with
    | false =>
      rw [hy] at p3 p4
      refine ⟨(-2), s, hs, fun I L hC => ?_, fun I L hR => ?_⟩
      · refine xC.mk [some (.ref 0), some (.int x), some (.int y), some (.int z), none] rfl ?_
        refine ws_iload_1 1 rfl rfl ?_
        refine ws_iconst 2 rfl rfl kc_i5 ?_
        refine ws_invS2p 5 rfl rfl rfl (p1) rfl rfl rfl ?_
        refine ws_if_neb 10 8 rfl rfl rfl (fun h9 => ?_) (fun h9 => absurd h9 (by first | decide | simp_all))
        refine ws_iload_2 11 rfl rfl ?_
        refine ws_iconst 12 rfl rfl kc_i3 ?_
        refine ws_invS2p 15 rfl rfl rfl (p3) rfl rfl rfl ?_
        refine ws_if_eqb 31 18 rfl rfl rfl (fun h9 => ?_) (fun h9 => absurd h9 (by first | decide | simp_all))
        refine ws_bipush 33 rfl rfl kc_bm2 ?_
        refine ws_iret rfl rfl rfl (Nat.le_of_ble_eq_true rfl) ?_
        exact cQ.sm hC
      · refine xC.mk [some (.ref 42), some (.int x), some (.int y), some (.int z), none] rfl ?_
        refine ws_iload_1 1 rfl rfl ?_
        refine ws_invS1p 4 rfl rfl rfl (p2) rfl rfl rfl ?_
        refine ws_if_neb 9 7 rfl rfl rfl (fun h9 => ?_) (fun h9 => absurd h9 (by first | decide | simp_all))
        refine ws_iload_2 10 rfl rfl ?_
        refine ws_iconst 11 rfl rfl kc_i0 ?_
        refine ws_iconst 12 rfl rfl kc_i2 ?_
        refine ws_invS3p 15 rfl rfl rfl (p4) rfl rfl rfl ?_
        refine ws_if_eqb 46 18 rfl rfl rfl (fun h9 => ?_) (fun h9 => absurd h9 (by first | decide | simp_all))
        refine ws_bipush 48 rfl rfl kc_bm2 ?_
        refine ws_iret rfl rfl rfl (Nat.le_of_ble_eq_true rfl) ?_
        exact mQ.sm hR
    | true =>
      rw [hy] at p3 p4
      obtain ⟨t, -, ht4, rfl⟩ := rg_nat (a := 0) (b := 4) hr (by omega)
      obtain ⟨w, -, hw2, rfl⟩ := rg_nat (a := 0) (b := 2) hy (by omega)
      have hm99 : tmx w ≤ 99 := by rcases (show w = 0 ∨ w = 1 ∨ w = 2 by omega) with rfl | rfl | rfl <;> decide
      have p5 := p_between z (nI 0) (nI (tmx w)) 0 (tmx w) rfl (nI_toInt (by omega))
      have p6 := p_in z (nI 0) (nI (tmx w)) 0 (tmx w) rfl (nI_toInt (by omega))
      have toM : ∀ (σ : xMem) (Q : Option Value → xMem → Prop), xW E 20 85 40 [some (.ref 42), some (.int (nI t)), some (.int (nI w)), some (.int z), none] [.int (nI (tmx w)), .int (nI 0), .int z] σ 0 0 Q → xW E 20 85 20 [some (.ref 42), some (.int (nI t)), some (.int (nI w)), some (.int z), none] [.int (nI 0), .int z] σ 0 0 Q := by
        intro σ Q hk
        rcases (show w = 0 ∨ w = 1 ∨ w = 2 by omega) with rfl | rfl | rfl
        · refine ws_iload_2 21 rfl rfl ?_
          refine ws_if_nen 29 24 rfl rfl rfl (by omega) (fun h9 => absurd h9 (by omega)) (fun h9 => ?_)
          refine ws_bipush 26 rfl rfl kc_b9 ?_
          refine ws_goto 40 rfl rfl ?_
          exact hk
        · refine ws_iload_2 21 rfl rfl ?_
          refine ws_if_nen 29 24 rfl rfl rfl (by omega) (fun h9 => ?_) (fun h9 => absurd h9 (by omega))
          refine ws_iload_2 30 rfl rfl ?_
          refine ws_iconst 31 rfl rfl kc_i1 ?_
          refine ws_icmp_nen 39 34 rfl rfl rfl (by omega) (by omega) (fun h9 => absurd h9 (by omega)) (fun h9 => ?_)
          refine ws_bipush 36 rfl rfl kc_b99 ?_
          refine ws_goto 40 rfl rfl ?_
          exact hk
        · refine ws_iload_2 21 rfl rfl ?_
          refine ws_if_nen 29 24 rfl rfl rfl (by omega) (fun h9 => ?_) (fun h9 => absurd h9 (by omega))
          refine ws_iload_2 30 rfl rfl ?_
          refine ws_iconst 31 rfl rfl kc_i1 ?_
          refine ws_icmp_nen 39 34 rfl rfl rfl (by omega) (by omega) (fun h9 => ?_) (fun h9 => absurd h9 (by omega))
          refine ws_iconst 40 rfl rfl kc_i2 ?_
          exact hk
      have hst : stf [9, 99, 2] w = nI (tmx w) := rfl
      cases hz : rg 0 (tmx w) z with
      | false =>
        rw [hz] at p5 p6
        refine ⟨(-2), s, hs, fun I L hC => ?_, fun I L hR => ?_⟩
        · refine xC.mk [some (.ref 0), some (.int (nI t)), some (.int (nI w)), some (.int z), none] rfl ?_
          refine ws_iload_1 1 rfl rfl ?_
          refine ws_iconst 2 rfl rfl kc_i5 ?_
          refine ws_invS2p 5 rfl rfl rfl (p1) rfl rfl rfl ?_
          refine ws_if_neb 10 8 rfl rfl rfl (fun h9 => ?_) (fun h9 => absurd h9 (by first | decide | simp_all))
          refine ws_iload_2 11 rfl rfl ?_
          refine ws_iconst 12 rfl rfl kc_i3 ?_
          refine ws_invS2p 15 rfl rfl rfl (p3) rfl rfl rfl ?_
          refine ws_if_eqb 31 18 rfl rfl rfl (fun h9 => absurd h9 (by first | decide | simp_all)) (fun h9 => ?_)
          refine ws_iload_3 19 rfl rfl ?_
          refine ws_iconst 20 rfl rfl kc_i0 ?_
          refine ws_gets 23 rfl rfl rfl rfl ?_
          refine ws_iload_2 24 rfl rfl ?_
          refine ws_xaldn 25 rfl rfl 3 rfl hE.2.2.1 (by omega) (by omega) hst ?_
          refine ws_invS3p 28 rfl rfl rfl (p5) rfl rfl rfl ?_
          refine ws_if_neb 34 31 rfl rfl rfl (fun h9 => absurd h9 (by first | decide | simp_all)) (fun h9 => ?_)
          refine ws_bipush 33 rfl rfl kc_bm2 ?_
          refine ws_iret rfl rfl rfl (Nat.le_of_ble_eq_true rfl) ?_
          exact cQ.sm hC
        · refine xC.mk [some (.ref 42), some (.int (nI t)), some (.int (nI w)), some (.int z), none] rfl ?_
          refine ws_iload_1 1 rfl rfl ?_
          refine ws_invS1p 4 rfl rfl rfl (p2) rfl rfl rfl ?_
          refine ws_if_neb 9 7 rfl rfl rfl (fun h9 => ?_) (fun h9 => absurd h9 (by first | decide | simp_all))
          refine ws_iload_2 10 rfl rfl ?_
          refine ws_iconst 11 rfl rfl kc_i0 ?_
          refine ws_iconst 12 rfl rfl kc_i2 ?_
          refine ws_invS3p 15 rfl rfl rfl (p4) rfl rfl rfl ?_
          refine ws_if_eqb 46 18 rfl rfl rfl (fun h9 => absurd h9 (by first | decide | simp_all)) (fun h9 => ?_)
          refine ws_iload_3 19 rfl rfl ?_
          refine ws_iconst 20 rfl rfl kc_i0 ?_
          refine toM _ _ ?_
          refine ws_invS3p 43 rfl rfl rfl (p6) rfl rfl rfl ?_
          refine ws_if_neb 49 46 rfl rfl rfl (fun h9 => absurd h9 (by first | decide | simp_all)) (fun h9 => ?_)
          refine ws_bipush 48 rfl rfl kc_bm2 ?_
          refine ws_iret rfl rfl rfl (Nat.le_of_ble_eq_true rfl) ?_
          exact mQ.sm hR
      | true =>
        rw [hz] at p5 p6
        obtain ⟨v, -, hv, rfl⟩ := rg_nat (a := 0) (b := tmx w) hz (by omega)
        have e5 : w * 5 + t = 5 * w + t := by omega
        refine ⟨(nI (s.c.A 0 (w * 5 + t))), sA s (xA s.c 0 (w * 5 + t) v), OK_A hs ?_ (by decide) (by decide), fun I L hC => ?_, fun I L hR => ?_⟩
        · obtain ⟨o1, o2, o3, o4, o5, o6⟩ := hs.1.1
          refine ⟨fun j hj => ?_, ?_, fun j hj => ?_, ?_, ?_, o6⟩
          · rw [uA_eq]; split
            · obtain rfl : w = 0 := by omega
              exact hv
            · exact o1 j hj
          · rw [uA_ne (by decide)]; exact o2
          · rw [uA_eq]; split
            · omega
            · exact o3 j hj
          · rw [uA_ne (by decide)]; exact o4
          · unfold okK; rw [uA_ne (by decide)]; exact o5
        · refine xC.mk [some (.ref 0), some (.int (nI t)), some (.int (nI w)), some (.int (nI v)), none] rfl ?_
          refine ws_iload_1 1 rfl rfl ?_
          refine ws_iconst 2 rfl rfl kc_i5 ?_
          refine ws_invS2p 5 rfl rfl rfl (p1) rfl rfl rfl ?_
          refine ws_if_neb 10 8 rfl rfl rfl (fun h9 => ?_) (fun h9 => absurd h9 (by first | decide | simp_all))
          refine ws_iload_2 11 rfl rfl ?_
          refine ws_iconst 12 rfl rfl kc_i3 ?_
          refine ws_invS2p 15 rfl rfl rfl (p3) rfl rfl rfl ?_
          refine ws_if_eqb 31 18 rfl rfl rfl (fun h9 => absurd h9 (by first | decide | simp_all)) (fun h9 => ?_)
          refine ws_iload_3 19 rfl rfl ?_
          refine ws_iconst 20 rfl rfl kc_i0 ?_
          refine ws_gets 23 rfl rfl rfl rfl ?_
          refine ws_iload_2 24 rfl rfl ?_
          refine ws_xaldn 25 rfl rfl 3 rfl hE.2.2.1 (by omega) (by omega) hst ?_
          refine ws_invS3p 28 rfl rfl rfl (p5) rfl rfl rfl ?_
          refine ws_if_neb 34 31 rfl rfl rfl (fun h9 => ?_) (fun h9 => absurd h9 (by first | decide | simp_all))
          refine ws_aload_0 35 rfl rfl ?_
          refine ws_getfr 38 rfl rfl rfl rfl rfl ?_
          refine ws_iload_1 39 rfl rfl ?_
          refine ws_iload_2 40 rfl rfl ?_
          refine ws_invV2p 43 rfl rfl rfl rfl (c_trait hC.1.1 t w (by omega) (by omega)) rfl rfl rfl ?_
          refine ws_istore_4 45 rfl rfl rfl rfl ?_
          refine ws_aload_0 46 rfl rfl ?_
          refine ws_getfr 49 rfl rfl rfl rfl rfl ?_
          refine ws_getfr 52 rfl rfl rfl rfl rfl ?_
          refine ws_iload_2 53 rfl rfl ?_
          refine ws_iconst 54 rfl rfl kc_i5 ?_
          refine ws_imul 55 rfl rfl (pk_mul _ _) ?_
          refine ws_iload_1 56 rfl rfl ?_
          refine ws_iadd 57 rfl rfl (nI_add _ _) ?_
          refine ws_iload_3 58 rfl rfl ?_
          refine ws_iastn 59 rfl rfl rfl (by omega) (by omega) ?_
          refine ws_aload_0 60 rfl rfl ?_
          refine ws_getfr 63 rfl rfl rfl rfl rfl ?_
          refine ws_invV0 66 rfl rfl rfl rfl (c_forget) rfl rfl rfl ?_
          rintro _ _ ⟨rfl, rfl⟩
          refine ws_iload_4 68 rfl rfl ?_
          refine ws_iret rfl rfl rfl (Nat.le_of_ble_eq_true rfl) ?_
          exact cA_done hC (by omega)
        · refine xC.mk [some (.ref 42), some (.int (nI t)), some (.int (nI w)), some (.int (nI v)), none] rfl ?_
          have h43 : I 43 (5 * w + t) = nI (s.c.A 0 (w * 5 + t)) := by rw [e5]; exact hR.1.1 _ (by omega)
          refine ws_iload_1 1 rfl rfl ?_
          refine ws_invS1p 4 rfl rfl rfl (p2) rfl rfl rfl ?_
          refine ws_if_neb 9 7 rfl rfl rfl (fun h9 => ?_) (fun h9 => absurd h9 (by first | decide | simp_all))
          refine ws_iload_2 10 rfl rfl ?_
          refine ws_iconst 11 rfl rfl kc_i0 ?_
          refine ws_iconst 12 rfl rfl kc_i2 ?_
          refine ws_invS3p 15 rfl rfl rfl (p4) rfl rfl rfl ?_
          refine ws_if_eqb 46 18 rfl rfl rfl (fun h9 => absurd h9 (by first | decide | simp_all)) (fun h9 => ?_)
          refine ws_iload_3 19 rfl rfl ?_
          refine ws_iconst 20 rfl rfl kc_i0 ?_
          refine toM _ _ ?_
          rw [e5] at h43 ⊢
          refine ws_invS3p 43 rfl rfl rfl (p6) rfl rfl rfl ?_
          refine ws_if_neb 49 46 rfl rfl rfl (fun h9 => ?_) (fun h9 => absurd h9 (by first | decide | simp_all))
          refine ws_aload_0 50 rfl rfl ?_
          refine ws_getfr 53 rfl rfl rfl rfl rfl ?_
          refine ws_iconst 54 rfl rfl kc_i5 ?_
          refine ws_iload_2 55 rfl rfl ?_
          refine ws_imul 56 rfl rfl (pk_mul _ _) ?_
          refine ws_iload_1 57 rfl rfl ?_
          refine ws_iadd 58 rfl rfl (nI_add _ _) ?_
          refine ws_ialdn 59 rfl rfl rfl (by omega) (by omega) h43 ?_
          refine ws_istore_4 61 rfl rfl rfl rfl ?_
          refine ws_aload_0 62 rfl rfl ?_
          refine ws_getfr 65 rfl rfl rfl rfl rfl ?_
          refine ws_iconst 66 rfl rfl kc_i5 ?_
          refine ws_iload_2 67 rfl rfl ?_
          refine ws_imul 68 rfl rfl (pk_mul _ _) ?_
          refine ws_iload_1 69 rfl rfl ?_
          refine ws_iadd 70 rfl rfl (nI_add _ _) ?_
          refine ws_iload_3 71 rfl rfl ?_
          refine ws_iastn 72 rfl rfl rfl (by omega) (by omega) ?_
          refine ws_aload_0 73 rfl rfl ?_
          refine ws_iconst 74 rfl rfl kc_i0 ?_
          refine ws_putfi 77 rfl rfl rfl rfl rfl rfl rfl rfl ?_
          refine ws_iload_4 79 rfl rfl ?_
          refine ws_iret rfl rfl rfl (Nat.le_of_ble_eq_true rfl) ?_
          exact mA_done hR (by omega)
theorem f_kind (x y z : Int32) : Fx 55 101 [.int x, .int y, .int z] := by
  intro E s hE hs
  have p1 := p_below x 4 3 (by omega) rfl
  have p2 := p_in x (nI 0) (nI 3) 0 3 rfl rfl
  cases hr : rg 0 3 x with
  | false =>
    rw [hr] at p1 p2
    refine ⟨(-1), s, hs, fun I L hC => ?_, fun I L hR => ?_⟩
    · refine xC.mk [some (.ref 0), some (.int x), some (.int y), some (.int z), none] rfl ?_
      refine ws_iload_1 1 rfl rfl ?_
      refine ws_iconst 2 rfl rfl kc_i4 ?_
      refine ws_invS2p 5 rfl rfl rfl (p1) rfl rfl rfl ?_
      refine ws_if_neb 10 8 rfl rfl rfl (fun h9 => absurd h9 (by first | decide | simp_all)) (fun h9 => ?_)
      refine ws_iconst 9 rfl rfl kc_im1 ?_
      refine ws_iret rfl rfl rfl (Nat.le_of_ble_eq_true rfl) ?_
      exact cQ.sm hC
    · refine xC.mk [some (.ref 42), some (.int x), some (.int y), some (.int z), none] rfl ?_
      refine ws_iload_1 1 rfl rfl ?_
      refine ws_iconst 2 rfl rfl kc_i0 ?_
      refine ws_iconst 3 rfl rfl kc_i3 ?_
      refine ws_invS3p 6 rfl rfl rfl (p2) rfl rfl rfl ?_
      refine ws_if_neb 11 9 rfl rfl rfl (fun h9 => absurd h9 (by first | decide | simp_all)) (fun h9 => ?_)
      refine ws_iconst 10 rfl rfl kc_im1 ?_
      refine ws_iret rfl rfl rfl (Nat.le_of_ble_eq_true rfl) ?_
      exact mQ.sm hR
  | true =>
    rw [hr] at p1 p2
    have p3 := p_below y 6 5 (by omega) rfl
    have p4 := p_in y (nI 0) (nI 5) 0 5 rfl rfl
    cases hy : rg 0 5 y with
    | false =>
      rw [hy] at p3 p4
      refine ⟨(-2), s, hs, fun I L hC => ?_, fun I L hR => ?_⟩
      · refine xC.mk [some (.ref 0), some (.int x), some (.int y), some (.int z), none] rfl ?_
        refine ws_iload_1 1 rfl rfl ?_
        refine ws_iconst 2 rfl rfl kc_i4 ?_
        refine ws_invS2p 5 rfl rfl rfl (p1) rfl rfl rfl ?_
        refine ws_if_neb 10 8 rfl rfl rfl (fun h9 => ?_) (fun h9 => absurd h9 (by first | decide | simp_all))
        refine ws_iload_2 11 rfl rfl ?_
        refine ws_bipush 13 rfl rfl kc_b6 ?_
        refine ws_invS2p 16 rfl rfl rfl (p3) rfl rfl rfl ?_
        refine ws_if_eqb 36 19 rfl rfl rfl (fun h9 => ?_) (fun h9 => absurd h9 (by first | decide | simp_all))
        refine ws_bipush 38 rfl rfl kc_bm2 ?_
        refine ws_iret rfl rfl rfl (Nat.le_of_ble_eq_true rfl) ?_
        exact cQ.sm hC
      · refine xC.mk [some (.ref 42), some (.int x), some (.int y), some (.int z), none] rfl ?_
        refine ws_iload_1 1 rfl rfl ?_
        refine ws_iconst 2 rfl rfl kc_i0 ?_
        refine ws_iconst 3 rfl rfl kc_i3 ?_
        refine ws_invS3p 6 rfl rfl rfl (p2) rfl rfl rfl ?_
        refine ws_if_neb 11 9 rfl rfl rfl (fun h9 => ?_) (fun h9 => absurd h9 (by first | decide | simp_all))
        refine ws_iload_2 12 rfl rfl ?_
        refine ws_iconst 13 rfl rfl kc_i0 ?_
        refine ws_iconst 14 rfl rfl kc_i5 ?_
        refine ws_invS3p 17 rfl rfl rfl (p4) rfl rfl rfl ?_
        refine ws_if_eqb 35 20 rfl rfl rfl (fun h9 => ?_) (fun h9 => absurd h9 (by first | decide | simp_all))
        refine ws_bipush 37 rfl rfl kc_bm2 ?_
        refine ws_iret rfl rfl rfl (Nat.le_of_ble_eq_true rfl) ?_
        exact mQ.sm hR
    | true =>
      rw [hy] at p3 p4
      obtain ⟨k, -, hk3, rfl⟩ := rg_nat (a := 0) (b := 3) hr (by omega)
      obtain ⟨w, -, hw5, rfl⟩ := rg_nat (a := 0) (b := 5) hy (by omega)
      obtain ⟨hm1, hm2⟩ := hhi_le w (by omega)
      have p5 := p_between z (nI (hlo w)) (nI (hhi w)) (hlo w) (hhi w) (nI_toInt (by omega)) (nI_toInt (by omega))
      have p6 := p_in z (nI (hlo w)) (nI (hhi w)) (hlo w) (hhi w) (nI_toInt (by omega)) (nI_toInt (by omega))
      have pl := p_leastOf6 w (by omega)
      have pm := p_mostOf w (by omega)
      have hst4 : stf [0, 1, 1, 0, 0, 0] w = nI (hlo w) := rfl
      have hst5 : stf [1, 4, 5, 9, 5, 999] w = nI (hhi w) := rfl
      cases hz : rg (hlo w) (hhi w) z with
      | false =>
        rw [hz] at p5 p6
        refine ⟨(-2), s, hs, fun I L hC => ?_, fun I L hR => ?_⟩
        · refine xC.mk [some (.ref 0), some (.int (nI k)), some (.int (nI w)), some (.int z), none] rfl ?_
          refine ws_iload_1 1 rfl rfl ?_
          refine ws_iconst 2 rfl rfl kc_i4 ?_
          refine ws_invS2p 5 rfl rfl rfl (p1) rfl rfl rfl ?_
          refine ws_if_neb 10 8 rfl rfl rfl (fun h9 => ?_) (fun h9 => absurd h9 (by first | decide | simp_all))
          refine ws_iload_2 11 rfl rfl ?_
          refine ws_bipush 13 rfl rfl kc_b6 ?_
          refine ws_invS2p 16 rfl rfl rfl (p3) rfl rfl rfl ?_
          refine ws_if_eqb 36 19 rfl rfl rfl (fun h9 => absurd h9 (by first | decide | simp_all)) (fun h9 => ?_)
          refine ws_iload_3 20 rfl rfl ?_
          refine ws_gets 23 rfl rfl rfl rfl ?_
          refine ws_iload_2 24 rfl rfl ?_
          refine ws_xaldn 25 rfl rfl 4 rfl hE.2.2.2.1 (by omega) (by omega) hst4 ?_
          refine ws_gets 28 rfl rfl rfl rfl ?_
          refine ws_iload_2 29 rfl rfl ?_
          refine ws_xaldn 30 rfl rfl 5 rfl hE.2.2.2.2 (by omega) (by omega) hst5 ?_
          refine ws_invS3p 33 rfl rfl rfl (p5) rfl rfl rfl ?_
          refine ws_if_neb 39 36 rfl rfl rfl (fun h9 => absurd h9 (by first | decide | simp_all)) (fun h9 => ?_)
          refine ws_bipush 38 rfl rfl kc_bm2 ?_
          refine ws_iret rfl rfl rfl (Nat.le_of_ble_eq_true rfl) ?_
          exact cQ.sm hC
        · refine xC.mk [some (.ref 42), some (.int (nI k)), some (.int (nI w)), some (.int z), none] rfl ?_
          refine ws_iload_1 1 rfl rfl ?_
          refine ws_iconst 2 rfl rfl kc_i0 ?_
          refine ws_iconst 3 rfl rfl kc_i3 ?_
          refine ws_invS3p 6 rfl rfl rfl (p2) rfl rfl rfl ?_
          refine ws_if_neb 11 9 rfl rfl rfl (fun h9 => ?_) (fun h9 => absurd h9 (by first | decide | simp_all))
          refine ws_iload_2 12 rfl rfl ?_
          refine ws_iconst 13 rfl rfl kc_i0 ?_
          refine ws_iconst 14 rfl rfl kc_i5 ?_
          refine ws_invS3p 17 rfl rfl rfl (p4) rfl rfl rfl ?_
          refine ws_if_eqb 35 20 rfl rfl rfl (fun h9 => absurd h9 (by first | decide | simp_all)) (fun h9 => ?_)
          refine ws_iload_3 21 rfl rfl ?_
          refine ws_iload_2 22 rfl rfl ?_
          refine ws_invS1p 25 rfl rfl rfl (pl) rfl rfl rfl ?_
          refine ws_iload_2 26 rfl rfl ?_
          refine ws_invS1p 29 rfl rfl rfl (pm) rfl rfl rfl ?_
          refine ws_invS3p 32 rfl rfl rfl (p6) rfl rfl rfl ?_
          refine ws_if_neb 38 35 rfl rfl rfl (fun h9 => absurd h9 (by first | decide | simp_all)) (fun h9 => ?_)
          refine ws_bipush 37 rfl rfl kc_bm2 ?_
          refine ws_iret rfl rfl rfl (Nat.le_of_ble_eq_true rfl) ?_
          exact mQ.sm hR
      | true =>
        rw [hz] at p5 p6
        obtain ⟨v, hv1, hv2, rfl⟩ := rg_nat (a := hlo w) (b := hhi w) hz (by omega)
        have e6 : k * 6 + w = 6 * k + w := by omega
        refine ⟨(nI (s.c.A 3 (k * 6 + w))), sA s (xA s.c 3 (k * 6 + w) v), OK_A hs ?_ (by decide) (by decide), fun I L hC => ?_, fun I L hR => ?_⟩
        · obtain ⟨o1, o2, o3, o4, o5, o6⟩ := hs.1.1
          refine ⟨?_, ?_, ?_, ?_, okK_iff.mpr (fun k' hk' i hi => ?_), o6⟩
          · rw [uA_ne (by decide)]; exact o1
          · rw [uA_ne (by decide)]; exact o2
          · rw [uA_ne (by decide)]; exact o3
          · rw [uA_ne (by decide)]; exact o4
          · rw [uA_eq]; split
            · obtain rfl : i = w := by omega
              exact ⟨hv1, hv2⟩
            · exact okK_iff.mp o5 k' hk' i hi
        · refine xC.mk [some (.ref 0), some (.int (nI k)), some (.int (nI w)), some (.int (nI v)), none] rfl ?_
          refine ws_iload_1 1 rfl rfl ?_
          refine ws_iconst 2 rfl rfl kc_i4 ?_
          refine ws_invS2p 5 rfl rfl rfl (p1) rfl rfl rfl ?_
          refine ws_if_neb 10 8 rfl rfl rfl (fun h9 => ?_) (fun h9 => absurd h9 (by first | decide | simp_all))
          refine ws_iload_2 11 rfl rfl ?_
          refine ws_bipush 13 rfl rfl kc_b6 ?_
          refine ws_invS2p 16 rfl rfl rfl (p3) rfl rfl rfl ?_
          refine ws_if_eqb 36 19 rfl rfl rfl (fun h9 => absurd h9 (by first | decide | simp_all)) (fun h9 => ?_)
          refine ws_iload_3 20 rfl rfl ?_
          refine ws_gets 23 rfl rfl rfl rfl ?_
          refine ws_iload_2 24 rfl rfl ?_
          refine ws_xaldn 25 rfl rfl 4 rfl hE.2.2.2.1 (by omega) (by omega) hst4 ?_
          refine ws_gets 28 rfl rfl rfl rfl ?_
          refine ws_iload_2 29 rfl rfl ?_
          refine ws_xaldn 30 rfl rfl 5 rfl hE.2.2.2.2 (by omega) (by omega) hst5 ?_
          refine ws_invS3p 33 rfl rfl rfl (p5) rfl rfl rfl ?_
          refine ws_if_neb 39 36 rfl rfl rfl (fun h9 => ?_) (fun h9 => absurd h9 (by first | decide | simp_all))
          refine ws_aload_0 40 rfl rfl ?_
          refine ws_getfr 43 rfl rfl rfl rfl rfl ?_
          refine ws_iload_1 44 rfl rfl ?_
          refine ws_iload_2 45 rfl rfl ?_
          refine ws_invV2p 48 rfl rfl rfl rfl (c_habit hC.1.2.2.2.1 k w (by omega) (by omega)) rfl rfl rfl ?_
          refine ws_istore_4 50 rfl rfl rfl rfl ?_
          refine ws_aload_0 51 rfl rfl ?_
          refine ws_getfr 54 rfl rfl rfl rfl rfl ?_
          refine ws_getfr 57 rfl rfl rfl rfl rfl ?_
          refine ws_iload_1 58 rfl rfl ?_
          refine ws_bipush 60 rfl rfl kc_b6 ?_
          refine ws_imul 61 rfl rfl (pk_mul _ _) ?_
          refine ws_iload_2 62 rfl rfl ?_
          refine ws_iadd 63 rfl rfl (nI_add _ _) ?_
          refine ws_iload_3 64 rfl rfl ?_
          refine ws_iastn 65 rfl rfl rfl (by omega) (by omega) ?_
          refine ws_aload_0 66 rfl rfl ?_
          refine ws_getfr 69 rfl rfl rfl rfl rfl ?_
          refine ws_invV0 72 rfl rfl rfl rfl (c_forget) rfl rfl rfl ?_
          rintro _ _ ⟨rfl, rfl⟩
          refine ws_iload_4 74 rfl rfl ?_
          refine ws_iret rfl rfl rfl (Nat.le_of_ble_eq_true rfl) ?_
          exact cA_done hC (by omega)
        · refine xC.mk [some (.ref 42), some (.int (nI k)), some (.int (nI w)), some (.int (nI v)), none] rfl ?_
          have h47 : I 47 (6 * k + w) = nI (s.c.A 3 (k * 6 + w)) := by rw [e6]; exact hR.1.2.2.2.1 _ (by omega)
          rw [e6] at h47 ⊢
          refine ws_iload_1 1 rfl rfl ?_
          refine ws_iconst 2 rfl rfl kc_i0 ?_
          refine ws_iconst 3 rfl rfl kc_i3 ?_
          refine ws_invS3p 6 rfl rfl rfl (p2) rfl rfl rfl ?_
          refine ws_if_neb 11 9 rfl rfl rfl (fun h9 => ?_) (fun h9 => absurd h9 (by first | decide | simp_all))
          refine ws_iload_2 12 rfl rfl ?_
          refine ws_iconst 13 rfl rfl kc_i0 ?_
          refine ws_iconst 14 rfl rfl kc_i5 ?_
          refine ws_invS3p 17 rfl rfl rfl (p4) rfl rfl rfl ?_
          refine ws_if_eqb 35 20 rfl rfl rfl (fun h9 => absurd h9 (by first | decide | simp_all)) (fun h9 => ?_)
          refine ws_iload_3 21 rfl rfl ?_
          refine ws_iload_2 22 rfl rfl ?_
          refine ws_invS1p 25 rfl rfl rfl (pl) rfl rfl rfl ?_
          refine ws_iload_2 26 rfl rfl ?_
          refine ws_invS1p 29 rfl rfl rfl (pm) rfl rfl rfl ?_
          refine ws_invS3p 32 rfl rfl rfl (p6) rfl rfl rfl ?_
          refine ws_if_neb 38 35 rfl rfl rfl (fun h9 => ?_) (fun h9 => absurd h9 (by first | decide | simp_all))
          refine ws_aload_0 39 rfl rfl ?_
          refine ws_getfr 42 rfl rfl rfl rfl rfl ?_
          refine ws_bipush 44 rfl rfl kc_b6 ?_
          refine ws_iload_1 45 rfl rfl ?_
          refine ws_imul 46 rfl rfl (pk_mul _ _) ?_
          refine ws_iload_2 47 rfl rfl ?_
          refine ws_iadd 48 rfl rfl (nI_add _ _) ?_
          refine ws_ialdn 49 rfl rfl rfl (by omega) (by omega) h47 ?_
          refine ws_istore_4 51 rfl rfl rfl rfl ?_
          refine ws_aload_0 52 rfl rfl ?_
          refine ws_getfr 55 rfl rfl rfl rfl rfl ?_
          refine ws_bipush 57 rfl rfl kc_b6 ?_
          refine ws_iload_1 58 rfl rfl ?_
          refine ws_imul 59 rfl rfl (pk_mul _ _) ?_
          refine ws_iload_2 60 rfl rfl ?_
          refine ws_iadd 61 rfl rfl (nI_add _ _) ?_
          refine ws_iload_3 62 rfl rfl ?_
          refine ws_iastn 63 rfl rfl rfl (by omega) (by omega) ?_
          refine ws_aload_0 64 rfl rfl ?_
          refine ws_iconst 65 rfl rfl kc_i0 ?_
          refine ws_putfi 68 rfl rfl rfl rfl rfl rfl rfl rfl ?_
          refine ws_iload_4 70 rfl rfl ?_
          refine ws_iret rfl rfl rfl (Nat.le_of_ble_eq_true rfl) ?_
          exact mA_done hR (by omega)
theorem f_other (x : Int32) : Fx 62 116 [.int x] := by
  intro E s hE hs
  have p1 := p_between x (nI 0) (nI 99) 0 99 rfl rfl
  have p2 := p_in x (nI 0) (nI 99) 0 99 rfl rfl
  cases hr : rg 0 99 x with
  | false =>
    rw [hr] at p1 p2
    refine ⟨(-2), s, hs, fun I L hC => ?_, fun I L hR => ?_⟩
    · refine xC.mk [some (.ref 0), some (.int x), none] rfl ?_
      refine ws_iload_1 1 rfl rfl ?_
      refine ws_iconst 2 rfl rfl kc_i0 ?_
      refine ws_bipush 4 rfl rfl kc_b99 ?_
      refine ws_invS3p 7 rfl rfl rfl (p1) rfl rfl rfl ?_
      refine ws_if_neb 13 10 rfl rfl rfl (fun h9 => absurd h9 (by first | decide | simp_all)) (fun h9 => ?_)
      refine ws_bipush 12 rfl rfl kc_bm2 ?_
      refine ws_iret rfl rfl rfl (Nat.le_of_ble_eq_true rfl) ?_
      exact cQ.sm hC
    · refine xC.mk [some (.ref 42), some (.int x), none] rfl ?_
      refine ws_iload_1 1 rfl rfl ?_
      refine ws_iconst 2 rfl rfl kc_i0 ?_
      refine ws_bipush 4 rfl rfl kc_b99 ?_
      refine ws_invS3p 7 rfl rfl rfl (p2) rfl rfl rfl ?_
      refine ws_if_neb 13 10 rfl rfl rfl (fun h9 => absurd h9 (by first | decide | simp_all)) (fun h9 => ?_)
      refine ws_bipush 12 rfl rfl kc_bm2 ?_
      refine ws_iret rfl rfl rfl (Nat.le_of_ble_eq_true rfl) ?_
      exact mQ.sm hR
  | true =>
    rw [hr] at p1 p2
    obtain ⟨v, -, hv, rfl⟩ := rg_nat (a := 0) (b := 99) hr (by omega)
    refine ⟨(nI (s.c.A 6 0)), sA s (xA s.c 6 0 v), OK_A hs ?_ (by decide) (by decide), fun I L hC => ?_, fun I L hR => ?_⟩
    · obtain ⟨o1, o2, o3, o4, o5, o6⟩ := hs.1.1
      refine ⟨?_, ?_, ?_, ?_, ?_, o6⟩
      · rw [uA_ne (by decide)]; exact o1
      · rw [uA_ne (by decide)]; exact o2
      · rw [uA_ne (by decide)]; exact o3
      · rw [uA_eq, if_pos rfl]; exact hv
      · unfold okK; rw [uA_ne (by decide)]; exact o5
    · refine xC.mk [some (.ref 0), some (.int (nI v)), none] rfl ?_
      have h57 : I 5 7 = nI (s.c.A 6 0) := hC.1.2.2.2.2.2.2.2
      refine ws_iload_1 1 rfl rfl ?_
      refine ws_iconst 2 rfl rfl kc_i0 ?_
      refine ws_bipush 4 rfl rfl kc_b99 ?_
      refine ws_invS3p 7 rfl rfl rfl (p1) rfl rfl rfl ?_
      refine ws_if_neb 13 10 rfl rfl rfl (fun h9 => ?_) (fun h9 => absurd h9 (by first | decide | simp_all))
      refine ws_aload_0 14 rfl rfl ?_
      refine ws_getfr 17 rfl rfl rfl rfl rfl ?_
      refine ws_getfi 20 rfl rfl rfl rfl rfl h57 ?_
      refine ws_istore_2 21 rfl rfl rfl rfl ?_
      refine ws_aload_0 22 rfl rfl ?_
      refine ws_getfr 25 rfl rfl rfl rfl rfl ?_
      refine ws_iload_1 26 rfl rfl ?_
      refine ws_putfi 29 rfl rfl rfl rfl rfl rfl rfl rfl ?_
      refine ws_aload_0 30 rfl rfl ?_
      refine ws_getfr 33 rfl rfl rfl rfl rfl ?_
      refine ws_invV0 36 rfl rfl rfl rfl (c_forget) rfl rfl rfl ?_
      rintro _ _ ⟨rfl, rfl⟩
      refine ws_iload_2 37 rfl rfl ?_
      refine ws_iret rfl rfl rfl (Nat.le_of_ble_eq_true rfl) ?_
      refine ⟨rfl, _, _, rfl, hC.mv ?_ (fun a ha => by rw [wI_ne (by omega), wI_ne (by omega)]) (by rw [wI_eq, pk_un (by decide), wI_ne (by decide)]) rfl, fun a ha => by rw [wI_ne (by omega), wI_ne (by omega)]⟩
      obtain ⟨h1, h2, h3, h4, h5, h6, h7, h8⟩ := hC.1
      have key : ∀ k', k' ≠ 6 → (xA s.c 6 0 v).A k' = s.c.A k' := fun k' hk' => uA_ne hk'
      have hf : ∀ a, 5 < a → a < 12 → wI (wI I 5 7 (nI v)) 19 5 (nI 0) a = I a := fun a a1 a2 => by rw [wI_ne (by omega), wI_ne (by omega)]
      unfold scn
      rw [key 0 (by decide), key 1 (by decide), key 3 (by decide), hf 6 (by omega) (by omega), hf 7 (by omega) (by omega), hf 8 (by omega) (by omega), hf 9 (by omega) (by omega), hf 10 (by omega) (by omega), hf 11 (by omega) (by omega)]
      refine ⟨h1, h2, h3, h4, h5, h6, ?_, ?_⟩
      · rw [wI_ne (by decide), wI_eq, pk_un (by decide)]; exact h7
      · rw [wI_ne (by decide), wI_eq, pk_us]; rfl
    · refine xC.mk [some (.ref 42), some (.int (nI v)), none] rfl ?_
      have h428 : I 42 8 = nI (s.c.A 6 0) := hR.1.2.2.2.2.2.2.1
      refine ws_iload_1 1 rfl rfl ?_
      refine ws_iconst 2 rfl rfl kc_i0 ?_
      refine ws_bipush 4 rfl rfl kc_b99 ?_
      refine ws_invS3p 7 rfl rfl rfl (p2) rfl rfl rfl ?_
      refine ws_if_neb 13 10 rfl rfl rfl (fun h9 => ?_) (fun h9 => absurd h9 (by first | decide | simp_all))
      refine ws_aload_0 14 rfl rfl ?_
      refine ws_getfi 17 rfl rfl rfl rfl rfl h428 ?_
      refine ws_istore_2 18 rfl rfl rfl rfl ?_
      refine ws_aload_0 19 rfl rfl ?_
      refine ws_iload_1 20 rfl rfl ?_
      refine ws_putfi 23 rfl rfl rfl rfl rfl rfl rfl rfl ?_
      refine ws_aload_0 24 rfl rfl ?_
      refine ws_iconst 25 rfl rfl kc_i0 ?_
      refine ws_putfi 28 rfl rfl rfl rfl rfl rfl rfl rfl ?_
      refine ws_iload_2 29 rfl rfl ?_
      refine ws_iret rfl rfl rfl (Nat.le_of_ble_eq_true rfl) ?_
      refine ⟨rfl, _, _, rfl, hR.mv ?_ (fun a ha => by rw [wI_ne (by omega), wI_ne (by omega)]) (by rw [wI_eq, pk_un (by decide), wI_eq, pk_un (by decide)]) rfl, fun a ha => by rw [wI_ne (by omega), wI_ne (by omega)]⟩
      obtain ⟨h1, h2, h3, h4, h5, h6, h7, h8, h9⟩ := hR.1
      have key : ∀ k', k' ≠ 6 → (xA s.c 6 0 v).A k' = s.c.A k' := fun k' hk' => uA_ne hk'
      have hf : ∀ a, 42 < a → a < 52 → wI (wI I 42 8 (nI v)) 42 11 (nI 0) a = I a := fun a a1 a2 => by rw [wI_ne (by omega), wI_ne (by omega)]
      unfold rsn
      rw [key 0 (by decide), key 1 (by decide), key 3 (by decide), key 4 (by decide), key 5 (by decide), hf 43 (by omega) (by omega), hf 44 (by omega) (by omega), hf 46 (by omega) (by omega), hf 47 (by omega) (by omega), hf 48 (by omega) (by omega), hf 49 (by omega) (by omega), hf 50 (by omega) (by omega), hf 51 (by omega) (by omega)]
      refine ⟨h1, h2, h3, h4, h5, h6, ?_, h8, h9⟩
      rw [wI_eq, pk_un (by decide), wI_eq, pk_us]; rfl
