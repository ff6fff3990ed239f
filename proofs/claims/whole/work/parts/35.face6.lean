/-! ===== exchanges, stale, mends ===== -/
theorem f_exchanges (x : Int32) : Fx 65 127 [.int x] := by
  intro E s hE hs
  have p1 := p_below x 3 2 (by omega) rfl
  have p2 := p_in x (nI 0) (nI 2) 0 2 rfl rfl
  cases hr : rg 0 2 x with
  | false =>
    rw [hr] at p1 p2
    refine ⟨(-2), s, hs, fun I L hC => ?_, fun I L hR => ?_⟩
    · refine xC.mk [some (.ref 0), some (.int x)] rfl ?_
      refine ws_iload_1 1 rfl rfl ?_
      refine ws_iconst 2 rfl rfl kc_i3 ?_
      refine ws_invS2p 5 rfl rfl rfl (p1) rfl rfl rfl ?_
      refine ws_if_neb 11 8 rfl rfl rfl (fun h9 => absurd h9 (by first | decide | simp_all)) (fun h9 => ?_)
      refine ws_bipush 10 rfl rfl kc_bm2 ?_
      refine ws_iret rfl rfl rfl (Nat.le_of_ble_eq_true rfl) ?_
      exact cQ.sm hC
    · refine xC.mk [some (.ref 42), some (.int x), none, none, none, none] rfl ?_
      refine ws_iload_1 1 rfl rfl ?_
      refine ws_iconst 2 rfl rfl kc_i0 ?_
      refine ws_iconst 3 rfl rfl kc_i2 ?_
      refine ws_invS3p 6 rfl rfl rfl (p2) rfl rfl rfl ?_
      refine ws_if_neb 12 9 rfl rfl rfl (fun h9 => absurd h9 (by first | decide | simp_all)) (fun h9 => ?_)
      refine ws_bipush 11 rfl rfl kc_bm2 ?_
      refine ws_iret rfl rfl rfl (Nat.le_of_ble_eq_true rfl) ?_
      exact mQ.sm hR
  | true =>
    rw [hr] at p1 p2
    obtain ⟨w, -, hw, rfl⟩ := rg_nat (a := 0) (b := 2) hr (by omega)
    obtain ⟨c1, hc1, hc1ok⟩ := gsel_ex (A := s.c.A) (F := s.c.F) 0 ok_0 (ft_0 31 (by omega))
    have hc17 := hc1ok.1
    obtain ⟨hok, hF, hb, hd, -⟩ := hs.1
    obtain ⟨c, hcd⟩ : ∃ c, c = cd s.c.b := ⟨_, rfl⟩
    have hc : okC c := by rw [hcd]; exact okC_of hb hd
    have hc7 := hc.1
    obtain ⟨z, hz⟩ : ∃ z, z = clm (wkc s.c.A s.c.F) 20 c := ⟨_, rfl⟩
    have hzo : okC z.2 ∧ z.1 ≤ 20 := by rw [hz]; exact clm_ok 20 c hc
    have hz2 := hzo.1.1
    have hz1 := hzo.2
    refine ⟨(if w = 0 then nI z.1 else if w = 1 then nI (wkc s.c.A s.c.F z.2) else nI (wkc s.c.A s.c.F c1) - nI (wkc s.c.A s.c.F z.2)), s, hs, fun I L hC => ?_, fun I L hR => ?_⟩
    · refine xC.mk [some (.ref 0), some (.int (nI w))] rfl ?_
      refine ws_iload_1 1 rfl rfl ?_
      refine ws_iconst 2 rfl rfl kc_i3 ?_
      refine ws_invS2p 5 rfl rfl rfl (p1) rfl rfl rfl ?_
      refine ws_if_neb 11 8 rfl rfl rfl (fun h9 => ?_) (fun h9 => absurd h9 (by first | decide | simp_all))
      refine ws_aload_0 12 rfl rfl ?_
      refine ws_getfr 15 rfl rfl rfl rfl rfl ?_
      refine ws_aload_0 16 rfl rfl ?_
      refine ws_getfr 19 rfl rfl rfl rfl rfl ?_
      refine ws_getfr 22 rfl rfl rfl rfl rfl ?_
      refine ws_invV1 25 rfl rfl rfl rfl (c_climb (T := xM0) hc hok hC.1.sc hC.2.1 (fun p hp => by rw [hcd, dg_cd hb p hp]; exact hC.1.2.2.1 p hp)) rfl rfl rfl ?_
      rintro _ _ ⟨rfl, I1, rfl, hf1, h10, h11, hR1⟩
      rw [← hz] at h10 h11
      have hC1 : CR s I1 := hC.scr (fun a ha => hf1 a (by omega)) hR1.pr
      rcases (show w = 0 ∨ w = 1 ∨ w = 2 by omega) with rfl | rfl | rfl
      · refine ws_iload_1 26 rfl rfl ?_
        refine ws_if_nen 37 29 rfl rfl rfl (by omega) (fun h9 => absurd h9 (by omega)) (fun h9 => ?_)
        refine ws_aload_0 30 rfl rfl ?_
        refine ws_getfr 33 rfl rfl rfl rfl rfl ?_
        refine ws_getfi 36 rfl rfl rfl rfl rfl h10 ?_
        refine ws_iret rfl rfl rfl (Nat.le_of_ble_eq_true rfl) ?_
        exact ⟨rfl, I1, L, rfl, hC1, fun a ha => hf1 a (by omega)⟩
      · refine ws_iload_1 26 rfl rfl ?_
        refine ws_if_nen 37 29 rfl rfl rfl (by omega) (fun h9 => ?_) (fun h9 => absurd h9 (by omega))
        refine ws_iload_1 38 rfl rfl ?_
        refine ws_iconst 39 rfl rfl kc_i1 ?_
        refine ws_icmp_nen 52 42 rfl rfl rfl (by omega) (by omega) (fun h9 => absurd h9 (by omega)) (fun h9 => ?_)
        refine ws_aload_0 43 rfl rfl ?_
        refine ws_getfr 46 rfl rfl rfl rfl rfl ?_
        refine ws_getfi 49 rfl rfl rfl rfl rfl h11 ?_
        refine ws_goto 64 rfl rfl ?_
        refine ws_iret rfl rfl rfl (Nat.le_of_ble_eq_true rfl) ?_
        exact ⟨rfl, I1, L, rfl, hC1, fun a ha => hf1 a (by omega)⟩
      · refine ws_iload_1 26 rfl rfl ?_
        refine ws_if_nen 37 29 rfl rfl rfl (by omega) (fun h9 => ?_) (fun h9 => absurd h9 (by omega))
        refine ws_iload_1 38 rfl rfl ?_
        refine ws_iconst 39 rfl rfl kc_i1 ?_
        refine ws_icmp_nen 52 42 rfl rfl rfl (by omega) (by omega) (fun h9 => ?_) (fun h9 => absurd h9 (by omega))
        refine ws_aload_0 53 rfl rfl ?_
        refine ws_invV0 56 rfl rfl rfl rfl (k_gw c1 hc1 hs hC1) rfl rfl rfl ?_
        rintro _ _ ⟨rfl, I2, rfl, hC2, hf2, hj2⟩
        have h11' : I2 19 11 = nI (wkc s.c.A s.c.F z.2) := by rw [hj2 11 (by decide) (by decide)]; exact h11
        refine ws_aload_0 57 rfl rfl ?_
        refine ws_getfr 60 rfl rfl rfl rfl rfl ?_
        refine ws_getfi 63 rfl rfl rfl rfl rfl h11' ?_
        refine ws_isub 64 rfl rfl rfl ?_
        refine ws_iret rfl rfl rfl (Nat.le_of_ble_eq_true rfl) ?_
        exact ⟨rfl, I2, L, rfl, hC2, fun a ha => by rw [hf2 a ha]; exact hf1 a (by omega)⟩
    · refine xC.mk [some (.ref 42), some (.int (nI w)), none, none, none, none] rfl ?_
      refine ws_iload_1 1 rfl rfl ?_
      refine ws_iconst 2 rfl rfl kc_i0 ?_
      refine ws_iconst 3 rfl rfl kc_i2 ?_
      refine ws_invS3p 6 rfl rfl rfl (p2) rfl rfl rfl ?_
      refine ws_if_neb 12 9 rfl rfl rfl (fun h9 => ?_) (fun h9 => absurd h9 (by first | decide | simp_all))
      refine ws_aload_0 13 rfl rfl ?_
      refine ws_invV0 16 rfl rfl rfl rfl (m_layWeeks hok hF (hR.1.ms hs.1) hR.2.1) rfl rfl rfl ?_
      rintro _ _ ⟨rfl, I1, L1, rfl, hf1, -, hL1⟩
      have hR1 : RR s I1 := hR.scr (fun a ha => hf1.1 a (by omega)) (hf1.2 2 (by decide)) (hf1.2 8 (by decide)) (Or.inr hL1)
      have wc := m_windowCode (E := E) (L := L1) hb hR1.1.2.2.1
      rw [← hcd] at wc
      have fin : ∀ (z4 z5 : Option Value), xW E 20 127 76 [some (.ref 42), some (.int (nI w)), some (.int (nI z.2)), some (.int (nI z.1)), z4, z5] [] (xS, I1, L1) 0 0 (mQ I s (.int (if w = 0 then nI z.1 else if w = 1 then nI (wkc s.c.A s.c.F z.2) else nI (wkc s.c.A s.c.F c1) - nI (wkc s.c.A s.c.F z.2)))) := by
        intro z4 z5
        rcases (show w = 0 ∨ w = 1 ∨ w = 2 by omega) with rfl | rfl | rfl
        · refine ws_iload_1 77 rfl rfl ?_
          refine ws_if_nen 84 80 rfl rfl rfl (by omega) (fun h9 => absurd h9 (by omega)) (fun h9 => ?_)
          refine ws_iload_3 81 rfl rfl ?_
          refine ws_goto 119 rfl rfl ?_
          refine ws_iret rfl rfl rfl (Nat.le_of_ble_eq_true rfl) ?_
          exact ⟨rfl, I1, L1, rfl, hR1, fun a ha => hf1.1 a (by omega)⟩
        · refine ws_iload_1 77 rfl rfl ?_
          refine ws_if_nen 84 80 rfl rfl rfl (by omega) (fun h9 => ?_) (fun h9 => absurd h9 (by omega))
          refine ws_iload_1 85 rfl rfl ?_
          refine ws_iconst 86 rfl rfl kc_i1 ?_
          refine ws_icmp_nen 98 89 rfl rfl rfl (by omega) (by omega) (fun h9 => absurd h9 (by omega)) (fun h9 => ?_)
          refine ws_aload_0 90 rfl rfl ?_
          refine ws_getfr 93 rfl rfl rfl rfl rfl ?_
          refine ws_iload_2 94 rfl rfl ?_
          refine ws_ialdn 95 rfl rfl rfl (by omega) (by omega) (hL1.at hzo.1) ?_
          refine ws_goto 119 rfl rfl ?_
          refine ws_iret rfl rfl rfl (Nat.le_of_ble_eq_true rfl) ?_
          exact ⟨rfl, I1, L1, rfl, hR1, fun a ha => hf1.1 a (by omega)⟩
        · refine ws_iload_1 77 rfl rfl ?_
          refine ws_if_nen 84 80 rfl rfl rfl (by omega) (fun h9 => ?_) (fun h9 => absurd h9 (by omega))
          refine ws_iload_1 85 rfl rfl ?_
          refine ws_iconst 86 rfl rfl kc_i1 ?_
          refine ws_icmp_nen 98 89 rfl rfl rfl (by omega) (by omega) (fun h9 => ?_) (fun h9 => absurd h9 (by omega))
          refine ws_aload_0 99 rfl rfl ?_
          refine ws_getfr 102 rfl rfl rfl rfl rfl ?_
          refine ws_aload_0 103 rfl rfl ?_
          refine ws_bipush 105 rfl rfl kc_b31 ?_
          refine ws_iconst 106 rfl rfl kc_i0 ?_
          refine ws_bipush 108 rfl rfl kc_bm6 ?_
          refine ws_invV3 111 rfl rfl rfl rfl (r_be 31 0 none (fun m h => by cases h) _ ok_0 (ft_0 31 (by omega)) c1 hc1 hs hR1) rfl rfl rfl ?_
          rintro _ _ ⟨rfl, I2, L2, rfl, hR2, hL2, hf2⟩
          refine ws_ialdn 112 rfl rfl rfl (by omega) (by omega) (hL2.at hc1ok) ?_
          refine ws_aload_0 113 rfl rfl ?_
          refine ws_getfr 116 rfl rfl rfl rfl rfl ?_
          refine ws_iload_2 117 rfl rfl ?_
          refine ws_ialdn 118 rfl rfl rfl (by omega) (by omega) (hL2.at hzo.1) ?_
          refine ws_isub 119 rfl rfl rfl ?_
          refine ws_iret rfl rfl rfl (Nat.le_of_ble_eq_true rfl) ?_
          exact ⟨rfl, I2, L2, rfl, hR2, fun a ha => by rw [hf2 a ha]; exact hf1.1 a (by omega)⟩
      have loop : ∀ (m k c' : Nat) (z5 : Option Value), k + m = 20 → okC c' → (z.1 = k + (clm (wkc s.c.A s.c.F) m c').1 ∧ z.2 = (clm (wkc s.c.A s.c.F) m c').2) → xW E 20 127 26 [some (.ref 42), some (.int (nI w)), some (.int (nI c')), some (.int (nI k)), some (.int (nI 1)), z5] [] (xS, I1, L1) 0 0 (mQ I s (.int (if w = 0 then nI z.1 else if w = 1 then nI (wkc s.c.A s.c.F z.2) else nI (wkc s.c.A s.c.F c1) - nI (wkc s.c.A s.c.F z.2)))) := by
        intro m
        induction m with
        | zero =>
          intro k c' z5 hk hc' hz'
          obtain rfl : k = 20 := by omega
          have e1 : z.1 = 20 := hz'.1
          have e2 : z.2 = c' := hz'.2
          rw [e1, e2] at fin
          refine ws_iload_4 28 rfl rfl ?_
          refine ws_if_eqn 76 31 rfl rfl rfl (by omega) (fun h9 => absurd h9 (by omega)) (fun h9 => ?_)
          refine ws_iload_3 32 rfl rfl ?_
          refine ws_bipush 34 rfl rfl kc_b20 ?_
          refine ws_icmp_gen 76 37 rfl rfl rfl (by omega) (by omega) (fun h9 => ?_) (fun h9 => absurd h9 (by omega))
          (first | exact fin _ _ | (rw [e1, e2]; exact fin _ _))
        | succ m ih =>
          intro k c' z5 hk hc' hz'
          have hc'7 := hc'.1
          have ex := m_exchanged (E := E) (L := L1) c' hc' hok hL1
          cases he : exq (wkc s.c.A s.c.F) c' with
          | none =>
            rw [he] at ex
            have ex : xC E 3 126 [.ref 42, .int (nI c')] (xS, I1, L1) (rV (.int (nI c')) (xS, I1, L1)) := ex
            have e1 : clm (wkc s.c.A s.c.F) (m + 1) c' = (0, c') := by rw [clm, he]
            rw [e1] at hz'
            have e2 : z.1 = k := hz'.1
            have e3 : z.2 = c' := hz'.2
            have fin' := fin
            rw [e2, e3] at fin'
            rw [e2, e3]
            refine ws_iload_4 28 rfl rfl ?_
            refine ws_if_eqn 76 31 rfl rfl rfl (by omega) (fun h9 => absurd h9 (by omega)) (fun h9 => ?_)
            refine ws_iload_3 32 rfl rfl ?_
            refine ws_bipush 34 rfl rfl kc_b20 ?_
            refine ws_icmp_gen 76 37 rfl rfl rfl (by omega) (by omega) (fun h9 => absurd h9 (by omega)) (fun h9 => ?_)
            refine ws_aload_0 38 rfl rfl ?_
            refine ws_iload_2 39 rfl rfl ?_
            refine ws_invV1p 42 rfl rfl rfl rfl (ex) rfl rfl rfl ?_
            refine ws_istore_5 44 rfl rfl rfl rfl ?_
            refine ws_iload_5 46 rfl rfl ?_
            refine ws_iload_2 47 rfl rfl ?_
            refine ws_icmp_eqn 54 50 rfl rfl rfl (by omega) (by omega) (fun h9 => ?_) (fun h9 => absurd h9 (by omega))
            refine ws_iconst 55 rfl rfl kc_i0 ?_
            refine ws_istore_4 57 rfl rfl rfl rfl ?_
            refine ws_iload_3 58 rfl rfl ?_
            refine ws_iload_4 60 rfl rfl ?_
            refine ws_if_eqn 67 63 rfl rfl rfl (by omega) (fun h9 => ?_) (fun h9 => absurd h9 (by omega))
            refine ws_iconst 68 rfl rfl kc_i0 ?_
            refine ws_iadd 69 rfl rfl (nI_add _ _) ?_
            refine ws_istore_3 70 rfl rfl rfl rfl ?_
            refine ws_iload_5 72 rfl rfl ?_
            refine ws_istore_2 73 rfl rfl rfl rfl ?_
            refine ws_goto 26 rfl rfl ?_
            skip
            refine ws_iload_4 28 rfl rfl ?_
            refine ws_if_eqn 76 31 rfl rfl rfl (by omega) (fun h9 => ?_) (fun h9 => absurd h9 (by omega))
            exact fin' _ _
          | some c2 =>
            rw [he] at ex
            have ex : xC E 3 126 [.ref 42, .int (nI c')] (xS, I1, L1) (rV (.int (nI c2)) (xS, I1, L1)) := ex
            have hc2 := exq_ok hc' he
            have hc27 := hc2.1
            have hne := exq_ne he
            have e1 : clm (wkc s.c.A s.c.F) (m + 1) c' = ((clm (wkc s.c.A s.c.F) m c2).1 + 1, (clm (wkc s.c.A s.c.F) m c2).2) := by rw [clm, he]
            rw [e1] at hz'
            refine ws_iload_4 28 rfl rfl ?_
            refine ws_if_eqn 76 31 rfl rfl rfl (by omega) (fun h9 => absurd h9 (by omega)) (fun h9 => ?_)
            refine ws_iload_3 32 rfl rfl ?_
            refine ws_bipush 34 rfl rfl kc_b20 ?_
            refine ws_icmp_gen 76 37 rfl rfl rfl (by omega) (by omega) (fun h9 => absurd h9 (by omega)) (fun h9 => ?_)
            refine ws_aload_0 38 rfl rfl ?_
            refine ws_iload_2 39 rfl rfl ?_
            refine ws_invV1p 42 rfl rfl rfl rfl (ex) rfl rfl rfl ?_
            refine ws_istore_5 44 rfl rfl rfl rfl ?_
            refine ws_iload_5 46 rfl rfl ?_
            refine ws_iload_2 47 rfl rfl ?_
            refine ws_icmp_eqn 54 50 rfl rfl rfl (by omega) (by omega) (fun h9 => absurd h9 (by omega)) (fun h9 => ?_)
            refine ws_iconst 51 rfl rfl kc_i1 ?_
            refine ws_goto 55 rfl rfl ?_
            refine ws_istore_4 57 rfl rfl rfl rfl ?_
            refine ws_iload_3 58 rfl rfl ?_
            refine ws_iload_4 60 rfl rfl ?_
            refine ws_if_eqn 67 63 rfl rfl rfl (by omega) (fun h9 => absurd h9 (by omega)) (fun h9 => ?_)
            refine ws_iconst 64 rfl rfl kc_i1 ?_
            refine ws_goto 68 rfl rfl ?_
            refine ws_iadd 69 rfl rfl (nI_add _ _) ?_
            refine ws_istore_3 70 rfl rfl rfl rfl ?_
            refine ws_iload_5 72 rfl rfl ?_
            refine ws_istore_2 73 rfl rfl rfl rfl ?_
            refine ws_goto 26 rfl rfl ?_
            exact ih (k + 1) c2 _ (by omega) hc2 ⟨by rw [hz'.1]; show k + (_ + 1) = _; omega, by rw [hz'.2]⟩
      refine ws_aload_0 17 rfl rfl ?_
      refine ws_invV0p 20 rfl rfl rfl rfl (wc) rfl rfl rfl ?_
      refine ws_istore_2 21 rfl rfl rfl rfl ?_
      refine ws_iconst 22 rfl rfl kc_i0 ?_
      refine ws_istore_3 23 rfl rfl rfl rfl ?_
      refine ws_iconst 24 rfl rfl kc_i1 ?_
      refine ws_istore_4 26 rfl rfl rfl rfl ?_
      exact loop 20 0 c _ rfl hc ⟨by rw [hz]; omega, by rw [hz]⟩
theorem p_isUnder (a w x : Nat) (ha : a ≤ 395604000) (hw : w ≤ 100) (hx : x ≤ 395604000) : xP 1 72 [.int (nI a), .int (nI w), .int (nI x)] (.int (xb (decide (100 * a < w * x)))) := by
  intro E σ
  refine xC.mk [some (.int (nI a)), some (.int (nI w)), some (.int (nI x))] rfl ?_
  have hwx : x * w ≤ 39560400000 := Nat.mul_le_mul hx hw
  have e : w * x = x * w := Nat.mul_comm _ _
  refine ws_iload_0 1 rfl rfl ?_
  refine ws_i2l 2 rfl rfl (nI_l (by omega)) ?_
  refine ws_ldc2 5 rfl rfl rfl (show (100 : Int64) = lN 100 from rfl) ?_
  refine ws_lmul 6 rfl rfl (lN_mul _ _) ?_
  refine ws_iload_2 7 rfl rfl ?_
  refine ws_i2l 8 rfl rfl (nI_l (by omega)) ?_
  refine ws_iload_1 9 rfl rfl ?_
  refine ws_i2l 10 rfl rfl (nI_l (by omega)) ?_
  refine ws_lmul 11 rfl rfl (lN_mul _ _) ?_
  refine ws_lcmp 12 rfl rfl ?_
  refine ws_lc_ge 19 15 rfl rfl rfl (fun c1 => ?_) (fun c1 => ?_)
  · rw [lNle (by omega) (by omega)] at c1
    rw [decide_eq_false (by omega)]
    refine ws_iconst 20 rfl rfl kc_i0 ?_
    refine ws_zret rfl rfl (by first | exact xb_01 _ | decide) rfl (Nat.le_of_ble_eq_true rfl) ?_
    exact ⟨rfl, rfl⟩
  · rw [lNle (by omega) (by omega)] at c1
    rw [decide_eq_true (by omega)]
    refine ws_iconst 16 rfl rfl kc_i1 ?_
    refine ws_goto 20 rfl rfl ?_
    refine ws_zret rfl rfl (by first | exact xb_01 _ | decide) rfl (Nat.le_of_ble_eq_true rfl) ?_
    exact ⟨rfl, rfl⟩
theorem stl_le {A : Nat → Nat → Nat} {F b : Nat → Nat} {w x r : Nat} : ∀ {m i : Nat}, stl A F b w x m i = some r → i ≤ r ∧ r < i + m
  | 0, i, h => by cases h
  | m + 1, i, h => by
    unfold stl at h
    split at h
    · have := Option.some.inj h; omega
    · have := stl_le h; omega
def mn1 (A : Nat → Nat → Nat) (F b : Nat → Nat) (w x more p : Nat) : Nat → Nat → Option Nat
  | 0, _ => none
  | m + 1, q => if 100 * wkF A F (sw b p q) more < w * x then mn1 A F b w x more p m (q + 1) else some (10 * p + q)
def mn2 (A : Nat → Nat → Nat) (F b : Nat → Nat) (w x more : Nat) : Nat → Nat → Option Nat
  | 0, _ => none
  | m + 1, p => match mn1 A F b w x more p (4 - p) (p + 1) with
    | some r => some r
    | none => mn2 A F b w x more m (p + 1)
section FACE6
variable {E : xEx} {s : xSt} {I : Nat → Nat → Int32} {L : Nat → Nat → Int64}
theorem k_wf {b' : Nat → Nat} (c more : Nat) (hc : c = 8 ∨ c = 27) (hm : more ≤ 9) (hs : OK s) (hC : CR s I) (hb' : ∀ p, p < 5 → b' p ≤ 5) (hr : ∀ p, p < 5 → I c p = rw6 (b' p)) : xC E 4 23 [.ref 14, .ref c, .int (nI more)] (xS, I, L) (fun r t => r = some (.int (nI (wkF s.c.A s.c.F b' more))) ∧ ∃ I', t = (xS, I', L) ∧ (∀ a, a < 14 ∨ 18 < a → I' a = I a)) := by
  obtain ⟨⟨⟨o1, o2, o3, o4, o5, o6⟩, -, hb, -⟩, -⟩ := hs
  obtain ⟨h1, h2, h3, h4, h5, h6, h7, h8⟩ := hC.1
  exact c_weekOf (T := xM0) c more (by omega) (by omega) (by omega) hm (by rcases hc with rfl | rfl <;> rfl) h1 h2 h4 h5 h8 o1 o2 o3 o4 o5 o6 hb' hr
theorem k_fwu (w : Nat) (hw : w ≤ 100) (hs : OK s) (hC : CR s I) : xC E 5 70 [.ref 0, .int (nI w)] (xS, I, L) (fun r t => r = some (.int (fo (stl s.c.A s.c.F s.c.b w (wkF s.c.A s.c.F s.c.b 0) 9 1))) ∧ ∃ I', t = (xS, I', L) ∧ (∀ a, a < 14 ∨ 18 < a → I' a = I a)) := by
  refine xC.mk [some (.ref 0), some (.int (nI w)), none, none] rfl ?_
  have hb := hs.1.2.2.1
  obtain ⟨x, hx⟩ : ∃ x, x = wkF s.c.A s.c.F s.c.b 0 := ⟨_, rfl⟩
  have hxl : x ≤ 395604000 := by rw [hx]; exact wkF_bd hs.1.1 hb 0
  refine ws_aload_0 1 rfl rfl ?_
  refine ws_getfr 4 rfl rfl rfl rfl rfl ?_
  refine ws_aload_0 5 rfl rfl ?_
  refine ws_getfr 8 rfl rfl rfl rfl rfl ?_
  refine ws_getfr 11 rfl rfl rfl rfl rfl ?_
  refine ws_iconst 12 rfl rfl kc_i0 ?_
  refine ws_invV2 15 rfl rfl rfl rfl (k_wf 8 0 (Or.inl rfl) (by omega) hs hC hb hC.1.2.2.1) rfl rfl rfl ?_
  rintro _ _ ⟨rfl, I1, rfl, hf1⟩
  rw [← hx]
  have loop : ∀ (m i : Nat) (I' : Nat → Nat → Int32), i + m = 10 → (∀ a, a < 14 ∨ 18 < a → I' a = I a) → stl s.c.A s.c.F s.c.b w x 9 1 = stl s.c.A s.c.F s.c.b w x m i → xW E 5 70 18 [some (.ref 0), some (.int (nI w)), some (.int (nI x)), some (.int (nI i))] [] (xS, I', L) 0 0 (fun r t => r = some (.int (fo (stl s.c.A s.c.F s.c.b w x 9 1))) ∧ ∃ I', t = (xS, I', L) ∧ (∀ a, a < 14 ∨ 18 < a → I' a = I a)) := by
    intro m
    induction m with
    | zero =>
      intro i I' hi hf he
      rw [he]
      refine ws_iload_3 19 rfl rfl ?_
      refine ws_bipush 21 rfl rfl kc_b9 ?_
      refine ws_icmp_gtn 55 24 rfl rfl rfl (by omega) (by omega) (fun h9 => ?_) (fun h9 => absurd h9 (by omega))
      refine ws_bipush 57 rfl rfl kc_bm6 ?_
      refine ws_iret rfl rfl rfl (Nat.le_of_ble_eq_true rfl) ?_
      exact ⟨rfl, I', rfl, hf⟩
    | succ m ih =>
      intro i I' hi hf he
      have hwk := wkF_bd hs.1.1 hb i
      have es : stl s.c.A s.c.F s.c.b w x (m + 1) i = if 100 * wkF s.c.A s.c.F s.c.b i < w * x then some i else stl s.c.A s.c.F s.c.b w x m (i + 1) := rfl
      have hC' : CR s I' := hC.scp (fun a ha => hf a (by omega))
      refine ws_iload_3 19 rfl rfl ?_
      refine ws_bipush 21 rfl rfl kc_b9 ?_
      refine ws_icmp_gtn 55 24 rfl rfl rfl (by omega) (by omega) (fun h9 => absurd h9 (by omega)) (fun h9 => ?_)
      refine ws_aload_0 25 rfl rfl ?_
      refine ws_getfr 28 rfl rfl rfl rfl rfl ?_
      refine ws_aload_0 29 rfl rfl ?_
      refine ws_getfr 32 rfl rfl rfl rfl rfl ?_
      refine ws_getfr 35 rfl rfl rfl rfl rfl ?_
      refine ws_iload_3 36 rfl rfl ?_
      refine ws_invV2 39 rfl rfl rfl rfl (k_wf 8 i (Or.inl rfl) (by omega) hs hC' hb hC'.1.2.2.1) rfl rfl rfl ?_
      rintro _ _ ⟨rfl, I2, rfl, hf2⟩
      have hf3 : ∀ a, a < 14 ∨ 18 < a → I2 a = I a := fun a ha => by rw [hf2 a ha]; exact hf a ha
      have pu := p_isUnder _ w x hwk hw hxl
      by_cases c1 : 100 * wkF s.c.A s.c.F s.c.b i < w * x
      · rw [es, if_pos c1] at he
        rw [decide_eq_true c1] at pu
        rw [he]
        refine ws_iload_1 40 rfl rfl ?_
        refine ws_iload_2 41 rfl rfl ?_
        refine ws_invS3p 44 rfl rfl rfl (pu) rfl rfl rfl ?_
        refine ws_if_eqb 49 47 rfl rfl rfl (fun h9 => absurd h9 (by first | decide | simp_all)) (fun h9 => ?_)
        refine ws_iload_3 48 rfl rfl ?_
        refine ws_iret rfl rfl rfl (Nat.le_of_ble_eq_true rfl) ?_
        exact ⟨rfl, I2, rfl, hf3⟩
      · rw [es, if_neg c1] at he
        rw [decide_eq_false c1] at pu
        refine ws_iload_1 40 rfl rfl ?_
        refine ws_iload_2 41 rfl rfl ?_
        refine ws_invS3p 44 rfl rfl rfl (pu) rfl rfl rfl ?_
        refine ws_if_eqb 49 47 rfl rfl rfl (fun h9 => ?_) (fun h9 => absurd h9 (by first | decide | simp_all))
        refine ws_iinc_3 52 rfl rfl (ki_1 _) rfl rfl ?_
        refine ws_goto 18 rfl rfl ?_
        exact ih (i + 1) I2 (by omega) hf3 he
  refine ws_istore_2 16 rfl rfl rfl rfl ?_
  refine ws_iconst 17 rfl rfl kc_i1 ?_
  refine ws_istore_3 18 rfl rfl rfl rfl ?_
  exact loop 9 1 I1 rfl hf1 rfl
theorem k_fcm (w more : Nat) (hw : w ≤ 100) (hm : more ≤ 9) (hs : OK s) (hC : CR s I) : xC E 6 71 [.ref 0, .int (nI w), .int (nI more)] (xS, I, L) (fun r t => r = some (.int (fo (mn2 s.c.A s.c.F s.c.b w (wkF s.c.A s.c.F s.c.b 0) more 5 0))) ∧ ∃ I', t = (xS, I', L) ∧ (∀ a, a < 14 ∨ (18 < a ∧ a ≠ 27) → I' a = I a)) := by
  refine xC.mk [some (.ref 0), some (.int (nI w)), some (.int (nI more)), none, none, none] rfl ?_
  have hb := hs.1.2.2.1
  obtain ⟨x, hx⟩ : ∃ x, x = wkF s.c.A s.c.F s.c.b 0 := ⟨_, rfl⟩
  have hxl : x ≤ 395604000 := by rw [hx]; exact wkF_bd hs.1.1 hb 0
  refine ws_aload_0 1 rfl rfl ?_
  refine ws_getfr 4 rfl rfl rfl rfl rfl ?_
  refine ws_aload_0 5 rfl rfl ?_
  refine ws_getfr 8 rfl rfl rfl rfl rfl ?_
  refine ws_getfr 11 rfl rfl rfl rfl rfl ?_
  refine ws_iconst 12 rfl rfl kc_i0 ?_
  refine ws_invV2 15 rfl rfl rfl rfl (k_wf 8 0 (Or.inl rfl) (by omega) hs hC hb hC.1.2.2.1) rfl rfl rfl ?_
  rintro _ _ ⟨rfl, I1, rfl, hf1⟩
  rw [← hx]
  have outer : ∀ (m p : Nat) (I' : Nat → Nat → Int32) (z5 : Option Value), p + m = 5 → (∀ a, a < 14 ∨ (18 < a ∧ a ≠ 27) → I' a = I a) → mn2 s.c.A s.c.F s.c.b w x more 5 0 = mn2 s.c.A s.c.F s.c.b w x more m p → xW E 6 71 19 [some (.ref 0), some (.int (nI w)), some (.int (nI more)), some (.int (nI x)), some (.int (nI p)), z5] [] (xS, I', L) 0 0 (fun r t => r = some (.int (fo (mn2 s.c.A s.c.F s.c.b w x more 5 0))) ∧ ∃ I', t = (xS, I', L) ∧ (∀ a, a < 14 ∨ (18 < a ∧ a ≠ 27) → I' a = I a)) := by
    intro m
    induction m with
    | zero =>
      intro p I' z5 hp hf he
      rw [he]
      refine ws_iload_4 21 rfl rfl ?_
      refine ws_iconst 22 rfl rfl kc_i5 ?_
      refine ws_icmp_gen 129 25 rfl rfl rfl (by omega) (by omega) (fun h9 => ?_) (fun h9 => absurd h9 (by omega))
      refine ws_bipush 131 rfl rfl kc_bm6 ?_
      refine ws_iret rfl rfl rfl (Nat.le_of_ble_eq_true rfl) ?_
      exact ⟨rfl, I', rfl, hf⟩
    | succ m ih =>
      intro p I' z5 hp hf he
      have hp5 : p < 5 := by omega
      have inner : ∀ (m2 q : Nat) (I' : Nat → Nat → Int32), q + m2 = 5 → p < q → (∀ a, a < 14 ∨ (18 < a ∧ a ≠ 27) → I' a = I a) → mn2 s.c.A s.c.F s.c.b w x more 5 0 = (match mn1 s.c.A s.c.F s.c.b w x more p m2 q with | some r => some r | none => mn2 s.c.A s.c.F s.c.b w x more m (p + 1)) → xW E 6 71 31 [some (.ref 0), some (.int (nI w)), some (.int (nI more)), some (.int (nI x)), some (.int (nI p)), some (.int (nI q))] [] (xS, I', L) 0 0 (fun r t => r = some (.int (fo (mn2 s.c.A s.c.F s.c.b w x more 5 0))) ∧ ∃ I', t = (xS, I', L) ∧ (∀ a, a < 14 ∨ (18 < a ∧ a ≠ 27) → I' a = I a)) := by
        intro m2
        induction m2 with
        | zero =>
          intro q I' hq hpq hf he
          refine ws_iload_5 33 rfl rfl ?_
          refine ws_iconst 34 rfl rfl kc_i5 ?_
          refine ws_icmp_gen 123 37 rfl rfl rfl (by omega) (by omega) (fun h9 => ?_) (fun h9 => absurd h9 (by omega))
          refine ws_iinc_4 126 rfl rfl (ki_1 _) rfl rfl ?_
          refine ws_goto 19 rfl rfl ?_
          exact ih (p + 1) I' _ (by omega) hf he
        | succ m2 ih2 =>
          intro q I' hq hpq hf he
          have hq5 : q < 5 := by omega
          have hC' : CR s I' := hC.scp (fun a ha => hf a (by omega))
          have h8 := hC'.1.2.2.1
          have es : mn1 s.c.A s.c.F s.c.b w x more p (m2 + 1) q = if 100 * wkF s.c.A s.c.F (sw s.c.b p q) more < w * x then mn1 s.c.A s.c.F s.c.b w x more p m2 (q + 1) else some (10 * p + q) := rfl
          have hsw := sw_le hb hp5 hq5
          have hwk := wkF_bd hs.1.1 hsw more
          obtain ⟨I2, hI2⟩ : ∃ I2, I2 = wR I' 27 (fun j => if j < 5 then I' 8 j else I' 27 j) := ⟨_, rfl⟩
          have hf2 : ∀ a, a ≠ 27 → I2 a = I' a := fun a ha => by rw [hI2]; exact wR_ne ha
          have h272 : ∀ r, r < 5 → I2 27 r = rw6 (s.c.b r) := fun r hr => by
            rw [hI2, wR_self]
            show (if r < 5 then I' 8 r else I' 27 r) = _
            rw [if_pos hr]
            exact h8 r hr
          have g1 : I2 8 q = rw6 (s.c.b q) := by rw [hf2 8 (by decide)]; exact h8 q hq5
          have g2 : wI I2 27 p (rw6 (s.c.b q)) 8 p = rw6 (s.c.b p) := by rw [wI_ne (by decide), hf2 8 (by decide)]; exact h8 p hp5
          have h27 : ∀ r, r < 5 → wI (wI I2 27 p (rw6 (s.c.b q))) 27 q (rw6 (s.c.b p)) 27 r = rw6 (sw s.c.b p q r) := fun r hr => by
            rw [wI_eq, wI_eq]
            unfold sw
            by_cases e1 : r = q
            · rw [e1, pk_us, if_neg (by omega), if_pos rfl]
            · rw [pk_un e1]
              by_cases e2 : r = p
              · rw [e2, pk_us, if_pos rfl]
              · rw [pk_un e2, if_neg e2, if_neg e1]; exact h272 r hr
          have hf3 : ∀ a, a ≠ 27 → wI (wI I2 27 p (rw6 (s.c.b q))) 27 q (rw6 (s.c.b p)) a = I' a := fun a ha => by rw [wI_ne ha, wI_ne ha]; exact hf2 a ha
          have hC3 := hC'.scp (I' := wI (wI I2 27 p (rw6 (s.c.b q))) 27 q (rw6 (s.c.b p))) (fun a ha => hf3 a (by omega))
          refine ws_iload_5 33 rfl rfl ?_
          refine ws_iconst 34 rfl rfl kc_i5 ?_
          refine ws_icmp_gen 123 37 rfl rfl rfl (by omega) (by omega) (fun h9 => absurd h9 (by omega)) (fun h9 => ?_)
          refine ws_aload_0 38 rfl rfl ?_
          refine ws_getfr 41 rfl rfl rfl rfl rfl ?_
          refine ws_getfr 44 rfl rfl rfl rfl rfl ?_
          refine ws_iconst 45 rfl rfl kc_i0 ?_
          refine ws_aload_0 46 rfl rfl ?_
          refine ws_getfr 49 rfl rfl rfl rfl rfl ?_
          refine ws_iconst 50 rfl rfl kc_i0 ?_
          refine ws_iconst 51 rfl rfl kc_i5 ?_
          refine ws_copy 54 5 rfl rfl rfl rfl rfl rfl rfl rfl (by omega) (by omega) (by omega) (by omega) (show xsum [] ≤ 8 by decide) ?_
          rw [← hI2]
          refine ws_aload_0 55 rfl rfl ?_
          refine ws_getfr 58 rfl rfl rfl rfl rfl ?_
          refine ws_iload_4 60 rfl rfl ?_
          refine ws_aload_0 61 rfl rfl ?_
          refine ws_getfr 64 rfl rfl rfl rfl rfl ?_
          refine ws_getfr 67 rfl rfl rfl rfl rfl ?_
          refine ws_iload_5 69 rfl rfl ?_
          refine ws_ialdn 70 rfl rfl rfl (by omega) (by omega) g1 ?_
          refine ws_iastn 71 rfl rfl rfl (by omega) (by omega) ?_
          refine ws_aload_0 72 rfl rfl ?_
          refine ws_getfr 75 rfl rfl rfl rfl rfl ?_
          refine ws_iload_5 77 rfl rfl ?_
          refine ws_aload_0 78 rfl rfl ?_
          refine ws_getfr 81 rfl rfl rfl rfl rfl ?_
          refine ws_getfr 84 rfl rfl rfl rfl rfl ?_
          refine ws_iload_4 86 rfl rfl ?_
          refine ws_ialdn 87 rfl rfl rfl (by omega) (by omega) g2 ?_
          refine ws_iastn 88 rfl rfl rfl (by omega) (by omega) ?_
          refine ws_aload_0 89 rfl rfl ?_
          refine ws_getfr 92 rfl rfl rfl rfl rfl ?_
          refine ws_aload_0 93 rfl rfl ?_
          refine ws_getfr 96 rfl rfl rfl rfl rfl ?_
          refine ws_iload_2 97 rfl rfl ?_
          refine ws_invV2 100 rfl rfl rfl rfl (k_wf 27 more (Or.inr rfl) hm hs hC3 hsw h27) rfl rfl rfl ?_
          rintro _ _ ⟨rfl, I4, rfl, hf4⟩
          have hf5 : ∀ a, a < 14 ∨ (18 < a ∧ a ≠ 27) → I4 a = I a := fun a ha => by rw [hf4 a (by omega), hf3 a (by omega)]; exact hf a ha
          have pu := p_isUnder _ w x hwk hw hxl
          by_cases c1 : 100 * wkF s.c.A s.c.F (sw s.c.b p q) more < w * x
          · rw [es, if_pos c1] at he
            rw [decide_eq_true c1] at pu
            refine ws_iload_1 101 rfl rfl ?_
            refine ws_iload_3 102 rfl rfl ?_
            refine ws_invS3p 105 rfl rfl rfl (pu) rfl rfl rfl ?_
            refine ws_if_neb 117 108 rfl rfl rfl (fun h9 => ?_) (fun h9 => absurd h9 (by first | decide | simp_all))
            refine ws_iinc_5 120 rfl rfl (ki_1 _) rfl rfl ?_
            refine ws_goto 31 rfl rfl ?_
            exact ih2 (q + 1) I4 (by omega) (by omega) hf5 he
          · rw [es, if_neg c1] at he
            rw [decide_eq_false c1] at pu
            rw [he]
            refine ws_iload_1 101 rfl rfl ?_
            refine ws_iload_3 102 rfl rfl ?_
            refine ws_invS3p 105 rfl rfl rfl (pu) rfl rfl rfl ?_
            refine ws_if_neb 117 108 rfl rfl rfl (fun h9 => absurd h9 (by first | decide | simp_all)) (fun h9 => ?_)
            refine ws_bipush 110 rfl rfl kc_b10 ?_
            refine ws_iload_4 112 rfl rfl ?_
            refine ws_imul 113 rfl rfl (pk_mul _ _) ?_
            refine ws_iload_5 115 rfl rfl ?_
            refine ws_iadd 116 rfl rfl (nI_add _ _) ?_
            refine ws_iret rfl rfl rfl (Nat.le_of_ble_eq_true rfl) ?_
            exact ⟨rfl, I4, rfl, hf5⟩
      refine ws_iload_4 21 rfl rfl ?_
      refine ws_iconst 22 rfl rfl kc_i5 ?_
      refine ws_icmp_gen 129 25 rfl rfl rfl (by omega) (by omega) (fun h9 => absurd h9 (by omega)) (fun h9 => ?_)
      refine ws_iload_4 27 rfl rfl ?_
      refine ws_iconst 28 rfl rfl kc_i1 ?_
      refine ws_iadd 29 rfl rfl (nI_add _ _) ?_
      refine ws_istore_5 31 rfl rfl rfl rfl ?_
      exact inner (4 - p) (p + 1) I' (by omega) (by omega) hf he
  refine ws_istore_3 16 rfl rfl rfl rfl ?_
  refine ws_iconst 17 rfl rfl kc_i0 ?_
  refine ws_istore_4 19 rfl rfl rfl rfl ?_
  exact outer 5 0 I1 _ rfl (fun a ha => hf1 a (by omega)) rfl
end FACE6
theorem f_stale (x : Int32) : Fx 67 130 [.int x] := by
  intro E s hE hs
  have p1 := p_between x (nI 0) (nI 100) 0 100 rfl rfl
  have p2 := p_in x (nI 0) (nI 100) 0 100 rfl rfl
  cases hr : rg 0 100 x with
  | false =>
    rw [hr] at p1 p2
    refine ⟨(-2), s, hs, fun I L hC => ?_, fun I L hR => ?_⟩
    · refine xC.mk [some (.ref 0), some (.int x)] rfl ?_
      refine ws_iload_1 1 rfl rfl ?_
      refine ws_iconst 2 rfl rfl kc_i0 ?_
      refine ws_bipush 4 rfl rfl kc_b100 ?_
      refine ws_invS3p 7 rfl rfl rfl (p1) rfl rfl rfl ?_
      refine ws_if_eqb 18 10 rfl rfl rfl (fun h9 => ?_) (fun h9 => absurd h9 (by first | decide | simp_all))
      refine ws_bipush 20 rfl rfl kc_bm2 ?_
      refine ws_iret rfl rfl rfl (Nat.le_of_ble_eq_true rfl) ?_
      exact cQ.sm hC
    · refine xC.mk [some (.ref 42), some (.int x)] rfl ?_
      refine ws_iload_1 1 rfl rfl ?_
      refine ws_iconst 2 rfl rfl kc_i0 ?_
      refine ws_bipush 4 rfl rfl kc_b100 ?_
      refine ws_invS3p 7 rfl rfl rfl (p2) rfl rfl rfl ?_
      refine ws_if_neb 13 10 rfl rfl rfl (fun h9 => absurd h9 (by first | decide | simp_all)) (fun h9 => ?_)
      refine ws_bipush 12 rfl rfl kc_bm2 ?_
      refine ws_iret rfl rfl rfl (Nat.le_of_ble_eq_true rfl) ?_
      exact mQ.sm hR
  | true =>
    rw [hr] at p1 p2
    obtain ⟨w, -, hw, rfl⟩ := rg_nat (a := 0) (b := 100) hr (by omega)
    have hb := hs.1.2.2.1
    have hxl := wkF_bd hs.1.1 hb 0
    refine ⟨(fo (stl s.c.A s.c.F s.c.b w (wkF s.c.A s.c.F s.c.b 0) 9 1)), s, hs, fun I L hC => ?_, fun I L hR => ?_⟩
    · refine xC.mk [some (.ref 0), some (.int (nI w))] rfl ?_
      refine ws_iload_1 1 rfl rfl ?_
      refine ws_iconst 2 rfl rfl kc_i0 ?_
      refine ws_bipush 4 rfl rfl kc_b100 ?_
      refine ws_invS3p 7 rfl rfl rfl (p1) rfl rfl rfl ?_
      refine ws_if_eqb 18 10 rfl rfl rfl (fun h9 => absurd h9 (by first | decide | simp_all)) (fun h9 => ?_)
      refine ws_aload_0 11 rfl rfl ?_
      refine ws_iload_1 12 rfl rfl ?_
      refine ws_invV1 15 rfl rfl rfl rfl (k_fwu w hw hs hC) rfl rfl rfl ?_
      rintro _ _ ⟨rfl, I1, rfl, hf1⟩
      refine ws_goto 20 rfl rfl ?_
      refine ws_iret rfl rfl rfl (Nat.le_of_ble_eq_true rfl) ?_
      exact ⟨rfl, I1, L, rfl, hC.scp (fun a ha => hf1 a (by omega)), fun a ha => hf1 a (by omega)⟩
    · refine xC.mk [some (.ref 42), some (.int (nI w))] rfl ?_
      refine ws_iload_1 1 rfl rfl ?_
      refine ws_iconst 2 rfl rfl kc_i0 ?_
      refine ws_bipush 4 rfl rfl kc_b100 ?_
      refine ws_invS3p 7 rfl rfl rfl (p2) rfl rfl rfl ?_
      refine ws_if_neb 13 10 rfl rfl rfl (fun h9 => ?_) (fun h9 => absurd h9 (by first | decide | simp_all))
      refine ws_aload_0 14 rfl rfl ?_
      refine ws_invV0 17 rfl rfl rfl rfl (r_laws hs hR) rfl rfl rfl ?_
      rintro _ _ ⟨rfl, I1, L1, rfl, hf1, h58, h59⟩
      have hR1 : RR s I1 := hR.scp (fun a ha => hf1 a (by omega) (by omega))
      refine ws_aload_0 18 rfl rfl ?_
      refine ws_invV0 21 rfl rfl rfl rfl (r_look hR1) rfl rfl rfl ?_
      rintro _ _ ⟨rfl, I2, rfl, hf2, h53⟩
      obtain ⟨hM, hf⟩ := MW.of hs hR hf1 h58 h59 hf2 h53
      refine ws_aload_0 22 rfl rfl ?_
      refine ws_iload_1 23 rfl rfl ?_
      refine ws_aload_0 24 rfl rfl ?_
      refine ws_iconst 25 rfl rfl kc_i0 ?_
      refine ws_invV1 28 rfl rfl rfl rfl (m_wk 0 (by omega) hs.1.1 hs.1.2.1 hb hM) rfl rfl rfl ?_
      rintro _ _ ⟨rfl, I3, L3, rfl, hf3, -⟩
      refine ws_i2l 29 rfl rfl (nI_l (by omega)) ?_
      refine ws_invV2 32 rfl rfl rfl rfl (m_staleBy w _ hw hxl hs.1.1 hs.1.2.1 hb (hM.keep hf3)) rfl rfl rfl ?_
      rintro _ _ ⟨rfl, I4, L4, rfl, hf4, -⟩
      have hf5 : ∀ a, a < 53 ∨ 59 < a → I4 a = I a := fun a ha => by rw [hf4 a (by omega) (by omega) (by omega), hf3 a (by omega) (by omega) (by omega)]; exact hf a (by omega) (by omega) (by omega)
      refine ws_iret rfl rfl rfl (Nat.le_of_ble_eq_true rfl) ?_
      exact ⟨rfl, I4, L4, rfl, hR.scp (fun a ha => hf5 a (by omega)), fun a ha => hf5 a (by omega)⟩
