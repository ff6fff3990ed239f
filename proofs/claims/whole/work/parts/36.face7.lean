/-! ===== mends, shop ===== -/
theorem lNlt {a b : Nat} (ha : a < 9223372036854775808) (hb : b < 9223372036854775808) : lN a < lN b ↔ a < b := by
  rw [Int64.lt_iff_toInt_lt, show (lN a).toInt = (a : Int) from lg_ofNat_toInt (by omega), show (lN b).toInt = (b : Int) from lg_ofNat_toInt (by omega)]
  omega
def mdv (A : Nat → Nat → Nat) (F b : Nat → Nat) (w x : Nat) : Option Nat → Int32
  | none => nI 0
  | some m => fo (mn2 A F b w x m 5 0)
theorem f_mends (x : Int32) : Fx 68 131 [.int x] := by
  intro E s hE hs
  have p1 := p_between x (nI 0) (nI 100) 0 100 rfl rfl
  have p2 := p_in x (nI 0) (nI 100) 0 100 rfl rfl
  cases hr : rg 0 100 x with
  | false =>
    rw [hr] at p1 p2
    refine ⟨(-2), s, hs, fun I L hC => ?_, fun I L hR => ?_⟩
    · refine xC.mk [some (.ref 0), some (.int x), none] rfl ?_
      refine ws_iload_1 1 rfl rfl ?_
      refine ws_iconst 2 rfl rfl kc_i0 ?_
      refine ws_bipush 4 rfl rfl kc_b100 ?_
      refine ws_invS3p 7 rfl rfl rfl (p1) rfl rfl rfl ?_
      refine ws_if_neb 13 10 rfl rfl rfl (fun h9 => absurd h9 (by first | decide | simp_all)) (fun h9 => ?_)
      refine ws_bipush 12 rfl rfl kc_bm2 ?_
      refine ws_iret rfl rfl rfl (Nat.le_of_ble_eq_true rfl) ?_
      exact cQ.sm hC
    · refine xC.mk [some (.ref 42), some (.int x), none, none, none, none, none] rfl ?_
      refine ws_iload_1 1 rfl rfl ?_
      refine ws_iconst 2 rfl rfl kc_i0 ?_
      refine ws_bipush 4 rfl rfl kc_b100 ?_
      refine ws_invS3p 7 rfl rfl rfl (p2) rfl rfl rfl ?_
      refine ws_if_neb 13 10 rfl rfl rfl (fun h9 => absurd h9 (by first | decide | simp_all)) (fun h9 => ?_)
      refine ws_bipush 12 rfl rfl kc_bm2 ?_
      refine ws_iret rfl rfl rfl (Nat.le_of_ble_eq_true rfl) ?_
      exact mQ.sm hR
  | true =>
    rw [hr] at p1 p2
    obtain ⟨w, -, hw, rfl⟩ := rg_nat (a := 0) (b := 100) hr (by omega)
    have hb := hs.1.2.2.1
    obtain ⟨x, hx⟩ : ∃ x, x = wkF s.c.A s.c.F s.c.b 0 := ⟨_, rfl⟩
    have hxl : x ≤ 395604000 := by rw [hx]; exact wkF_bd hs.1.1 hb 0
    have hwx : w * x ≤ 39560400000 := Nat.mul_le_mul hw hxl
    obtain ⟨o, ho⟩ : ∃ o, o = stl s.c.A s.c.F s.c.b w x 9 1 := ⟨_, rfl⟩
    refine ⟨(mdv s.c.A s.c.F s.c.b w x o), s, hs, fun I L hC => ?_, fun I L hR => ?_⟩
    · refine xC.mk [some (.ref 0), some (.int (nI w)), none] rfl ?_
      refine ws_iload_1 1 rfl rfl ?_
      refine ws_iconst 2 rfl rfl kc_i0 ?_
      refine ws_bipush 4 rfl rfl kc_b100 ?_
      refine ws_invS3p 7 rfl rfl rfl (p1) rfl rfl rfl ?_
      refine ws_if_neb 13 10 rfl rfl rfl (fun h9 => ?_) (fun h9 => absurd h9 (by first | decide | simp_all))
      refine ws_aload_0 14 rfl rfl ?_
      refine ws_iload_1 15 rfl rfl ?_
      refine ws_invV1 18 rfl rfl rfl rfl (k_fwu w hw hs hC) rfl rfl rfl ?_
      rintro _ _ ⟨rfl, I1, rfl, hf1⟩
      rw [← hx, ← ho]
      have hC1 : CR s I1 := hC.scp (fun a ha => hf1 a (by omega))
      cases o with
      | none =>
        refine ws_istore_2 19 rfl rfl rfl rfl ?_
        refine ws_iload_2 20 rfl rfl ?_
        refine ws_bipush 22 rfl rfl kc_bm6 ?_
        refine ws_icmp_ne 29 25 rfl rfl rfl (fun h9 => absurd h9 (not_not_intro rfl)) (fun h9 => ?_)
        refine ws_iconst 26 rfl rfl kc_i0 ?_
        refine ws_goto 35 rfl rfl ?_
        refine ws_iret rfl rfl rfl (Nat.le_of_ble_eq_true rfl) ?_
        exact ⟨rfl, I1, L, rfl, hC1, fun a ha => hf1 a (by omega)⟩
      | some m =>
        obtain ⟨m1, m2⟩ := stl_le ho.symm
        have hne : ¬ fo (some m) = -6 := by
          intro q
          have := congrArg Int32.toInt q
          rw [show fo (some m) = nI m from rfl, nI_toInt (by omega), show (-6 : Int32).toInt = -6 by decide] at this
          omega
        refine ws_istore_2 19 rfl rfl rfl rfl ?_
        refine ws_iload_2 20 rfl rfl ?_
        refine ws_bipush 22 rfl rfl kc_bm6 ?_
        refine ws_icmp_ne 29 25 rfl rfl rfl (fun h9 => ?_) (fun h9 => absurd h9 hne)
        refine ws_aload_0 30 rfl rfl ?_
        refine ws_iload_1 31 rfl rfl ?_
        refine ws_iload_2 32 rfl rfl ?_
        refine ws_invV2 35 rfl rfl rfl rfl (k_fcm w m hw (by omega) hs hC1) rfl rfl rfl ?_
        rintro _ _ ⟨rfl, I2, rfl, hf2⟩
        rw [← hx]
        refine ws_iret rfl rfl rfl (Nat.le_of_ble_eq_true rfl) ?_
        exact ⟨rfl, I2, L, rfl, hC1.scp (fun a ha => hf2 a (by omega)), fun a ha => by rw [hf2 a (by omega)]; exact hf1 a (by omega)⟩
    · refine xC.mk [some (.ref 42), some (.int (nI w)), none, none, none, none, none] rfl ?_
      refine ws_iload_1 1 rfl rfl ?_
      refine ws_iconst 2 rfl rfl kc_i0 ?_
      refine ws_bipush 4 rfl rfl kc_b100 ?_
      refine ws_invS3p 7 rfl rfl rfl (p2) rfl rfl rfl ?_
      refine ws_if_neb 13 10 rfl rfl rfl (fun h9 => ?_) (fun h9 => absurd h9 (by first | decide | simp_all))
      refine ws_aload_0 14 rfl rfl ?_
      refine ws_invV0 17 rfl rfl rfl rfl (r_laws hs hR) rfl rfl rfl ?_
      rintro _ _ ⟨rfl, I1, L1, rfl, hf1, h58, h59⟩
      have hR1 : RR s I1 := hR.scp (fun a ha => hf1 a (by omega) (by omega))
      refine ws_aload_0 18 rfl rfl ?_
      refine ws_invV0 21 rfl rfl rfl rfl (r_look hR1) rfl rfl rfl ?_
      rintro _ _ ⟨rfl, I2, rfl, hf2, h53⟩
      obtain ⟨hM, hf⟩ := MW.of hs hR hf1 h58 h59 hf2 h53
      refine ws_aload_0 22 rfl rfl ?_
      refine ws_iconst 23 rfl rfl kc_i0 ?_
      refine ws_invV1 26 rfl rfl rfl rfl (m_wk 0 (by omega) hs.1.1 hs.1.2.1 hb hM) rfl rfl rfl ?_
      rintro _ _ ⟨rfl, I3, L3, rfl, hf3, -⟩
      rw [← hx]
      refine ws_i2l 27 rfl rfl (nI_l (by omega)) ?_
      refine ws_lstore_2 28 rfl rfl rfl rfl ?_
      refine ws_aload_0 29 rfl rfl ?_
      refine ws_iload_1 30 rfl rfl ?_
      refine ws_lload_2 31 rfl rfl ?_
      refine ws_invV2 34 rfl rfl rfl rfl (m_staleBy w x hw hxl hs.1.1 hs.1.2.1 hb (hM.keep hf3)) rfl rfl rfl ?_
      rintro _ _ ⟨rfl, I4, L4, rfl, hf4, -⟩
      rw [← ho]
      have hf5 : ∀ a, a ≠ 53 → a ≠ 54 → a ≠ 56 → a ≠ 57 → I4 a = I2 a := fun a a1 a2 a3 a4 => by rw [hf4 a a2 a3 a4, hf3 a a2 a3 a4]
      have hRR : ∀ (I' : Nat → Nat → Int32), (∀ a, a ≠ 53 → a ≠ 54 → a ≠ 56 → a ≠ 57 → I' a = I2 a) → RR s I' ∧ ∀ a, a < 42 → I' a = I a := fun I' h => ⟨hR.scp (fun a ha => by rw [h a (by omega) (by omega) (by omega) (by omega)]; exact hf a (by omega) (by omega) (by omega)), fun a ha => by rw [h a (by omega) (by omega) (by omega) (by omega)]; exact hf a (by omega) (by omega) (by omega)⟩
      cases o with
      | none =>
        refine ws_istore_4 36 rfl rfl rfl rfl ?_
        refine ws_iload_4 38 rfl rfl ?_
        refine ws_if_ge 43 41 rfl rfl rfl (fun h9 => absurd h9 (by decide)) (fun h9 => ?_)
        refine ws_iconst 42 rfl rfl kc_i0 ?_
        refine ws_iret rfl rfl rfl (Nat.le_of_ble_eq_true rfl) ?_
        exact ⟨rfl, I4, L4, rfl, hRR I4 hf5⟩
      | some m =>
        obtain ⟨m1, m2⟩ := stl_le ho.symm
        have outer : ∀ (k p : Nat) (I' : Nat → Nat → Int32) (L' : Nat → Nat → Int64) (z6 : Option Value), p + k = 5 → (∀ a, a ≠ 53 → a ≠ 54 → a ≠ 56 → a ≠ 57 → I' a = I2 a) → mn2 s.c.A s.c.F s.c.b w x m 5 0 = mn2 s.c.A s.c.F s.c.b w x m k p → xW E 20 131 46 [some (.ref 42), some (.int (nI w)), some (.long (lN x)), none, some (.int (nI m)), some (.int (nI p)), z6] [] (xS, I', L') 0 0 (mQ I s (.int (fo (mn2 s.c.A s.c.F s.c.b w x m 5 0)))) := by
          intro k
          induction k with
          | zero =>
            intro p I' L' z6 hp hf' he
            rw [he]
            refine ws_iload_5 48 rfl rfl ?_
            refine ws_iconst 49 rfl rfl kc_i5 ?_
            refine ws_icmp_gen 136 52 rfl rfl rfl (by omega) (by omega) (fun h9 => ?_) (fun h9 => absurd h9 (by omega))
            refine ws_bipush 138 rfl rfl kc_bm6 ?_
            refine ws_iret rfl rfl rfl (Nat.le_of_ble_eq_true rfl) ?_
            exact ⟨rfl, I', L', rfl, hRR I' hf'⟩
          | succ k ih =>
            intro p I' L' z6 hp hf' he
            have hp5 : p < 5 := by omega
            have inner : ∀ (k2 q : Nat) (I' : Nat → Nat → Int32) (L' : Nat → Nat → Int64), q + k2 = 5 → p < q → (∀ a, a ≠ 53 → a ≠ 54 → a ≠ 56 → a ≠ 57 → I' a = I2 a) → mn2 s.c.A s.c.F s.c.b w x m 5 0 = (match mn1 s.c.A s.c.F s.c.b w x m p k2 q with | some r => some r | none => mn2 s.c.A s.c.F s.c.b w x m k (p + 1)) → xW E 20 131 58 [some (.ref 42), some (.int (nI w)), some (.long (lN x)), none, some (.int (nI m)), some (.int (nI p)), some (.int (nI q))] [] (xS, I', L') 0 0 (mQ I s (.int (fo (mn2 s.c.A s.c.F s.c.b w x m 5 0)))) := by
              intro k2
              induction k2 with
              | zero =>
                intro q I' L' hq hpq hf' he
                refine ws_iload_6 60 rfl rfl ?_
                refine ws_iconst 61 rfl rfl kc_i5 ?_
                refine ws_icmp_gen 130 64 rfl rfl rfl (by omega) (by omega) (fun h9 => ?_) (fun h9 => absurd h9 (by omega))
                refine ws_iinc_5 133 rfl rfl (ki_1 _) rfl rfl ?_
                refine ws_goto 46 rfl rfl ?_
                exact ih (p + 1) I' L' _ (by omega) hf' he
              | succ k2 ih2 =>
                intro q I' L' hq hpq hf' he
                have hq5 : q < 5 := by omega
                have es : mn1 s.c.A s.c.F s.c.b w x m p (k2 + 1) q = if 100 * wkF s.c.A s.c.F (sw s.c.b p q) m < w * x then mn1 s.c.A s.c.F s.c.b w x m p k2 (q + 1) else some (10 * p + q) := rfl
                have hsw := sw_le hb hp5 hq5
                have hwk := wkF_bd hs.1.1 hsw m
                obtain ⟨hR', -⟩ := hRR I' hf'
                refine ws_iload_6 60 rfl rfl ?_
                refine ws_iconst 61 rfl rfl kc_i5 ?_
                refine ws_icmp_gen 130 64 rfl rfl rfl (by omega) (by omega) (fun h9 => absurd h9 (by omega)) (fun h9 => ?_)
                refine ws_aload_0 65 rfl rfl ?_
                refine ws_invV0 68 rfl rfl rfl rfl (r_look hR') rfl rfl rfl ?_
                rintro _ _ ⟨rfl, I5, rfl, hf6, h535⟩
                have h46 : ∀ r, r < 5 → I5 46 r = nI (s.c.b r) := fun r hr => by rw [hf6 46 (by decide)]; exact hR'.1.2.2.1 r hr
                have g1 := h46 q hq5
                have g2 : wI I5 53 p (nI (s.c.b q)) 46 p = nI (s.c.b p) := by rw [wI_ne (by decide)]; exact h46 p hp5
                have h539 : ∀ r, r < 5 → wI (wI I5 53 p (nI (s.c.b q))) 53 q (nI (s.c.b p)) 53 r = nI (sw s.c.b p q r) := fun r hr => by
                  rw [wI_eq, wI_eq]
                  unfold sw
                  by_cases e1 : r = q
                  · rw [e1, pk_us, if_neg (by omega), if_pos rfl]
                  · rw [pk_un e1]
                    by_cases e2 : r = p
                    · rw [e2, pk_us, if_pos rfl]
                    · rw [pk_un e2, if_neg e2, if_neg e1]; exact h535 r hr
                have hf7 : ∀ a, a ≠ 53 → a ≠ 54 → a ≠ 56 → a ≠ 57 → wI (wI I5 53 p (nI (s.c.b q))) 53 q (nI (s.c.b p)) a = I2 a := fun a a1 a2 a3 a4 => by rw [wI_ne a1, wI_ne a1, hf6 a a1]; exact hf' a a1 a2 a3 a4
                have hM7 : MW s.c.A (sw s.c.b p q) (wI (wI I5 53 p (nI (s.c.b q))) 53 q (nI (s.c.b p))) := by
                  obtain ⟨q1, q2, q3, -⟩ := hM
                  exact ⟨q1.keep (fun a a1 a2 => hf7 a (by omega) (by omega) (by omega) (by omega)) (by rw [hf7 42 (by decide) (by decide) (by decide) (by decide)]), fun j hj => by rw [hf7 58 (by decide) (by decide) (by decide) (by decide)]; exact q2 j hj, fun j hj => by rw [hf7 59 (by decide) (by decide) (by decide) (by decide)]; exact q3 j hj, h539⟩
                refine ws_aload_0 69 rfl rfl ?_
                refine ws_getfr 72 rfl rfl rfl rfl rfl ?_
                refine ws_iload_5 74 rfl rfl ?_
                refine ws_aload_0 75 rfl rfl ?_
                refine ws_getfr 78 rfl rfl rfl rfl rfl ?_
                refine ws_iload_6 80 rfl rfl ?_
                refine ws_ialdn 81 rfl rfl rfl (by omega) (by omega) g1 ?_
                refine ws_iastn 82 rfl rfl rfl (by omega) (by omega) ?_
                refine ws_aload_0 83 rfl rfl ?_
                refine ws_getfr 86 rfl rfl rfl rfl rfl ?_
                refine ws_iload_6 88 rfl rfl ?_
                refine ws_aload_0 89 rfl rfl ?_
                refine ws_getfr 92 rfl rfl rfl rfl rfl ?_
                refine ws_iload_5 94 rfl rfl ?_
                refine ws_ialdn 95 rfl rfl rfl (by omega) (by omega) g2 ?_
                refine ws_iastn 96 rfl rfl rfl (by omega) (by omega) ?_
                refine ws_ldc2 99 rfl rfl rfl (show (100 : Int64) = lN 100 from rfl) ?_
                refine ws_aload_0 100 rfl rfl ?_
                refine ws_iload_4 102 rfl rfl ?_
                refine ws_invV1 105 rfl rfl rfl rfl (m_wk m (by omega) hs.1.1 hs.1.2.1 hsw hM7) rfl rfl rfl ?_
                rintro _ _ ⟨rfl, I8, L8, rfl, hf8, -⟩
                have hf9 : ∀ a, a ≠ 53 → a ≠ 54 → a ≠ 56 → a ≠ 57 → I8 a = I2 a := fun a a1 a2 a3 a4 => by rw [hf8 a a2 a3 a4]; exact hf7 a a1 a2 a3 a4
                refine ws_i2l 106 rfl rfl (nI_l (by omega)) ?_
                refine ws_lmul 107 rfl rfl (lN_mul _ _) ?_
                refine ws_iload_1 108 rfl rfl ?_
                refine ws_i2l 109 rfl rfl (nI_l (by omega)) ?_
                refine ws_lload_2 110 rfl rfl ?_
                refine ws_lmul 111 rfl rfl (lN_mul _ _) ?_
                refine ws_lcmp 112 rfl rfl ?_
                refine ws_lc_lt 124 115 rfl rfl rfl (fun c1 => ?_) (fun c1 => ?_)
                · rw [lNlt (by omega) (by omega)] at c1
                  rw [es, if_pos c1] at he
                  refine ws_iinc_6 127 rfl rfl (ki_1 _) rfl rfl ?_
                  refine ws_goto 58 rfl rfl ?_
                  exact ih2 (q + 1) I8 L8 (by omega) (by omega) hf9 he
                · rw [lNlt (by omega) (by omega)] at c1
                  rw [es, if_neg c1] at he
                  rw [he]
                  refine ws_bipush 117 rfl rfl kc_b10 ?_
                  refine ws_iload_5 119 rfl rfl ?_
                  refine ws_imul 120 rfl rfl (pk_mul _ _) ?_
                  refine ws_iload_6 122 rfl rfl ?_
                  refine ws_iadd 123 rfl rfl (nI_add _ _) ?_
                  refine ws_iret rfl rfl rfl (Nat.le_of_ble_eq_true rfl) ?_
                  exact ⟨rfl, I8, L8, rfl, hRR I8 hf9⟩
            refine ws_iload_5 48 rfl rfl ?_
            refine ws_iconst 49 rfl rfl kc_i5 ?_
            refine ws_icmp_gen 136 52 rfl rfl rfl (by omega) (by omega) (fun h9 => absurd h9 (by omega)) (fun h9 => ?_)
            refine ws_iload_5 54 rfl rfl ?_
            refine ws_iconst 55 rfl rfl kc_i1 ?_
            refine ws_iadd 56 rfl rfl (nI_add _ _) ?_
            refine ws_istore_6 58 rfl rfl rfl rfl ?_
            exact inner (4 - p) (p + 1) I' L' (by omega) (by omega) hf' he
        show xW E 20 131 34 [some (.ref 42), some (.int (nI w)), some (.long (lN x)), none, none, none, none] [.int (nI m)] (xS, I4, L4) 0 0 _
        refine ws_istore_4 36 rfl rfl rfl rfl ?_
        refine ws_iload_4 38 rfl rfl ?_
        refine ws_if_gen 43 41 rfl rfl rfl (by omega) (fun h9 => ?_) (fun h9 => absurd h9 (by omega))
        refine ws_iconst 44 rfl rfl kc_i0 ?_
        refine ws_istore_5 46 rfl rfl rfl rfl ?_
        exact outer 5 0 I4 L4 _ rfl hf5 rfl
