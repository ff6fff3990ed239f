/-! ===== told ===== -/
theorem md_or (M k : Nat) : M % 2 ^ k ||| M / 2 ^ k % 2 * 2 ^ k = M % 2 ^ (k + 1) := by
  have h := Nat.shiftLeft_add_eq_or_of_lt (b := M % 2 ^ k) (i := k) (Nat.mod_lt _ (Nat.pow_pos (by omega))) (M / 2 ^ k % 2)
  rw [Nat.shiftLeft_eq] at h
  rw [Nat.or_comm, ← h, Nat.mod_pow_succ, Nat.mul_comm (2 ^ k), Nat.add_comm]
theorem dv_neg {x : Int32} (h : x.toInt < 10) : (x / nI 10).toInt < 1 := by
  have e : (nI 10).toInt = 10 := by decide
  have hx1 := Int32.le_toInt x
  rw [Int32.toInt_div, e]
  have h1 : x.toInt.tdiv 10 < 1 := by
    rcases Int.lt_or_le x.toInt 0 with q | q
    · have := Int.neg_tdiv (a := -x.toInt) (b := 10)
      rw [Int.neg_neg] at this
      rw [this, Int.tdiv_eq_ediv_of_nonneg (by omega)]
      omega
    · rw [Int.tdiv_eq_ediv_of_nonneg q]; omega
  have h2 : -2147483648 ≤ x.toInt.tdiv 10 := by
    rcases Int.lt_or_le x.toInt 0 with q | q
    · have := Int.neg_tdiv (a := -x.toInt) (b := 10)
      rw [Int.neg_neg] at this
      rw [this, Int.tdiv_eq_ediv_of_nonneg (by omega)]
      omega
    · rw [Int.tdiv_eq_ediv_of_nonneg q]; omega
  rw [Int.bmod_eq_of_le (by omega) (by omega)]
  exact h1
theorem f_told (x : Int32) : Fx 78 137 [.int x] := by
  intro E s hE hs
  obtain ⟨o1, o2, hb, hd, o5, o6⟩ := hs.1
  obtain ⟨S, hS⟩ : ∃ S, tin s.c.b 5 = some S := by
    cases h : tin s.c.b 5 with
    | none => exact absurd hd ((tin_spec hb).2 h)
    | some S => exact ⟨S, rfl⟩
  have hS32 := tin_lt hb hS
  have p1 := p_between x (nI 50) (nI 73) 50 73 rfl rfl
  have p2 := p_in x (nI 50) (nI 73) 50 73 rfl rfl
  have p3 := p_in x (nI 10) (nI 44) 10 44 rfl rfl
  -- the reference's two sums
  have r73 : ∀ (I : Nat → Nat → Int32) (L : Nat → Nat → Int64) (y : Int32) (z3 z4 z5 : Option Value) (Q : Option Value → xMem → Prop), RR s I → (∀ z5, xW E 20 137 160 [some (.ref 42), some (.int x), some (.int y), some (.int (nI S)), some (.int (nI s.c.M)), z5] [] (xS, I, L) 0 0 Q) → xW E 20 137 73 [some (.ref 42), some (.int x), some (.int y), z3, z4, z5] [] (xS, I, L) 0 0 Q := by
    intro I L y z3 z4 z5 Q hR hk
    obtain ⟨r1, r2, r3, r4, r5, r6, r7, r8, r9⟩ := hR.1
    have t2 : ∀ (m k : Nat), k + m = 11 → xW E 20 137 124 [some (.ref 42), some (.int x), some (.int y), some (.int (nI S)), some (.int (nI (s.c.M % 2 ^ k))), some (.int (nI k))] [] (xS, I, L) 0 0 Q := by
      intro m
      induction m with
      | zero =>
        intro k hk'
        obtain rfl : k = 11 := by omega
        rw [Nat.mod_eq_of_lt (by omega)]
        refine ws_iload_5 126 rfl rfl ?_
        refine ws_bipush 128 rfl rfl kc_b11 ?_
        refine ws_icmp_gen 160 131 rfl rfl rfl (by omega) (by omega) (fun h9 => ?_) (fun h9 => absurd h9 (by omega))
        exact hk _
      | succ m ih =>
        intro k hk'
        have g := r9 k (by omega)
        have ih' := ih (k + 1) (by omega)
        rw [← md_or] at ih'
        have hpw : 1 * 2 ^ k < 4294967296 := by
          have : 2 ^ k ≤ 2 ^ 10 := Nat.pow_le_pow_right (by omega) (by omega)
          omega
        rcases (show s.c.M / 2 ^ k % 2 = 0 ∨ s.c.M / 2 ^ k % 2 = 1 by omega) with e | e
        · rw [e] at g
          rw [e, Nat.zero_mul] at ih'
          refine ws_iload_5 126 rfl rfl ?_
          refine ws_bipush 128 rfl rfl kc_b11 ?_
          refine ws_icmp_gen 160 131 rfl rfl rfl (by omega) (by omega) (fun h9 => absurd h9 (by omega)) (fun h9 => ?_)
          refine ws_iload_4 133 rfl rfl ?_
          refine ws_aload_0 134 rfl rfl ?_
          refine ws_getfr 137 rfl rfl rfl rfl rfl ?_
          refine ws_iload_5 139 rfl rfl ?_
          refine ws_zaldn 140 rfl rfl rfl (by omega) (by omega) g ?_
          refine ws_if_eqn 150 143 rfl rfl rfl (by omega) (fun h9 => ?_) (fun h9 => absurd h9 (by omega))
          refine ws_iconst 151 rfl rfl kc_i0 ?_
          refine ws_ior 152 rfl rfl (kn_or _ _) ?_
          refine ws_istore_4 154 rfl rfl rfl rfl ?_
          refine ws_iinc_5 157 rfl rfl (ki_1 _) rfl rfl ?_
          refine ws_goto 124 rfl rfl ?_
          exact ih'
        · rw [e] at g
          rw [e] at ih'
          refine ws_iload_5 126 rfl rfl ?_
          refine ws_bipush 128 rfl rfl kc_b11 ?_
          refine ws_icmp_gen 160 131 rfl rfl rfl (by omega) (by omega) (fun h9 => absurd h9 (by omega)) (fun h9 => ?_)
          refine ws_iload_4 133 rfl rfl ?_
          refine ws_aload_0 134 rfl rfl ?_
          refine ws_getfr 137 rfl rfl rfl rfl rfl ?_
          refine ws_iload_5 139 rfl rfl ?_
          refine ws_zaldn 140 rfl rfl rfl (by omega) (by omega) g ?_
          refine ws_if_eqn 150 143 rfl rfl rfl (by omega) (fun h9 => absurd h9 (by omega)) (fun h9 => ?_)
          refine ws_iconst 144 rfl rfl kc_i1 ?_
          refine ws_iload_5 146 rfl rfl ?_
          refine ws_ishl 147 rfl rfl (kn_shl (by omega) hpw) ?_
          refine ws_goto 151 rfl rfl ?_
          refine ws_ior 152 rfl rfl (kn_or _ _) ?_
          refine ws_istore_4 154 rfl rfl rfl rfl ?_
          refine ws_iinc_5 157 rfl rfl (ki_1 _) rfl rfl ?_
          refine ws_goto 124 rfl rfl ?_
          exact ih'
    have t1 : ∀ (m k u : Nat), k + m = 5 → tin s.c.b k = some u → xW E 20 137 81 [some (.ref 42), some (.int x), some (.int y), some (.int (nI u)), some (.int (nI 0)), some (.int (nI k))] [] (xS, I, L) 0 0 Q := by
      intro m
      induction m with
      | zero =>
        intro k u hk' hu
        obtain rfl : k = 5 := by omega
        rw [hS] at hu
        rw [← Option.some.inj hu]
        have h0 := t2 11 0 rfl
        rw [show s.c.M % 2 ^ 0 = 0 by rw [Nat.pow_zero]; exact Nat.mod_one _] at h0
        refine ws_iload_5 83 rfl rfl ?_
        refine ws_iconst 84 rfl rfl kc_i5 ?_
        refine ws_icmp_gen 121 87 rfl rfl rfl (by omega) (by omega) (fun h9 => ?_) (fun h9 => absurd h9 (by omega))
        refine ws_iconst 122 rfl rfl kc_i0 ?_
        refine ws_istore_5 124 rfl rfl rfl rfl ?_
        exact h0
      | succ m ih =>
        intro k u hk' hu
        have g := r3 k (by omega)
        have hbk := hb k (by omega)
        have et : tin s.c.b (k + 1) = if s.c.b k = 0 then some u else if u / 2 ^ (s.c.b k - 1) % 2 = 1 then none else some (u ||| 2 ^ (s.c.b k - 1)) := by rw [tin, hu]
        obtain ⟨v, hv⟩ := tin_some (b := s.c.b) (k := k + 1) (m := m) (s := S) (by rw [show k + 1 + m = 5 by omega]; exact hS)
        by_cases h0 : s.c.b k = 0
        · rw [if_pos h0] at et
          have eo : u ||| 0 = u := Nat.or_zero u
          rw [h0] at g
          refine ws_iload_5 83 rfl rfl ?_
          refine ws_iconst 84 rfl rfl kc_i5 ?_
          refine ws_icmp_gen 121 87 rfl rfl rfl (by omega) (by omega) (fun h9 => absurd h9 (by omega)) (fun h9 => ?_)
          refine ws_iload_3 88 rfl rfl ?_
          refine ws_aload_0 89 rfl rfl ?_
          refine ws_getfr 92 rfl rfl rfl rfl rfl ?_
          refine ws_iload_5 94 rfl rfl ?_
          refine ws_ialdn 95 rfl rfl rfl (by omega) (by omega) g ?_
          refine ws_if_len 112 98 rfl rfl rfl (by omega) (fun h9 => ?_) (fun h9 => absurd h9 (by omega))
          refine ws_iconst 113 rfl rfl kc_i0 ?_
          refine ws_ior 114 rfl rfl (kn_or _ _) ?_
          rw [eo]
          refine ws_istore_3 115 rfl rfl rfl rfl ?_
          refine ws_iinc_5 118 rfl rfl (ki_1 _) rfl rfl ?_
          refine ws_goto 81 rfl rfl ?_
          exact ih (k + 1) u (by omega) et
        · rw [if_neg h0] at et
          have hpw : 1 * 2 ^ (s.c.b k - 1) < 4294967296 := by
            have : 2 ^ (s.c.b k - 1) ≤ 2 ^ 4 := Nat.pow_le_pow_right (by omega) (by omega)
            omega
          by_cases h1 : u / 2 ^ (s.c.b k - 1) % 2 = 1
          · rw [if_pos h1, hv] at et; cases et
          · rw [if_neg h1] at et
            refine ws_iload_5 83 rfl rfl ?_
            refine ws_iconst 84 rfl rfl kc_i5 ?_
            refine ws_icmp_gen 121 87 rfl rfl rfl (by omega) (by omega) (fun h9 => absurd h9 (by omega)) (fun h9 => ?_)
            refine ws_iload_3 88 rfl rfl ?_
            refine ws_aload_0 89 rfl rfl ?_
            refine ws_getfr 92 rfl rfl rfl rfl rfl ?_
            refine ws_iload_5 94 rfl rfl ?_
            refine ws_ialdn 95 rfl rfl rfl (by omega) (by omega) g ?_
            refine ws_if_len 112 98 rfl rfl rfl (by omega) (fun h9 => absurd h9 (by omega)) (fun h9 => ?_)
            refine ws_iconst 99 rfl rfl kc_i1 ?_
            refine ws_aload_0 100 rfl rfl ?_
            refine ws_getfr 103 rfl rfl rfl rfl rfl ?_
            refine ws_iload_5 105 rfl rfl ?_
            refine ws_ialdn 106 rfl rfl rfl (by omega) (by omega) g ?_
            refine ws_iconst 107 rfl rfl kc_i1 ?_
            refine ws_isub 108 rfl rfl (pk_sub (by omega)) ?_
            refine ws_ishl 109 rfl rfl (kn_shl (by omega) hpw) ?_
            refine ws_goto 113 rfl rfl ?_
            rw [Nat.one_mul]
            refine ws_ior 114 rfl rfl (kn_or _ _) ?_
            refine ws_istore_3 115 rfl rfl rfl rfl ?_
            refine ws_iinc_5 118 rfl rfl (ki_1 _) rfl rfl ?_
            refine ws_goto 81 rfl rfl ?_
            exact ih (k + 1) _ (by omega) et
    refine ws_iconst 74 rfl rfl kc_i0 ?_
    refine ws_istore_3 75 rfl rfl rfl rfl ?_
    refine ws_iconst 76 rfl rfl kc_i0 ?_
    refine ws_istore_4 78 rfl rfl rfl rfl ?_
    refine ws_iconst 79 rfl rfl kc_i0 ?_
    refine ws_istore_5 81 rfl rfl rfl rfl ?_
    exact t1 5 0 0 rfl rfl
  cases hr : rg 50 73 x with
  | true =>
    rw [hr] at p1 p2
    obtain ⟨n, hn1, hn2, rfl⟩ := rg_nat (a := 50) (b := 73) hr (by omega)
    refine ⟨(nI (s.c.A 3 (n - 50))), s, hs, fun I L hC => ?_, fun I L hR => ?_⟩
    · refine xC.mk [some (.ref 0), some (.int (nI n))] rfl ?_
      have g : I 9 (n - 50) = nI (s.c.A 3 (n - 50)) := hC.1.2.2.2.1 _ (by omega)
      have ct : xC E 2 79 [.ref 0, .int (nI n)] (xS, I, L) (rV (.int (nI (s.c.A 3 (n - 50)))) (xS, I, L)) := by
        refine xC.mk [some (.ref 0), some (.int (nI n)), none, none] rfl ?_
        refine ws_iload_1 1 rfl rfl ?_
        refine ws_bipush 3 rfl rfl kc_b50 ?_
        refine ws_bipush 5 rfl rfl kc_b73 ?_
        refine ws_invS3p 8 rfl rfl rfl (p1) rfl rfl rfl ?_
        refine ws_if_eqb 24 11 rfl rfl rfl (fun h9 => absurd h9 (by first | decide | simp_all)) (fun h9 => ?_)
        refine ws_aload_0 12 rfl rfl ?_
        refine ws_getfr 15 rfl rfl rfl rfl rfl ?_
        refine ws_getfr 18 rfl rfl rfl rfl rfl ?_
        refine ws_iload_1 19 rfl rfl ?_
        refine ws_bipush 21 rfl rfl kc_b50 ?_
        refine ws_isub 22 rfl rfl (pk_sub (by omega)) ?_
        refine ws_ialdn 23 rfl rfl rfl (by omega) (by omega) g ?_
        refine ws_iret rfl rfl rfl (Nat.le_of_ble_eq_true rfl) ?_
        exact ⟨rfl, rfl⟩
      refine ws_iload_1 1 rfl rfl ?_
      refine ws_tswd 64 rfl rfl (by rw [nI_toInt (by omega)]; omega) ?_
      refine ws_aload_0 65 rfl rfl ?_
      refine ws_iload_1 66 rfl rfl ?_
      refine ws_invV1p 69 rfl rfl rfl rfl (ct) rfl rfl rfl ?_
      refine ws_iret rfl rfl rfl (Nat.le_of_ble_eq_true rfl) ?_
      exact cQ.sm hC
    · refine xC.mk [some (.ref 42), some (.int (nI n)), none, none, none, none] rfl ?_
      have g : I 47 (n - 50) = nI (s.c.A 3 (n - 50)) := hR.1.2.2.2.1 _ (by omega)
      refine ws_iload_1 1 rfl rfl ?_
      refine ws_bipush 3 rfl rfl kc_b50 ?_
      refine ws_bipush 5 rfl rfl kc_b73 ?_
      refine ws_invS3p 8 rfl rfl rfl (p2) rfl rfl rfl ?_
      refine ws_if_eqb 21 11 rfl rfl rfl (fun h9 => absurd h9 (by first | decide | simp_all)) (fun h9 => ?_)
      refine ws_aload_0 12 rfl rfl ?_
      refine ws_getfr 15 rfl rfl rfl rfl rfl ?_
      refine ws_iload_1 16 rfl rfl ?_
      refine ws_bipush 18 rfl rfl kc_b50 ?_
      refine ws_isub 19 rfl rfl (pk_sub (by omega)) ?_
      refine ws_ialdn 20 rfl rfl rfl (by omega) (by omega) g ?_
      refine ws_iret rfl rfl rfl (Nat.le_of_ble_eq_true rfl) ?_
      exact mQ.sm hR
  | false =>
    rw [hr] at p1 p2
    cases hr2 : rg 0 49 x with
    | true =>
      obtain ⟨n, -, hn2, rfl⟩ := rg_nat (a := 0) (b := 49) hr2 (by omega)
      have e3 : rg 10 44 (nI n) = (decide (10 ≤ n) && decide (n ≤ 44)) := by
        rw [rg_nI (by omega)]
        congr 1
        · rw [decide_eq_decide]; omega
        · rw [decide_eq_decide]; omega
      rw [e3] at p3
      by_cases h4 : n < 4
      · refine ⟨(nI (if n = 0 then s.n else if n = 1 then S else if n = 2 then s.c.A 6 0 else s.c.M)), s, hs, fun I L hC => ?_, fun I L hR => ?_⟩
        · refine xC.mk [some (.ref 0), some (.int (nI n))] rfl ?_
          obtain ⟨h1, h2, h3, h4, h5, h6, h7, h8⟩ := hC.1
          have g0 := hC.2.2.1.1
          rcases (show n = 0 ∨ n = 1 ∨ n = 2 ∨ n = 3 by omega) with rfl | rfl | rfl | rfl
          · refine ws_iload_1 1 rfl rfl ?_
            refine ws_tswn 0 0 64 32 (by omega) rfl rfl rfl (by decide) rfl rfl ?_
            refine ws_aload_0 33 rfl rfl ?_
            refine ws_getfr 36 rfl rfl rfl rfl rfl ?_
            refine ws_getfi 39 rfl rfl rfl rfl rfl g0 ?_
            refine ws_iret rfl rfl rfl (Nat.le_of_ble_eq_true rfl) ?_
            exact cQ.sm hC
          · refine ws_iload_1 1 rfl rfl ?_
            refine ws_tswn 1 1 64 40 (by omega) rfl rfl rfl (by decide) rfl rfl ?_
            refine ws_aload_0 41 rfl rfl ?_
            refine ws_getfr 44 rfl rfl rfl rfl rfl ?_
            refine ws_invV0p 47 rfl rfl rfl rfl (c_standing (T := xM0) hb hS h3) rfl rfl rfl ?_
            refine ws_iret rfl rfl rfl (Nat.le_of_ble_eq_true rfl) ?_
            exact cQ.sm hC
          · refine ws_iload_1 1 rfl rfl ?_
            refine ws_tswn 2 2 64 48 (by omega) rfl rfl rfl (by decide) rfl rfl ?_
            refine ws_aload_0 49 rfl rfl ?_
            refine ws_getfr 52 rfl rfl rfl rfl rfl ?_
            refine ws_getfi 55 rfl rfl rfl rfl rfl h8 ?_
            refine ws_iret rfl rfl rfl (Nat.le_of_ble_eq_true rfl) ?_
            exact cQ.sm hC
          · refine ws_iload_1 1 rfl rfl ?_
            refine ws_tswn 3 3 64 56 (by omega) rfl rfl rfl (by decide) rfl rfl ?_
            refine ws_aload_0 57 rfl rfl ?_
            refine ws_getfr 60 rfl rfl rfl rfl rfl ?_
            refine ws_getfi 63 rfl rfl rfl rfl rfl h7 ?_
            refine ws_iret rfl rfl rfl (Nat.le_of_ble_eq_true rfl) ?_
            exact cQ.sm hC
        · refine xC.mk [some (.ref 42), some (.int (nI n)), none, none, none, none] rfl ?_
          have g0 := hR.2.2.1.1
          have g2 : I 42 8 = nI (s.c.A 6 0) := hR.1.2.2.2.2.2.2.1
          rw [decide_eq_false (by omega)] at p3
          refine ws_iload_1 1 rfl rfl ?_
          refine ws_bipush 3 rfl rfl kc_b50 ?_
          refine ws_bipush 5 rfl rfl kc_b73 ?_
          refine ws_invS3p 8 rfl rfl rfl (p2) rfl rfl rfl ?_
          refine ws_if_eqb 21 11 rfl rfl rfl (fun h9 => ?_) (fun h9 => absurd h9 (by first | decide | simp_all))
          refine ws_iload_1 22 rfl rfl ?_
          refine ws_bipush 24 rfl rfl kc_b10 ?_
          refine ws_irem 25 rfl rfl (kn_ne0 (by omega) (by omega)) (pk_rem (by omega) (by omega) (by omega)) ?_
          refine ws_istore_2 26 rfl rfl rfl rfl ?_
          refine ws_iload_1 27 rfl rfl ?_
          refine ws_bipush 29 rfl rfl kc_b10 ?_
          refine ws_bipush 31 rfl rfl kc_b44 ?_
          refine ws_invS3p 34 rfl rfl rfl (p3) rfl rfl rfl ?_
          refine ws_if_eqb 73 37 rfl rfl rfl (fun h9 => ?_) (fun h9 => absurd h9 (by first | decide | simp_all))
          refine r73 I L _ _ _ _ _ hR (fun z5 => ?_)
          rcases (show n = 0 ∨ n = 1 ∨ n = 2 ∨ n = 3 by omega) with rfl | rfl | rfl | rfl
          · refine ws_iload_1 161 rfl rfl ?_
            refine ws_if_nen 171 164 rfl rfl rfl (by omega) (fun h9 => absurd h9 (by omega)) (fun h9 => ?_)
            refine ws_aload_0 165 rfl rfl ?_
            refine ws_getfi 168 rfl rfl rfl rfl rfl g0 ?_
            refine ws_goto 204 rfl rfl ?_
            refine ws_iret rfl rfl rfl (Nat.le_of_ble_eq_true rfl) ?_
            exact mQ.sm hR
          · refine ws_iload_1 161 rfl rfl ?_
            refine ws_if_nen 171 164 rfl rfl rfl (by omega) (fun h9 => ?_) (fun h9 => absurd h9 (by omega))
            refine ws_iload_1 172 rfl rfl ?_
            refine ws_iconst 173 rfl rfl kc_i1 ?_
            refine ws_icmp_nen 180 176 rfl rfl rfl (by omega) (by omega) (fun h9 => absurd h9 (by omega)) (fun h9 => ?_)
            refine ws_iload_3 177 rfl rfl ?_
            refine ws_goto 204 rfl rfl ?_
            refine ws_iret rfl rfl rfl (Nat.le_of_ble_eq_true rfl) ?_
            exact mQ.sm hR
          · refine ws_iload_1 161 rfl rfl ?_
            refine ws_if_nen 171 164 rfl rfl rfl (by omega) (fun h9 => ?_) (fun h9 => absurd h9 (by omega))
            refine ws_iload_1 172 rfl rfl ?_
            refine ws_iconst 173 rfl rfl kc_i1 ?_
            refine ws_icmp_nen 180 176 rfl rfl rfl (by omega) (by omega) (fun h9 => ?_) (fun h9 => absurd h9 (by omega))
            refine ws_iload_1 181 rfl rfl ?_
            refine ws_iconst 182 rfl rfl kc_i2 ?_
            refine ws_icmp_nen 192 185 rfl rfl rfl (by omega) (by omega) (fun h9 => absurd h9 (by omega)) (fun h9 => ?_)
            refine ws_aload_0 186 rfl rfl ?_
            refine ws_getfi 189 rfl rfl rfl rfl rfl g2 ?_
            refine ws_goto 204 rfl rfl ?_
            refine ws_iret rfl rfl rfl (Nat.le_of_ble_eq_true rfl) ?_
            exact mQ.sm hR
          · refine ws_iload_1 161 rfl rfl ?_
            refine ws_if_nen 171 164 rfl rfl rfl (by omega) (fun h9 => ?_) (fun h9 => absurd h9 (by omega))
            refine ws_iload_1 172 rfl rfl ?_
            refine ws_iconst 173 rfl rfl kc_i1 ?_
            refine ws_icmp_nen 180 176 rfl rfl rfl (by omega) (by omega) (fun h9 => ?_) (fun h9 => absurd h9 (by omega))
            refine ws_iload_1 181 rfl rfl ?_
            refine ws_iconst 182 rfl rfl kc_i2 ?_
            refine ws_icmp_nen 192 185 rfl rfl rfl (by omega) (by omega) (fun h9 => ?_) (fun h9 => absurd h9 (by omega))
            refine ws_iload_1 193 rfl rfl ?_
            refine ws_iconst 194 rfl rfl kc_i3 ?_
            refine ws_icmp_nen 202 197 rfl rfl rfl (by omega) (by omega) (fun h9 => absurd h9 (by omega)) (fun h9 => ?_)
            refine ws_iload_4 199 rfl rfl ?_
            refine ws_goto 204 rfl rfl ?_
            refine ws_iret rfl rfl rfl (Nat.le_of_ble_eq_true rfl) ?_
            exact mQ.sm hR
      · have pr := p_between (nI (n / 10)) (nI 1) (nI 4) 1 4 rfl rfl
        have pc := p_below (nI (n % 10)) 5 4 (by omega) rfl
        rw [rg_nI (by omega)] at pr pc
        by_cases hB : (10 ≤ n ∧ n ≤ 44) ∧ n % 10 < 5
        · rw [decide_eq_true (show 10 ≤ n by omega), decide_eq_true (show n ≤ 44 by omega)] at p3
          rw [decide_eq_true (show ((1 : Int) ≤ ((n / 10 : Nat) : Int)) by omega), decide_eq_true (show (((n / 10 : Nat) : Int) ≤ 4) by omega)] at pr
          rw [decide_eq_true (show ((0 : Int) ≤ ((n % 10 : Nat) : Int)) by omega), decide_eq_true (show (((n % 10 : Nat) : Int) ≤ 4) by omega)] at pc
          refine ⟨(nI (if n < 40 then s.c.A 0 ((n / 10 - 1) * 5 + n % 10) else s.c.A 1 (n % 10))), s, hs, fun I L hC => ?_, fun I L hR => ?_⟩
          · refine xC.mk [some (.ref 0), some (.int (nI n))] rfl ?_
            have g : I 7 (n % 10) = nI (s.c.A 1 (n % 10)) := hC.1.2.1 _ (by omega)
            have ct : xC E 2 79 [.ref 0, .int (nI n)] (xS, I, L) (rV (.int (nI (if n < 40 then s.c.A 0 ((n / 10 - 1) * 5 + n % 10) else s.c.A 1 (n % 10)))) (xS, I, L)) := by
              refine xC.mk [some (.ref 0), some (.int (nI n)), none, none] rfl ?_
              by_cases h40 : n < 40
              · rw [if_pos h40]
                refine ws_iload_1 1 rfl rfl ?_
                refine ws_bipush 3 rfl rfl kc_b50 ?_
                refine ws_bipush 5 rfl rfl kc_b73 ?_
                refine ws_invS3p 8 rfl rfl rfl (p1) rfl rfl rfl ?_
                refine ws_if_eqb 24 11 rfl rfl rfl (fun h9 => ?_) (fun h9 => absurd h9 (by first | decide | simp_all))
                refine ws_iload_1 25 rfl rfl ?_
                refine ws_bipush 27 rfl rfl kc_b10 ?_
                refine ws_idiv 28 rfl rfl (kn_ne0 (by omega) (by omega)) (pk_div (by omega) (by omega) (by omega)) ?_
                refine ws_istore_2 29 rfl rfl rfl rfl ?_
                refine ws_iload_1 30 rfl rfl ?_
                refine ws_bipush 32 rfl rfl kc_b10 ?_
                refine ws_irem 33 rfl rfl (kn_ne0 (by omega) (by omega)) (pk_rem (by omega) (by omega) (by omega)) ?_
                refine ws_istore_3 34 rfl rfl rfl rfl ?_
                refine ws_iload_2 35 rfl rfl ?_
                refine ws_iconst 36 rfl rfl kc_i1 ?_
                refine ws_iconst 37 rfl rfl kc_i4 ?_
                refine ws_invS3p 40 rfl rfl rfl (pr) rfl rfl rfl ?_
                refine ws_if_eqb 51 43 rfl rfl rfl (fun h9 => absurd h9 (by first | decide | simp_all)) (fun h9 => ?_)
                refine ws_iload_3 44 rfl rfl ?_
                refine ws_iconst 45 rfl rfl kc_i5 ?_
                refine ws_invS2p 48 rfl rfl rfl (pc) rfl rfl rfl ?_
                refine ws_if_neb 54 51 rfl rfl rfl (fun h9 => ?_) (fun h9 => absurd h9 (by first | decide | simp_all))
                refine ws_iload_2 55 rfl rfl ?_
                refine ws_iconst 56 rfl rfl kc_i4 ?_
                refine ws_icmp_nen 71 59 rfl rfl rfl (by omega) (by omega) (fun h9 => ?_) (fun h9 => absurd h9 (by omega))
                refine ws_aload_0 72 rfl rfl ?_
                refine ws_getfr 75 rfl rfl rfl rfl rfl ?_
                refine ws_iload_3 76 rfl rfl ?_
                refine ws_iload_2 77 rfl rfl ?_
                refine ws_iconst 78 rfl rfl kc_i1 ?_
                refine ws_isub 79 rfl rfl (pk_sub (by omega)) ?_
                refine ws_invV2p 82 rfl rfl rfl rfl (c_trait (T := xM0) hC.1.1 (n % 10) (n / 10 - 1) (by omega) (by omega)) rfl rfl rfl ?_
                refine ws_iret rfl rfl rfl (Nat.le_of_ble_eq_true rfl) ?_
                exact ⟨rfl, rfl⟩
              · rw [if_neg h40]
                refine ws_iload_1 1 rfl rfl ?_
                refine ws_bipush 3 rfl rfl kc_b50 ?_
                refine ws_bipush 5 rfl rfl kc_b73 ?_
                refine ws_invS3p 8 rfl rfl rfl (p1) rfl rfl rfl ?_
                refine ws_if_eqb 24 11 rfl rfl rfl (fun h9 => ?_) (fun h9 => absurd h9 (by first | decide | simp_all))
                refine ws_iload_1 25 rfl rfl ?_
                refine ws_bipush 27 rfl rfl kc_b10 ?_
                refine ws_idiv 28 rfl rfl (kn_ne0 (by omega) (by omega)) (pk_div (by omega) (by omega) (by omega)) ?_
                refine ws_istore_2 29 rfl rfl rfl rfl ?_
                refine ws_iload_1 30 rfl rfl ?_
                refine ws_bipush 32 rfl rfl kc_b10 ?_
                refine ws_irem 33 rfl rfl (kn_ne0 (by omega) (by omega)) (pk_rem (by omega) (by omega) (by omega)) ?_
                refine ws_istore_3 34 rfl rfl rfl rfl ?_
                refine ws_iload_2 35 rfl rfl ?_
                refine ws_iconst 36 rfl rfl kc_i1 ?_
                refine ws_iconst 37 rfl rfl kc_i4 ?_
                refine ws_invS3p 40 rfl rfl rfl (pr) rfl rfl rfl ?_
                refine ws_if_eqb 51 43 rfl rfl rfl (fun h9 => absurd h9 (by first | decide | simp_all)) (fun h9 => ?_)
                refine ws_iload_3 44 rfl rfl ?_
                refine ws_iconst 45 rfl rfl kc_i5 ?_
                refine ws_invS2p 48 rfl rfl rfl (pc) rfl rfl rfl ?_
                refine ws_if_neb 54 51 rfl rfl rfl (fun h9 => ?_) (fun h9 => absurd h9 (by first | decide | simp_all))
                refine ws_iload_2 55 rfl rfl ?_
                refine ws_iconst 56 rfl rfl kc_i4 ?_
                refine ws_icmp_nen 71 59 rfl rfl rfl (by omega) (by omega) (fun h9 => absurd h9 (by omega)) (fun h9 => ?_)
                refine ws_aload_0 60 rfl rfl ?_
                refine ws_getfr 63 rfl rfl rfl rfl rfl ?_
                refine ws_getfr 66 rfl rfl rfl rfl rfl ?_
                refine ws_iload_3 67 rfl rfl ?_
                refine ws_ialdn 68 rfl rfl rfl (by omega) (by omega) g ?_
                refine ws_goto 82 rfl rfl ?_
                refine ws_iret rfl rfl rfl (Nat.le_of_ble_eq_true rfl) ?_
                exact ⟨rfl, rfl⟩
            refine ws_iload_1 1 rfl rfl ?_
            refine ws_tswd 64 rfl rfl (by rw [nI_toInt (by omega)]; omega) ?_
            refine ws_aload_0 65 rfl rfl ?_
            refine ws_iload_1 66 rfl rfl ?_
            refine ws_invV1p 69 rfl rfl rfl rfl (ct) rfl rfl rfl ?_
            refine ws_iret rfl rfl rfl (Nat.le_of_ble_eq_true rfl) ?_
            exact cQ.sm hC
          · refine xC.mk [some (.ref 42), some (.int (nI n)), none, none, none, none] rfl ?_
            have g : I 44 (n % 10) = nI (s.c.A 1 (n % 10)) := hR.1.2.1 _ (by omega)
            have e5 : 5 * (n / 10 - 1) + n % 10 = (n / 10 - 1) * 5 + n % 10 := by omega
            by_cases h40 : n < 40
            · have g3 : I 43 (5 * (n / 10 - 1) + n % 10) = nI (s.c.A 0 ((n / 10 - 1) * 5 + n % 10)) := by rw [e5]; exact hR.1.1 _ (by omega)
              rw [if_pos h40]
              refine ws_iload_1 1 rfl rfl ?_
              refine ws_bipush 3 rfl rfl kc_b50 ?_
              refine ws_bipush 5 rfl rfl kc_b73 ?_
              refine ws_invS3p 8 rfl rfl rfl (p2) rfl rfl rfl ?_
              refine ws_if_eqb 21 11 rfl rfl rfl (fun h9 => ?_) (fun h9 => absurd h9 (by first | decide | simp_all))
              refine ws_iload_1 22 rfl rfl ?_
              refine ws_bipush 24 rfl rfl kc_b10 ?_
              refine ws_irem 25 rfl rfl (kn_ne0 (by omega) (by omega)) (pk_rem (by omega) (by omega) (by omega)) ?_
              refine ws_istore_2 26 rfl rfl rfl rfl ?_
              refine ws_iload_1 27 rfl rfl ?_
              refine ws_bipush 29 rfl rfl kc_b10 ?_
              refine ws_bipush 31 rfl rfl kc_b44 ?_
              refine ws_invS3p 34 rfl rfl rfl (p3) rfl rfl rfl ?_
              refine ws_if_eqb 73 37 rfl rfl rfl (fun h9 => absurd h9 (by first | decide | simp_all)) (fun h9 => ?_)
              refine ws_iload_2 38 rfl rfl ?_
              refine ws_iconst 39 rfl rfl kc_i5 ?_
              refine ws_icmp_gen 73 42 rfl rfl rfl (by omega) (by omega) (fun h9 => absurd h9 (by omega)) (fun h9 => ?_)
              refine ws_iload_1 43 rfl rfl ?_
              refine ws_bipush 45 rfl rfl kc_b40 ?_
              refine ws_icmp_gen 66 48 rfl rfl rfl (by omega) (by omega) (fun h9 => absurd h9 (by omega)) (fun h9 => ?_)
              refine ws_aload_0 49 rfl rfl ?_
              refine ws_getfr 52 rfl rfl rfl rfl rfl ?_
              refine ws_iconst 53 rfl rfl kc_i5 ?_
              refine ws_iload_1 54 rfl rfl ?_
              refine ws_bipush 56 rfl rfl kc_b10 ?_
              refine ws_idiv 57 rfl rfl (kn_ne0 (by omega) (by omega)) (pk_div (by omega) (by omega) (by omega)) ?_
              refine ws_iconst 58 rfl rfl kc_i1 ?_
              refine ws_isub 59 rfl rfl (pk_sub (by omega)) ?_
              refine ws_imul 60 rfl rfl (pk_mul _ _) ?_
              refine ws_iload_2 61 rfl rfl ?_
              refine ws_iadd 62 rfl rfl (nI_add _ _) ?_
              refine ws_ialdn 63 rfl rfl rfl (by omega) (by omega) g3 ?_
              refine ws_goto 72 rfl rfl ?_
              refine ws_iret rfl rfl rfl (Nat.le_of_ble_eq_true rfl) ?_
              exact mQ.sm hR
            · rw [if_neg h40]
              refine ws_iload_1 1 rfl rfl ?_
              refine ws_bipush 3 rfl rfl kc_b50 ?_
              refine ws_bipush 5 rfl rfl kc_b73 ?_
              refine ws_invS3p 8 rfl rfl rfl (p2) rfl rfl rfl ?_
              refine ws_if_eqb 21 11 rfl rfl rfl (fun h9 => ?_) (fun h9 => absurd h9 (by first | decide | simp_all))
              refine ws_iload_1 22 rfl rfl ?_
              refine ws_bipush 24 rfl rfl kc_b10 ?_
              refine ws_irem 25 rfl rfl (kn_ne0 (by omega) (by omega)) (pk_rem (by omega) (by omega) (by omega)) ?_
              refine ws_istore_2 26 rfl rfl rfl rfl ?_
              refine ws_iload_1 27 rfl rfl ?_
              refine ws_bipush 29 rfl rfl kc_b10 ?_
              refine ws_bipush 31 rfl rfl kc_b44 ?_
              refine ws_invS3p 34 rfl rfl rfl (p3) rfl rfl rfl ?_
              refine ws_if_eqb 73 37 rfl rfl rfl (fun h9 => absurd h9 (by first | decide | simp_all)) (fun h9 => ?_)
              refine ws_iload_2 38 rfl rfl ?_
              refine ws_iconst 39 rfl rfl kc_i5 ?_
              refine ws_icmp_gen 73 42 rfl rfl rfl (by omega) (by omega) (fun h9 => absurd h9 (by omega)) (fun h9 => ?_)
              refine ws_iload_1 43 rfl rfl ?_
              refine ws_bipush 45 rfl rfl kc_b40 ?_
              refine ws_icmp_gen 66 48 rfl rfl rfl (by omega) (by omega) (fun h9 => ?_) (fun h9 => absurd h9 (by omega))
              refine ws_aload_0 67 rfl rfl ?_
              refine ws_getfr 70 rfl rfl rfl rfl rfl ?_
              refine ws_iload_2 71 rfl rfl ?_
              refine ws_ialdn 72 rfl rfl rfl (by omega) (by omega) g ?_
              refine ws_iret rfl rfl rfl (Nat.le_of_ble_eq_true rfl) ?_
              exact mQ.sm hR
        · refine ⟨(-2), s, hs, fun I L hC => ?_, fun I L hR => ?_⟩
          · refine xC.mk [some (.ref 0), some (.int (nI n))] rfl ?_
            have ct : xC E 2 79 [.ref 0, .int (nI n)] (xS, I, L) (rV (.int (-2)) (xS, I, L)) := by
              refine xC.mk [some (.ref 0), some (.int (nI n)), none, none] rfl ?_
              by_cases h10 : 10 ≤ n
              · rw [decide_eq_true (show ((1 : Int) ≤ ((n / 10 : Nat) : Int)) by omega), decide_eq_true (show (((n / 10 : Nat) : Int) ≤ 4) by omega)] at pr
                rw [decide_eq_false (show ¬ (((n % 10 : Nat) : Int) ≤ 4) by omega), Bool.and_false] at pc
                refine ws_iload_1 1 rfl rfl ?_
                refine ws_bipush 3 rfl rfl kc_b50 ?_
                refine ws_bipush 5 rfl rfl kc_b73 ?_
                refine ws_invS3p 8 rfl rfl rfl (p1) rfl rfl rfl ?_
                refine ws_if_eqb 24 11 rfl rfl rfl (fun h9 => ?_) (fun h9 => absurd h9 (by first | decide | simp_all))
                refine ws_iload_1 25 rfl rfl ?_
                refine ws_bipush 27 rfl rfl kc_b10 ?_
                refine ws_idiv 28 rfl rfl (kn_ne0 (by omega) (by omega)) (pk_div (by omega) (by omega) (by omega)) ?_
                refine ws_istore_2 29 rfl rfl rfl rfl ?_
                refine ws_iload_1 30 rfl rfl ?_
                refine ws_bipush 32 rfl rfl kc_b10 ?_
                refine ws_irem 33 rfl rfl (kn_ne0 (by omega) (by omega)) (pk_rem (by omega) (by omega) (by omega)) ?_
                refine ws_istore_3 34 rfl rfl rfl rfl ?_
                refine ws_iload_2 35 rfl rfl ?_
                refine ws_iconst 36 rfl rfl kc_i1 ?_
                refine ws_iconst 37 rfl rfl kc_i4 ?_
                refine ws_invS3p 40 rfl rfl rfl (pr) rfl rfl rfl ?_
                refine ws_if_eqb 51 43 rfl rfl rfl (fun h9 => absurd h9 (by first | decide | simp_all)) (fun h9 => ?_)
                refine ws_iload_3 44 rfl rfl ?_
                refine ws_iconst 45 rfl rfl kc_i5 ?_
                refine ws_invS2p 48 rfl rfl rfl (pc) rfl rfl rfl ?_
                refine ws_if_neb 54 51 rfl rfl rfl (fun h9 => absurd h9 (by first | decide | simp_all)) (fun h9 => ?_)
                refine ws_bipush 53 rfl rfl kc_bm2 ?_
                refine ws_iret rfl rfl rfl (Nat.le_of_ble_eq_true rfl) ?_
                exact ⟨rfl, rfl⟩
              · rw [decide_eq_false (show ¬ ((1 : Int) ≤ ((n / 10 : Nat) : Int)) by omega), Bool.false_and] at pr
                refine ws_iload_1 1 rfl rfl ?_
                refine ws_bipush 3 rfl rfl kc_b50 ?_
                refine ws_bipush 5 rfl rfl kc_b73 ?_
                refine ws_invS3p 8 rfl rfl rfl (p1) rfl rfl rfl ?_
                refine ws_if_eqb 24 11 rfl rfl rfl (fun h9 => ?_) (fun h9 => absurd h9 (by first | decide | simp_all))
                refine ws_iload_1 25 rfl rfl ?_
                refine ws_bipush 27 rfl rfl kc_b10 ?_
                refine ws_idiv 28 rfl rfl (kn_ne0 (by omega) (by omega)) (pk_div (by omega) (by omega) (by omega)) ?_
                refine ws_istore_2 29 rfl rfl rfl rfl ?_
                refine ws_iload_1 30 rfl rfl ?_
                refine ws_bipush 32 rfl rfl kc_b10 ?_
                refine ws_irem 33 rfl rfl (kn_ne0 (by omega) (by omega)) (pk_rem (by omega) (by omega) (by omega)) ?_
                refine ws_istore_3 34 rfl rfl rfl rfl ?_
                refine ws_iload_2 35 rfl rfl ?_
                refine ws_iconst 36 rfl rfl kc_i1 ?_
                refine ws_iconst 37 rfl rfl kc_i4 ?_
                refine ws_invS3p 40 rfl rfl rfl (pr) rfl rfl rfl ?_
                refine ws_if_eqb 51 43 rfl rfl rfl (fun h9 => ?_) (fun h9 => absurd h9 (by first | decide | simp_all))
                refine ws_bipush 53 rfl rfl kc_bm2 ?_
                refine ws_iret rfl rfl rfl (Nat.le_of_ble_eq_true rfl) ?_
                exact ⟨rfl, rfl⟩
            refine ws_iload_1 1 rfl rfl ?_
            refine ws_tswd 64 rfl rfl (by rw [nI_toInt (by omega)]; omega) ?_
            refine ws_aload_0 65 rfl rfl ?_
            refine ws_iload_1 66 rfl rfl ?_
            refine ws_invV1p 69 rfl rfl rfl rfl (ct) rfl rfl rfl ?_
            refine ws_iret rfl rfl rfl (Nat.le_of_ble_eq_true rfl) ?_
            exact cQ.sm hC
          · refine xC.mk [some (.ref 42), some (.int (nI n)), none, none, none, none] rfl ?_
            have fin : ∀ (y : Int32) (z3 z4 z5 : Option Value), xW E 20 137 73 [some (.ref 42), some (.int (nI n)), some (.int y), z3, z4, z5] [] (xS, I, L) 0 0 (mQ I s (.int (-2))) := by
              intro y z3 z4 z5
              refine r73 I L _ _ _ _ _ hR (fun z5 => ?_)
              refine ws_iload_1 161 rfl rfl ?_
              refine ws_if_nen 171 164 rfl rfl rfl (by omega) (fun h9 => ?_) (fun h9 => absurd h9 (by omega))
              refine ws_iload_1 172 rfl rfl ?_
              refine ws_iconst 173 rfl rfl kc_i1 ?_
              refine ws_icmp_nen 180 176 rfl rfl rfl (by omega) (by omega) (fun h9 => ?_) (fun h9 => absurd h9 (by omega))
              refine ws_iload_1 181 rfl rfl ?_
              refine ws_iconst 182 rfl rfl kc_i2 ?_
              refine ws_icmp_nen 192 185 rfl rfl rfl (by omega) (by omega) (fun h9 => ?_) (fun h9 => absurd h9 (by omega))
              refine ws_iload_1 193 rfl rfl ?_
              refine ws_iconst 194 rfl rfl kc_i3 ?_
              refine ws_icmp_nen 202 197 rfl rfl rfl (by omega) (by omega) (fun h9 => ?_) (fun h9 => absurd h9 (by omega))
              refine ws_bipush 204 rfl rfl kc_bm2 ?_
              refine ws_iret rfl rfl rfl (Nat.le_of_ble_eq_true rfl) ?_
              exact mQ.sm hR
            by_cases h10 : 10 ≤ n ∧ n ≤ 44
            · rw [decide_eq_true h10.1, decide_eq_true h10.2] at p3
              refine ws_iload_1 1 rfl rfl ?_
              refine ws_bipush 3 rfl rfl kc_b50 ?_
              refine ws_bipush 5 rfl rfl kc_b73 ?_
              refine ws_invS3p 8 rfl rfl rfl (p2) rfl rfl rfl ?_
              refine ws_if_eqb 21 11 rfl rfl rfl (fun h9 => ?_) (fun h9 => absurd h9 (by first | decide | simp_all))
              refine ws_iload_1 22 rfl rfl ?_
              refine ws_bipush 24 rfl rfl kc_b10 ?_
              refine ws_irem 25 rfl rfl (kn_ne0 (by omega) (by omega)) (pk_rem (by omega) (by omega) (by omega)) ?_
              refine ws_istore_2 26 rfl rfl rfl rfl ?_
              refine ws_iload_1 27 rfl rfl ?_
              refine ws_bipush 29 rfl rfl kc_b10 ?_
              refine ws_bipush 31 rfl rfl kc_b44 ?_
              refine ws_invS3p 34 rfl rfl rfl (p3) rfl rfl rfl ?_
              refine ws_if_eqb 73 37 rfl rfl rfl (fun h9 => absurd h9 (by first | decide | simp_all)) (fun h9 => ?_)
              refine ws_iload_2 38 rfl rfl ?_
              refine ws_iconst 39 rfl rfl kc_i5 ?_
              refine ws_icmp_gen 73 42 rfl rfl rfl (by omega) (by omega) (fun h9 => ?_) (fun h9 => absurd h9 (by omega))
              exact fin _ _ _ _
            · rw [show (decide (10 ≤ n) && decide (n ≤ 44)) = false by rw [← Bool.decide_and]; exact decide_eq_false h10] at p3
              refine ws_iload_1 1 rfl rfl ?_
              refine ws_bipush 3 rfl rfl kc_b50 ?_
              refine ws_bipush 5 rfl rfl kc_b73 ?_
              refine ws_invS3p 8 rfl rfl rfl (p2) rfl rfl rfl ?_
              refine ws_if_eqb 21 11 rfl rfl rfl (fun h9 => ?_) (fun h9 => absurd h9 (by first | decide | simp_all))
              refine ws_iload_1 22 rfl rfl ?_
              refine ws_bipush 24 rfl rfl kc_b10 ?_
              refine ws_irem 25 rfl rfl (kn_ne0 (by omega) (by omega)) (pk_rem (by omega) (by omega) (by omega)) ?_
              refine ws_istore_2 26 rfl rfl rfl rfl ?_
              refine ws_iload_1 27 rfl rfl ?_
              refine ws_bipush 29 rfl rfl kc_b10 ?_
              refine ws_bipush 31 rfl rfl kc_b44 ?_
              refine ws_invS3p 34 rfl rfl rfl (p3) rfl rfl rfl ?_
              refine ws_if_eqb 73 37 rfl rfl rfl (fun h9 => ?_) (fun h9 => absurd h9 (by first | decide | simp_all))
              exact fin _ _ _ _
    | false =>
      have q1 := rg_f hr
      have q2 := rg_f hr2
      rw [show rg 10 44 x = false from rg_no (by omega)] at p3
      have pr := p_between (x / nI 10) (nI 1) (nI 4) 1 4 rfl rfl
      have hrow : rg 1 4 (x / nI 10) = false := by
        rcases q2 with q | q
        · exact rg_no (Or.inl (dv_neg (by omega)))
        · obtain ⟨m, hm⟩ : ∃ m : Nat, x.toInt = (m : Int) := ⟨x.toInt.toNat, by omega⟩
          have hlt := Int32.toInt_lt x
          have hxm : x = nI m := by
            apply Int32.toInt_inj.mp
            rw [nI_toInt (by omega), hm]
          rw [hxm, pk_div (by omega) (by omega) (by omega)]
          refine rg_no (Or.inr ?_)
          rw [nI_toInt (by omega)]
          omega
      rw [hrow] at pr
      have n0 : ¬ x = 0 := fun e => by rw [e] at q2; exact absurd q2 (by decide)
      have n1 : ¬ x = nI 1 := fun e => by rw [e] at q2; exact absurd q2 (by decide)
      have n2 : ¬ x = nI 2 := fun e => by rw [e] at q2; exact absurd q2 (by decide)
      have n3 : ¬ x = nI 3 := fun e => by rw [e] at q2; exact absurd q2 (by decide)
      refine ⟨(-2), s, hs, fun I L hC => ?_, fun I L hR => ?_⟩
      · refine xC.mk [some (.ref 0), some (.int x)] rfl ?_
        have ct : xC E 2 79 [.ref 0, .int x] (xS, I, L) (rV (.int (-2)) (xS, I, L)) := by
          refine xC.mk [some (.ref 0), some (.int x), none, none] rfl ?_
          refine ws_iload_1 1 rfl rfl ?_
          refine ws_bipush 3 rfl rfl kc_b50 ?_
          refine ws_bipush 5 rfl rfl kc_b73 ?_
          refine ws_invS3p 8 rfl rfl rfl (p1) rfl rfl rfl ?_
          refine ws_if_eqb 24 11 rfl rfl rfl (fun h9 => ?_) (fun h9 => absurd h9 (by first | decide | simp_all))
          refine ws_iload_1 25 rfl rfl ?_
          refine ws_bipush 27 rfl rfl kc_b10 ?_
          refine ws_idiv 28 rfl rfl (by decide) rfl ?_
          refine ws_istore_2 29 rfl rfl rfl rfl ?_
          refine ws_iload_1 30 rfl rfl ?_
          refine ws_bipush 32 rfl rfl kc_b10 ?_
          refine ws_irem 33 rfl rfl (by decide) rfl ?_
          refine ws_istore_3 34 rfl rfl rfl rfl ?_
          refine ws_iload_2 35 rfl rfl ?_
          refine ws_iconst 36 rfl rfl kc_i1 ?_
          refine ws_iconst 37 rfl rfl kc_i4 ?_
          refine ws_invS3p 40 rfl rfl rfl (pr) rfl rfl rfl ?_
          refine ws_if_eqb 51 43 rfl rfl rfl (fun h9 => ?_) (fun h9 => absurd h9 (by first | decide | simp_all))
          refine ws_bipush 53 rfl rfl kc_bm2 ?_
          refine ws_iret rfl rfl rfl (Nat.le_of_ble_eq_true rfl) ?_
          exact ⟨rfl, rfl⟩
        refine ws_iload_1 1 rfl rfl ?_
        refine ws_tswd 64 rfl rfl (by omega) ?_
        refine ws_aload_0 65 rfl rfl ?_
        refine ws_iload_1 66 rfl rfl ?_
        refine ws_invV1p 69 rfl rfl rfl rfl (ct) rfl rfl rfl ?_
        refine ws_iret rfl rfl rfl (Nat.le_of_ble_eq_true rfl) ?_
        exact cQ.sm hC
      · refine xC.mk [some (.ref 42), some (.int x), none, none, none, none] rfl ?_
        refine ws_iload_1 1 rfl rfl ?_
        refine ws_bipush 3 rfl rfl kc_b50 ?_
        refine ws_bipush 5 rfl rfl kc_b73 ?_
        refine ws_invS3p 8 rfl rfl rfl (p2) rfl rfl rfl ?_
        refine ws_if_eqb 21 11 rfl rfl rfl (fun h9 => ?_) (fun h9 => absurd h9 (by first | decide | simp_all))
        refine ws_iload_1 22 rfl rfl ?_
        refine ws_bipush 24 rfl rfl kc_b10 ?_
        refine ws_irem 25 rfl rfl (by decide) rfl ?_
        refine ws_istore_2 26 rfl rfl rfl rfl ?_
        refine ws_iload_1 27 rfl rfl ?_
        refine ws_bipush 29 rfl rfl kc_b10 ?_
        refine ws_bipush 31 rfl rfl kc_b44 ?_
        refine ws_invS3p 34 rfl rfl rfl (p3) rfl rfl rfl ?_
        refine ws_if_eqb 73 37 rfl rfl rfl (fun h9 => ?_) (fun h9 => absurd h9 (by first | decide | simp_all))
        refine r73 I L _ _ _ _ _ hR (fun z5 => ?_)
        refine ws_iload_1 161 rfl rfl ?_
        refine ws_if_ne 171 164 rfl rfl rfl (fun h9 => ?_) (fun h9 => absurd h9 n0)
        refine ws_iload_1 172 rfl rfl ?_
        refine ws_iconst 173 rfl rfl kc_i1 ?_
        refine ws_icmp_ne 180 176 rfl rfl rfl (fun h9 => ?_) (fun h9 => absurd h9 n1)
        refine ws_iload_1 181 rfl rfl ?_
        refine ws_iconst 182 rfl rfl kc_i2 ?_
        refine ws_icmp_ne 192 185 rfl rfl rfl (fun h9 => ?_) (fun h9 => absurd h9 n2)
        refine ws_iload_1 193 rfl rfl ?_
        refine ws_iconst 194 rfl rfl kc_i3 ?_
        refine ws_icmp_ne 202 197 rfl rfl rfl (fun h9 => ?_) (fun h9 => absurd h9 n3)
        refine ws_bipush 204 rfl rfl kc_bm2 ?_
        refine ws_iret rfl rfl rfl (Nat.le_of_ble_eq_true rfl) ?_
        exact mQ.sm hR
