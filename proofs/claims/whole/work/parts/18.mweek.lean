/-! ===== the reference: draws, glances, weeks ===== -/
abbrev xS : List xSh := xC0 ++ xM0
theorem li_sub (p : Nat) : nI p - nI 1 = lI p := by
  cases p with
  | zero => decide
  | succ p => rw [lI_s]; exact nI_pred p
/-- a place that may be -6 -/
def eI (x : Nat) : Int32 := if x = 0 then -6 else nI (x - 1)
theorem eI_s (m : Nat) : eI (m + 1) = nI m := by
  unfold eI
  rw [if_neg (by omega), Nat.add_sub_cancel]
section MDRAW
variable {E : xEx} {I : Nat → Nat → Int32} {L : Nat → Nat → Int64} {A : Nat → Nat → Nat} {b w P : Nat → Nat}
theorem m_looks (x p : Nat) (hx : x = p + 1) (hTh : ∀ j, j < 15 → I 43 j = nI (A 0 j)) (hb : ∀ p, p < 5 → b p ≤ 5) (hat : ∀ p, p < 5 → I 53 p = nI (b p)) (hp : p < 6) : xC E 1 95 [.ref 42, .int (nI p)] (xS, I, L) (rV (.int (nI (if p < 5 then lo A b p else 0))) (xS, I, L)) := by
  refine xC.mk [some (.ref 42), some (.int (nI p))] rfl ?_
  rcases Nat.lt_or_ge p 5 with h5 | h5
  · have ha := hat p h5
    have hb5 := hb p h5
    rw [if_pos h5]
    by_cases hb0 : b p = 0
    · rw [show lo A b p = 0 from if_pos hb0]
      refine ws_iload_1 1 rfl rfl ?_
      refine ws_if_ltn 18 4 rfl rfl rfl (by omega) (fun h9 => absurd h9 (by omega)) (fun h9 => ?_)
      refine ws_iload_1 5 rfl rfl ?_
      refine ws_iconst 6 rfl rfl kc_i4 ?_
      refine ws_icmp_gtn 18 9 rfl rfl rfl (by omega) (by omega) (fun h9 => absurd h9 (by omega)) (fun h9 => ?_)
      refine ws_aload_0 10 rfl rfl ?_
      refine ws_getfr 13 rfl rfl rfl rfl rfl ?_
      refine ws_iload_1 14 rfl rfl ?_
      refine ws_ialdn 15 rfl rfl rfl (by omega) (by omega) ha ?_
      refine ws_if_nen 22 18 rfl rfl rfl (by omega) (fun h9 => absurd h9 (by omega)) (fun h9 => ?_)
      refine ws_iconst 19 rfl rfl kc_i0 ?_
      refine ws_goto 36 rfl rfl ?_
      refine ws_iret rfl rfl rfl (Nat.le_of_ble_eq_true rfl) ?_
      exact ⟨rfl, rfl⟩
    · rw [show lo A b p = A 0 (9 + b p) by unfold lo; rw [if_neg hb0]; congr 1; omega]
      refine ws_iload_1 1 rfl rfl ?_
      refine ws_if_ltn 18 4 rfl rfl rfl (by omega) (fun h9 => absurd h9 (by omega)) (fun h9 => ?_)
      refine ws_iload_1 5 rfl rfl ?_
      refine ws_iconst 6 rfl rfl kc_i4 ?_
      refine ws_icmp_gtn 18 9 rfl rfl rfl (by omega) (by omega) (fun h9 => absurd h9 (by omega)) (fun h9 => ?_)
      refine ws_aload_0 10 rfl rfl ?_
      refine ws_getfr 13 rfl rfl rfl rfl rfl ?_
      refine ws_iload_1 14 rfl rfl ?_
      refine ws_ialdn 15 rfl rfl rfl (by omega) (by omega) ha ?_
      refine ws_if_nen 22 18 rfl rfl rfl (by omega) (fun h9 => ?_) (fun h9 => absurd h9 (by omega))
      refine ws_aload_0 23 rfl rfl ?_
      refine ws_getfr 26 rfl rfl rfl rfl rfl ?_
      refine ws_bipush 28 rfl rfl kc_b9 ?_
      refine ws_aload_0 29 rfl rfl ?_
      refine ws_getfr 32 rfl rfl rfl rfl rfl ?_
      refine ws_iload_1 33 rfl rfl ?_
      refine ws_ialdn 34 rfl rfl rfl (by omega) (by omega) ha ?_
      refine ws_iadd 35 rfl rfl (nI_add _ _) ?_
      refine ws_ialdn 36 rfl rfl rfl (by omega) (by omega) (hTh _ (by omega)) ?_
      refine ws_iret rfl rfl rfl (Nat.le_of_ble_eq_true rfl) ?_
      exact ⟨rfl, rfl⟩
  · rw [if_neg (by omega)]
    refine ws_iload_1 1 rfl rfl ?_
    refine ws_if_ltn 18 4 rfl rfl rfl (by omega) (fun h9 => absurd h9 (by omega)) (fun h9 => ?_)
    refine ws_iload_1 5 rfl rfl ?_
    refine ws_iconst 6 rfl rfl kc_i4 ?_
    refine ws_icmp_gtn 18 9 rfl rfl rfl (by omega) (by omega) (fun h9 => ?_) (fun h9 => absurd h9 (by omega))
    refine ws_iconst 19 rfl rfl kc_i0 ?_
    refine ws_goto 36 rfl rfl ?_
    refine ws_iret rfl rfl rfl (Nat.le_of_ble_eq_true rfl) ?_
    exact ⟨rfl, rfl⟩
theorem m_looksm : xC E 1 95 [.ref 42, .int (-1)] (xS, I, L) (rV (.int (nI 0)) (xS, I, L)) := by
  refine xC.mk [some (.ref 42), some (.int (-1))] rfl ?_
  refine ws_iload_1 1 rfl rfl ?_
  refine ws_if_lt 18 4 rfl rfl rfl (fun h9 => ?_) (fun h9 => absurd h9 (by decide))
  refine ws_iconst 19 rfl rfl kc_i0 ?_
  refine ws_goto 36 rfl rfl ?_
  refine ws_iret rfl rfl rfl (Nat.le_of_ble_eq_true rfl) ?_
  exact ⟨rfl, rfl⟩
theorem m_drawsOf (p n : Nat) (hp : p < 5) (hn : n < 100) (hTh : ∀ j, j < 15 → I 43 j = nI (A 0 j)) (hLi : ∀ j, j < 5 → I 44 j = nI (A 1 j)) (h1 : ∀ j, j < 5 → A 0 j ≤ 9) (h2 : ∀ j, j < 5 → A 1 j ≤ 9) (h3 : ∀ j, j < 15 → A 0 j ≤ 99) (hb : ∀ p, p < 5 → b p ≤ 5) (hat : ∀ p, p < 5 → I 53 p = nI (b p)) : xC E 2 96 [.ref 42, .int (nI p), .int (nI n)] (xS, I, L) (rV (.int (nI (dw A b p n))) (xS, I, L)) := by
  refine xC.mk [some (.ref 42), some (.int (nI p)), some (.int (nI n)), none, none] rfl ?_
  have ha := hat p hp
  have hb5 := hb p hp
  by_cases hb0 : b p = 0
  · refine ws_aload_0 1 rfl rfl ?_
    refine ws_getfr 4 rfl rfl rfl rfl rfl ?_
    refine ws_iload_1 5 rfl rfl ?_
    refine ws_ialdn 6 rfl rfl rfl (by omega) (by omega) ha ?_
    refine ws_if_nen 11 9 rfl rfl rfl (by omega) (fun h9 => absurd h9 (by omega)) (fun h9 => ?_)
    refine ws_iconst 10 rfl rfl kc_i0 ?_
    refine ws_iret rfl rfl rfl (Nat.le_of_ble_eq_true rfl) ?_
    exact ⟨by unfold dw; rw [if_pos hb0], rfl⟩
  · have loop : ∀ m k : Nat, k + m = 5 → xW E 2 96 16 [some (.ref 42), some (.int (nI p)), some (.int (nI n)), some (.int (nI (cn b k))), some (.int (nI k))] [] (xS, I, L) 0 0 (rV (.int (nI (dw A b p n))) (xS, I, L)) := by
      intro m
      induction m with
      | succ m ih =>
        intro k hk
        have hak := hat k (by omega)
        have hbk := hb k (by omega)
        have hcn := cn_le b k
        by_cases hz : b k = 0
        · have e9 : cn b (k + 1) = cn b k + 0 := by show cn b k + (if b k = 0 then 0 else 1) = _; rw [if_pos hz]
          refine ws_iload_4 18 rfl rfl ?_
          refine ws_iconst 19 rfl rfl kc_i5 ?_
          refine ws_icmp_gen 46 22 rfl rfl rfl (by omega) (by omega) (fun h9 => absurd h9 (by omega)) (fun h9 => ?_)
          refine ws_iload_3 23 rfl rfl ?_
          refine ws_aload_0 24 rfl rfl ?_
          refine ws_getfr 27 rfl rfl rfl rfl rfl ?_
          refine ws_iload_4 29 rfl rfl ?_
          refine ws_ialdn 30 rfl rfl rfl (by omega) (by omega) hak ?_
          refine ws_if_len 37 33 rfl rfl rfl (by omega) (fun h9 => ?_) (fun h9 => absurd h9 (by omega))
          refine ws_iconst 38 rfl rfl kc_i0 ?_
          refine ws_iadd 39 rfl rfl (nI_add _ _) ?_
          refine ws_istore_3 40 rfl rfl rfl rfl ?_
          refine ws_iinc_4 43 rfl rfl (ki_1 _) rfl rfl ?_
          refine ws_goto 16 rfl rfl ?_
          rw [← e9]; exact ih (k + 1) (by omega)
        · have e9 : cn b (k + 1) = cn b k + 1 := by show cn b k + (if b k = 0 then 0 else 1) = _; rw [if_neg hz]
          refine ws_iload_4 18 rfl rfl ?_
          refine ws_iconst 19 rfl rfl kc_i5 ?_
          refine ws_icmp_gen 46 22 rfl rfl rfl (by omega) (by omega) (fun h9 => absurd h9 (by omega)) (fun h9 => ?_)
          refine ws_iload_3 23 rfl rfl ?_
          refine ws_aload_0 24 rfl rfl ?_
          refine ws_getfr 27 rfl rfl rfl rfl rfl ?_
          refine ws_iload_4 29 rfl rfl ?_
          refine ws_ialdn 30 rfl rfl rfl (by omega) (by omega) hak ?_
          refine ws_if_len 37 33 rfl rfl rfl (by omega) (fun h9 => absurd h9 (by omega)) (fun h9 => ?_)
          refine ws_iconst 34 rfl rfl kc_i1 ?_
          refine ws_goto 38 rfl rfl ?_
          refine ws_iadd 39 rfl rfl (nI_add _ _) ?_
          refine ws_istore_3 40 rfl rfl rfl rfl ?_
          refine ws_iinc_4 43 rfl rfl (ki_1 _) rfl rfl ?_
          refine ws_goto 16 rfl rfl ?_
          rw [← e9]; exact ih (k + 1) (by omega)
      | zero =>
        intro k hk
        obtain rfl : k = 5 := by omega
        have hcn := cn_le b 5
        have hTp : I 43 (b p - 1) = nI (A 0 (b p - 1)) := hTh _ (by omega)
        have hLp := hLi p hp
        have hbp := pb_le h1 h2 hp hb5
        have epb : A 0 (b p - 1) * A 1 p = pb A b p := by unfold pb; rw [if_neg hb0]
        have hlr : xC E 1 95 [.ref 42, .int (nI (p + 1))] (xS, I, L) (rV (.int (nI (if p + 1 < 5 then lo A b (p + 1) else 0))) (xS, I, L)) := m_looks _ (p + 1) rfl hTh hb hat (by omega)
        have hll : xC E 1 95 [.ref 42, .int (lI p)] (xS, I, L) (rV (.int (nI (if 1 ≤ p then lo A b (p - 1) else 0))) (xS, I, L)) := by
          cases p with
          | zero => exact m_looksm
          | succ q =>
            rw [lI_s, if_pos (by omega), Nat.add_sub_cancel]
            have := m_looks (E := E) (L := L) _ q rfl hTh hb hat (by omega)
            rwa [if_pos (by omega)] at this
        have hlo : ∀ q, q < 5 → lo A b q ≤ 99 := fun q hq => by
          have := hb q hq
          unfold lo
          split
          · omega
          · exact h3 _ (by omega)
        obtain ⟨xl, hxl⟩ : ∃ x, x = (if 1 ≤ p then lo A b (p - 1) else 0) := ⟨_, rfl⟩
        obtain ⟨xr, hxr⟩ : ∃ x, x = (if p + 1 < 5 then lo A b (p + 1) else 0) := ⟨_, rfl⟩
        rw [← hxl] at hll
        rw [← hxr] at hlr
        have hxl9 : xl ≤ 99 := by rw [hxl]; split; exact hlo _ (by omega); omega
        have hxr9 : xr ≤ 99 := by rw [hxr]; split; exact hlo _ (by omega); omega
        have epl : pl A b 5 p = pb A b p + (if xl = 2 then 10 else 0) + (if xr = 1 then 10 else 0) := by
          unfold pl
          have c1 : (p + 1 < 5 ∧ lo A b (p + 1) = 1) ↔ xr = 1 := by
            rw [hxr]
            by_cases h : p + 1 < 5
            · rw [if_pos h]; exact ⟨fun q => q.2, fun q => ⟨h, q⟩⟩
            · rw [if_neg h]; omega
          have c2 : ((1 ≤ p ∧ p - 1 < 5) ∧ lo A b (p - 1) = 2) ↔ xl = 2 := by
            rw [hxl]
            by_cases h : 1 ≤ p
            · rw [if_pos h]; exact ⟨fun q => q.2, fun q => ⟨⟨h, by omega⟩, q⟩⟩
            · rw [if_neg h]; omega
          simp only [c1, c2]
          omega
        have hpl := pl_le (k := 5) h1 h2 hp hb5
        have edz : dz A b p = max 1 (pl A b 5 p - 3 * (cn b 5 - 3)) := by unfold dz; rw [if_neg hb0]
        have edw : dw A b p n = max 1 (dz A b p / (1 + n)) := by unfold dw; rw [if_neg hb0]
        have fin : ∀ z : Nat, z = dz A b p → xW E 2 96 145 [some (.ref 42), some (.int (nI p)), some (.int (nI n)), some (.int (nI (cn b 5))), some (.int (nI z))] [] (xS, I, L) 0 0 (rV (.int (nI (dw A b p n))) (xS, I, L)) := by
          intro z hz
          have hzl := dz_le h1 h2 hp hb5
          have hq := Nat.div_le_self z (1 + n)
          refine ws_iload_4 147 rfl rfl ?_
          refine ws_iconst 148 rfl rfl kc_i1 ?_
          refine ws_iload_2 149 rfl rfl ?_
          refine ws_iadd 150 rfl rfl (nI_add _ _) ?_
          refine ws_idiv 151 rfl rfl (kn_ne0 (by omega) (by omega)) (pk_div (by omega) (by omega) (by omega)) ?_
          refine ws_istore_4 153 rfl rfl rfl rfl ?_
          refine ws_iload_4 155 rfl rfl ?_
          refine ws_iconst 156 rfl rfl kc_i1 ?_
          refine ws_icmp_gen 163 159 rfl rfl rfl (by omega) (by omega) (fun c1 => ?_) (fun c1 => ?_)
          · refine ws_iload_4 165 rfl rfl ?_
            refine ws_iret rfl rfl rfl (Nat.le_of_ble_eq_true rfl) ?_
            exact ⟨by rw [edw, ← hz, Nat.max_eq_right c1], rfl⟩
          · refine ws_iconst 160 rfl rfl kc_i1 ?_
            refine ws_goto 165 rfl rfl ?_
            refine ws_iret rfl rfl rfl (Nat.le_of_ble_eq_true rfl) ?_
            exact ⟨by rw [edw, ← hz, Nat.max_eq_left (by omega)], rfl⟩
        have mid : ∀ y : Nat, y = pl A b 5 p → xW E 2 96 112 [some (.ref 42), some (.int (nI p)), some (.int (nI n)), some (.int (nI (cn b 5))), some (.int (nI y))] [] (xS, I, L) 0 0 (rV (.int (nI (dw A b p n))) (xS, I, L)) := by
          intro y hy
          refine ws_iload_4 114 rfl rfl ?_
          refine ws_iload_3 115 rfl rfl ?_
          refine ws_iconst 116 rfl rfl kc_i3 ?_
          refine ws_icmp_len 127 119 rfl rfl rfl (by omega) (by omega) (fun c1 => ?_) (fun c1 => ?_)
          · refine ws_iconst 128 rfl rfl kc_i0 ?_
            refine ws_isub 129 rfl rfl (pk_sub (by omega)) ?_
            refine ws_istore_4 131 rfl rfl rfl rfl ?_
            refine ws_iload_4 133 rfl rfl ?_
            refine ws_iconst 134 rfl rfl kc_i1 ?_
            refine ws_icmp_gen 141 137 rfl rfl rfl (by omega) (by omega) (fun c2 => ?_) (fun c2 => ?_)
            · refine ws_iload_4 143 rfl rfl ?_
              refine ws_istore_4 145 rfl rfl rfl rfl ?_
              exact fin _ (by rw [edz, ← hy]; omega)
            · refine ws_iconst 138 rfl rfl kc_i1 ?_
              refine ws_goto 143 rfl rfl ?_
              refine ws_istore_4 145 rfl rfl rfl rfl ?_
              exact fin _ (by rw [edz, ← hy]; omega)
          · rcases Nat.lt_or_ge y (3 * (cn b 5 - 3)) with c2 | c2
            · have hneg := pk_sneg (a := y) (b := 3 * (cn b 5 - 3)) (by omega) c2
              refine ws_iconst 120 rfl rfl kc_i3 ?_
              refine ws_iload_3 121 rfl rfl ?_
              refine ws_iconst 122 rfl rfl kc_i3 ?_
              refine ws_isub 123 rfl rfl (pk_sub (by omega)) ?_
              refine ws_imul 124 rfl rfl (pk_mul _ _) ?_
              refine ws_goto 128 rfl rfl ?_
              refine ws_isub 129 rfl rfl rfl ?_
              refine ws_istore_4 131 rfl rfl rfl rfl ?_
              refine ws_iload_4 133 rfl rfl ?_
              refine ws_iconst 134 rfl rfl kc_i1 ?_
              refine ws_icmp_ge 141 137 rfl rfl rfl (fun c3 => ?_) (fun c3 => ?_)
              · exfalso
                rw [i32_lt, Int32.toInt_zero] at hneg
                rw [i32_le, nI_toInt (by omega)] at c3
                omega
              · refine ws_iconst 138 rfl rfl kc_i1 ?_
                refine ws_goto 143 rfl rfl ?_
                refine ws_istore_4 145 rfl rfl rfl rfl ?_
                exact fin _ (by rw [edz, ← hy]; omega)
            · refine ws_iconst 120 rfl rfl kc_i3 ?_
              refine ws_iload_3 121 rfl rfl ?_
              refine ws_iconst 122 rfl rfl kc_i3 ?_
              refine ws_isub 123 rfl rfl (pk_sub (by omega)) ?_
              refine ws_imul 124 rfl rfl (pk_mul _ _) ?_
              refine ws_goto 128 rfl rfl ?_
              refine ws_isub 129 rfl rfl (pk_sub (by omega)) ?_
              refine ws_istore_4 131 rfl rfl rfl rfl ?_
              refine ws_iload_4 133 rfl rfl ?_
              refine ws_iconst 134 rfl rfl kc_i1 ?_
              refine ws_icmp_gen 141 137 rfl rfl rfl (by omega) (by omega) (fun c3 => ?_) (fun c3 => ?_)
              · refine ws_iload_4 143 rfl rfl ?_
                refine ws_istore_4 145 rfl rfl rfl rfl ?_
                exact fin _ (by rw [edz, ← hy]; omega)
              · refine ws_iconst 138 rfl rfl kc_i1 ?_
                refine ws_goto 143 rfl rfl ?_
                refine ws_istore_4 145 rfl rfl rfl rfl ?_
                exact fin _ (by rw [edz, ← hy]; omega)
        refine ws_iload_4 18 rfl rfl ?_
        refine ws_iconst 19 rfl rfl kc_i5 ?_
        refine ws_icmp_gen 46 22 rfl rfl rfl (by omega) (by omega) (fun h9 => ?_) (fun h9 => absurd h9 (by omega))
        refine ws_aload_0 47 rfl rfl ?_
        refine ws_getfr 50 rfl rfl rfl rfl rfl ?_
        refine ws_aload_0 51 rfl rfl ?_
        refine ws_getfr 54 rfl rfl rfl rfl rfl ?_
        refine ws_iload_1 55 rfl rfl ?_
        refine ws_ialdn 56 rfl rfl rfl (by omega) (by omega) ha ?_
        refine ws_iconst 57 rfl rfl kc_i1 ?_
        refine ws_isub 58 rfl rfl (pk_sub (by omega)) ?_
        refine ws_ialdn 59 rfl rfl rfl (by omega) (by omega) hTp ?_
        refine ws_aload_0 60 rfl rfl ?_
        refine ws_getfr 63 rfl rfl rfl rfl rfl ?_
        refine ws_iload_1 64 rfl rfl ?_
        refine ws_ialdn 65 rfl rfl rfl (by omega) (by omega) hLp ?_
        refine ws_imul 66 rfl rfl (pk_mul _ _) ?_
        rw [epb]
        refine ws_istore_4 68 rfl rfl rfl rfl ?_
        refine ws_iload_4 70 rfl rfl ?_
        refine ws_aload_0 71 rfl rfl ?_
        refine ws_iload_1 72 rfl rfl ?_
        refine ws_iconst 73 rfl rfl kc_i1 ?_
        refine ws_isub 74 rfl rfl (li_sub _) ?_
        refine ws_invV1p 77 rfl rfl rfl rfl (hll) rfl rfl rfl ?_
        refine ws_iconst 78 rfl rfl kc_i2 ?_
        refine ws_icmp_nen 86 81 rfl rfl rfl (by omega) (by omega) (fun d1 => ?_) (fun d1 => ?_)
        · refine ws_iconst 87 rfl rfl kc_i0 ?_
          refine ws_iadd 88 rfl rfl (nI_add _ _) ?_
          refine ws_istore_4 90 rfl rfl rfl rfl ?_
          refine ws_iload_4 92 rfl rfl ?_
          refine ws_aload_0 93 rfl rfl ?_
          refine ws_iload_1 94 rfl rfl ?_
          refine ws_iconst 95 rfl rfl kc_i1 ?_
          refine ws_iadd 96 rfl rfl (nI_add _ _) ?_
          refine ws_invV1p 99 rfl rfl rfl rfl (hlr) rfl rfl rfl ?_
          refine ws_iconst 100 rfl rfl kc_i1 ?_
          refine ws_icmp_nen 108 103 rfl rfl rfl (by omega) (by omega) (fun d2 => ?_) (fun d2 => ?_)
          · refine ws_iconst 109 rfl rfl kc_i0 ?_
            refine ws_iadd 110 rfl rfl (nI_add _ _) ?_
            refine ws_istore_4 112 rfl rfl rfl rfl ?_
            exact mid _ (by rw [epl, if_neg d1, if_neg d2])
          · refine ws_bipush 105 rfl rfl kc_b10 ?_
            refine ws_goto 109 rfl rfl ?_
            refine ws_iadd 110 rfl rfl (nI_add _ _) ?_
            refine ws_istore_4 112 rfl rfl rfl rfl ?_
            exact mid _ (by rw [epl, if_neg d1, if_pos d2])
        · refine ws_bipush 83 rfl rfl kc_b10 ?_
          refine ws_goto 87 rfl rfl ?_
          refine ws_iadd 88 rfl rfl (nI_add _ _) ?_
          refine ws_istore_4 90 rfl rfl rfl rfl ?_
          refine ws_iload_4 92 rfl rfl ?_
          refine ws_aload_0 93 rfl rfl ?_
          refine ws_iload_1 94 rfl rfl ?_
          refine ws_iconst 95 rfl rfl kc_i1 ?_
          refine ws_iadd 96 rfl rfl (nI_add _ _) ?_
          refine ws_invV1p 99 rfl rfl rfl rfl (hlr) rfl rfl rfl ?_
          refine ws_iconst 100 rfl rfl kc_i1 ?_
          refine ws_icmp_nen 108 103 rfl rfl rfl (by omega) (by omega) (fun d2 => ?_) (fun d2 => ?_)
          · refine ws_iconst 109 rfl rfl kc_i0 ?_
            refine ws_iadd 110 rfl rfl (nI_add _ _) ?_
            refine ws_istore_4 112 rfl rfl rfl rfl ?_
            exact mid _ (by rw [epl, if_pos d1, if_neg d2])
          · refine ws_bipush 105 rfl rfl kc_b10 ?_
            refine ws_goto 109 rfl rfl ?_
            refine ws_iadd 110 rfl rfl (nI_add _ _) ?_
            refine ws_istore_4 112 rfl rfl rfl rfl ?_
            exact mid _ (by rw [epl, if_pos d1, if_pos d2])
    refine ws_aload_0 1 rfl rfl ?_
    refine ws_getfr 4 rfl rfl rfl rfl rfl ?_
    refine ws_iload_1 5 rfl rfl ?_
    refine ws_ialdn 6 rfl rfl rfl (by omega) (by omega) ha ?_
    refine ws_if_nen 11 9 rfl rfl rfl (by omega) (fun h9 => ?_) (fun h9 => absurd h9 (by omega))
    refine ws_iconst 12 rfl rfl kc_i0 ?_
    refine ws_istore_3 13 rfl rfl rfl rfl ?_
    refine ws_iconst 14 rfl rfl kc_i0 ?_
    refine ws_istore_4 16 rfl rfl rfl rfl ?_
    exact loop 5 0 rfl
theorem m_lookAtWindow (hst : ∀ p, p < 5 → I 46 p = nI (b p)) : xC E 1 97 [.ref 42] (xS, I, L) (fun r t => r = none ∧ ∃ I', t = (xS, I', L) ∧ (∀ a, a ≠ 53 → I' a = I a) ∧ ∀ p, p < 5 → I' 53 p = nI (b p)) := by
  refine xC.mk [some (.ref 42), none] rfl ?_
  refine ws_iconst 1 rfl rfl kc_i0 ?_
  refine ws_istore_1 2 rfl rfl rfl rfl ?_
  have loop : ∀ (m k : Nat) (I' : Nat → Nat → Int32), k + m = 5 → (∀ a, a ≠ 53 → I' a = I a) → (∀ p, p < k → I' 53 p = nI (b p)) → xW E 1 97 2 [some (.ref 42), some (.int (nI k))] [] (xS, I', L) 0 0 (fun r t => r = none ∧ ∃ I', t = (xS, I', L) ∧ (∀ a, a ≠ 53 → I' a = I a) ∧ ∀ p, p < 5 → I' 53 p = nI (b p)) := by
    intro m
    induction m with
    | zero =>
      intro k I' hk hf hp
      obtain rfl : k = 5 := by omega
      refine ws_iload_1 3 rfl rfl ?_
      refine ws_iconst 4 rfl rfl kc_i5 ?_
      refine ws_icmp_gen 25 7 rfl rfl rfl (by omega) (by omega) (fun h9 => ?_) (fun h9 => absurd h9 (by omega))
      refine ws_vret rfl rfl rfl (Nat.le_of_ble_eq_true rfl) ?_
      exact ⟨rfl, I', rfl, hf, hp⟩
    | succ m ih =>
      intro k I' hk hf hp
      have e : I' 46 k = nI (b k) := by rw [hf 46 (by decide)]; exact hst k (by omega)
      refine ws_iload_1 3 rfl rfl ?_
      refine ws_iconst 4 rfl rfl kc_i5 ?_
      refine ws_icmp_gen 25 7 rfl rfl rfl (by omega) (by omega) (fun h9 => absurd h9 (by omega)) (fun h9 => ?_)
      refine ws_aload_0 8 rfl rfl ?_
      refine ws_getfr 11 rfl rfl rfl rfl rfl ?_
      refine ws_iload_1 12 rfl rfl ?_
      refine ws_aload_0 13 rfl rfl ?_
      refine ws_getfr 16 rfl rfl rfl rfl rfl ?_
      refine ws_iload_1 17 rfl rfl ?_
      refine ws_ialdn 18 rfl rfl rfl (by omega) (by omega) e ?_
      refine ws_iastn 19 rfl rfl rfl (by omega) (by omega) ?_
      refine ws_iinc_1 22 rfl rfl (ki_1 _) rfl rfl ?_
      refine ws_goto 2 rfl rfl ?_
      exact ih (k + 1) _ (by omega) (fun a ha => by rw [wI_ne ha]; exact hf a ha) (fl hp rfl)
  exact loop 5 0 I rfl (fun _ _ => rfl) (fun _ h => by omega)
theorem m_mayFall (p s : Nat) (hp : p < 5) (hs : s < 32) (hb : ∀ p, p < 5 → b p ≤ 5) (hat : ∀ p, p < 5 → I 53 p = nI (b p)) : xC E 1 106 [.ref 42, .int (nI p), .int (nI s)] (xS, I, L) (rV (.int (xb (mf b s p))) (xS, I, L)) := by
  refine xC.mk [some (.ref 42), some (.int (nI p)), some (.int (nI s))] rfl ?_
  have ha := hat p hp
  have hb5 := hb p hp
  by_cases hb0 : b p = 0
  · refine ws_aload_0 1 rfl rfl ?_
    refine ws_getfr 4 rfl rfl rfl rfl rfl ?_
    refine ws_iload_1 5 rfl rfl ?_
    refine ws_ialdn 6 rfl rfl rfl (by omega) (by omega) ha ?_
    refine ws_if_len 28 9 rfl rfl rfl (by omega) (fun h9 => ?_) (fun h9 => absurd h9 (by omega))
    refine ws_iconst 29 rfl rfl kc_i0 ?_
    refine ws_zret rfl rfl (by first | exact xb_01 _ | decide) rfl (Nat.le_of_ble_eq_true rfl) ?_
    exact ⟨by simp [mf, hb0, xb], rfl⟩
  · have e : s / 2 ^ (b p - 1) &&& 1 = s / 2 ^ (b p - 1) % 2 := Nat.and_one_is_mod _
    refine ws_aload_0 1 rfl rfl ?_
    refine ws_getfr 4 rfl rfl rfl rfl rfl ?_
    refine ws_iload_1 5 rfl rfl ?_
    refine ws_ialdn 6 rfl rfl rfl (by omega) (by omega) ha ?_
    refine ws_if_len 28 9 rfl rfl rfl (by omega) (fun h9 => absurd h9 (by omega)) (fun h9 => ?_)
    refine ws_iload_2 10 rfl rfl ?_
    refine ws_aload_0 11 rfl rfl ?_
    refine ws_getfr 14 rfl rfl rfl rfl rfl ?_
    refine ws_iload_1 15 rfl rfl ?_
    refine ws_ialdn 16 rfl rfl rfl (by omega) (by omega) ha ?_
    refine ws_iconst 17 rfl rfl kc_i1 ?_
    refine ws_isub 18 rfl rfl (pk_sub (by omega)) ?_
    refine ws_ishr 19 rfl rfl (kn_shr (by omega) (by omega)) ?_
    refine ws_iconst 20 rfl rfl kc_i1 ?_
    refine ws_iand 21 rfl rfl (kn_and _ _) ?_
    rw [e]
    refine ws_if_nen 28 24 rfl rfl rfl (by omega) (fun c1 => ?_) (fun c1 => ?_)
    · refine ws_iconst 29 rfl rfl kc_i0 ?_
      refine ws_zret rfl rfl (by first | exact xb_01 _ | decide) rfl (Nat.le_of_ble_eq_true rfl) ?_
      exact ⟨by simp [mf, hb0, xb, c1], rfl⟩
    · refine ws_iconst 25 rfl rfl kc_i1 ?_
      refine ws_goto 29 rfl rfl ?_
      refine ws_zret rfl rfl (by first | exact xb_01 _ | decide) rfl (Nat.le_of_ble_eq_true rfl) ?_
      exact ⟨by simp [mf, hb0, xb, c1], rfl⟩
theorem m_glance (f n to : Nat) (hn : 1 ≤ n) (hfn : f + n ≤ 5) (hto : min 4 to + 1 = f + n) (hto2 : to < 100) (hb : ∀ p, p < 5 → b p ≤ 5) (hw : ∀ p, p < 5 → w p ≤ 101) (hw1 : ∀ p, p < 5 → ¬ b p = 0 → 1 ≤ w p) (hP : ∀ u, u < 32 → P u ≤ 1000000) (hat : ∀ p, p < 5 → I 53 p = nI (b p)) (h54 : ∀ p, p < 5 → I 54 p = nI (w p)) (h56 : ∀ u, u < 32 → I 56 u = nI (P u)) :
    xC E 2 107 [.ref 42, .int (nI f), .int (nI to)] (xS, I, L) (fun r t => r = none ∧ ∃ I', t = (xS, I', L) ∧ (∀ a, a ≠ 56 → a ≠ 57 → I' a = I a) ∧ ∀ u, u < 32 → I' 56 u = nI (gla b w f n P u)) := by
  refine xC.mk [some (.ref 42), some (.int (nI f)), some (.int (nI to)), none, none, none, none, none, none, none] rfl ?_
  have hbm : ∀ s p, mf b s p = true → ¬ b p = 0 := fun s p hm => by unfold mf at hm; simp at hm; exact hm.1
  -- the parts copied back
  have copy : ∀ (m k : Nat) (I' : Nat → Nat → Int32) (z5 z6 z7 z8 z9 : Option Value), k + m = 32 → (∀ a, a ≠ 56 → a ≠ 57 → I' a = I a) → (∀ u, u < 32 → I' 57 u = nI (gla b w f n P u)) → (∀ u, u < k → I' 56 u = nI (gla b w f n P u)) → xW E 2 107 247 [some (.ref 42), some (.int (nI f)), some (.int (nI to)), some (.int (nI (min 4 to))), some (.int (nI k)), z5, z6, z7, z8, z9] [] (xS, I', L) 0 0 (fun r t => r = none ∧ ∃ I', t = (xS, I', L) ∧ (∀ a, a ≠ 56 → a ≠ 57 → I' a = I a) ∧ ∀ u, u < 32 → I' 56 u = nI (gla b w f n P u)) := by
    intro m
    induction m with
    | zero =>
      intro k I' z5 z6 z7 z8 z9 hk hf h57 h56
      obtain rfl : k = 32 := by omega
      refine ws_iload_4 249 rfl rfl ?_
      refine ws_bipush 251 rfl rfl kc_b32 ?_
      refine ws_icmp_gen 274 254 rfl rfl rfl (by omega) (by omega) (fun h9 => ?_) (fun h9 => absurd h9 (by omega))
      refine ws_vret rfl rfl rfl (Nat.le_of_ble_eq_true rfl) ?_
      exact ⟨rfl, I', rfl, hf, h56⟩
    | succ m ih =>
      intro k I' z5 z6 z7 z8 z9 hk hf h57 h56
      refine ws_iload_4 249 rfl rfl ?_
      refine ws_bipush 251 rfl rfl kc_b32 ?_
      refine ws_icmp_gen 274 254 rfl rfl rfl (by omega) (by omega) (fun h9 => absurd h9 (by omega)) (fun h9 => ?_)
      refine ws_aload_0 255 rfl rfl ?_
      refine ws_getfr 258 rfl rfl rfl rfl rfl ?_
      refine ws_iload_4 260 rfl rfl ?_
      refine ws_aload_0 261 rfl rfl ?_
      refine ws_getfr 264 rfl rfl rfl rfl rfl ?_
      refine ws_iload_4 266 rfl rfl ?_
      refine ws_ialdn 267 rfl rfl rfl (by omega) (by omega) (h57 k (by omega)) ?_
      refine ws_iastn 268 rfl rfl rfl (by omega) (by omega) ?_
      refine ws_iinc_4 271 rfl rfl (ki_1 _) rfl rfl ?_
      refine ws_goto 247 rfl rfl ?_
      exact ih (k + 1) _ _ _ _ _ _ (by omega) (fun a ha ha2 => by rw [wI_ne ha]; exact hf a ha ha2) h57 (fl h56 rfl)
  -- the sets
  have sets : ∀ (m s : Nat) (I' : Nat → Nat → Int32) (z5 z6 z7 z8 z9 : Option Value), s + m = 32 → (∀ a, a ≠ 57 → I' a = I a) → (∀ u, u < 32 → I' 57 u = nI (sg (fun s => ctf b w s f n (P s) u) 0 s)) → xW E 2 107 38 [some (.ref 42), some (.int (nI f)), some (.int (nI to)), some (.int (nI (min 4 to))), some (.int (nI s)), z5, z6, z7, z8, z9] [] (xS, I', L) 0 0 (fun r t => r = none ∧ ∃ I', t = (xS, I', L) ∧ (∀ a, a ≠ 56 → a ≠ 57 → I' a = I a) ∧ ∀ u, u < 32 → I' 56 u = nI (gla b w f n P u)) := by
    intro m
    induction m with
    | zero =>
      intro s I' z5 z6 z7 z8 z9 hs hf h57
      obtain rfl : s = 32 := by omega
      refine ws_iload_4 40 rfl rfl ?_
      refine ws_bipush 42 rfl rfl kc_b32 ?_
      refine ws_icmp_gen 244 45 rfl rfl rfl (by omega) (by omega) (fun h9 => ?_) (fun h9 => absurd h9 (by omega))
      refine ws_iconst 245 rfl rfl kc_i0 ?_
      refine ws_istore_4 247 rfl rfl rfl rfl ?_
      exact copy 32 0 I' _ _ _ _ _ rfl (fun a _ ha => hf a ha) h57 (fun _ h => by omega)
    | succ m ih =>
      intro s I' z5 z6 z7 z8 z9 hs hf h57
      have hs32 : s < 32 := by omega
      have hat' : ∀ (I2 : Nat → Nat → Int32), (∀ a, a ≠ 57 → I2 a = I a) → ∀ p, p < 5 → I2 53 p = nI (b p) := fun I2 h p hp => by rw [h 53 (by decide)]; exact hat p hp
      have h56' : ∀ (I2 : Nat → Nat → Int32), (∀ a, a ≠ 57 → I2 a = I a) → I2 56 s = nI (P s) := fun I2 h => by rw [h 56 (by decide)]; exact h56 s hs32
      have h54' : ∀ (I2 : Nat → Nat → Int32), (∀ a, a ≠ 57 → I2 a = I a) → ∀ p, p < 5 → I2 54 p = nI (w p) := fun I2 h p hp => by rw [h 54 (by decide)]; exact h54 p hp
      have hPs := hP s hs32
      have es : ∀ u, sg (fun s => ctf b w s f n (P s) u) 0 (s + 1) = sg (fun s => ctf b w s f n (P s) u) 0 s + ctf b w s f n (P s) u := fun u => by
        show _ + (fun s => ctf b w s f n (P s) u) (0 + s) = _
        rw [Nat.zero_add]
      have hall : ∀ k, k ≤ n → smf b w s f k ≤ 101 * k := by
        intro k
        induction k with
        | zero => intro _; exact Nat.le_refl 0
        | succ k ih =>
          intro hk
          have h1 := ih (by omega)
          have h2 := hw (f + k) (by omega)
          rw [smf_s]
          cases mf b s (f + k) with
          | true => show _ + w (f + k) ≤ _; omega
          | false => show _ + 0 ≤ _; omega
      have hsp : 0 < laf b s f n → 0 < smf b w s f n := fun h0 => by
        obtain ⟨i, i1, i2, i3⟩ := laf_mf h0
        have h1 : smf b w s f (i + 1) = smf b w s f i + w (f + i) := by rw [smf_s, i3]; rfl
        have h2 := hw1 (f + i) (by omega) (hbm _ _ i3)
        have h3 : smf b w s f (i + 1) ≤ smf b w s f n := smf_mono (by omega)
        omega
      -- what goes over
      have over : ∀ (m k : Nat) (I2 : Nat → Nat → Int32) (z9 : Option Value), k + m = n → (∀ a, a ≠ 57 → I2 a = I a) → (∀ u, u < 32 → I2 57 u = nI (sg (fun s => ctf b w s f n (P s) u) 0 s + csf b w s f n (P s) k u)) → xW E 2 107 136 [some (.ref 42), some (.int (nI f)), some (.int (nI to)), some (.int (nI (min 4 to))), some (.int (nI s)), some (.int (nI (smf b w s f n))), some (.int (eI (laf b s f n))), some (.int (nI (lff b w s f n (P s) k))), some (.int (nI (f + k))), z9] [] (xS, I2, L) 0 0 (fun r t => r = none ∧ ∃ I', t = (xS, I', L) ∧ (∀ a, a ≠ 56 → a ≠ 57 → I' a = I a) ∧ ∀ u, u < 32 → I' 56 u = nI (gla b w f n P u)) := by
        intro m
        induction m with
        | zero =>
          intro k I2 z9 hk hf2 h57'
          obtain rfl : k = n := by omega
          refine ws_iload_8 138 rfl rfl ?_
          refine ws_iload_3 139 rfl rfl ?_
          refine ws_icmp_gtn 226 142 rfl rfl rfl (by omega) (by omega) (fun h9 => ?_) (fun h9 => absurd h9 (by omega))
          refine ws_aload_0 227 rfl rfl ?_
          refine ws_getfr 230 rfl rfl rfl rfl rfl ?_
          refine ws_iload_4 232 rfl rfl ?_
          refine ws_dup2 233 rfl rfl rfl rfl ?_
          refine ws_ialdn 234 rfl rfl rfl (by omega) (by omega) (h57' s hs32) ?_
          refine ws_iload_7 236 rfl rfl ?_
          refine ws_iadd 237 rfl rfl (nI_add _ _) ?_
          refine ws_iastn 238 rfl rfl rfl (by omega) (by omega) ?_
          refine ws_iinc_4 241 rfl rfl (ki_1 _) rfl rfl ?_
          refine ws_goto 38 rfl rfl ?_
          refine ih (s + 1) _ _ _ _ _ _ (by omega) (fun a ha => by rw [wI_ne ha]; exact hf2 a ha) (fun u hu => ?_)
          show upd (I2 57) s _ u = _
          rw [es, show ctf b w s f k (P s) u = csf b w s f k (P s) k u + (if u = s then lff b w s f k (P s) k else 0) from rfl]
          by_cases e : u = s
          · rw [if_pos e, e, pk_us, Nat.add_assoc]
          · rw [if_neg e, pk_un e, h57' u hu, Nat.add_zero]
        | succ m ih2 =>
          intro k I2 z9 hk hf2 h57'
          have hk5 : f + k < 5 := by omega
          have hmay := m_mayFall (E := E) (L := L) (f + k) s hk5 hs32 hb (hat' I2 hf2)
          cases hm : mf b s (f + k) with
          | false =>
            rw [hm] at hmay
            refine ws_iload_8 138 rfl rfl ?_
            refine ws_iload_3 139 rfl rfl ?_
            refine ws_icmp_gtn 226 142 rfl rfl rfl (by omega) (by omega) (fun h9 => absurd h9 (by omega)) (fun h9 => ?_)
            refine ws_aload_0 143 rfl rfl ?_
            refine ws_iload_8 145 rfl rfl ?_
            refine ws_iload_4 147 rfl rfl ?_
            refine ws_invV2p 150 rfl rfl rfl rfl (hmay) rfl rfl rfl ?_
            refine ws_if_eqb 220 153 rfl rfl rfl (fun h9 => ?_) (fun h9 => absurd h9 (by first | decide | simp_all))
            refine ws_iinc_8 223 rfl rfl (ki_1 _) rfl rfl ?_
            refine ws_goto 136 rfl rfl ?_
            rw [← lff_n (w := w) (n := n) (v := P s) hm]; exact ih2 (k + 1) I2 _ (by omega) hf2 (fun u hu => by rw [csf_n hm]; exact h57' u hu)
          | true =>
            rw [hm] at hmay
            have hge := laf_ge hm (show k < n by omega)
            have hsp' := hsp (by omega)
            have hle := qf_le b w s f n (P s) k (by omega) hm (by omega) hsp'
            have hb9 := hb (f + k) hk5
            have hw9 := hw (f + k) hk5
            have hsm := hall n (Nat.le_refl n)
            have hb1 := hbm _ _ hm
            have ho := or_lt32 s hs32 (b (f + k) - 1) (by omega)
            obtain ⟨w1, w2⟩ := pw5 (b (f + k) - 1) (by omega)
            have hpo := h57' _ ho
            have hat2 := hat' I2 hf2 (f + k) hk5
            have h56s := h56' I2 hf2
            have h54s := h54' I2 hf2 (f + k) hk5
            have hmul : P s * w (f + k) ≤ 1000000 * 101 := Nat.mul_le_mul hPs hw9
            have fin : ∀ (o : Nat), o = owf b w s f n (P s) k → xW E 2 107 187 [some (.ref 42), some (.int (nI f)), some (.int (nI to)), some (.int (nI (min 4 to))), some (.int (nI s)), some (.int (nI (smf b w s f n))), some (.int (eI (laf b s f n))), some (.int (nI (lff b w s f n (P s) k))), some (.int (nI (f + k))), z9] [.int (nI o)] (xS, I2, L) 0 0 (fun r t => r = none ∧ ∃ I', t = (xS, I', L) ∧ (∀ a, a ≠ 56 → a ≠ 57 → I' a = I a) ∧ ∀ u, u < 32 → I' 56 u = nI (gla b w f n P u)) := by
              intro o ho2
              rw [← ho2] at hle
              have e1 : 1 * 2 ^ (b (f + k) - 1) = 2 ^ (b (f + k) - 1) := Nat.one_mul _
              refine ws_istore_9 189 rfl rfl rfl rfl ?_
              refine ws_aload_0 190 rfl rfl ?_
              refine ws_getfr 193 rfl rfl rfl rfl rfl ?_
              refine ws_iload_4 195 rfl rfl ?_
              refine ws_iconst 196 rfl rfl kc_i1 ?_
              refine ws_aload_0 197 rfl rfl ?_
              refine ws_getfr 200 rfl rfl rfl rfl rfl ?_
              refine ws_iload_8 202 rfl rfl ?_
              refine ws_ialdn 203 rfl rfl rfl (by omega) (by omega) hat2 ?_
              refine ws_iconst 204 rfl rfl kc_i1 ?_
              refine ws_isub 205 rfl rfl (pk_sub (by omega)) ?_
              refine ws_ishl 206 rfl rfl (by rw [kn_shl (by omega) (by omega), e1]) ?_
              refine ws_ior 207 rfl rfl (kn_or _ _) ?_
              refine ws_dup2 208 rfl rfl rfl rfl ?_
              refine ws_ialdn 209 rfl rfl rfl (by omega) (by omega) hpo ?_
              refine ws_iload_9 211 rfl rfl ?_
              refine ws_iadd 212 rfl rfl (nI_add _ _) ?_
              refine ws_iastn 213 rfl rfl rfl (by omega) (by omega) ?_
              refine ws_iload_7 215 rfl rfl ?_
              refine ws_iload_9 217 rfl rfl ?_
              refine ws_isub 218 rfl rfl (pk_sub (by omega)) ?_
              refine ws_istore_7 220 rfl rfl rfl rfl ?_
              refine ws_iinc_8 223 rfl rfl (ki_1 _) rfl rfl ?_
              refine ws_goto 136 rfl rfl ?_
              rw [ho2, ← lff_s (w := w) (n := n) (v := P s) hm]; refine ih2 (k + 1) _ _ (by omega) (fun a ha => by rw [wI_ne ha]; exact hf2 a ha) (fun u hu => ?_)
              show upd (I2 57) _ _ u = _
              rw [csf_s hm]
              by_cases e : u = s ||| 2 ^ (b (f + k) - 1)
              · rw [if_pos e, e, pk_us, Nat.add_assoc]
              · rw [if_neg e, pk_un e, h57' u hu, Nat.add_zero]
            rcases Nat.lt_or_ge (f + k + 1) (laf b s f n) with hl | hl
            · have e6 : P s * w (f + k) / smf b w s f n = owf b w s f n (P s) k := by unfold owf qf; rw [if_neg (by omega)]
              have e7 : eI (laf b s f n) = nI (laf b s f n - 1) := by unfold eI; rw [if_neg (by omega)]
              have hln := laf_le b s f n
              have hne : ¬ nI (f + k) = eI (laf b s f n) := by rw [e7, kn_eq (by omega) (by omega)]; omega
              refine ws_iload_8 138 rfl rfl ?_
              refine ws_iload_3 139 rfl rfl ?_
              refine ws_icmp_gtn 226 142 rfl rfl rfl (by omega) (by omega) (fun h9 => absurd h9 (by omega)) (fun h9 => ?_)
              refine ws_aload_0 143 rfl rfl ?_
              refine ws_iload_8 145 rfl rfl ?_
              refine ws_iload_4 147 rfl rfl ?_
              refine ws_invV2p 150 rfl rfl rfl rfl (hmay) rfl rfl rfl ?_
              refine ws_if_eqb 220 153 rfl rfl rfl (fun h9 => absurd h9 (by first | decide | simp_all)) (fun h9 => ?_)
              refine ws_iload_8 155 rfl rfl ?_
              refine ws_iload_6 157 rfl rfl ?_
              refine ws_icmp_ne 165 160 rfl rfl rfl (fun h9 => ?_) (fun h9 => absurd h9 hne)
              refine ws_aload_0 166 rfl rfl ?_
              refine ws_getfr 169 rfl rfl rfl rfl rfl ?_
              refine ws_iload_4 171 rfl rfl ?_
              refine ws_ialdn 172 rfl rfl rfl (by omega) (by omega) h56s ?_
              refine ws_i2l 173 rfl rfl (nI_l (by omega)) ?_
              refine ws_aload_0 174 rfl rfl ?_
              refine ws_getfr 177 rfl rfl rfl rfl rfl ?_
              refine ws_iload_8 179 rfl rfl ?_
              refine ws_ialdn 180 rfl rfl rfl (by omega) (by omega) h54s ?_
              refine ws_i2l 181 rfl rfl (nI_l (by omega)) ?_
              refine ws_lmul 182 rfl rfl (lN_mul _ _) ?_
              refine ws_iload_5 184 rfl rfl ?_
              refine ws_i2l 185 rfl rfl (nI_l (by omega)) ?_
              refine ws_ldiv 186 rfl rfl (kn_lne0 (by omega) (by omega)) (pk_lDiv (by omega) (by omega) (by omega)) ?_
              refine ws_l2i 187 rfl rfl (lN_i _) ?_
              exact fin _ e6
            · have e7 : eI (laf b s f n) = nI (f + k) := by rw [show laf b s f n = f + k + 1 by omega]; exact eI_s _
              have e6 : lff b w s f n (P s) k = owf b w s f n (P s) k := by unfold owf; rw [if_pos (by omega)]
              refine ws_iload_8 138 rfl rfl ?_
              refine ws_iload_3 139 rfl rfl ?_
              refine ws_icmp_gtn 226 142 rfl rfl rfl (by omega) (by omega) (fun h9 => absurd h9 (by omega)) (fun h9 => ?_)
              refine ws_aload_0 143 rfl rfl ?_
              refine ws_iload_8 145 rfl rfl ?_
              refine ws_iload_4 147 rfl rfl ?_
              refine ws_invV2p 150 rfl rfl rfl rfl (hmay) rfl rfl rfl ?_
              refine ws_if_eqb 220 153 rfl rfl rfl (fun h9 => absurd h9 (by first | decide | simp_all)) (fun h9 => ?_)
              refine ws_iload_8 155 rfl rfl ?_
              refine ws_iload_6 157 rfl rfl ?_
              refine ws_icmp_ne 165 160 rfl rfl rfl (fun h9 => absurd h9 (not_not_intro e7.symm)) (fun h9 => ?_)
              refine ws_iload_7 162 rfl rfl ?_
              refine ws_goto 187 rfl rfl ?_
              exact fin _ e6
      -- what may be
      have first : ∀ (m k : Nat) (z8 z9 : Option Value), k + m = n → xW E 2 107 65 [some (.ref 42), some (.int (nI f)), some (.int (nI to)), some (.int (nI (min 4 to))), some (.int (nI s)), some (.int (nI (smf b w s f k))), some (.int (eI (laf b s f k))), some (.int (nI (f + k))), z8, z9] [] (xS, I', L) 0 0 (fun r t => r = none ∧ ∃ I', t = (xS, I', L) ∧ (∀ a, a ≠ 56 → a ≠ 57 → I' a = I a) ∧ ∀ u, u < 32 → I' 56 u = nI (gla b w f n P u)) := by
        intro m
        induction m with
        | zero =>
          intro k z8 z9 hk
          obtain rfl : k = n := by omega
          refine ws_iload_7 67 rfl rfl ?_
          refine ws_iload_3 68 rfl rfl ?_
          refine ws_icmp_gtn 124 71 rfl rfl rfl (by omega) (by omega) (fun h9 => ?_) (fun h9 => absurd h9 (by omega))
          refine ws_aload_0 125 rfl rfl ?_
          refine ws_getfr 128 rfl rfl rfl rfl rfl ?_
          refine ws_iload_4 130 rfl rfl ?_
          refine ws_ialdn 131 rfl rfl rfl (by omega) (by omega) (h56' I' hf) ?_
          refine ws_istore_7 133 rfl rfl rfl rfl ?_
          refine ws_iload_1 134 rfl rfl ?_
          refine ws_istore_8 136 rfl rfl rfl rfl ?_
          exact over k 0 I' _ (by omega) hf (fun u hu => by rw [h57 u hu]; rfl)
        | succ m ih2 =>
          intro k z8 z9 hk
          have hk5 : f + k < 5 := by omega
          have hmay := m_mayFall (E := E) (L := L) (f + k) s hk5 hs32 hb (hat' I' hf)
          have h54s := h54' I' hf (f + k) hk5
          have hsm := hall k (by omega)
          have hw9 := hw (f + k) hk5
          cases hm : mf b s (f + k) with
          | false =>
            rw [hm] at hmay
            have e1 : smf b w s f (k + 1) = smf b w s f k + 0 := by rw [smf_s, hm]; rfl
            have e2 : laf b s f (k + 1) = laf b s f k := by show (bif mf b s (f + k) then _ else _) = _; rw [hm]; rfl
            refine ws_iload_7 67 rfl rfl ?_
            refine ws_iload_3 68 rfl rfl ?_
            refine ws_icmp_gtn 124 71 rfl rfl rfl (by omega) (by omega) (fun h9 => absurd h9 (by omega)) (fun h9 => ?_)
            refine ws_iload_5 73 rfl rfl ?_
            refine ws_aload_0 74 rfl rfl ?_
            refine ws_iload_7 76 rfl rfl ?_
            refine ws_iload_4 78 rfl rfl ?_
            refine ws_invV2p 81 rfl rfl rfl rfl (hmay) rfl rfl rfl ?_
            refine ws_if_eqb 94 84 rfl rfl rfl (fun h9 => ?_) (fun h9 => absurd h9 (by first | decide | simp_all))
            refine ws_iconst 95 rfl rfl kc_i0 ?_
            refine ws_iadd 96 rfl rfl (nI_add _ _) ?_
            refine ws_istore_5 98 rfl rfl rfl rfl ?_
            refine ws_aload_0 99 rfl rfl ?_
            refine ws_iload_7 101 rfl rfl ?_
            refine ws_iload_4 103 rfl rfl ?_
            refine ws_invV2p 106 rfl rfl rfl rfl (hmay) rfl rfl rfl ?_
            refine ws_if_eqb 114 109 rfl rfl rfl (fun h9 => ?_) (fun h9 => absurd h9 (by first | decide | simp_all))
            refine ws_iload_6 116 rfl rfl ?_
            refine ws_istore_6 118 rfl rfl rfl rfl ?_
            refine ws_iinc_7 121 rfl rfl (ki_1 _) rfl rfl ?_
            refine ws_goto 65 rfl rfl ?_
            rw [← e1, ← e2]; exact ih2 (k + 1) _ _ (by omega)
          | true =>
            rw [hm] at hmay
            have e1 : smf b w s f (k + 1) = smf b w s f k + w (f + k) := by rw [smf_s, hm]; rfl
            have e2 : eI (laf b s f (k + 1)) = nI (f + k) := by rw [show laf b s f (k + 1) = f + k + 1 by show (bif mf b s (f + k) then _ else _) = _; rw [hm]; rfl]; exact eI_s _
            refine ws_iload_7 67 rfl rfl ?_
            refine ws_iload_3 68 rfl rfl ?_
            refine ws_icmp_gtn 124 71 rfl rfl rfl (by omega) (by omega) (fun h9 => absurd h9 (by omega)) (fun h9 => ?_)
            refine ws_iload_5 73 rfl rfl ?_
            refine ws_aload_0 74 rfl rfl ?_
            refine ws_iload_7 76 rfl rfl ?_
            refine ws_iload_4 78 rfl rfl ?_
            refine ws_invV2p 81 rfl rfl rfl rfl (hmay) rfl rfl rfl ?_
            refine ws_if_eqb 94 84 rfl rfl rfl (fun h9 => absurd h9 (by first | decide | simp_all)) (fun h9 => ?_)
            refine ws_aload_0 85 rfl rfl ?_
            refine ws_getfr 88 rfl rfl rfl rfl rfl ?_
            refine ws_iload_7 90 rfl rfl ?_
            refine ws_ialdn 91 rfl rfl rfl (by omega) (by omega) h54s ?_
            refine ws_goto 95 rfl rfl ?_
            refine ws_iadd 96 rfl rfl (nI_add _ _) ?_
            refine ws_istore_5 98 rfl rfl rfl rfl ?_
            refine ws_aload_0 99 rfl rfl ?_
            refine ws_iload_7 101 rfl rfl ?_
            refine ws_iload_4 103 rfl rfl ?_
            refine ws_invV2p 106 rfl rfl rfl rfl (hmay) rfl rfl rfl ?_
            refine ws_if_eqb 114 109 rfl rfl rfl (fun h9 => absurd h9 (by first | decide | simp_all)) (fun h9 => ?_)
            refine ws_iload_7 111 rfl rfl ?_
            refine ws_goto 116 rfl rfl ?_
            refine ws_istore_6 118 rfl rfl rfl rfl ?_
            refine ws_iinc_7 121 rfl rfl (ki_1 _) rfl rfl ?_
            refine ws_goto 65 rfl rfl ?_
            rw [← e1, ← e2]; exact ih2 (k + 1) _ _ (by omega)
      refine ws_iload_4 40 rfl rfl ?_
      refine ws_bipush 42 rfl rfl kc_b32 ?_
      refine ws_icmp_gen 244 45 rfl rfl rfl (by omega) (by omega) (fun h9 => absurd h9 (by omega)) (fun h9 => ?_)
      refine ws_aload_0 46 rfl rfl ?_
      refine ws_getfr 49 rfl rfl rfl rfl rfl ?_
      refine ws_iload_4 51 rfl rfl ?_
      refine ws_ialdn 52 rfl rfl rfl (by omega) (by omega) (h56' I' hf) ?_
      refine ws_if_len 238 55 rfl rfl rfl (by omega) (fun hz => ?_) (fun hz => ?_)
      · have hz0 : P s = 0 := by omega
        refine ws_iinc_4 241 rfl rfl (ki_1 _) rfl rfl ?_
        refine ws_goto 38 rfl rfl ?_
        exact ih (s + 1) I' _ _ _ _ _ (by omega) hf (fun u hu => by rw [es, hz0, ctf_0, Nat.add_zero]; exact h57 u hu)
      · refine ws_iconst 56 rfl rfl kc_i0 ?_
        refine ws_istore_5 58 rfl rfl rfl rfl ?_
        refine ws_bipush 60 rfl rfl kc_bm6 ?_
        refine ws_istore_6 62 rfl rfl rfl rfl ?_
        refine ws_iload_1 63 rfl rfl ?_
        refine ws_istore_7 65 rfl rfl rfl rfl ?_
        exact first n 0 _ _ (by omega)
  have zero : ∀ (m k : Nat) (I' : Nat → Nat → Int32), k + m = 32 → (∀ a, a ≠ 57 → I' a = I a) → (∀ u, u < k → I' 57 u = nI 0) → xW E 2 107 14 [some (.ref 42), some (.int (nI f)), some (.int (nI to)), some (.int (nI (min 4 to))), some (.int (nI k)), none, none, none, none, none] [] (xS, I', L) 0 0 (fun r t => r = none ∧ ∃ I', t = (xS, I', L) ∧ (∀ a, a ≠ 56 → a ≠ 57 → I' a = I a) ∧ ∀ u, u < 32 → I' 56 u = nI (gla b w f n P u)) := by
    intro m
    induction m with
    | zero =>
      intro k I' hk hf h57
      obtain rfl : k = 32 := by omega
      refine ws_iload_4 16 rfl rfl ?_
      refine ws_bipush 18 rfl rfl kc_b32 ?_
      refine ws_icmp_gen 35 21 rfl rfl rfl (by omega) (by omega) (fun h9 => ?_) (fun h9 => absurd h9 (by omega))
      refine ws_iconst 36 rfl rfl kc_i0 ?_
      refine ws_istore_4 38 rfl rfl rfl rfl ?_
      exact sets 32 0 I' _ _ _ _ _ rfl hf h57
    | succ m ih =>
      intro k I' hk hf h57
      refine ws_iload_4 16 rfl rfl ?_
      refine ws_bipush 18 rfl rfl kc_b32 ?_
      refine ws_icmp_gen 35 21 rfl rfl rfl (by omega) (by omega) (fun h9 => absurd h9 (by omega)) (fun h9 => ?_)
      refine ws_aload_0 22 rfl rfl ?_
      refine ws_getfr 25 rfl rfl rfl rfl rfl ?_
      refine ws_iload_4 27 rfl rfl ?_
      refine ws_iconst 28 rfl rfl kc_i0 ?_
      refine ws_iastn 29 rfl rfl rfl (by omega) (by omega) ?_
      refine ws_iinc_4 32 rfl rfl (ki_1 _) rfl rfl ?_
      refine ws_goto 14 rfl rfl ?_
      exact ih (k + 1) _ (by omega) (fun a ha => by rw [wI_ne ha]; exact hf a ha) (fl (g := fun _ => nI 0) h57 rfl)
  have z := zero 32 0 I rfl (fun _ _ => rfl) (fun _ h => by omega)
  refine ws_iload_2 1 rfl rfl ?_
  refine ws_iconst 2 rfl rfl kc_i4 ?_
  refine ws_icmp_len 9 5 rfl rfl rfl (by omega) (by omega) (fun c1 => ?_) (fun c1 => ?_)
  · rw [show min 4 to = to by omega] at z
    refine ws_iload_2 10 rfl rfl ?_
    refine ws_istore_3 11 rfl rfl rfl rfl ?_
    refine ws_iconst 12 rfl rfl kc_i0 ?_
    refine ws_istore_4 14 rfl rfl rfl rfl ?_
    exact z
  · rw [show min 4 to = 4 by omega] at z
    refine ws_iconst 6 rfl rfl kc_i4 ?_
    refine ws_goto 10 rfl rfl ?_
    refine ws_istore_3 11 rfl rfl rfl rfl ?_
    refine ws_iconst 12 rfl rfl kc_i0 ?_
    refine ws_istore_4 14 rfl rfl rfl rfl ?_
    exact z
end MDRAW
