/-! ===== small methods ===== -/
/-- a number between two -/
def rg (a b : Int) (x : Int32) : Bool := decide (a ≤ x.toInt) && decide (x.toInt ≤ b)
theorem rg_t {a b : Int} {x : Int32} (h : rg a b x = true) : a ≤ x.toInt ∧ x.toInt ≤ b := by
  unfold rg at h
  simpa using h
theorem rg_f {a b : Int} {x : Int32} (h : rg a b x = false) : x.toInt < a ∨ b < x.toInt := by
  unfold rg at h
  simp at h
  omega
theorem rg_of {a b : Int} {x : Int32} (h1 : a ≤ x.toInt) (h2 : x.toInt ≤ b) : rg a b x = true := by simp [rg, h1, h2]
theorem rg_no {a b : Int} {x : Int32} (h1 : x.toInt < a ∨ b < x.toInt) : rg a b x = false := by
  cases h : rg a b x with
  | false => rfl
  | true => have := rg_t h; omega
theorem rg_nat {a b : Nat} {x : Int32} (h : rg (a : Int) (b : Int) x = true) (hb : b < 2147483648) : ∃ j : Nat, a ≤ j ∧ j ≤ b ∧ x = nI j := by
  obtain ⟨h1, h2⟩ := rg_t h
  refine ⟨x.toInt.toNat, by omega, by omega, ?_⟩
  apply Int32.toInt_inj.mp
  rw [nI_toInt (by omega)]
  omega
theorem rg_nI {a b : Int} {n : Nat} (hn : n < 2147483648) : rg a b (nI n) = (decide (a ≤ (n : Int)) && decide ((n : Int) ≤ b)) := by
  unfold rg
  rw [nI_toInt hn]
theorem i32_lt {x y : Int32} : x < y ↔ x.toInt < y.toInt := Int32.lt_iff_toInt_lt
theorem i32_le {x y : Int32} : x ≤ y ↔ x.toInt ≤ y.toInt := Int32.le_iff_toInt_le
theorem p_below (x : Int32) (n : Nat) (b : Int) (hn : n < 2147483648) (hb : (n : Int) = b + 1) : xP 1 80 [.int x, .int (nI n)] (.int (xb (rg 0 b x))) := by
  intro E σ
  refine xC.mk [some (.int x), some (.int (nI n))] rfl ?_
  have e := nI_toInt hn
  refine ws_iload_0 1 rfl rfl ?_
  refine ws_if_lt 13 4 rfl rfl rfl (fun h => ?_) (fun h => ?_)
  · rw [show rg 0 b x = false from rg_no (by rw [i32_lt] at h; simp at h; omega)]
    refine ws_iconst 14 rfl rfl kc_i0 ?_
    refine ws_zret rfl rfl (by first | exact xb_01 _ | decide) rfl (Nat.le_of_ble_eq_true rfl) ?_
    exact ⟨rfl, rfl⟩
  · rw [i32_lt] at h
    simp at h
    refine ws_iload_0 5 rfl rfl ?_
    refine ws_iload_1 6 rfl rfl ?_
    refine ws_icmp_ge 13 9 rfl rfl rfl (fun h2 => ?_) (fun h2 => ?_)
    · rw [show rg 0 b x = false from rg_no (by rw [i32_le, e] at h2; omega)]
      refine ws_iconst 14 rfl rfl kc_i0 ?_
      refine ws_zret rfl rfl (by first | exact xb_01 _ | decide) rfl (Nat.le_of_ble_eq_true rfl) ?_
      exact ⟨rfl, rfl⟩
    · rw [show rg 0 b x = true from rg_of h (by rw [i32_le, e] at h2; omega)]
      refine ws_iconst 10 rfl rfl kc_i1 ?_
      refine ws_goto 14 rfl rfl ?_
      refine ws_zret rfl rfl (by first | exact xb_01 _ | decide) rfl (Nat.le_of_ble_eq_true rfl) ?_
      exact ⟨rfl, rfl⟩
theorem p_between (x lo hi : Int32) (a b : Int) (ha : lo.toInt = a) (hb : hi.toInt = b) : xP 1 81 [.int x, .int lo, .int hi] (.int (xb (rg a b x))) := by
  intro E σ
  refine xC.mk [some (.int x), some (.int lo), some (.int hi)] rfl ?_
  refine ws_iload_0 1 rfl rfl ?_
  refine ws_iload_1 2 rfl rfl ?_
  refine ws_icmp_lt 14 5 rfl rfl rfl (fun h => ?_) (fun h => ?_)
  · rw [show rg a b x = false from rg_no (by rw [i32_lt] at h; omega)]
    refine ws_iconst 15 rfl rfl kc_i0 ?_
    refine ws_zret rfl rfl (by first | exact xb_01 _ | decide) rfl (Nat.le_of_ble_eq_true rfl) ?_
    exact ⟨rfl, rfl⟩
  · rw [i32_lt] at h
    refine ws_iload_0 6 rfl rfl ?_
    refine ws_iload_2 7 rfl rfl ?_
    refine ws_icmp_gt 14 10 rfl rfl rfl (fun h2 => ?_) (fun h2 => ?_)
    · rw [show rg a b x = false from rg_no (by rw [i32_lt] at h2; omega)]
      refine ws_iconst 15 rfl rfl kc_i0 ?_
      refine ws_zret rfl rfl (by first | exact xb_01 _ | decide) rfl (Nat.le_of_ble_eq_true rfl) ?_
      exact ⟨rfl, rfl⟩
    · rw [show rg a b x = true from rg_of (by omega) (by rw [i32_lt] at h2; omega)]
      refine ws_iconst 11 rfl rfl kc_i1 ?_
      refine ws_goto 15 rfl rfl ?_
      refine ws_zret rfl rfl (by first | exact xb_01 _ | decide) rfl (Nat.le_of_ble_eq_true rfl) ?_
      exact ⟨rfl, rfl⟩
theorem p_in (x lo hi : Int32) (a b : Int) (ha : lo.toInt = a) (hb : hi.toInt = b) : xP 1 83 [.int x, .int lo, .int hi] (.int (xb (rg a b x))) := by
  intro E σ
  refine xC.mk [some (.int x), some (.int lo), some (.int hi)] rfl ?_
  refine ws_iload_0 1 rfl rfl ?_
  refine ws_iload_1 2 rfl rfl ?_
  refine ws_icmp_lt 14 5 rfl rfl rfl (fun h => ?_) (fun h => ?_)
  · rw [show rg a b x = false from rg_no (by rw [i32_lt] at h; omega)]
    refine ws_iconst 15 rfl rfl kc_i0 ?_
    refine ws_zret rfl rfl (by first | exact xb_01 _ | decide) rfl (Nat.le_of_ble_eq_true rfl) ?_
    exact ⟨rfl, rfl⟩
  · rw [i32_lt] at h
    refine ws_iload_0 6 rfl rfl ?_
    refine ws_iload_2 7 rfl rfl ?_
    refine ws_icmp_gt 14 10 rfl rfl rfl (fun h2 => ?_) (fun h2 => ?_)
    · rw [show rg a b x = false from rg_no (by rw [i32_lt] at h2; omega)]
      refine ws_iconst 15 rfl rfl kc_i0 ?_
      refine ws_zret rfl rfl (by first | exact xb_01 _ | decide) rfl (Nat.le_of_ble_eq_true rfl) ?_
      exact ⟨rfl, rfl⟩
    · rw [show rg a b x = true from rg_of (by omega) (by rw [i32_lt] at h2; omega)]
      refine ws_iconst 11 rfl rfl kc_i1 ?_
      refine ws_goto 15 rfl rfl ?_
      refine ws_zret rfl rfl (by first | exact xb_01 _ | decide) rfl (Nat.le_of_ble_eq_true rfl) ?_
      exact ⟨rfl, rfl⟩
theorem p_isFive (x : Int32) : xP 2 84 [.int x] (.int (xb (rg 0 4 x))) := by
  intro E σ
  refine xC.mk [some (.int x)] rfl ?_
  refine ws_iload_0 1 rfl rfl ?_
  refine ws_iconst 2 rfl rfl kc_i0 ?_
  refine ws_iconst 3 rfl rfl kc_i4 ?_
  refine ws_invS3p 6 rfl rfl rfl (p_in x (nI 0) (nI 4) 0 4 (by decide) (by decide)) rfl rfl rfl ?_
  refine ws_zret rfl rfl (by first | exact xb_01 _ | decide) rfl (Nat.le_of_ble_eq_true rfl) ?_
  exact ⟨rfl, rfl⟩
def mxI (x y : Int32) : Int32 := if x < y then y else x
def mnI (x y : Int32) : Int32 := if y < x then y else x
theorem p_max (x y : Int32) : xP 1 139 [.int x, .int y] (.int (mxI x y)) := by
  intro E σ
  refine xC.mk [some (.int x), some (.int y)] rfl ?_
  refine ws_iload_0 1 rfl rfl ?_
  refine ws_iload_1 2 rfl rfl ?_
  refine ws_icmp_lt 9 5 rfl rfl rfl (fun h => ?_) (fun h => ?_)
  · rw [show mxI x y = y from if_pos h]
    refine ws_iload_1 10 rfl rfl ?_
    refine ws_iret rfl rfl rfl (Nat.le_of_ble_eq_true rfl) ?_
    exact ⟨rfl, rfl⟩
  · rw [show mxI x y = x from if_neg h]
    refine ws_iload_0 6 rfl rfl ?_
    refine ws_goto 10 rfl rfl ?_
    refine ws_iret rfl rfl rfl (Nat.le_of_ble_eq_true rfl) ?_
    exact ⟨rfl, rfl⟩
theorem p_min (x y : Int32) : xP 1 141 [.int x, .int y] (.int (mnI x y)) := by
  intro E σ
  refine xC.mk [some (.int x), some (.int y)] rfl ?_
  refine ws_iload_0 1 rfl rfl ?_
  refine ws_iload_1 2 rfl rfl ?_
  refine ws_icmp_gt 9 5 rfl rfl rfl (fun h => ?_) (fun h => ?_)
  · rw [show mnI x y = y from if_pos h]
    refine ws_iload_1 10 rfl rfl ?_
    refine ws_iret rfl rfl rfl (Nat.le_of_ble_eq_true rfl) ?_
    exact ⟨rfl, rfl⟩
  · rw [show mnI x y = x from if_neg h]
    refine ws_iload_0 6 rfl rfl ?_
    refine ws_goto 10 rfl rfl ?_
    refine ws_iret rfl rfl rfl (Nat.le_of_ble_eq_true rfl) ?_
    exact ⟨rfl, rfl⟩
theorem mxI_n {a b : Nat} (ha : a < 2147483648) (hb : b < 2147483648) : mxI (nI a) (nI b) = nI (max a b) := by
  unfold mxI
  by_cases h : a < b
  · rw [if_pos ((kn_lt ha hb).mpr h), Nat.max_eq_right (by omega)]
  · rw [if_neg (fun q => h ((kn_lt ha hb).mp q)), Nat.max_eq_left (by omega)]
theorem mnI_n {a b : Nat} (ha : a < 2147483648) (hb : b < 2147483648) : mnI (nI a) (nI b) = nI (min a b) := by
  unfold mnI
  by_cases h : b < a
  · rw [if_pos ((kn_lt hb ha).mpr h), Nat.min_eq_right (by omega)]
  · rw [if_neg (fun q => h ((kn_lt hb ha).mp q)), Nat.min_eq_left (by omega)]
theorem p_maxn (a b : Nat) (ha : a < 2147483648) (hb : b < 2147483648) : xP 1 139 [.int (nI a), .int (nI b)] (.int (nI (max a b))) := by
  rw [← mxI_n ha hb]
  exact p_max _ _
theorem p_minn (a b : Nat) (ha : a < 2147483648) (hb : b < 2147483648) : xP 1 141 [.int (nI a), .int (nI b)] (.int (nI (min a b))) := by
  rw [← mnI_n ha hb]
  exact p_min _ _
def mxL (x y : Int64) : Int64 := if x < y then y else x
def mnL (x y : Int64) : Int64 := if y < x then y else x
theorem p_maxL (x y : Int64) : xP 1 140 [.long x, .long y] (.long (mxL x y)) := by
  intro E σ
  refine xC.mk [some (.long x), none, some (.long y), none] rfl ?_
  refine ws_lload_0 1 rfl rfl ?_
  refine ws_lload_2 2 rfl rfl ?_
  refine ws_lcmp 3 rfl rfl ?_
  refine ws_lc_lt 10 6 rfl rfl rfl (fun h => ?_) (fun h => ?_)
  · rw [show mxL x y = y from if_pos h]
    refine ws_lload_2 11 rfl rfl ?_
    refine ws_lret rfl rfl rfl (Nat.le_of_ble_eq_true rfl) ?_
    exact ⟨rfl, rfl⟩
  · rw [show mxL x y = x from if_neg h]
    refine ws_lload_0 7 rfl rfl ?_
    refine ws_goto 11 rfl rfl ?_
    refine ws_lret rfl rfl rfl (Nat.le_of_ble_eq_true rfl) ?_
    exact ⟨rfl, rfl⟩
theorem p_minL (x y : Int64) : xP 1 142 [.long x, .long y] (.long (mnL x y)) := by
  intro E σ
  refine xC.mk [some (.long x), none, some (.long y), none] rfl ?_
  refine ws_lload_0 1 rfl rfl ?_
  refine ws_lload_2 2 rfl rfl ?_
  refine ws_lcmp 3 rfl rfl ?_
  refine ws_lc_gt 10 6 rfl rfl rfl (fun h => ?_) (fun h => ?_)
  · rw [show mnL x y = y from if_pos h]
    refine ws_lload_2 11 rfl rfl ?_
    refine ws_lret rfl rfl rfl (Nat.le_of_ble_eq_true rfl) ?_
    exact ⟨rfl, rfl⟩
  · rw [show mnL x y = x from if_neg h]
    refine ws_lload_0 7 rfl rfl ?_
    refine ws_goto 11 rfl rfl ?_
    refine ws_lret rfl rfl rfl (Nat.le_of_ble_eq_true rfl) ?_
    exact ⟨rfl, rfl⟩
