/-! ===== the shapes of all cells; the scene's reads ===== -/
def xC0 : List xSh := [
  .inr (.inl (5, [.ref 1, .ref 5, .ref 12, .ref 13, .ref 14, .ref 19, .ref 26, .ref 27])),
  .inr (.inl (1, [.ref 2, .ref 3, .ref 4, .int 0])), .inl (.int, 40), .inl (.int, 16), .inl (.long, 40),
  .inr (.inl (3, [.ref 6, .ref 7, .ref 8, .ref 9, .ref 10, .ref 11, .int 0, .int 0])), .inl (.int, 15), .inl (.int, 5), .inl (.int, 5), .inl (.int, 24), .inl (.int, 20), .inl (.int, 11),
  .inr (.inr [.ref 28, .ref 35]), .inl (.boolean, 2),
  .inr (.inl (2, [.ref 5, .ref 15, .ref 16, .ref 17, .ref 18, .int 0, .int 0, .int 0])), .inl (.int, 5), .inl (.int, 5), .inl (.int, 5), .inl (.int, 32),
  .inr (.inl (4, [.ref 14, .ref 20, .ref 21, .int 0, .ref 22, .int 0, .ref 23, .ref 24, .ref 25, .int 0, .int 0, .int 0])), .inl (.int, 1546), .inl (.int, 1546), .inl (.int, 1546), .inl (.int, 5), .inl (.int, 5), .inl (.int, 40),
  .inr (.inl (0, [.long 0, .long 0])), .inl (.int, 5),
  .inr (.inl (3, [.ref 29, .ref 30, .ref 31, .ref 32, .ref 33, .ref 34, .int 0, .int 0])), .inl (.int, 15), .inl (.int, 5), .inl (.int, 5), .inl (.int, 24), .inl (.int, 20), .inl (.int, 11),
  .inr (.inl (3, [.ref 36, .ref 37, .ref 38, .ref 39, .ref 40, .ref 41, .int 0, .int 0])), .inl (.int, 15), .inl (.int, 5), .inl (.int, 5), .inl (.int, 24), .inl (.int, 20), .inl (.int, 11)]
def xM0 : List xSh := [
  .inr (.inl (6, [.ref 43, .ref 44, .int 0, .ref 45, .ref 46, .ref 47, .ref 48, .ref 49, .int 0, .ref 50, .ref 51, .int 0, .ref 52, .ref 53, .ref 54, .ref 55, .ref 56, .ref 57, .ref 58, .ref 59, .long 0, .long 0, .long 0, .ref 60, .ref 61, .ref 62])),
  .inl (.int, 15), .inl (.int, 5), .inl (.int, 40), .inl (.int, 5), .inl (.int, 24), .inl (.int, 2), .inl (.int, 30), .inl (.int, 11), .inl (.boolean, 11), .inl (.int, 7), .inl (.int, 5), .inl (.int, 5), .inl (.long, 16), .inl (.int, 32), .inl (.int, 32), .inl (.int, 12), .inl (.int, 12), .inl (.int, 7776), .inl (.int, 260), .inl (.boolean, 2)]
/-- an answer, nothing changed -/
abbrev rV (v : Value) (σ : xMem) : Option Value → xMem → Prop := fun r t => r = some v ∧ t = σ
theorem wI_ne {I : Nat → Nat → Int32} {a j c : Nat} {x : Int32} (h : c ≠ a) : wI I a j x c = I c := by
  unfold wI
  rw [if_neg h]
theorem wI_eq {I : Nat → Nat → Int32} {a j : Nat} {x : Int32} : wI I a j x a = upd (I a) j x := by
  unfold wI
  rw [if_pos rfl]
theorem wR_ne {I : Nat → Nat → Int32} {a c : Nat} {f : Nat → Int32} (h : c ≠ a) : wR I a f c = I c := by
  unfold wR
  rw [if_neg h]
theorem wL_ne {I : Nat → Nat → Int64} {a j c : Nat} {x : Int64} (h : c ≠ a) : wL I a j x c = I c := by
  unfold wL
  rw [if_neg h]
/-- filling a row from its beginning -/
theorem fl {f g : Nat → Int32} {k : Nat} {x : Int32} (h : ∀ p, p < k → f p = g p) (hx : x = g k) : ∀ p, p < k + 1 → upd f k x p = g p := by
  intro p hp
  by_cases e : p = k
  · subst e
    rw [pk_us, hx]
  · rw [pk_un e]
    exact h p (by omega)
/-- filling a row, what lies further on stays -/
theorem fl2 {f g : Nat → Int32} {k n : Nat} {x : Int32} (h : ∀ p, p < n → f p = g p) : ∀ p, p < n → upd f k x p = upd g k x p := by
  intro p hp
  by_cases e : p = k
  · subst e
    rw [pk_us, pk_us]
  · rw [pk_un e, pk_un e]
    exact h p hp
theorem mxI_sub {a b c : Nat} (ha : a < 1073741824) (hb : b < 1073741824) (hc : c < 2147483648) : mxI (nI c) (nI a - nI b) = nI (max c (a - b)) := by
  by_cases h : b ≤ a
  · rw [pk_sub h]
    exact mxI_n hc (by omega)
  · have h1 := pk_sneg (a := a) (b := b) (by omega) (by omega)
    have h2 : ¬ nI c < nI a - nI b := by
      rw [i32_lt] at h1 ⊢
      rw [nI_toInt (by omega)]
      rw [Int32.toInt_zero] at h1
      omega
    unfold mxI
    rw [if_neg h2, Nat.max_eq_left (by omega)]
theorem p_maxsub (a b c : Nat) (ha : a < 1073741824) (hb : b < 1073741824) (hc : c < 2147483648) : xP 1 139 [.int (nI c), .int (nI a - nI b)] (.int (nI (max c (a - b)))) := by
  rw [← mxI_sub ha hb hc]
  exact p_max _ _
theorem p_below5t (d : Nat) (hd : d < 5) : xP 1 80 [.int (nI d), .int (nI 5)] (.int (xb true)) := by
  have h := p_below (nI d) 5 4 (by omega) rfl
  rwa [show rg 0 4 (nI d) = true by rw [rg_nI (by omega)]; simp; omega] at h
theorem p_below5f : xP 1 80 [.int (-6), .int (nI 5)] (.int (xb false)) := by
  have h := p_below (-6) 5 4 (by omega) rfl
  rwa [show rg 0 4 (-6) = false by decide] at h
/-- what a place of a row of the class holds -/
def rw6 (d : Nat) : Int32 := if d = 0 then -6 else nI (d - 1)
theorem rw6_0 {d : Nat} (h : d = 0) : rw6 d = -6 := if_pos h
theorem rw6_1 {d : Nat} (h : ¬ d = 0) : rw6 d = nI (d - 1) := if_neg h
section SCENE
variable {E : xEx} {T : List xSh} {I : Nat → Nat → Int32} {L : Nat → Nat → Int64} {A : Nat → Nat → Nat}
theorem c_trait (hTh : ∀ j, j < 15 → I 6 j = nI (A 0 j)) (t w : Nat) (ht : t < 5) (hw : w < 3) : xC E 1 26 [.ref 5, .int (nI t), .int (nI w)] (xC0 ++ T, I, L) (rV (.int (nI (A 0 (w * 5 + t)))) (xC0 ++ T, I, L)) := by
  refine xC.mk [some (.ref 5), some (.int (nI t)), some (.int (nI w))] rfl ?_
  refine ws_aload_0 1 rfl rfl ?_
  refine ws_getfr 4 rfl rfl rfl rfl rfl ?_
  refine ws_iload_2 5 rfl rfl ?_
  refine ws_iconst 6 rfl rfl kc_i5 ?_
  refine ws_imul 7 rfl rfl (pk_mul _ _) ?_
  refine ws_iload_1 8 rfl rfl ?_
  refine ws_iadd 9 rfl rfl (nI_add _ _) ?_
  refine ws_ialdn 10 rfl rfl rfl (by omega) (by omega) (hTh _ (by omega)) ?_
  refine ws_iret rfl rfl rfl (Nat.le_of_ble_eq_true rfl) ?_
  exact ⟨rfl, rfl⟩
theorem c_habit (hKi : ∀ j, j < 24 → I 9 j = nI (A 3 j)) (k w : Nat) (hk : k < 4) (hw : w < 6) : xC E 1 27 [.ref 5, .int (nI k), .int (nI w)] (xC0 ++ T, I, L) (rV (.int (nI (A 3 (k * 6 + w)))) (xC0 ++ T, I, L)) := by
  refine xC.mk [some (.ref 5), some (.int (nI k)), some (.int (nI w))] rfl ?_
  refine ws_aload_0 1 rfl rfl ?_
  refine ws_getfr 4 rfl rfl rfl rfl rfl ?_
  refine ws_iload_1 5 rfl rfl ?_
  refine ws_bipush 7 rfl rfl kc_b6 ?_
  refine ws_imul 8 rfl rfl (pk_mul _ _) ?_
  refine ws_iload_2 9 rfl rfl ?_
  refine ws_iadd 10 rfl rfl (nI_add _ _) ?_
  refine ws_ialdn 11 rfl rfl rfl (by omega) (by omega) (hKi _ (by omega)) ?_
  refine ws_iret rfl rfl rfl (Nat.le_of_ble_eq_true rfl) ?_
  exact ⟨rfl, rfl⟩
theorem c_answer {f : Nat → Nat} (hAn : ∀ j, j < 20 → I 10 j = nI (f j)) (w s t : Nat) (hw : w < 2) (hs : s < 5) (ht : t < 2) : xC E 1 28 [.ref 5, .int (nI w), .int (nI s), .int (nI t)] (xC0 ++ T, I, L) (rV (.int (nI (f (w * 10 + 2 * s + t)))) (xC0 ++ T, I, L)) := by
  refine xC.mk [some (.ref 5), some (.int (nI w)), some (.int (nI s)), some (.int (nI t))] rfl ?_
  refine ws_aload_0 1 rfl rfl ?_
  refine ws_getfr 4 rfl rfl rfl rfl rfl ?_
  refine ws_iload_1 5 rfl rfl ?_
  refine ws_bipush 7 rfl rfl kc_b10 ?_
  refine ws_imul 8 rfl rfl (pk_mul _ _) ?_
  refine ws_iconst 9 rfl rfl kc_i2 ?_
  refine ws_iload_2 10 rfl rfl ?_
  refine ws_imul 11 rfl rfl (pk_mul _ _) ?_
  refine ws_iadd 12 rfl rfl (nI_add _ _) ?_
  refine ws_iload_3 13 rfl rfl ?_
  refine ws_iadd 14 rfl rfl (nI_add _ _) ?_
  refine ws_ialdn 15 rfl rfl rfl (by omega) (by omega) (hAn _ (by omega)) ?_
  refine ws_iret rfl rfl rfl (Nat.le_of_ble_eq_true rfl) ?_
  exact ⟨rfl, rfl⟩
end SCENE
