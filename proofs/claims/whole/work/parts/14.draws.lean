/-! ===== Passers: what a window draws ===== -/
/-- a row's bits -/
def bt (b : Nat → Nat) (p : Nat) : Nat := if b p = 0 then 0 else 2 ^ (b p - 1)
theorem bt_0 {b : Nat → Nat} {p : Nat} (h : b p = 0) : bt b p = 0 := if_pos h
theorem bt_1 {b : Nat → Nat} {p : Nat} (h : ¬ b p = 0) : bt b p = 2 ^ (b p - 1) := if_neg h
theorem pw5 : ∀ d, d < 5 → 1 ≤ 2 ^ d ∧ 2 ^ d ≤ 16 := by decide
theorem bt_le {b : Nat → Nat} {p : Nat} (h : b p ≤ 5) : bt b p ≤ 16 := by
  by_cases h0 : b p = 0
  · rw [bt_0 h0]; omega
  · rw [bt_1 h0]; exact (pw5 _ (by omega)).2
/-- how many things stand on the first places -/
def cn (b : Nat → Nat) : Nat → Nat
  | 0 => 0
  | k + 1 => cn b k + (if b k = 0 then 0 else 1)
theorem cn_le (b : Nat → Nat) : ∀ k, cn b k ≤ k
  | 0 => Nat.le_refl 0
  | k + 1 => by
    have := cn_le b k
    show cn b k + (if b k = 0 then 0 else 1) ≤ k + 1
    split <;> omega
/-- catch by light -/
def pb (A : Nat → Nat → Nat) (b : Nat → Nat) (p : Nat) : Nat := if b p = 0 then 0 else A 0 (b p - 1) * A 1 p
/-- where the thing at a place looks -/
def lo (A : Nat → Nat → Nat) (b : Nat → Nat) (p : Nat) : Nat := if b p = 0 then 0 else A 0 (10 + (b p - 1))
/-- looked at by the first k places -/
def pl (A : Nat → Nat → Nat) (b : Nat → Nat) (k p : Nat) : Nat := pb A b p + ((if p + 1 < k ∧ lo A b (p + 1) = 1 then 10 else 0) + (if (1 ≤ p ∧ p - 1 < k) ∧ lo A b (p - 1) = 2 then 10 else 0))
/-- what a place draws from one who is new -/
def dz (A : Nat → Nat → Nat) (b : Nat → Nat) (p : Nat) : Nat := if b p = 0 then 0 else max 1 (pl A b 5 p - 3 * (cn b 5 - 3))
/-- .. from one who has been -/
def dw (A : Nat → Nat → Nat) (b : Nat → Nat) (p n : Nat) : Nat := if b p = 0 then 0 else max 1 (dz A b p / (1 + n))
theorem pb_le {A : Nat → Nat → Nat} {b : Nat → Nat} {p : Nat} (h1 : ∀ j, j < 5 → A 0 j ≤ 9) (h2 : ∀ j, j < 5 → A 1 j ≤ 9) (hp : p < 5) (hb : b p ≤ 5) : pb A b p ≤ 81 := by
  unfold pb
  split
  · omega
  · exact Nat.mul_le_mul (h1 _ (by omega)) (h2 _ hp)
theorem pl_le {A : Nat → Nat → Nat} {b : Nat → Nat} {k p : Nat} (h1 : ∀ j, j < 5 → A 0 j ≤ 9) (h2 : ∀ j, j < 5 → A 1 j ≤ 9) (hp : p < 5) (hb : b p ≤ 5) : pl A b k p ≤ 101 := by
  have := pb_le h1 h2 hp hb
  unfold pl
  split <;> split <;> omega
theorem dz_le {A : Nat → Nat → Nat} {b : Nat → Nat} {p : Nat} (h1 : ∀ j, j < 5 → A 0 j ≤ 9) (h2 : ∀ j, j < 5 → A 1 j ≤ 9) (hp : p < 5) (hb : b p ≤ 5) : dz A b p ≤ 101 := by
  have := pl_le (k := 5) h1 h2 hp hb
  unfold dz
  split <;> omega
theorem dz_pos {A : Nat → Nat → Nat} {b : Nat → Nat} {p : Nat} (h : ¬ b p = 0) : 1 ≤ dz A b p := by
  unfold dz
  rw [if_neg h]
  omega
theorem dw_le {A : Nat → Nat → Nat} {b : Nat → Nat} {p n : Nat} (h1 : ∀ j, j < 5 → A 0 j ≤ 9) (h2 : ∀ j, j < 5 → A 1 j ≤ 9) (hp : p < 5) (hb : b p ≤ 5) : dw A b p n ≤ 101 := by
  have := dz_le h1 h2 hp hb
  have h3 := Nat.div_le_self (dz A b p) (1 + n)
  unfold dw
  split <;> omega
theorem dw_pos {A : Nat → Nat → Nat} {b : Nat → Nat} {p n : Nat} (h : ¬ b p = 0) : 1 ≤ dw A b p n := by
  unfold dw
  rw [if_neg h]
  omega
theorem pl_step (A : Nat → Nat → Nat) (b : Nat → Nat) (k p : Nat) : pl A b (k + 1) p = pl A b k p + ((if p + 1 = k ∧ lo A b k = 1 then 10 else 0) + (if p = k + 1 ∧ lo A b k = 2 then 10 else 0)) := by
  unfold pl
  have e1 : (if p + 1 < k + 1 ∧ lo A b (p + 1) = 1 then 10 else 0) = (if p + 1 < k ∧ lo A b (p + 1) = 1 then 10 else 0) + (if p + 1 = k ∧ lo A b k = 1 then 10 else 0) := by
    by_cases e : p + 1 = k
    · rw [e, if_neg (show ¬ (k < k ∧ lo A b k = 1) by omega)]
      simp
    · rw [if_neg (show ¬ (p + 1 = k ∧ lo A b k = 1) from fun q => e q.1)]
      have : (p + 1 < k + 1) ↔ (p + 1 < k) := by omega
      simp only [this, Nat.add_zero]
  have e2 : (if (1 ≤ p ∧ p - 1 < k + 1) ∧ lo A b (p - 1) = 2 then 10 else 0) = (if (1 ≤ p ∧ p - 1 < k) ∧ lo A b (p - 1) = 2 then 10 else 0) + (if p = k + 1 ∧ lo A b k = 2 then 10 else 0) := by
    by_cases e : p = k + 1
    · subst e
      rw [Nat.add_sub_cancel, if_neg (show ¬ ((1 ≤ k + 1 ∧ k < k) ∧ lo A b k = 2) by omega)]
      simp
    · rw [if_neg (show ¬ (p = k + 1 ∧ lo A b k = 2) from fun q => e q.1)]
      have : (1 ≤ p ∧ p - 1 < k + 1) ↔ (1 ≤ p ∧ p - 1 < k) := by omega
      simp only [this, Nat.add_zero]
  rw [e1, e2]
  omega
theorem pl_0 (A : Nat → Nat → Nat) (b : Nat → Nat) (p : Nat) : pl A b 0 p = pb A b p := by
  unfold pl
  rw [if_neg (by omega), if_neg (by omega)]
  rfl
section DRAWS
variable {E : xEx} {T : List xSh} {I : Nat → Nat → Int32} {L : Nat → Nat → Int64} {A : Nat → Nat → Nat} {b : Nat → Nat}
theorem c_lookBeside (c : Nat) (hc : c ≠ 16) (hS : (xC0 ++ T)[c]? = some (.inl (.int, 5))) (hTh : ∀ j, j < 15 → I 6 j = nI (A 0 j)) (h1 : ∀ j, j < 5 → A 0 j ≤ 9) (h2 : ∀ j, j < 5 → A 1 j ≤ 9) (h3 : ∀ j, j < 15 → A 0 j ≤ 99) (hb : ∀ p, p < 5 → b p ≤ 5) (hrow : ∀ p, p < 5 → I c p = rw6 (b p)) (hbt : ∀ p, p < 5 → I 15 p = nI (bt b p)) (hpb : ∀ p, p < 5 → I 16 p = nI (pb A b p)) :
    xC E 2 17 [.ref 14, .ref c] (xC0 ++ T, I, L) (fun r t => r = none ∧ ∃ I', t = (xC0 ++ T, I', L) ∧ (∀ a, a ≠ 16 → I' a = I a) ∧ ∀ p, p < 5 → I' 16 p = nI (pl A b 5 p)) := by
  refine xC.mk [some (.ref 14), some (.ref c), none, none] rfl ?_
  refine ws_iconst 1 rfl rfl kc_i0 ?_
  refine ws_istore_2 2 rfl rfl rfl rfl ?_
  have loop : ∀ (m k : Nat) (I' : Nat → Nat → Int32) (z : Option Value), k + m = 5 → (∀ a, a ≠ 16 → I' a = I a) → (∀ p, p < 5 → I' 16 p = nI (pl A b k p)) → xW E 2 17 2 [some (.ref 14), some (.ref c), some (.int (nI k)), z] [] (xC0 ++ T, I', L) 0 0 (fun r t => r = none ∧ ∃ I', t = (xC0 ++ T, I', L) ∧ (∀ a, a ≠ 16 → I' a = I a) ∧ ∀ p, p < 5 → I' 16 p = nI (pl A b 5 p)) := by
    intro m
    induction m with
    | zero =>
      intro k I' z hk hf hp
      obtain rfl : k = 5 := by omega
      refine ws_iload_2 3 rfl rfl ?_
      refine ws_iconst 4 rfl rfl kc_i5 ?_
      refine ws_icmp_gen 86 7 rfl rfl rfl (by omega) (by omega) (fun h9 => ?_) (fun h9 => absurd h9 (by omega))
      refine ws_vret rfl rfl rfl (Nat.le_of_ble_eq_true rfl) ?_
      exact ⟨rfl, I', rfl, hf, hp⟩
    | succ m ih =>
      intro k I' z hk hf hp
      have hTh' : ∀ j, j < 15 → I' 6 j = nI (A 0 j) := fun j hj => by rw [hf 6 (by decide)]; exact hTh j hj
      have hk5 : k < 5 := by omega
      by_cases hb0 : b k = 0
      · have e1 : I' 15 k = nI 0 := by rw [hf 15 (by decide), hbt k hk5, bt_0 hb0]
        have hl : lo A b k = 0 := if_pos hb0
        refine ws_iload_2 3 rfl rfl ?_
        refine ws_iconst 4 rfl rfl kc_i5 ?_
        refine ws_icmp_gen 86 7 rfl rfl rfl (by omega) (by omega) (fun h9 => absurd h9 (by omega)) (fun h9 => ?_)
        refine ws_aload_0 8 rfl rfl ?_
        refine ws_getfr 11 rfl rfl rfl rfl rfl ?_
        refine ws_iload_2 12 rfl rfl ?_
        refine ws_ialdn 13 rfl rfl rfl (by omega) (by omega) e1 ?_
        refine ws_if_nen 20 16 rfl rfl rfl (by omega) (fun h9 => absurd h9 (by omega)) (fun h9 => ?_)
        refine ws_iconst 17 rfl rfl kc_i0 ?_
        refine ws_goto 31 rfl rfl ?_
        refine ws_istore_3 32 rfl rfl rfl rfl ?_
        refine ws_iload_3 33 rfl rfl ?_
        refine ws_iconst 34 rfl rfl kc_i1 ?_
        refine ws_icmp_nen 57 37 rfl rfl rfl (by omega) (by omega) (fun h9 => ?_) (fun h9 => absurd h9 (by omega))
        refine ws_iload_3 58 rfl rfl ?_
        refine ws_iconst 59 rfl rfl kc_i2 ?_
        refine ws_icmp_nen 80 62 rfl rfl rfl (by omega) (by omega) (fun h9 => ?_) (fun h9 => absurd h9 (by omega))
        refine ws_iinc_2 83 rfl rfl (ki_1 _) rfl rfl ?_
        refine ws_goto 2 rfl rfl ?_
        exact ih (k + 1) I' _ (by omega) hf (fun p hp5 => by rw [hp p hp5, pl_step, hl]; simp)
      · have hd := hb k hk5
        obtain ⟨w1, w2⟩ := pw5 (b k - 1) (by omega)
        have e1 : I' 15 k = nI (2 ^ (b k - 1)) := by rw [hf 15 (by decide), hbt k hk5, bt_1 hb0]
        have e2 : I' c k = nI (b k - 1) := by rw [hf c hc, hrow k hk5, rw6_1 hb0]
        have hl : lo A b k = A 0 (2 * 5 + (b k - 1)) := if_neg hb0
        have hl9 := h3 (2 * 5 + (b k - 1)) (by omega)
        generalize 2 ^ (b k - 1) = w at *
        obtain ⟨x, hx⟩ : ∃ x, x = A 0 (2 * 5 + (b k - 1)) := ⟨_, rfl⟩
        have ct := c_trait (E := E) (T := T) (L := L) hTh' (b k - 1) 2 (by omega) (by omega)
        rw [← hx] at ct hl hl9
        have hA : ∀ (q : Nat) (y : Int32) (a : Nat), a ≠ 16 → wI I' 16 q y a = I a := fun q y a ha => by rw [wI_ne ha]; exact hf a ha
        refine ws_iload_2 3 rfl rfl ?_
        refine ws_iconst 4 rfl rfl kc_i5 ?_
        refine ws_icmp_gen 86 7 rfl rfl rfl (by omega) (by omega) (fun h9 => absurd h9 (by omega)) (fun h9 => ?_)
        refine ws_aload_0 8 rfl rfl ?_
        refine ws_getfr 11 rfl rfl rfl rfl rfl ?_
        refine ws_iload_2 12 rfl rfl ?_
        refine ws_ialdn 13 rfl rfl rfl (by omega) (by omega) e1 ?_
        refine ws_if_nen 20 16 rfl rfl rfl (by omega) (fun h9 => ?_) (fun h9 => absurd h9 (by omega))
        refine ws_aload_0 21 rfl rfl ?_
        refine ws_getfr 24 rfl rfl rfl rfl rfl ?_
        refine ws_aload_1 25 rfl rfl ?_
        refine ws_iload_2 26 rfl rfl ?_
        refine ws_ialdn 27 rfl rfl hS (by omega) (by omega) e2 ?_
        refine ws_iconst 28 rfl rfl kc_i2 ?_
        refine ws_invV2p 31 rfl rfl rfl rfl (ct) rfl rfl rfl ?_
        refine ws_istore_3 32 rfl rfl rfl rfl ?_
        refine ws_iload_3 33 rfl rfl ?_
        refine ws_iconst 34 rfl rfl kc_i1 ?_
        refine ws_icmp_nen 57 37 rfl rfl rfl (by omega) (by omega) (fun g1 => ?_) (fun g1 => ?_)
        · refine ws_iload_3 58 rfl rfl ?_
          refine ws_iconst 59 rfl rfl kc_i2 ?_
          refine ws_icmp_nen 80 62 rfl rfl rfl (by omega) (by omega) (fun g2 => ?_) (fun g2 => ?_)
          · refine ws_iinc_2 83 rfl rfl (ki_1 _) rfl rfl ?_
            refine ws_goto 2 rfl rfl ?_
            exact ih (k + 1) I' _ (by omega) hf (fun p hp5 => by rw [hp p hp5, pl_step, hl]; simp [g1, g2])
          · refine ws_iload_2 63 rfl rfl ?_
            refine ws_iconst 64 rfl rfl kc_i4 ?_
            refine ws_icmp_gen 80 67 rfl rfl rfl (by omega) (by omega) (fun g3 => ?_) (fun g3 => ?_)
            · refine ws_iinc_2 83 rfl rfl (ki_1 _) rfl rfl ?_
              refine ws_goto 2 rfl rfl ?_
              exact ih (k + 1) I' _ (by omega) hf (fun p hp5 => by rw [hp p hp5, pl_step, hl, if_neg (by omega), if_neg (by omega)]; rfl)
            · have hp1 := hp (k + 1) (by omega)
              have hle := pl_le (A := A) (b := b) (k := k) (p := k + 1) h1 h2 (by omega) (hb _ (by omega))
              refine ws_aload_0 68 rfl rfl ?_
              refine ws_getfr 71 rfl rfl rfl rfl rfl ?_
              refine ws_iload_2 72 rfl rfl ?_
              refine ws_iconst 73 rfl rfl kc_i1 ?_
              refine ws_iadd 74 rfl rfl (nI_add _ _) ?_
              refine ws_dup2 75 rfl rfl rfl rfl ?_
              refine ws_ialdn 76 rfl rfl rfl (by omega) (by omega) hp1 ?_
              refine ws_bipush 78 rfl rfl kc_b10 ?_
              refine ws_iadd 79 rfl rfl (nI_add _ _) ?_
              refine ws_iastn 80 rfl rfl rfl (by omega) (by omega) ?_
              refine ws_iinc_2 83 rfl rfl (ki_1 _) rfl rfl ?_
              refine ws_goto 2 rfl rfl ?_
              refine ih (k + 1) _ _ (by omega) (hA _ _) (fun p hp5 => ?_)
              show upd (I' 16) (k + 1) _ p = _
              rw [pl_step, hl]
              by_cases e : p = k + 1
              · subst e
                rw [pk_us, if_neg (by omega), if_pos (by omega)]
              · rw [pk_un e, hp p hp5, if_neg (by omega), if_neg (by omega)]
                rfl
        · refine ws_iload_2 38 rfl rfl ?_
          refine ws_if_len 57 41 rfl rfl rfl (by omega) (fun g2 => ?_) (fun g2 => ?_)
          · refine ws_iload_3 58 rfl rfl ?_
            refine ws_iconst 59 rfl rfl kc_i2 ?_
            refine ws_icmp_nen 80 62 rfl rfl rfl (by omega) (by omega) (fun h9 => ?_) (fun h9 => absurd h9 (by omega))
            refine ws_iinc_2 83 rfl rfl (ki_1 _) rfl rfl ?_
            refine ws_goto 2 rfl rfl ?_
            exact ih (k + 1) I' _ (by omega) hf (fun p hp5 => by rw [hp p hp5, pl_step, hl, if_neg (by omega), if_neg (by omega)]; rfl)
          · have hp1 := hp (k - 1) (by omega)
            have hle := pl_le (A := A) (b := b) (k := k) (p := k - 1) h1 h2 (by omega) (hb _ (by omega))
            refine ws_aload_0 42 rfl rfl ?_
            refine ws_getfr 45 rfl rfl rfl rfl rfl ?_
            refine ws_iload_2 46 rfl rfl ?_
            refine ws_iconst 47 rfl rfl kc_i1 ?_
            refine ws_isub 48 rfl rfl (pk_sub (by omega)) ?_
            refine ws_dup2 49 rfl rfl rfl rfl ?_
            refine ws_ialdn 50 rfl rfl rfl (by omega) (by omega) hp1 ?_
            refine ws_bipush 52 rfl rfl kc_b10 ?_
            refine ws_iadd 53 rfl rfl (nI_add _ _) ?_
            refine ws_iastn 54 rfl rfl rfl (by omega) (by omega) ?_
            refine ws_goto 80 rfl rfl ?_
            refine ws_iinc_2 83 rfl rfl (ki_1 _) rfl rfl ?_
            refine ws_goto 2 rfl rfl ?_
            refine ih (k + 1) _ _ (by omega) (hA _ _) (fun p hp5 => ?_)
            show upd (I' 16) (k - 1) _ p = _
            rw [pl_step, hl]
            by_cases e : p = k - 1
            · subst e
              rw [pk_us, if_pos (by omega), if_neg (by omega)]
            · rw [pk_un e, hp p hp5, if_neg (by omega), if_neg (by omega)]
              rfl
  exact loop 5 0 I _ rfl (fun _ _ => rfl) (fun p hp5 => by rw [hpb p hp5, pl_0])
theorem c_standBefore (c : Nat) (hc : c ≠ 16) (hc2 : c ≠ 15) (hS : (xC0 ++ T)[c]? = some (.inl (.int, 5))) (hTh : ∀ j, j < 15 → I 6 j = nI (A 0 j)) (hLi : ∀ j, j < 5 → I 7 j = nI (A 1 j)) (h1 : ∀ j, j < 5 → A 0 j ≤ 9) (h2 : ∀ j, j < 5 → A 1 j ≤ 9) (h3 : ∀ j, j < 15 → A 0 j ≤ 99) (hb : ∀ p, p < 5 → b p ≤ 5) (hrow : ∀ p, p < 5 → I c p = rw6 (b p)) :
    xC E 3 16 [.ref 14, .ref c] (xC0 ++ T, I, L) (fun r t => r = none ∧ ∃ I', t = (xC0 ++ T, I', L) ∧ (∀ a, a ≠ 15 → a ≠ 16 → I' a = I a) ∧ (∀ p, p < 5 → I' 15 p = nI (bt b p)) ∧ ∀ p, p < 5 → I' 16 p = nI (dz A b p)) := by
  refine xC.mk [some (.ref 14), some (.ref c), none, none, none] rfl ?_
  refine ws_iconst 1 rfl rfl kc_i0 ?_
  refine ws_istore_2 2 rfl rfl rfl rfl ?_
  refine ws_iconst 3 rfl rfl kc_i0 ?_
  refine ws_istore_3 4 rfl rfl rfl rfl ?_
  have loop2 : ∀ (m k : Nat) (I' : Nat → Nat → Int32), k + m = 5 → (∀ a, a ≠ 15 → a ≠ 16 → I' a = I a) → (∀ p, p < 5 → I' 15 p = nI (bt b p)) → (∀ p, p < k → I' 16 p = nI (dz A b p)) → (∀ p, k ≤ p → p < 5 → I' 16 p = nI (pl A b 5 p)) → xW E 3 16 111 [some (.ref 14), some (.ref c), some (.int (nI (cn b 5))), some (.int (nI (3 * (cn b 5 - 3)))), some (.int (nI k))] [] (xC0 ++ T, I', L) 0 0 (fun r t => r = none ∧ ∃ I', t = (xC0 ++ T, I', L) ∧ (∀ a, a ≠ 15 → a ≠ 16 → I' a = I a) ∧ (∀ p, p < 5 → I' 15 p = nI (bt b p)) ∧ ∀ p, p < 5 → I' 16 p = nI (dz A b p)) := by
    intro m
    induction m with
    | zero =>
      intro k I' hk hf hbt hp hq
      obtain rfl : k = 5 := by omega
      refine ws_iload_4 113 rfl rfl ?_
      refine ws_iconst 114 rfl rfl kc_i5 ?_
      refine ws_icmp_gen 157 117 rfl rfl rfl (by omega) (by omega) (fun h9 => ?_) (fun h9 => absurd h9 (by omega))
      refine ws_vret rfl rfl rfl (Nat.le_of_ble_eq_true rfl) ?_
      exact ⟨rfl, I', rfl, hf, hbt, hp⟩
    | succ m ih =>
      intro k I' hk hf hbt hp hq
      have hk5 : k < 5 := by omega
      have hA : ∀ (q : Nat) (y : Int32) (a : Nat), a ≠ 15 → a ≠ 16 → wI I' 16 q y a = I a := fun q y a ha ha2 => by rw [wI_ne ha2]; exact hf a ha ha2
      have hcn := cn_le b 5
      by_cases hb0 : b k = 0
      · have e1 : I' 15 k = nI 0 := by rw [hbt k hk5, bt_0 hb0]
        refine ws_iload_4 113 rfl rfl ?_
        refine ws_iconst 114 rfl rfl kc_i5 ?_
        refine ws_icmp_gen 157 117 rfl rfl rfl (by omega) (by omega) (fun h9 => absurd h9 (by omega)) (fun h9 => ?_)
        refine ws_aload_0 118 rfl rfl ?_
        refine ws_getfr 121 rfl rfl rfl rfl rfl ?_
        refine ws_iload_4 123 rfl rfl ?_
        refine ws_aload_0 124 rfl rfl ?_
        refine ws_getfr 127 rfl rfl rfl rfl rfl ?_
        refine ws_iload_4 129 rfl rfl ?_
        refine ws_ialdn 130 rfl rfl rfl (by omega) (by omega) e1 ?_
        refine ws_if_nen 137 133 rfl rfl rfl (by omega) (fun h9 => absurd h9 (by omega)) (fun h9 => ?_)
        refine ws_iconst 134 rfl rfl kc_i0 ?_
        refine ws_goto 150 rfl rfl ?_
        refine ws_iastn 151 rfl rfl rfl (by omega) (by omega) ?_
        refine ws_iinc_4 154 rfl rfl (ki_1 _) rfl rfl ?_
        refine ws_goto 111 rfl rfl ?_
        refine ih (k + 1) _ (by omega) (hA _ _) hbt (fl hp (by unfold dz; rw [if_pos hb0])) (fun p hp1 hp5 => ?_)
        show upd (I' 16) k _ p = _
        rw [pk_un (by omega)]
        exact hq p (by omega) hp5
      · have hd := hb k hk5
        obtain ⟨w1, w2⟩ := pw5 (b k - 1) (by omega)
        have e1 : I' 15 k = nI (2 ^ (b k - 1)) := by rw [hbt k hk5, bt_1 hb0]
        have e2 := hq k (by omega) hk5
        have hle := pl_le (A := A) (b := b) (k := 5) (p := k) h1 h2 (by omega) (hb _ (by omega))
        generalize hw : 2 ^ (b k - 1) = w at *
        refine ws_iload_4 113 rfl rfl ?_
        refine ws_iconst 114 rfl rfl kc_i5 ?_
        refine ws_icmp_gen 157 117 rfl rfl rfl (by omega) (by omega) (fun h9 => absurd h9 (by omega)) (fun h9 => ?_)
        refine ws_aload_0 118 rfl rfl ?_
        refine ws_getfr 121 rfl rfl rfl rfl rfl ?_
        refine ws_iload_4 123 rfl rfl ?_
        refine ws_aload_0 124 rfl rfl ?_
        refine ws_getfr 127 rfl rfl rfl rfl rfl ?_
        refine ws_iload_4 129 rfl rfl ?_
        refine ws_ialdn 130 rfl rfl rfl (by omega) (by omega) e1 ?_
        refine ws_if_nen 137 133 rfl rfl rfl (by omega) (fun h9 => ?_) (fun h9 => absurd h9 (by omega))
        refine ws_iconst 138 rfl rfl kc_i1 ?_
        refine ws_aload_0 139 rfl rfl ?_
        refine ws_getfr 142 rfl rfl rfl rfl rfl ?_
        refine ws_iload_4 144 rfl rfl ?_
        refine ws_ialdn 145 rfl rfl rfl (by omega) (by omega) e2 ?_
        refine ws_iload_3 146 rfl rfl ?_
        refine ws_isub 147 rfl rfl rfl ?_
        refine ws_invS2p 150 rfl rfl rfl (p_maxsub _ _ _ (by omega) (by omega) (by omega)) rfl rfl rfl ?_
        refine ws_iastn 151 rfl rfl rfl (by omega) (by omega) ?_
        refine ws_iinc_4 154 rfl rfl (ki_1 _) rfl rfl ?_
        refine ws_goto 111 rfl rfl ?_
        refine ih (k + 1) _ (by omega) (hA _ _) hbt (fl hp (by unfold dz; rw [if_neg hb0])) (fun p hp1 hp5 => ?_)
        show upd (I' 16) k _ p = _
        rw [pk_un (by omega)]
        exact hq p (by omega) hp5
  have loop1 : ∀ (m k : Nat) (I' : Nat → Nat → Int32) (z : Option Value), xcat (z.getD .null) = false → k + m = 5 → (∀ a, a ≠ 15 → a ≠ 16 → I' a = I a) → (∀ p, p < k → I' 15 p = nI (bt b p)) → (∀ p, p < k → I' 16 p = nI (pb A b p)) → xW E 3 16 4 [some (.ref 14), some (.ref c), some (.int (nI (cn b k))), some (.int (nI k)), z] [] (xC0 ++ T, I', L) 0 0 (fun r t => r = none ∧ ∃ I', t = (xC0 ++ T, I', L) ∧ (∀ a, a ≠ 15 → a ≠ 16 → I' a = I a) ∧ (∀ p, p < 5 → I' 15 p = nI (bt b p)) ∧ ∀ p, p < 5 → I' 16 p = nI (dz A b p)) := by
    intro m
    induction m with
    | zero =>
      intro k I' z hz hk hf hbt hp
      obtain rfl : k = 5 := by omega
      have hcn := cn_le b 5
      have hm : max 0 (cn b 5 - 3) = cn b 5 - 3 := by omega
      refine ws_iload_3 5 rfl rfl ?_
      refine ws_iconst 6 rfl rfl kc_i5 ?_
      refine ws_icmp_gen 93 9 rfl rfl rfl (by omega) (by omega) (fun h9 => ?_) (fun h9 => absurd h9 (by omega))
      refine ws_iconst 94 rfl rfl kc_i3 ?_
      refine ws_iconst 95 rfl rfl kc_i0 ?_
      refine ws_iload_2 96 rfl rfl ?_
      refine ws_iconst 97 rfl rfl kc_i3 ?_
      refine ws_isub 98 rfl rfl rfl ?_
      refine ws_invS2p 101 rfl rfl rfl (p_maxsub _ _ _ (by omega) (by omega) (by omega)) rfl rfl rfl ?_
      refine ws_imul 102 rfl rfl (pk_mul _ _) ?_
      refine ws_istore_3 103 rfl rfl rfl rfl ?_
      refine ws_aload_0 104 rfl rfl ?_
      refine ws_aload_1 105 rfl rfl ?_
      refine ws_invV1 108 rfl rfl rfl rfl (c_lookBeside c hc hS (fun j hj => by rw [hf 6 (by decide) (by decide)]; exact hTh j hj) h1 h2 h3 hb (fun p hp5 => by rw [hf c hc2 hc]; exact hrow p hp5) hbt hp) rfl rfl rfl ?_
      rintro _ _ ⟨rfl, I2, rfl, hf2, hp2⟩
      rw [hm]
      refine ws_iconst 109 rfl rfl kc_i0 ?_
      refine ws_istore_4 111 rfl rfl rfl rfl ?_
      exact loop2 5 0 I2 rfl (fun a ha ha2 => by rw [hf2 a ha2]; exact hf a ha ha2) (fun p hp5 => by rw [hf2 15 (by decide)]; exact hbt p hp5) (fun p hp5 => by omega) (fun p _ hp5 => hp2 p hp5)
    | succ m ih =>
      intro k I' z hz hk hf hbt hp
      have hk5 : k < 5 := by omega
      have hA : ∀ (q q2 : Nat) (y y2 : Int32) (a : Nat), a ≠ 15 → a ≠ 16 → wI (wI I' 15 q y) 16 q2 y2 a = I a := fun q q2 y y2 a ha ha2 => by rw [wI_ne ha2, wI_ne ha]; exact hf a ha ha2
      have hcn := cn_le b k
      by_cases hb0 : b k = 0
      · have e1 : I' c k = -6 := by rw [hf c hc2 hc, hrow k hk5, rw6_0 hb0]
        have e9 : cn b (k + 1) = cn b k + 0 := by show cn b k + (if b k = 0 then 0 else 1) = _; rw [if_pos hb0]
        refine ws_iload_3 5 rfl rfl ?_
        refine ws_iconst 6 rfl rfl kc_i5 ?_
        refine ws_icmp_gen 93 9 rfl rfl rfl (by omega) (by omega) (fun h9 => absurd h9 (by omega)) (fun h9 => ?_)
        refine ws_aload_1 10 rfl rfl ?_
        refine ws_iload_3 11 rfl rfl ?_
        refine ws_ialdn 12 rfl rfl hS (by omega) (by omega) e1 ?_
        refine ws_iconst 13 rfl rfl kc_i5 ?_
        refine ws_invSN2p 16 rfl rfl rfl (p_below5f) rfl rfl rfl ?_
        refine ws_istore_4 18 rfl rfl rfl rfl ?_
        refine ws_aload_0 19 rfl rfl ?_
        refine ws_getfr 22 rfl rfl rfl rfl rfl ?_
        refine ws_iload_3 23 rfl rfl ?_
        refine ws_iload_4 25 rfl rfl ?_
        refine ws_if_eqb 36 28 rfl rfl rfl (fun h9 => ?_) (fun h9 => absurd h9 (by first | decide | simp_all))
        refine ws_iconst 37 rfl rfl kc_i0 ?_
        refine ws_iastn 38 rfl rfl rfl (by omega) (by omega) ?_
        refine ws_aload_0 39 rfl rfl ?_
        refine ws_getfr 42 rfl rfl rfl rfl rfl ?_
        refine ws_iload_3 43 rfl rfl ?_
        refine ws_iload_4 45 rfl rfl ?_
        refine ws_if_eqb 72 48 rfl rfl rfl (fun h9 => ?_) (fun h9 => absurd h9 (by first | decide | simp_all))
        refine ws_iconst 73 rfl rfl kc_i0 ?_
        refine ws_iastn 74 rfl rfl rfl (by omega) (by omega) ?_
        refine ws_iload_2 75 rfl rfl ?_
        refine ws_iload_4 77 rfl rfl ?_
        refine ws_if_eqb 84 80 rfl rfl rfl (fun h9 => ?_) (fun h9 => absurd h9 (by first | decide | simp_all))
        refine ws_iconst 85 rfl rfl kc_i0 ?_
        refine ws_iadd 86 rfl rfl (nI_add _ _) ?_
        refine ws_istore_2 87 rfl rfl rfl rfl ?_
        refine ws_iinc_3 90 rfl rfl (ki_1 _) rfl rfl ?_
        refine ws_goto 4 rfl rfl ?_
        rw [← e9]; exact ih (k + 1) _ _ rfl (by omega) (hA _ _ _ _) (fl hbt (by rw [bt_0 hb0])) (fl hp (by unfold pb; rw [if_pos hb0]))
      · have hd := hb k hk5
        have hd1 : b k - 1 < 5 := by omega
        obtain ⟨w1, w2⟩ := pw5 (b k - 1) hd1
        have e1 : I' c k = nI (b k - 1) := by rw [hf c hc2 hc, hrow k hk5, rw6_1 hb0]
        have e9 : cn b (k + 1) = cn b k + 1 := by show cn b k + (if b k = 0 then 0 else 1) = _; rw [if_neg hb0]
        have ha9 := h1 (b k - 1) hd1
        have hl9 := h2 k hk5
        have hTh2 : ∀ (q : Nat) (y : Int32) (j : Nat), j < 15 → wI I' 15 q y 6 j = nI (A 0 j) := fun q y j hj => by rw [wI_ne (by decide), hf 6 (by decide) (by decide)]; exact hTh j hj
        have hLi2 : ∀ (q : Nat) (y : Int32), wI I' 15 q y 7 k = nI (A 1 k) := fun q y => by rw [wI_ne (by decide), hf 7 (by decide) (by decide)]; exact hLi k hk5
        have e2 : ∀ (q : Nat) (y : Int32), wI I' 15 q y c k = nI (b k - 1) := fun q y => by rw [wI_ne hc2]; exact e1
        refine ws_iload_3 5 rfl rfl ?_
        refine ws_iconst 6 rfl rfl kc_i5 ?_
        refine ws_icmp_gen 93 9 rfl rfl rfl (by omega) (by omega) (fun h9 => absurd h9 (by omega)) (fun h9 => ?_)
        refine ws_aload_1 10 rfl rfl ?_
        refine ws_iload_3 11 rfl rfl ?_
        refine ws_ialdn 12 rfl rfl hS (by omega) (by omega) e1 ?_
        refine ws_iconst 13 rfl rfl kc_i5 ?_
        refine ws_invSN2p 16 rfl rfl rfl (p_below5t _ hd1) rfl rfl rfl ?_
        refine ws_istore_4 18 rfl rfl rfl rfl ?_
        refine ws_aload_0 19 rfl rfl ?_
        refine ws_getfr 22 rfl rfl rfl rfl rfl ?_
        refine ws_iload_3 23 rfl rfl ?_
        refine ws_iload_4 25 rfl rfl ?_
        refine ws_if_eqb 36 28 rfl rfl rfl (fun h9 => absurd h9 (by first | decide | simp_all)) (fun h9 => ?_)
        refine ws_iconst 29 rfl rfl kc_i1 ?_
        refine ws_aload_1 30 rfl rfl ?_
        refine ws_iload_3 31 rfl rfl ?_
        refine ws_ialdn 32 rfl rfl hS (by omega) (by omega) e1 ?_
        refine ws_ishl 33 rfl rfl (kn_shl (by omega) (by omega)) ?_
        refine ws_goto 37 rfl rfl ?_
        refine ws_iastn 38 rfl rfl rfl (by omega) (by omega) ?_
        refine ws_aload_0 39 rfl rfl ?_
        refine ws_getfr 42 rfl rfl rfl rfl rfl ?_
        refine ws_iload_3 43 rfl rfl ?_
        refine ws_iload_4 45 rfl rfl ?_
        refine ws_if_eqb 72 48 rfl rfl rfl (fun h9 => absurd h9 (by first | decide | simp_all)) (fun h9 => ?_)
        refine ws_aload_0 49 rfl rfl ?_
        refine ws_getfr 52 rfl rfl rfl rfl rfl ?_
        refine ws_aload_1 53 rfl rfl ?_
        refine ws_iload_3 54 rfl rfl ?_
        refine ws_ialdn 55 rfl rfl hS (by omega) (by omega) (e2 _ _) ?_
        refine ws_iconst 56 rfl rfl kc_i0 ?_
        refine ws_invV2p 59 rfl rfl rfl rfl (c_trait (hTh2 _ _) _ _ hd1 (by omega)) rfl rfl rfl ?_
        refine ws_aload_0 60 rfl rfl ?_
        refine ws_getfr 63 rfl rfl rfl rfl rfl ?_
        refine ws_getfr 66 rfl rfl rfl rfl rfl ?_
        refine ws_iload_3 67 rfl rfl ?_
        refine ws_ialdn 68 rfl rfl rfl (by omega) (by omega) (hLi2 _ _) ?_
        refine ws_imul 69 rfl rfl (pk_mul _ _) ?_
        refine ws_goto 73 rfl rfl ?_
        refine ws_iastn 74 rfl rfl rfl (by omega) (by omega) ?_
        refine ws_iload_2 75 rfl rfl ?_
        refine ws_iload_4 77 rfl rfl ?_
        refine ws_if_eqb 84 80 rfl rfl rfl (fun h9 => absurd h9 (by first | decide | simp_all)) (fun h9 => ?_)
        refine ws_iconst 81 rfl rfl kc_i1 ?_
        refine ws_goto 85 rfl rfl ?_
        refine ws_iadd 86 rfl rfl (nI_add _ _) ?_
        refine ws_istore_2 87 rfl rfl rfl rfl ?_
        refine ws_iinc_3 90 rfl rfl (ki_1 _) rfl rfl ?_
        refine ws_goto 4 rfl rfl ?_
        rw [← e9]; exact ih (k + 1) _ _ rfl (by omega) (hA _ _ _ _) (fl hbt (by rw [bt_1 hb0, Nat.one_mul])) (fl hp (by unfold pb; rw [if_neg hb0, Nat.zero_mul, Nat.zero_add]))
  exact loop1 5 0 I none rfl rfl (fun _ _ _ => rfl) (fun _ h => by omega) (fun _ h => by omega)
theorem c_pullOn (p n : Nat) (hp : p < 5) (hn : n < 100) (h1 : ∀ j, j < 5 → A 0 j ≤ 9) (h2 : ∀ j, j < 5 → A 1 j ≤ 9) (hb : b p ≤ 5) (hdz : I 16 p = nI (dz A b p)) :
    xC E 2 18 [.ref 14, .int (nI p), .int (nI n)] (xC0 ++ T, I, L) (rV (.int (nI (dw A b p n))) (xC0 ++ T, I, L)) := by
  refine xC.mk [some (.ref 14), some (.int (nI p)), some (.int (nI n)), none] rfl ?_
  have hle := dz_le h1 h2 hp hb
  have hm : max 1 (1 + n) = 1 + n := by omega
  refine ws_iconst 1 rfl rfl kc_i1 ?_
  refine ws_iconst 2 rfl rfl kc_i1 ?_
  refine ws_iload_2 3 rfl rfl ?_
  refine ws_iadd 4 rfl rfl (nI_add _ _) ?_
  refine ws_invS2p 7 rfl rfl rfl (p_maxn _ _ (by omega) (by omega)) rfl rfl rfl ?_
  rw [hm]
  by_cases hb0 : b p = 0
  · have e : dz A b p = 0 := if_pos hb0
    rw [e] at hdz
    refine ws_istore_3 8 rfl rfl rfl rfl ?_
    refine ws_aload_0 9 rfl rfl ?_
    refine ws_getfr 12 rfl rfl rfl rfl rfl ?_
    refine ws_iload_1 13 rfl rfl ?_
    refine ws_ialdn 14 rfl rfl rfl (by omega) (by omega) hdz ?_
    refine ws_if_nen 21 17 rfl rfl rfl (by omega) (fun h9 => absurd h9 (by omega)) (fun h9 => ?_)
    refine ws_iconst 18 rfl rfl kc_i0 ?_
    refine ws_goto 33 rfl rfl ?_
    refine ws_iret rfl rfl rfl (Nat.le_of_ble_eq_true rfl) ?_
    exact ⟨by unfold dw; rw [if_pos hb0], rfl⟩
  · have e := dz_pos (A := A) hb0
    have hq := Nat.div_le_self (dz A b p) (1 + n)
    refine ws_istore_3 8 rfl rfl rfl rfl ?_
    refine ws_aload_0 9 rfl rfl ?_
    refine ws_getfr 12 rfl rfl rfl rfl rfl ?_
    refine ws_iload_1 13 rfl rfl ?_
    refine ws_ialdn 14 rfl rfl rfl (by omega) (by omega) hdz ?_
    refine ws_if_nen 21 17 rfl rfl rfl (by omega) (fun h9 => ?_) (fun h9 => absurd h9 (by omega))
    refine ws_iconst 22 rfl rfl kc_i1 ?_
    refine ws_aload_0 23 rfl rfl ?_
    refine ws_getfr 26 rfl rfl rfl rfl rfl ?_
    refine ws_iload_1 27 rfl rfl ?_
    refine ws_ialdn 28 rfl rfl rfl (by omega) (by omega) hdz ?_
    refine ws_iload_3 29 rfl rfl ?_
    refine ws_idiv 30 rfl rfl (kn_ne0 (by omega) (by omega)) (pk_div (by omega) (by omega) (by omega)) ?_
    refine ws_invS2p 33 rfl rfl rfl (p_maxn _ _ (by omega) (by omega)) rfl rfl rfl ?_
    refine ws_iret rfl rfl rfl (Nat.le_of_ble_eq_true rfl) ?_
    exact ⟨by unfold dw; rw [if_neg hb0], rfl⟩
end DRAWS
