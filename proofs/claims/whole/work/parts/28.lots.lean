/-! ===== the lottery ===== -/
def sm (C : Nat → Nat) (s : Nat) : Nat → Nat
  | 0 => 0
  | k + 1 => sm C s k + s / 2 ^ k % 2 * C k
theorem sm_le {C : Nat → Nat} (hC : ∀ j, j < 11 → C j ≤ 999) (s : Nat) : ∀ k, k ≤ 11 → sm C s k ≤ 999 * k
  | 0, _ => Nat.le_refl 0
  | k + 1, hk => by
    have h1 := sm_le hC s k (by omega)
    have h2 := hC k (by omega)
    show sm C s k + s / 2 ^ k % 2 * C k ≤ _
    rcases (show s / 2 ^ k % 2 = 0 ∨ s / 2 ^ k % 2 = 1 by omega) with e | e <;> rw [e] <;> omega
/-- how many below k -/
def ct (P : Nat → Bool) : Nat → Nat
  | 0 => 0
  | k + 1 => ct P k + (bif P k then 1 else 0)
theorem ct_le (P : Nat → Bool) : ∀ k, ct P k ≤ k
  | 0 => Nat.le_refl 0
  | k + 1 => by
    have := ct_le P k
    show ct P k + _ ≤ _
    cases P k <;> simp <;> omega
theorem ct_pos {P : Nat → Bool} {i : Nat} (hi : P i = true) : ∀ k, i < k → 1 ≤ ct P k
  | 0, h => by omega
  | k + 1, h => by
    show 1 ≤ ct P k + _
    rcases Nat.lt_or_ge i k with q | q
    · have := ct_pos hi k q
      omega
    · have : i = k := by omega
      rw [← this, hi]
      simp
def eq1 (M s : Nat) : Bool := decide (pop 11 s = pop 11 M)
def eq2 (C : Nat → Nat) (M s : Nat) : Bool := decide (pop 11 s = pop 11 M) && decide (sm C M 11 ≤ sm C s 11)
def lAll (M : Nat) : Nat := ct (eq1 M) 2048
def lUp (C : Nat → Nat) (M : Nat) : Nat := ct (eq2 C M) 2048
def gf : Nat → Nat → Nat → Nat
  | 0, x, _ => x
  | m + 1, x, y => if y = 0 then x else gf m y (x % y)
theorem gcd_st (x y : Nat) : Nat.gcd x y = Nat.gcd y (x % y) := by
  rw [Nat.gcd_comm x y, Nat.gcd_rec y x, Nat.gcd_comm]
theorem gf_gcd : ∀ (k m x y : Nat), y < 2 ^ k → 2 * k ≤ m → gf m x y = Nat.gcd x y
  | 0, m, x, y, hy, _ => by
    have : y = 0 := by
      have : y < 1 := hy
      omega
    subst this
    rw [Nat.gcd_zero_right]
    cases m <;> simp [gf]
  | k + 1, 0, x, y, hy, hm => by omega
  | k + 1, 1, x, y, hy, hm => by omega
  | k + 1, m + 2, x, y, hy, hm => by
    rw [gf]
    by_cases h0 : y = 0
    · rw [if_pos h0, h0, Nat.gcd_zero_right]
    · rw [if_neg h0, gf, gcd_st x y]
      have h1 := Nat.mod_lt x (show 0 < y by omega)
      by_cases h2 : x % y = 0
      · rw [if_pos h2, h2, Nat.gcd_zero_right]
      · rw [if_neg h2, gcd_st y (x % y)]
        refine gf_gcd k m _ _ ?_ (by omega)
        have h3 := Nat.mod_lt y (show 0 < x % y by omega)
        have h4 : y % (x % y) ≤ y - x % y := by
          rw [Nat.mod_eq_sub_mod (by omega)]
          exact Nat.mod_le _ _
        rw [Nat.pow_succ] at hy
        omega
theorem p_commonDivisor (x y : Nat) (hx : x < 4096) (hy : y < 4096) : xP 1 3 [.int (nI x), .int (nI y)] (.int (nI (Nat.gcd x y))) := by
  intro E σ
  refine xC.mk [some (.int (nI x)), some (.int (nI y)), none, none, none, none] rfl ?_
  rw [← gf_gcd 12 64 x y hy (by omega)]
  have loop : ∀ (m i u v : Nat) (z5 : Option Value), i + m = 64 → u < 4096 → v < 4096 → gf 64 x y = gf m u v → xW E 1 3 7 [some (.int (nI x)), some (.int (nI y)), some (.int (nI u)), some (.int (nI v)), some (.int (nI i)), z5] [] σ 0 0 (fun r t => r = some (.int (nI (gf 64 x y))) ∧ t = σ) := by
    intro m
    induction m with
    | zero =>
      intro i u v z5 hi hu hv he
      rw [he]
      refine ws_iload_4 9 rfl rfl ?_
      refine ws_bipush 11 rfl rfl kc_b64 ?_
      refine ws_icmp_gen 34 14 rfl rfl rfl (by omega) (by omega) (fun h9 => ?_) (fun h9 => absurd h9 (by omega))
      refine ws_iload_2 35 rfl rfl ?_
      refine ws_iret rfl rfl rfl (Nat.le_of_ble_eq_true rfl) ?_
      exact ⟨rfl, rfl⟩
    | succ m ih =>
      intro i u v z5 hi hu hv he
      have e : gf (m + 1) u v = if v = 0 then u else gf m v (u % v) := rfl
      refine ws_iload_4 9 rfl rfl ?_
      refine ws_bipush 11 rfl rfl kc_b64 ?_
      refine ws_icmp_gen 34 14 rfl rfl rfl (by omega) (by omega) (fun h9 => absurd h9 (by omega)) (fun h9 => ?_)
      refine ws_iload_3 15 rfl rfl ?_
      refine ws_if_len 34 18 rfl rfl rfl (by omega) (fun c1 => ?_) (fun c1 => ?_)
      · rw [e, if_pos (by omega)] at he
        rw [he]
        refine ws_iload_2 35 rfl rfl ?_
        refine ws_iret rfl rfl rfl (Nat.le_of_ble_eq_true rfl) ?_
        exact ⟨rfl, rfl⟩
      · rw [e, if_neg (by omega)] at he
        have hr := Nat.mod_lt u (show 0 < v by omega)
        refine ws_iload_2 19 rfl rfl ?_
        refine ws_iload_3 20 rfl rfl ?_
        refine ws_irem 21 rfl rfl (kn_ne0 (by omega) (by omega)) (pk_rem (by omega) (by omega) (by omega)) ?_
        refine ws_istore_5 23 rfl rfl rfl rfl ?_
        refine ws_iload_3 24 rfl rfl ?_
        refine ws_istore_2 25 rfl rfl rfl rfl ?_
        refine ws_iload_5 27 rfl rfl ?_
        refine ws_istore_3 28 rfl rfl rfl rfl ?_
        refine ws_iinc_4 31 rfl rfl (ki_1 _) rfl rfl ?_
        refine ws_goto 7 rfl rfl ?_
        exact ih (i + 1) v (u % v) _ (by omega) hv (by omega) he
  refine ws_iload_0 1 rfl rfl ?_
  refine ws_istore_2 2 rfl rfl rfl rfl ?_
  refine ws_iload_1 3 rfl rfl ?_
  refine ws_istore_3 4 rfl rfl rfl rfl ?_
  refine ws_iconst 5 rfl rfl kc_i0 ?_
  refine ws_istore_4 7 rfl rfl rfl rfl ?_
  exact loop 64 0 x y _ rfl hx hy rfl
section LOT
variable {E : xEx} {T : List xSh} {I : Nat → Nat → Int32} {L : Nat → Nat → Int64} {C : Nat → Nat} {M : Nat}
theorem c_sumOf (s : Nat) (hs : s < 2048) (hC : ∀ j, j < 11 → C j ≤ 999) (h11 : ∀ j, j < 11 → I 11 j = nI (C j)) : xC E 1 2 [.ref 11, .int (nI s)] (xC0 ++ T, I, L) (rV (.int (nI (sm C s 11))) (xC0 ++ T, I, L)) := by
  refine xC.mk [some (.ref 11), some (.int (nI s)), none, none] rfl ?_
  have loop : ∀ (m k : Nat), k + m = 11 → xW E 1 2 4 [some (.ref 11), some (.int (nI s)), some (.int (nI (sm C s k))), some (.int (nI k))] [] (xC0 ++ T, I, L) 0 0 (rV (.int (nI (sm C s 11))) (xC0 ++ T, I, L)) := by
    intro m
    induction m with
    | zero =>
      intro k hk
      obtain rfl : k = 11 := by omega
      refine ws_iload_3 5 rfl rfl ?_
      refine ws_bipush 7 rfl rfl kc_b11 ?_
      refine ws_icmp_gen 31 10 rfl rfl rfl (by omega) (by omega) (fun h9 => ?_) (fun h9 => absurd h9 (by omega))
      refine ws_iload_2 32 rfl rfl ?_
      refine ws_iret rfl rfl rfl (Nat.le_of_ble_eq_true rfl) ?_
      exact ⟨rfl, rfl⟩
    | succ m ih =>
      intro k hk
      have hk11 : k < 11 := by omega
      have h11k := h11 k hk11
      have e : nI (s / 2 ^ k) &&& nI 1 = nI (s / 2 ^ k % 2) := by rw [kn_and, Nat.and_one_is_mod]
      have e2 : sm C s (k + 1) = sm C s k + s / 2 ^ k % 2 * C k := rfl
      have ih' := ih (k + 1) (by omega)
      rw [e2] at ih'
      refine ws_iload_3 5 rfl rfl ?_
      refine ws_bipush 7 rfl rfl kc_b11 ?_
      refine ws_icmp_gen 31 10 rfl rfl rfl (by omega) (by omega) (fun h9 => absurd h9 (by omega)) (fun h9 => ?_)
      refine ws_iload_1 11 rfl rfl ?_
      refine ws_iload_3 12 rfl rfl ?_
      refine ws_ishr 13 rfl rfl (kn_shr (by omega) (by omega)) ?_
      refine ws_iconst 14 rfl rfl kc_i1 ?_
      refine ws_iand 15 rfl rfl e ?_
      refine ws_iconst 16 rfl rfl kc_i1 ?_
      refine ws_icmp_nen 25 19 rfl rfl rfl (by omega) (by omega) (fun c1 => ?_) (fun c1 => ?_)
      · rw [show s / 2 ^ k % 2 = 0 by omega, Nat.zero_mul, Nat.add_zero] at ih'
        refine ws_iinc_3 28 rfl rfl (ki_1 _) rfl rfl ?_
        refine ws_goto 4 rfl rfl ?_
        exact ih'
      · rw [show s / 2 ^ k % 2 = 1 by omega, Nat.one_mul] at ih'
        refine ws_iload_2 20 rfl rfl ?_
        refine ws_aload_0 21 rfl rfl ?_
        refine ws_iload_3 22 rfl rfl ?_
        refine ws_ialdn 23 rfl rfl rfl (by omega) (by omega) h11k ?_
        refine ws_iadd 24 rfl rfl (nI_add _ _) ?_
        refine ws_istore_2 25 rfl rfl rfl rfl ?_
        refine ws_iinc_3 28 rfl rfl (ki_1 _) rfl rfl ?_
        refine ws_goto 4 rfl rfl ?_
        exact ih'
  refine ws_iconst 1 rfl rfl kc_i0 ?_
  refine ws_istore_2 2 rfl rfl rfl rfl ?_
  refine ws_iconst 3 rfl rfl kc_i0 ?_
  refine ws_istore_3 4 rfl rfl rfl rfl ?_
  exact loop 11 0 rfl
theorem c_draw (hM : M < 2048) (hC : ∀ j, j < 11 → C j ≤ 999) (h11 : ∀ j, j < 11 → I 11 j = nI (C j)) : xC E 2 1 [.ref 26, .ref 11, .int (nI M)] (xC0 ++ T, I, L) (fun r t => r = none ∧ ∃ L', t = (xC0 ++ T, I, L') ∧ (∀ a, a ≠ 26 → L' a = L a) ∧ L' 26 0 = lN (lUp C M / Nat.gcd (lUp C M) (lAll M)) ∧ L' 26 1 = lN (lAll M / Nat.gcd (lUp C M) (lAll M))) := by
  refine xC.mk [some (.ref 26), some (.ref 11), some (.int (nI M)), none, none, none, none, none] rfl ?_
  have hpM := pop_le 11 M
  have hsM := sm_le hC M 11 (by omega)
  have h1 : 1 ≤ lAll M := ct_pos (i := M) (by unfold eq1; simp) 2048 hM
  have h2 := ct_le (eq1 M) 2048
  have h3 := ct_le (eq2 C M) 2048
  have eA : lAll M = ct (eq1 M) 2048 := rfl
  have eU : lUp C M = ct (eq2 C M) 2048 := rfl
  have hg : 0 < Nat.gcd (lAll M) (lUp C M) := Nat.gcd_pos_of_pos_left _ (by omega)
  have hg2 : Nat.gcd (lAll M) (lUp C M) ≤ lAll M := Nat.gcd_le_left _ (by omega)
  have emx : max 1 (Nat.gcd (lAll M) (lUp C M)) = Nat.gcd (lAll M) (lUp C M) := by omega
  have hd1 : lUp C M / Nat.gcd (lAll M) (lUp C M) ≤ lUp C M := Nat.div_le_self _ _
  have hd2 : lAll M / Nat.gcd (lAll M) (lUp C M) ≤ lAll M := Nat.div_le_self _ _
  have loop : ∀ (m k : Nat), k + m = 2048 → xW E 2 1 21 [some (.ref 26), some (.ref 11), some (.int (nI M)), some (.int (nI (pop 11 M))), some (.int (nI (sm C M 11))), some (.int (nI (ct (eq1 M) k))), some (.int (nI (ct (eq2 C M) k))), some (.int (nI k))] [] (xC0 ++ T, I, L) 0 0 (fun r t => r = none ∧ ∃ L', t = (xC0 ++ T, I, L') ∧ (∀ a, a ≠ 26 → L' a = L a) ∧ L' 26 0 = lN (lUp C M / Nat.gcd (lUp C M) (lAll M)) ∧ L' 26 1 = lN (lAll M / Nat.gcd (lUp C M) (lAll M))) := by
    intro m
    induction m with
    | zero =>
      intro k hk
      obtain rfl : k = 2048 := by omega
      rw [← eA, ← eU, Nat.gcd_comm (lUp C M)]
      refine ws_iload_7 23 rfl rfl ?_
      refine ws_sipush 26 rfl rfl kc_s2048 ?_
      refine ws_icmp_gen 68 29 rfl rfl rfl (by omega) (by omega) (fun h9 => ?_) (fun h9 => absurd h9 (by omega))
      refine ws_iconst 69 rfl rfl kc_i1 ?_
      refine ws_iload_5 71 rfl rfl ?_
      refine ws_iload_6 73 rfl rfl ?_
      refine ws_invS2p 76 rfl rfl rfl (p_commonDivisor _ _ (by omega) (by omega)) rfl rfl rfl ?_
      refine ws_invS2p 79 rfl rfl rfl (p_maxn _ _ (by omega) (by omega)) rfl rfl rfl ?_
      rw [emx]
      refine ws_istore_7 81 rfl rfl rfl rfl ?_
      refine ws_aload_0 82 rfl rfl ?_
      refine ws_iload_6 84 rfl rfl ?_
      refine ws_iload_7 86 rfl rfl ?_
      refine ws_idiv 87 rfl rfl (kn_ne0 (by omega) (by omega)) (pk_div (by omega) (by omega) (by omega)) ?_
      refine ws_i2l 88 rfl rfl (nI_l (by omega)) ?_
      refine ws_putfl 91 rfl rfl rfl rfl rfl rfl rfl rfl ?_
      refine ws_aload_0 92 rfl rfl ?_
      refine ws_iload_5 94 rfl rfl ?_
      refine ws_iload_7 96 rfl rfl ?_
      refine ws_idiv 97 rfl rfl (kn_ne0 (by omega) (by omega)) (pk_div (by omega) (by omega) (by omega)) ?_
      refine ws_i2l 98 rfl rfl (nI_l (by omega)) ?_
      refine ws_putfl 101 rfl rfl rfl rfl rfl rfl rfl rfl ?_
      refine ws_vret rfl rfl rfl (Nat.le_of_ble_eq_true rfl) ?_
      refine ⟨rfl, _, rfl, fun a ha => by rw [wL_ne ha, wL_ne ha], rfl, rfl⟩
    | succ m ih =>
      intro k hk
      have hk2 : k < 2048 := by omega
      have hpk := pop_le 11 k
      have hsk := sm_le hC k 11 (by omega)
      have l1 := ct_le (eq1 M) k
      have l2 := ct_le (eq2 C M) k
      have e1 : ct (eq1 M) (k + 1) = ct (eq1 M) k + (bif eq1 M k then 1 else 0) := rfl
      have e2 : ct (eq2 C M) (k + 1) = ct (eq2 C M) k + (bif eq2 C M k then 1 else 0) := rfl
      have ih' := ih (k + 1) (by omega)
      rw [e1, e2] at ih'
      refine ws_iload_7 23 rfl rfl ?_
      refine ws_sipush 26 rfl rfl kc_s2048 ?_
      refine ws_icmp_gen 68 29 rfl rfl rfl (by omega) (by omega) (fun h9 => absurd h9 (by omega)) (fun h9 => ?_)
      refine ws_iload_7 31 rfl rfl ?_
      refine ws_invS1p 34 rfl rfl rfl (p_bitCount _ hk2) rfl rfl rfl ?_
      refine ws_iload_3 35 rfl rfl ?_
      refine ws_icmp_nen 62 38 rfl rfl rfl (by omega) (by omega) (fun c1 => ?_) (fun c1 => ?_)
      · rw [show eq1 M k = false by unfold eq1; exact decide_eq_false c1, show eq2 C M k = false by unfold eq2; rw [decide_eq_false c1]; rfl] at ih'
        refine ws_iinc_7 65 rfl rfl (ki_1 _) rfl rfl ?_
        refine ws_goto 21 rfl rfl ?_
        exact ih'
      · rw [show eq1 M k = true by unfold eq1; exact decide_eq_true (by omega)] at ih'
        refine ws_iinc_5 41 rfl rfl (ki_1 _) rfl rfl ?_
        refine ws_iload_6 43 rfl rfl ?_
        refine ws_aload_1 44 rfl rfl ?_
        refine ws_iload_7 46 rfl rfl ?_
        refine ws_invS2 49 rfl rfl rfl (c_sumOf _ hk2 hC h11) rfl rfl rfl ?_
        rintro _ _ ⟨rfl, rfl⟩
        refine ws_iload_4 51 rfl rfl ?_
        refine ws_icmp_ltn 58 54 rfl rfl rfl (by omega) (by omega) (fun c2 => ?_) (fun c2 => ?_)
        · rw [show eq2 C M k = false by unfold eq2; rw [decide_eq_false (show ¬ sm C M 11 ≤ sm C k 11 by omega), Bool.and_false]] at ih'
          refine ws_iconst 59 rfl rfl kc_i0 ?_
          refine ws_iadd 60 rfl rfl (nI_add _ _) ?_
          refine ws_istore_6 62 rfl rfl rfl rfl ?_
          refine ws_iinc_7 65 rfl rfl (ki_1 _) rfl rfl ?_
          refine ws_goto 21 rfl rfl ?_
          exact ih'
        · rw [show eq2 C M k = true by unfold eq2; rw [decide_eq_true (show pop 11 k = pop 11 M by omega), decide_eq_true (show sm C M 11 ≤ sm C k 11 by omega)]; rfl] at ih'
          refine ws_iconst 55 rfl rfl kc_i1 ?_
          refine ws_goto 59 rfl rfl ?_
          refine ws_iadd 60 rfl rfl (nI_add _ _) ?_
          refine ws_istore_6 62 rfl rfl rfl rfl ?_
          refine ws_iinc_7 65 rfl rfl (ki_1 _) rfl rfl ?_
          refine ws_goto 21 rfl rfl ?_
          exact ih'
  refine ws_iload_2 1 rfl rfl ?_
  refine ws_invS1p 4 rfl rfl rfl (p_bitCount _ hM) rfl rfl rfl ?_
  refine ws_istore_3 5 rfl rfl rfl rfl ?_
  refine ws_aload_1 6 rfl rfl ?_
  refine ws_iload_2 7 rfl rfl ?_
  refine ws_invS2 10 rfl rfl rfl (c_sumOf _ hM hC h11) rfl rfl rfl ?_
  rintro _ _ ⟨rfl, rfl⟩
  refine ws_istore_4 12 rfl rfl rfl rfl ?_
  refine ws_iconst 13 rfl rfl kc_i0 ?_
  refine ws_istore_5 15 rfl rfl rfl rfl ?_
  refine ws_iconst 16 rfl rfl kc_i0 ?_
  refine ws_istore_6 18 rfl rfl rfl rfl ?_
  refine ws_iconst 19 rfl rfl kc_i0 ?_
  refine ws_istore_7 21 rfl rfl rfl rfl ?_
  exact loop 2048 0 rfl
def lotV (C : Nat → Nat) (M : Nat) (x : Int32) : Int64 := bif rg 0 1 x then (if x = nI 0 then lN (lUp C M / Nat.gcd (lUp C M) (lAll M)) else lN (lAll M / Nat.gcd (lUp C M) (lAll M))) else -1000000000000000002
theorem m_lot (x : Int32) (hM : M < 2048) (hC : ∀ j, j < 11 → C j ≤ 999) (h50 : ∀ j, j < 11 → I 50 j = nI (C j)) (h51 : ∀ j, j < 11 → I 51 j = nI (M / 2 ^ j % 2)) : xC E 2 133 [.ref 42, .int x] (xS, I, L) (rV (.long (lotV C M x)) (xS, I, L)) := by
  refine xC.mk [some (.ref 42), some (.int x), none, none, none, none, none, none, none, none, none, none, none, none] rfl ?_
  have hp := p_in x (nI 0) (nI 1) 0 1 rfl rfl
  unfold lotV
  cases hr : rg 0 1 x with
  | false =>
    rw [hr] at hp
    refine ws_iload_1 1 rfl rfl ?_
    refine ws_iconst 2 rfl rfl kc_i0 ?_
    refine ws_iconst 3 rfl rfl kc_i1 ?_
    refine ws_invS3p 6 rfl rfl rfl (hp) rfl rfl rfl ?_
    refine ws_if_neb 13 9 rfl rfl rfl (fun h9 => absurd h9 (by first | decide | simp_all)) (fun h9 => ?_)
    refine ws_ldc2 12 rfl rfl rfl rfl ?_
    refine ws_lret rfl rfl rfl (Nat.le_of_ble_eq_true rfl) ?_
    exact ⟨rfl, rfl⟩
  | true =>
    rw [hr] at hp
    obtain ⟨w, -, hw1, rfl⟩ := rg_nat (a := 0) (b := 1) hr (by omega)
    have h1 : 1 ≤ lAll M := ct_pos (i := M) (by unfold eq1; simp) 2048 hM
    have h2 := ct_le (eq1 M) 2048
    have h3 := ct_le (eq2 C M) 2048
    have eA : lAll M = ct (eq1 M) 2048 := rfl
    have eU : lUp C M = ct (eq2 C M) 2048 := rfl
    have hpM := pop_le 11 M
    have hsM := sm_le hC M 11 (by omega)
    have hg : 0 < Nat.gcd (lUp C M) (lAll M) := Nat.gcd_pos_of_pos_right _ (by omega)
    have hg2 : Nat.gcd (lUp C M) (lAll M) ≤ lAll M := Nat.gcd_le_right _ (by omega)
    have fin : ∀ (u : Nat) (z9 z10 z11 z12 z13 : Option Value), u = Nat.gcd (lUp C M) (lAll M) → xW E 2 133 223 [some (.ref 42), some (.int (nI w)), some (.int (nI (pop 11 M))), some (.int (nI (sm C M 11))), some (.long (lN (lAll M))), none, some (.long (lN (lUp C M))), none, some (.long (lN u)), z9, z10, z11, z12, z13] [] (xS, I, L) 0 0 (rV (.long (bif true then (if nI w = nI 0 then lN (lUp C M / Nat.gcd (lUp C M) (lAll M)) else lN (lAll M / Nat.gcd (lUp C M) (lAll M))) else -1000000000000000002)) (xS, I, L)) := by
      intro u z9 z10 z11 z12 z13 hu
      subst hu
      rcases (show w = 0 ∨ w = 1 by omega) with rfl | rfl
      · refine ws_iload_1 224 rfl rfl ?_
        refine ws_if_nen 235 227 rfl rfl rfl (by omega) (fun h9 => absurd h9 (by omega)) (fun h9 => ?_)
        refine ws_lload_6 229 rfl rfl ?_
        refine ws_lload_8 231 rfl rfl ?_
        refine ws_ldiv 232 rfl rfl (kn_lne0 (by omega) (by omega)) (pk_lDiv (by omega) (by omega) (by omega)) ?_
        refine ws_goto 240 rfl rfl ?_
        refine ws_lret rfl rfl rfl (Nat.le_of_ble_eq_true rfl) ?_
        exact ⟨rfl, rfl⟩
      · refine ws_iload_1 224 rfl rfl ?_
        refine ws_if_nen 235 227 rfl rfl rfl (by omega) (fun h9 => ?_) (fun h9 => absurd h9 (by omega))
        refine ws_lload_4 237 rfl rfl ?_
        refine ws_lload_8 239 rfl rfl ?_
        refine ws_ldiv 240 rfl rfl (kn_lne0 (by omega) (by omega)) (pk_lDiv (by omega) (by omega) (by omega)) ?_
        refine ws_lret rfl rfl rfl (Nat.le_of_ble_eq_true rfl) ?_
        exact ⟨rfl, rfl⟩
    have gcdl : ∀ (n u v : Nat) (z12 z13 : Option Value), v ≤ n → u < 4096 → v < 4096 → Nat.gcd (lUp C M) (lAll M) = Nat.gcd u v → xW E 2 133 198 [some (.ref 42), some (.int (nI w)), some (.int (nI (pop 11 M))), some (.int (nI (sm C M 11))), some (.long (lN (lAll M))), none, some (.long (lN (lUp C M))), none, some (.long (lN u)), none, some (.long (lN v)), none, z12, z13] [] (xS, I, L) 0 0 (rV (.long (bif true then (if nI w = nI 0 then lN (lUp C M / Nat.gcd (lUp C M) (lAll M)) else lN (lAll M / Nat.gcd (lUp C M) (lAll M))) else -1000000000000000002)) (xS, I, L)) := by
      intro n
      induction n with
      | zero =>
        intro u v z12 z13 hn hu hv he
        obtain rfl : v = 0 := by omega
        rw [Nat.gcd_zero_right] at he
        refine ws_lload_10 200 rfl rfl ?_
        refine ws_lconst (v := lN 0) 201 rfl rfl rfl ?_
        refine ws_lcmp 202 rfl rfl ?_
        refine ws_lc_eq 223 205 rfl rfl rfl (fun c1 => ?_) (fun c1 => ?_)
        · exact fin u _ _ _ _ _ he.symm
        · exact absurd rfl c1
      | succ n ih =>
        intro u v z12 z13 hn hu hv he
        refine ws_lload_10 200 rfl rfl ?_
        refine ws_lconst (v := lN 0) 201 rfl rfl rfl ?_
        refine ws_lcmp 202 rfl rfl ?_
        refine ws_lc_eq 223 205 rfl rfl rfl (fun c1 => ?_) (fun c1 => ?_)
        · rw [show (lN 0 : Int64) = lN 0 from rfl, pk_lEQ (by omega) (by omega)] at c1
          rw [c1, Nat.gcd_zero_right] at he
          exact fin u _ _ _ _ _ he.symm
        · rw [show (lN 0 : Int64) = lN 0 from rfl, pk_lEQ (by omega) (by omega)] at c1
          have hm := Nat.mod_lt u (show 0 < v by omega)
          refine ws_lload_8 207 rfl rfl ?_
          refine ws_lload_10 209 rfl rfl ?_
          refine ws_lrem 210 rfl rfl (kn_lne0 (by omega) (by omega)) (pk_lRem (by omega) (by omega) (by omega)) ?_
          refine ws_lstore_12 212 rfl rfl rfl rfl ?_
          refine ws_lload_10 214 rfl rfl ?_
          refine ws_lstore_8 216 rfl rfl rfl rfl ?_
          refine ws_lload_12 218 rfl rfl ?_
          refine ws_lstore_10 220 rfl rfl rfl rfl ?_
          refine ws_goto 198 rfl rfl ?_
          exact ih v (u % v) _ _ (by omega) hv (by omega) (by rw [he, gcd_st])
    have outer : ∀ (m k : Nat) (z9 z10 z11 z12 z13 : Option Value), k + m = 2048 → xW E 2 133 84 [some (.ref 42), some (.int (nI w)), some (.int (nI (pop 11 M))), some (.int (nI (sm C M 11))), some (.long (lN (ct (eq1 M) k))), none, some (.long (lN (ct (eq2 C M) k))), none, some (.int (nI k)), z9, z10, z11, z12, z13] [] (xS, I, L) 0 0 (rV (.long (bif true then (if nI w = nI 0 then lN (lUp C M / Nat.gcd (lUp C M) (lAll M)) else lN (lAll M / Nat.gcd (lUp C M) (lAll M))) else -1000000000000000002)) (xS, I, L)) := by
      intro m
      induction m with
      | zero =>
        intro k z9 z10 z11 z12 z13 hk
        obtain rfl : k = 2048 := by omega
        rw [← eA, ← eU]
        refine ws_iload_8 86 rfl rfl ?_
        refine ws_sipush 89 rfl rfl kc_s2048 ?_
        refine ws_icmp_gen 190 92 rfl rfl rfl (by omega) (by omega) (fun h9 => ?_) (fun h9 => absurd h9 (by omega))
        refine ws_lload_6 192 rfl rfl ?_
        refine ws_lstore_8 194 rfl rfl rfl rfl ?_
        refine ws_lload_4 196 rfl rfl ?_
        refine ws_lstore_10 198 rfl rfl rfl rfl ?_
        exact gcdl (lAll M) (lUp C M) (lAll M) _ _ (Nat.le_refl _) (by omega) (by omega) rfl
      | succ m ih =>
        intro k z9 z10 z11 z12 z13 hk
        have hk2 : k < 2048 := by omega
        have hpk := pop_le 11 k
        have hsk := sm_le hC k 11 (by omega)
        have l1 := ct_le (eq1 M) k
        have l2 := ct_le (eq2 C M) k
        have e1 : ct (eq1 M) (k + 1) = ct (eq1 M) k + (bif eq1 M k then 1 else 0) := rfl
        have e2 : ct (eq2 C M) (k + 1) = ct (eq2 C M) k + (bif eq2 C M k then 1 else 0) := rfl
        have ih' := fun z9 z10 z11 z12 z13 => ih (k + 1) z9 z10 z11 z12 z13 (by omega)
        rw [e1, e2] at ih'
        have inner : ∀ (m t : Nat), t + m = 11 → xW E 2 133 101 [some (.ref 42), some (.int (nI w)), some (.int (nI (pop 11 M))), some (.int (nI (sm C M 11))), some (.long (lN (ct (eq1 M) k))), none, some (.long (lN (ct (eq2 C M) k))), none, some (.int (nI k)), some (.int (nI (sm C k t))), some (.int (nI (pop t k))), some (.int (nI t)), z12, z13] [] (xS, I, L) 0 0 (rV (.long (bif true then (if nI w = nI 0 then lN (lUp C M / Nat.gcd (lUp C M) (lAll M)) else lN (lAll M / Nat.gcd (lUp C M) (lAll M))) else -1000000000000000002)) (xS, I, L)) := by
          intro m
          induction m with
          | zero =>
            intro t ht
            obtain rfl : t = 11 := by omega
            by_cases c1 : pop 11 k = pop 11 M
            · rw [show eq1 M k = true by unfold eq1; exact decide_eq_true c1] at ih'
              by_cases c2 : sm C M 11 ≤ sm C k 11
              · rw [show eq2 C M k = true by unfold eq2; rw [decide_eq_true c1, decide_eq_true c2]; rfl] at ih'
                refine ws_iload_11 103 rfl rfl ?_
                refine ws_bipush 105 rfl rfl kc_b11 ?_
                refine ws_icmp_gen 146 108 rfl rfl rfl (by omega) (by omega) (fun h9 => ?_) (fun h9 => absurd h9 (by omega))
                refine ws_lload_4 148 rfl rfl ?_
                refine ws_iload_10 150 rfl rfl ?_
                refine ws_iload_2 151 rfl rfl ?_
                refine ws_icmp_nen 158 154 rfl rfl rfl (by omega) (by omega) (fun h9 => absurd h9 (by omega)) (fun h9 => ?_)
                refine ws_lconst (v := lN 1) 155 rfl rfl rfl ?_
                refine ws_goto 159 rfl rfl ?_
                refine ws_ladd 160 rfl rfl (lN_add _ _) ?_
                refine ws_lstore_4 162 rfl rfl rfl rfl ?_
                refine ws_lload_6 164 rfl rfl ?_
                refine ws_iload_10 166 rfl rfl ?_
                refine ws_iload_2 167 rfl rfl ?_
                refine ws_icmp_nen 180 170 rfl rfl rfl (by omega) (by omega) (fun h9 => absurd h9 (by omega)) (fun h9 => ?_)
                refine ws_iload_9 172 rfl rfl ?_
                refine ws_iload_3 173 rfl rfl ?_
                refine ws_icmp_ltn 180 176 rfl rfl rfl (by omega) (by omega) (fun h9 => absurd h9 (by omega)) (fun h9 => ?_)
                refine ws_lconst (v := lN 1) 177 rfl rfl rfl ?_
                refine ws_goto 181 rfl rfl ?_
                refine ws_ladd 182 rfl rfl (lN_add _ _) ?_
                refine ws_lstore_6 184 rfl rfl rfl rfl ?_
                refine ws_iinc_8 187 rfl rfl (ki_1 _) rfl rfl ?_
                refine ws_goto 84 rfl rfl ?_
                exact ih' _ _ _ _ _
              · rw [show eq2 C M k = false by unfold eq2; rw [decide_eq_false c2, Bool.and_false]] at ih'
                refine ws_iload_11 103 rfl rfl ?_
                refine ws_bipush 105 rfl rfl kc_b11 ?_
                refine ws_icmp_gen 146 108 rfl rfl rfl (by omega) (by omega) (fun h9 => ?_) (fun h9 => absurd h9 (by omega))
                refine ws_lload_4 148 rfl rfl ?_
                refine ws_iload_10 150 rfl rfl ?_
                refine ws_iload_2 151 rfl rfl ?_
                refine ws_icmp_nen 158 154 rfl rfl rfl (by omega) (by omega) (fun h9 => absurd h9 (by omega)) (fun h9 => ?_)
                refine ws_lconst (v := lN 1) 155 rfl rfl rfl ?_
                refine ws_goto 159 rfl rfl ?_
                refine ws_ladd 160 rfl rfl (lN_add _ _) ?_
                refine ws_lstore_4 162 rfl rfl rfl rfl ?_
                refine ws_lload_6 164 rfl rfl ?_
                refine ws_iload_10 166 rfl rfl ?_
                refine ws_iload_2 167 rfl rfl ?_
                refine ws_icmp_nen 180 170 rfl rfl rfl (by omega) (by omega) (fun h9 => absurd h9 (by omega)) (fun h9 => ?_)
                refine ws_iload_9 172 rfl rfl ?_
                refine ws_iload_3 173 rfl rfl ?_
                refine ws_icmp_ltn 180 176 rfl rfl rfl (by omega) (by omega) (fun h9 => ?_) (fun h9 => absurd h9 (by omega))
                refine ws_lconst (v := lN 0) 181 rfl rfl rfl ?_
                refine ws_ladd 182 rfl rfl (lN_add _ _) ?_
                refine ws_lstore_6 184 rfl rfl rfl rfl ?_
                refine ws_iinc_8 187 rfl rfl (ki_1 _) rfl rfl ?_
                refine ws_goto 84 rfl rfl ?_
                exact ih' _ _ _ _ _
            · rw [show eq1 M k = false by unfold eq1; exact decide_eq_false c1, show eq2 C M k = false by unfold eq2; rw [decide_eq_false c1]; rfl] at ih'
              refine ws_iload_11 103 rfl rfl ?_
              refine ws_bipush 105 rfl rfl kc_b11 ?_
              refine ws_icmp_gen 146 108 rfl rfl rfl (by omega) (by omega) (fun h9 => ?_) (fun h9 => absurd h9 (by omega))
              refine ws_lload_4 148 rfl rfl ?_
              refine ws_iload_10 150 rfl rfl ?_
              refine ws_iload_2 151 rfl rfl ?_
              refine ws_icmp_nen 158 154 rfl rfl rfl (by omega) (by omega) (fun h9 => ?_) (fun h9 => absurd h9 (by omega))
              refine ws_lconst (v := lN 0) 159 rfl rfl rfl ?_
              refine ws_ladd 160 rfl rfl (lN_add _ _) ?_
              refine ws_lstore_4 162 rfl rfl rfl rfl ?_
              refine ws_lload_6 164 rfl rfl ?_
              refine ws_iload_10 166 rfl rfl ?_
              refine ws_iload_2 167 rfl rfl ?_
              refine ws_icmp_nen 180 170 rfl rfl rfl (by omega) (by omega) (fun h9 => ?_) (fun h9 => absurd h9 (by omega))
              refine ws_lconst (v := lN 0) 181 rfl rfl rfl ?_
              refine ws_ladd 182 rfl rfl (lN_add _ _) ?_
              refine ws_lstore_6 184 rfl rfl rfl rfl ?_
              refine ws_iinc_8 187 rfl rfl (ki_1 _) rfl rfl ?_
              refine ws_goto 84 rfl rfl ?_
              exact ih' _ _ _ _ _
          | succ m ih2 =>
            intro t ht
            have e : nI (k / 2 ^ t) &&& nI 1 = nI (k / 2 ^ t % 2) := by rw [kn_and, Nat.and_one_is_mod]
            have h50t := h50 t (by omega)
            have hCt := hC t (by omega)
            have hst := sm_le hC k t (by omega)
            have hpt := pop_le t k
            refine ws_iload_11 103 rfl rfl ?_
            refine ws_bipush 105 rfl rfl kc_b11 ?_
            refine ws_icmp_gen 146 108 rfl rfl rfl (by omega) (by omega) (fun h9 => absurd h9 (by omega)) (fun h9 => ?_)
            refine ws_iload_10 110 rfl rfl ?_
            refine ws_iload_8 112 rfl rfl ?_
            refine ws_iload_11 114 rfl rfl ?_
            refine ws_ishr 115 rfl rfl (kn_shr (by omega) (by omega)) ?_
            refine ws_iconst 116 rfl rfl kc_i1 ?_
            refine ws_iand 117 rfl rfl e ?_
            refine ws_iadd 118 rfl rfl (nI_add _ _) ?_
            refine ws_istore_10 120 rfl rfl rfl rfl ?_
            refine ws_iload_9 122 rfl rfl ?_
            refine ws_iload_8 124 rfl rfl ?_
            refine ws_iload_11 126 rfl rfl ?_
            refine ws_ishr 127 rfl rfl (kn_shr (by omega) (by omega)) ?_
            refine ws_iconst 128 rfl rfl kc_i1 ?_
            refine ws_iand 129 rfl rfl e ?_
            refine ws_aload_0 130 rfl rfl ?_
            refine ws_getfr 133 rfl rfl rfl rfl rfl ?_
            refine ws_iload_11 135 rfl rfl ?_
            refine ws_ialdn 136 rfl rfl rfl (by omega) (by omega) h50t ?_
            refine ws_imul 137 rfl rfl (pk_mul _ _) ?_
            refine ws_iadd 138 rfl rfl (nI_add _ _) ?_
            refine ws_istore_9 140 rfl rfl rfl rfl ?_
            refine ws_iinc_11 143 rfl rfl (ki_1 _) rfl rfl ?_
            refine ws_goto 101 rfl rfl ?_
            exact ih2 (t + 1) (by omega)
        refine ws_iload_8 86 rfl rfl ?_
        refine ws_sipush 89 rfl rfl kc_s2048 ?_
        refine ws_icmp_gen 190 92 rfl rfl rfl (by omega) (by omega) (fun h9 => absurd h9 (by omega)) (fun h9 => ?_)
        refine ws_iconst 93 rfl rfl kc_i0 ?_
        refine ws_istore_9 95 rfl rfl rfl rfl ?_
        refine ws_iconst 96 rfl rfl kc_i0 ?_
        refine ws_istore_10 98 rfl rfl rfl rfl ?_
        refine ws_iconst 99 rfl rfl kc_i0 ?_
        refine ws_istore_11 101 rfl rfl rfl rfl ?_
        exact inner 11 0 rfl
    have first : ∀ (m t : Nat) (z5 z6 z7 z8 z9 z10 z11 z12 z13 : Option Value), t + m = 11 → xW E 2 133 20 [some (.ref 42), some (.int (nI w)), some (.int (nI (pop t M))), some (.int (nI (sm C M t))), some (.int (nI t)), z5, z6, z7, z8, z9, z10, z11, z12, z13] [] (xS, I, L) 0 0 (rV (.long (bif true then (if nI w = nI 0 then lN (lUp C M / Nat.gcd (lUp C M) (lAll M)) else lN (lAll M / Nat.gcd (lUp C M) (lAll M))) else -1000000000000000002)) (xS, I, L)) := by
      intro m
      induction m with
      | zero =>
        intro t z5 z6 z7 z8 z9 z10 z11 z12 z13 ht
        obtain rfl : t = 11 := by omega
        refine ws_iload_4 22 rfl rfl ?_
        refine ws_bipush 24 rfl rfl kc_b11 ?_
        refine ws_icmp_gen 75 27 rfl rfl rfl (by omega) (by omega) (fun h9 => ?_) (fun h9 => absurd h9 (by omega))
        refine ws_lconst (v := lN 0) 76 rfl rfl rfl ?_
        refine ws_lstore_4 78 rfl rfl rfl rfl ?_
        refine ws_lconst (v := lN 0) 79 rfl rfl rfl ?_
        refine ws_lstore_6 81 rfl rfl rfl rfl ?_
        refine ws_iconst 82 rfl rfl kc_i0 ?_
        refine ws_istore_8 84 rfl rfl rfl rfl ?_
        exact outer 2048 0 _ _ _ _ _ rfl
      | succ m ih =>
        intro t z5 z6 z7 z8 z9 z10 z11 z12 z13 ht
        have h50t := h50 t (by omega)
        have h51t := h51 t (by omega)
        have e1 : pop (t + 1) M = pop t M + M / 2 ^ t % 2 := rfl
        have e2 : sm C M (t + 1) = sm C M t + M / 2 ^ t % 2 * C t := rfl
        have ih' := fun z5 z6 z7 z8 z9 z10 z11 z12 z13 => ih (t + 1) z5 z6 z7 z8 z9 z10 z11 z12 z13 (by omega)
        rw [e1, e2] at ih'
        rcases (show M / 2 ^ t % 2 = 0 ∨ M / 2 ^ t % 2 = 1 by omega) with e | e
        · rw [e] at h51t
          rw [e, Nat.zero_mul] at ih'
          refine ws_iload_4 22 rfl rfl ?_
          refine ws_bipush 24 rfl rfl kc_b11 ?_
          refine ws_icmp_gen 75 27 rfl rfl rfl (by omega) (by omega) (fun h9 => absurd h9 (by omega)) (fun h9 => ?_)
          refine ws_iload_2 28 rfl rfl ?_
          refine ws_aload_0 29 rfl rfl ?_
          refine ws_getfr 32 rfl rfl rfl rfl rfl ?_
          refine ws_iload_4 34 rfl rfl ?_
          refine ws_zaldn 35 rfl rfl rfl (by omega) (by omega) h51t ?_
          refine ws_if_eqn 42 38 rfl rfl rfl (by omega) (fun h9 => ?_) (fun h9 => absurd h9 (by omega))
          refine ws_iconst 43 rfl rfl kc_i0 ?_
          refine ws_iadd 44 rfl rfl (nI_add _ _) ?_
          refine ws_istore_2 45 rfl rfl rfl rfl ?_
          refine ws_iload_3 46 rfl rfl ?_
          refine ws_aload_0 47 rfl rfl ?_
          refine ws_getfr 50 rfl rfl rfl rfl rfl ?_
          refine ws_iload_4 52 rfl rfl ?_
          refine ws_zaldn 53 rfl rfl rfl (by omega) (by omega) h51t ?_
          refine ws_if_eqn 66 56 rfl rfl rfl (by omega) (fun h9 => ?_) (fun h9 => absurd h9 (by omega))
          refine ws_iconst 67 rfl rfl kc_i0 ?_
          refine ws_iadd 68 rfl rfl (nI_add _ _) ?_
          refine ws_istore_3 69 rfl rfl rfl rfl ?_
          refine ws_iinc_4 72 rfl rfl (ki_1 _) rfl rfl ?_
          refine ws_goto 20 rfl rfl ?_
          exact ih' _ _ _ _ _ _ _ _ _
        · rw [e] at h51t
          rw [e, Nat.one_mul] at ih'
          refine ws_iload_4 22 rfl rfl ?_
          refine ws_bipush 24 rfl rfl kc_b11 ?_
          refine ws_icmp_gen 75 27 rfl rfl rfl (by omega) (by omega) (fun h9 => absurd h9 (by omega)) (fun h9 => ?_)
          refine ws_iload_2 28 rfl rfl ?_
          refine ws_aload_0 29 rfl rfl ?_
          refine ws_getfr 32 rfl rfl rfl rfl rfl ?_
          refine ws_iload_4 34 rfl rfl ?_
          refine ws_zaldn 35 rfl rfl rfl (by omega) (by omega) h51t ?_
          refine ws_if_eqn 42 38 rfl rfl rfl (by omega) (fun h9 => absurd h9 (by omega)) (fun h9 => ?_)
          refine ws_iconst 39 rfl rfl kc_i1 ?_
          refine ws_goto 43 rfl rfl ?_
          refine ws_iadd 44 rfl rfl (nI_add _ _) ?_
          refine ws_istore_2 45 rfl rfl rfl rfl ?_
          refine ws_iload_3 46 rfl rfl ?_
          refine ws_aload_0 47 rfl rfl ?_
          refine ws_getfr 50 rfl rfl rfl rfl rfl ?_
          refine ws_iload_4 52 rfl rfl ?_
          refine ws_zaldn 53 rfl rfl rfl (by omega) (by omega) h51t ?_
          refine ws_if_eqn 66 56 rfl rfl rfl (by omega) (fun h9 => absurd h9 (by omega)) (fun h9 => ?_)
          refine ws_aload_0 57 rfl rfl ?_
          refine ws_getfr 60 rfl rfl rfl rfl rfl ?_
          refine ws_iload_4 62 rfl rfl ?_
          refine ws_ialdn 63 rfl rfl rfl (by omega) (by omega) h50t ?_
          refine ws_goto 67 rfl rfl ?_
          refine ws_iadd 68 rfl rfl (nI_add _ _) ?_
          refine ws_istore_3 69 rfl rfl rfl rfl ?_
          refine ws_iinc_4 72 rfl rfl (ki_1 _) rfl rfl ?_
          refine ws_goto 20 rfl rfl ?_
          exact ih' _ _ _ _ _ _ _ _ _
    refine ws_iload_1 1 rfl rfl ?_
    refine ws_iconst 2 rfl rfl kc_i0 ?_
    refine ws_iconst 3 rfl rfl kc_i1 ?_
    refine ws_invS3p 6 rfl rfl rfl (hp) rfl rfl rfl ?_
    refine ws_if_neb 13 9 rfl rfl rfl (fun h9 => ?_) (fun h9 => absurd h9 (by first | decide | simp_all))
    refine ws_iconst 14 rfl rfl kc_i0 ?_
    refine ws_istore_2 15 rfl rfl rfl rfl ?_
    refine ws_iconst 16 rfl rfl kc_i0 ?_
    refine ws_istore_3 17 rfl rfl rfl rfl ?_
    refine ws_iconst 18 rfl rfl kc_i0 ?_
    refine ws_istore_4 20 rfl rfl rfl rfl ?_
    exact first 11 0 _ _ _ _ _ _ _ _ _ rfl
end LOT
