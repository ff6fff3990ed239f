/-! ===== Passers: what comes of it ===== -/
theorem pop11 : ∀ u, u < 32 → pop 11 u = pop 5 u := by decide +kernel
theorem p_bitCount5 (n : Nat) (hn : n < 32) : xP 1 138 [.int (nI n)] (.int (nI (pop 5 n))) := by
  rw [← pop11 n hn]
  exact p_bitCount n (by omega)
theorem p_below5e : xP 1 80 [.int (nI 5), .int (nI 5)] (.int (xb false)) := by
  have h := p_below (nI 5) 5 4 (by omega) rfl
  rwa [show rg 0 4 (nI 5) = false by decide] at h
/-- is what one of a kind wants among the set -/
def wn (A : Nat → Nat → Nat) (k s : Nat) : Nat := if A 3 (k * 6 + 4) < 5 then s / 2 ^ (A 3 (k * 6 + 4)) % 2 else 0
def soS (A : Nat → Nat → Nat) (F P : Nat → Nat) (k s : Nat) : Nat := P s * F (0 * 10 + 2 * pop 5 s + wn A k s) / 1000
def coS (A : Nat → Nat → Nat) (F P : Nat → Nat) (k s : Nat) : Nat := soS A F P k s * F (1 * 10 + 2 * pop 5 s + wn A k s) / 1000
def paS (A : Nat → Nat → Nat) (F P : Nat → Nat) (k s : Nat) : Nat := coS A F P k s * (if wn A k s = 1 then A 0 (1 * 5 + A 3 (k * 6 + 4)) else A 6 0)
theorem wn_lt (A : Nat → Nat → Nat) (k s : Nat) : wn A k s < 2 := by
  unfold wn
  split <;> omega
theorem div1000 {p f : Nat} (hf : f ≤ 1000) : p * f / 1000 ≤ p := by
  calc p * f / 1000 ≤ p * 1000 / 1000 := Nat.div_le_div_right (Nat.mul_le_mul_left p hf)
    _ = p := Nat.mul_div_cancel p (by omega)
theorem soS_le {A : Nat → Nat → Nat} {F P : Nat → Nat} {k s : Nat} (hF : ∀ j, j < 20 → F j ≤ 1000) (hp : pop 5 s ≤ 4) : soS A F P k s ≤ P s := by
  have := wn_lt A k s
  exact div1000 (hF _ (by omega))
theorem coS_le {A : Nat → Nat → Nat} {F P : Nat → Nat} {k s : Nat} (hF : ∀ j, j < 20 → F j ≤ 1000) (hp : pop 5 s ≤ 4) : coS A F P k s ≤ P s := by
  have := wn_lt A k s
  exact Nat.le_trans (div1000 (hF _ (by omega))) (soS_le hF hp)
theorem paS_0 {A : Nat → Nat → Nat} {F P : Nat → Nat} {k s : Nat} (h : P s = 0) : soS A F P k s = 0 ∧ coS A F P k s = 0 ∧ paS A F P k s = 0 := by
  have h1 : soS A F P k s = 0 := by unfold soS; rw [h]; simp
  have h2 : coS A F P k s = 0 := by unfold coS; rw [h1]; simp
  exact ⟨h1, h2, by unfold paS; rw [h2]; simp⟩
theorem paS_le {A : Nat → Nat → Nat} {F P : Nat → Nat} {k s : Nat} (hF : ∀ j, j < 20 → F j ≤ 1000) (hp : 4 < pop 5 s → P s = 0) (h3 : ∀ j, j < 15 → A 0 j ≤ 99) (ho : A 6 0 ≤ 99) : paS A F P k s ≤ 99 * P s := by
  rcases Nat.lt_or_ge 4 (pop 5 s) with h | h
  · rw [(paS_0 (hp h)).2.2]; omega
  · have h1 := coS_le (A := A) (P := P) (k := k) hF h
    unfold paS
    rw [Nat.mul_comm 99]
    refine Nat.mul_le_mul h1 ?_
    by_cases hw : wn A k s = 1
    · rw [if_pos hw]
      by_cases h5 : A 3 (k * 6 + 4) < 5
      · exact h3 _ (by omega)
      · unfold wn at hw
        rw [if_neg h5] at hw
        omega
    · rw [if_neg hw]; exact ho
/-- pay of a kind; the week -/
def payF (A : Nat → Nat → Nat) (F : Nat → Nat) (b : Nat → Nat) (more k : Nat) : Nat := sg (paS A F (pt A b k more (A 3 (k * 6 + 1))) k) 0 32
def wkF (A : Nat → Nat → Nat) (F : Nat → Nat) (b : Nat → Nat) (more : Nat) : Nat := sg (fun k => payF A F b more k * A 3 (k * 6 + 5)) 0 4 / 1000
theorem sg_mul (c : Nat) (f : Nat → Nat) (lo : Nat) : ∀ n, sg (fun i => c * f i) lo n = c * sg f lo n
  | 0 => by simp [sg]
  | n + 1 => by
    show sg (fun i => c * f i) lo n + c * f (lo + n) = c * (sg f lo n + f (lo + n))
    rw [sg_mul c f lo n, Nat.mul_add]
theorem payF_le {A : Nat → Nat → Nat} {F b : Nat → Nat} {more k : Nat} (hk : k < 4) (hok : okK A) (hb : ∀ p, p < 5 → b p ≤ 5) (hF : ∀ j, j < 20 → F j ≤ 1000) (h3 : ∀ j, j < 15 → A 0 j ≤ 99) (ho : A 6 0 ≤ 99) : payF A F b more k ≤ 99000000 := by
  obtain ⟨-, k1, -⟩ := hok k hk
  have h := sg_le (f := paS A F (pt A b k more (A 3 (k * 6 + 1))) k) (g := fun s => 99 * pt A b k more (A 3 (k * 6 + 1)) s) (lo := 0) (n := 32) (fun i hi => paS_le hF (fun h => pt_pop hb _ (by omega) _ (by omega) (by omega)) h3 ho)
  rw [sg_mul, pt_sum hb _ (by omega)] at h
  exact h
theorem wk_sum_le {A : Nat → Nat → Nat} {F b : Nat → Nat} {more : Nat} (hok : okK A) (hb : ∀ p, p < 5 → b p ≤ 5) (hF : ∀ j, j < 20 → F j ≤ 1000) (h3 : ∀ j, j < 15 → A 0 j ≤ 99) (ho : A 6 0 ≤ 99) : ∀ n, n ≤ 4 → sg (fun k => payF A F b more k * A 3 (k * 6 + 5)) 0 n ≤ 98901000000 * n := by
  intro n
  induction n with
  | zero => intro _; exact Nat.le_refl 0
  | succ n ih =>
    intro hn
    have h1 := ih (by omega)
    have h2 : payF A F b more n * A 3 (n * 6 + 5) ≤ 99000000 * 999 := Nat.mul_le_mul (payF_le (by omega) hok hb hF h3 ho) (hok n (by omega)).2.2.2.2.2
    show sg _ 0 n + (fun k => payF A F b more k * A 3 (k * 6 + 5)) (0 + n) ≤ _
    rw [Nat.zero_add]
    show _ + payF A F b more n * A 3 (n * 6 + 5) ≤ _
    omega
theorem wkF_le {A : Nat → Nat → Nat} {F b : Nat → Nat} {more : Nat} (hok : okK A) (hb : ∀ p, p < 5 → b p ≤ 5) (hF : ∀ j, j < 20 → F j ≤ 1000) (h3 : ∀ j, j < 15 → A 0 j ≤ 99) (ho : A 6 0 ≤ 99) : wkF A F b more ≤ 395604000 := by
  have := wk_sum_le (more := more) hok hb hF h3 ho 4 (by omega)
  unfold wkF
  omega
section WEEK
variable {E : xEx} {T : List xSh} {I : Nat → Nat → Int32} {L : Nat → Nat → Int64} {A : Nat → Nat → Nat} {b F P : Nat → Nat}
theorem c_sawIt (t : Nat) (ht : t < 5) (h18 : ∀ u, u < 32 → I 18 u = nI (P u)) : xC E 1 21 [.ref 14, .int (nI t)] (xC0 ++ T, I, L) (rV (.int (nI (sg (fun u => if u / 2 ^ t % 2 = 1 then P u else 0) 0 32))) (xC0 ++ T, I, L)) := by
  refine xC.mk [some (.ref 14), some (.int (nI t)), none, none] rfl ?_
  refine ws_iconst 1 rfl rfl kc_i0 ?_
  refine ws_istore_2 2 rfl rfl rfl rfl ?_
  refine ws_iconst 3 rfl rfl kc_i0 ?_
  refine ws_istore_3 4 rfl rfl rfl rfl ?_
  have loop : ∀ m k : Nat, k + m = 32 → xW E 1 21 4 [some (.ref 14), some (.int (nI t)), some (.int (nI (sg (fun u => if u / 2 ^ t % 2 = 1 then P u else 0) 0 k))), some (.int (nI k))] [] (xC0 ++ T, I, L) 0 0 (rV (.int (nI (sg (fun u => if u / 2 ^ t % 2 = 1 then P u else 0) 0 32))) (xC0 ++ T, I, L)) := by
    intro m
    induction m with
    | zero =>
      intro k hk
      obtain rfl : k = 32 := by omega
      refine ws_iload_3 5 rfl rfl ?_
      refine ws_bipush 7 rfl rfl kc_b32 ?_
      refine ws_icmp_gen 34 10 rfl rfl rfl (by omega) (by omega) (fun h9 => ?_) (fun h9 => absurd h9 (by omega))
      refine ws_iload_2 35 rfl rfl ?_
      refine ws_iret rfl rfl rfl (Nat.le_of_ble_eq_true rfl) ?_
      exact ⟨rfl, rfl⟩
    | succ m ih =>
      intro k hk
      have e : k / 2 ^ t &&& 1 = k / 2 ^ t % 2 := Nat.and_one_is_mod _
      have h18k := h18 k (by omega)
      have es : sg (fun u => if u / 2 ^ t % 2 = 1 then P u else 0) 0 (k + 1) = sg (fun u => if u / 2 ^ t % 2 = 1 then P u else 0) 0 k + (if k / 2 ^ t % 2 = 1 then P k else 0) := by
        show _ + (fun u => if u / 2 ^ t % 2 = 1 then P u else 0) (0 + k) = _
        rw [Nat.zero_add]
      refine ws_iload_3 5 rfl rfl ?_
      refine ws_bipush 7 rfl rfl kc_b32 ?_
      refine ws_icmp_gen 34 10 rfl rfl rfl (by omega) (by omega) (fun h9 => absurd h9 (by omega)) (fun h9 => ?_)
      refine ws_iload_3 11 rfl rfl ?_
      refine ws_iload_1 12 rfl rfl ?_
      refine ws_ishr 13 rfl rfl (kn_shr (by omega) (by omega)) ?_
      refine ws_iconst 14 rfl rfl kc_i1 ?_
      refine ws_iand 15 rfl rfl (kn_and _ _) ?_
      refine ws_iconst 16 rfl rfl kc_i1 ?_
      rw [e]
      refine ws_icmp_nen 28 19 rfl rfl rfl (by omega) (by omega) (fun hb => ?_) (fun hb => ?_)
      · refine ws_iinc_3 31 rfl rfl (ki_1 _) rfl rfl ?_
        refine ws_goto 4 rfl rfl ?_
        have := ih (k + 1) (by omega); rw [es, if_neg hb] at this; exact this
      · refine ws_iload_2 20 rfl rfl ?_
        refine ws_aload_0 21 rfl rfl ?_
        refine ws_getfr 24 rfl rfl rfl rfl rfl ?_
        refine ws_iload_3 25 rfl rfl ?_
        refine ws_ialdn 26 rfl rfl rfl (by omega) (by omega) h18k ?_
        refine ws_iadd 27 rfl rfl (nI_add _ _) ?_
        refine ws_istore_2 28 rfl rfl rfl rfl ?_
        refine ws_iinc_3 31 rfl rfl (ki_1 _) rfl rfl ?_
        refine ws_goto 4 rfl rfl ?_
        have := ih (k + 1) (by omega); rw [es, if_pos hb] at this; exact this
  exact loop 32 0 rfl
theorem c_reckon (k : Nat) (hk : k < 4) (hTh : ∀ j, j < 15 → I 6 j = nI (A 0 j)) (hKi : ∀ j, j < 24 → I 9 j = nI (A 3 j)) (hAn : ∀ j, j < 20 → I 10 j = nI (F j)) (hOt : I 5 7 = nI (A 6 0)) (hok : okK A) (hF : ∀ j, j < 20 → F j ≤ 1000) (h18 : ∀ u, u < 32 → I 18 u = nI (P u)) (hP : ∀ u, u < 32 → P u ≤ 1000000) (hpp : ∀ u, u < 32 → 4 < pop 5 u → P u = 0) :
    xC E 2 22 [.ref 14, .int (nI k)] (xC0 ++ T, I, L) (fun r t => r = none ∧ ∃ I', t = (xC0 ++ T, I', L) ∧ (∀ a, a ≠ 14 → I' a = I a) ∧ I' 14 5 = nI (sg (soS A F P k) 0 32) ∧ I' 14 6 = nI (sg (coS A F P k) 0 32) ∧ I' 14 7 = nI (sg (paS A F P k) 0 32)) := by
  refine xC.mk [some (.ref 14), some (.int (nI k)), none, none, none, none, none, none, none, none] rfl ?_
  obtain ⟨k0, k1, k2, k3, k4, k5⟩ := hok k hk
  obtain ⟨w, hw⟩ : ∃ w, w = A 3 (k * 6 + 4) := ⟨_, rfl⟩
  have loop : ∀ (wb : Bool) (wc : Nat), (wb = true → w < 5 ∧ wc = A 0 (1 * 5 + w)) → (wb = false → ¬ w < 5) → ∀ (m s : Nat) (I' : Nat → Nat → Int32) (z6 z7 z8 z9 : Option Value), s + m = 32 → (∀ a, a ≠ 14 → I' a = I a) → I' 14 5 = nI (sg (soS A F P k) 0 s) → I' 14 6 = nI (sg (coS A F P k) 0 s) → I' 14 7 = nI (sg (paS A F P k) 0 s) → xW E 2 22 53 [some (.ref 14), some (.int (nI k)), some (.int (nI w)), some (.int (xb wb)), some (.int (nI wc)), some (.int (nI s)), z6, z7, z8, z9] [] (xC0 ++ T, I', L) 0 0 (fun r t => r = none ∧ ∃ I', t = (xC0 ++ T, I', L) ∧ (∀ a, a ≠ 14 → I' a = I a) ∧ I' 14 5 = nI (sg (soS A F P k) 0 32) ∧ I' 14 6 = nI (sg (coS A F P k) 0 32) ∧ I' 14 7 = nI (sg (paS A F P k) 0 32)) := by
    intro wb wc hwt hwf m
    induction m with
    | zero =>
      intro s I' z6 z7 z8 z9 hs hf i5 i6 i7
      obtain rfl : s = 32 := by omega
      refine ws_iload_5 55 rfl rfl ?_
      refine ws_bipush 57 rfl rfl kc_b32 ?_
      refine ws_icmp_gen 207 60 rfl rfl rfl (by omega) (by omega) (fun h9 => ?_) (fun h9 => absurd h9 (by omega))
      refine ws_vret rfl rfl rfl (Nat.le_of_ble_eq_true rfl) ?_
      exact ⟨rfl, I', rfl, hf, i5, i6, i7⟩
    | succ m ih =>
      intro s I' z6 z7 z8 z9 hs hf i5 i6 i7
      have hs32 : s < 32 := by omega
      have h18s : I' 18 s = nI (P s) := by rw [hf 18 (by decide)]; exact h18 s hs32
      have hPs := hP s hs32
      have hpl := pop_le 5 s
      have es : ∀ f : Nat → Nat, sg f 0 (s + 1) = sg f 0 s + f s := fun f => by show _ + f (0 + s) = _; rw [Nat.zero_add]
      have skip : P s = 0 → ∀ (z6 z7 z8 z9 : Option Value), xW E 2 22 201 [some (.ref 14), some (.int (nI k)), some (.int (nI w)), some (.int (xb wb)), some (.int (nI wc)), some (.int (nI s)), z6, z7, z8, z9] [] (xC0 ++ T, I', L) 0 0 (fun r t => r = none ∧ ∃ I', t = (xC0 ++ T, I', L) ∧ (∀ a, a ≠ 14 → I' a = I a) ∧ I' 14 5 = nI (sg (soS A F P k) 0 32) ∧ I' 14 6 = nI (sg (coS A F P k) 0 32) ∧ I' 14 7 = nI (sg (paS A F P k) 0 32)) := by
        intro h0 z6 z7 z8 z9
        obtain ⟨p1, p2, p3⟩ := paS_0 (A := A) (F := F) (k := k) h0
        refine ws_iinc_5 204 rfl rfl (ki_1 _) rfl rfl ?_
        refine ws_goto 53 rfl rfl ?_
        exact ih (s + 1) I' _ _ _ _ (by omega) hf (by rw [es, p1]; exact i5) (by rw [es, p2]; exact i6) (by rw [es, p3]; exact i7)
      refine ws_iload_5 55 rfl rfl ?_
      refine ws_bipush 57 rfl rfl kc_b32 ?_
      refine ws_icmp_gen 207 60 rfl rfl rfl (by omega) (by omega) (fun h9 => absurd h9 (by omega)) (fun h9 => ?_)
      refine ws_iload_5 62 rfl rfl ?_
      refine ws_invS1p 65 rfl rfl rfl (p_bitCount5 s hs32) rfl rfl rfl ?_
      refine ws_istore_6 67 rfl rfl rfl rfl ?_
      refine ws_aload_0 68 rfl rfl ?_
      refine ws_getfr 71 rfl rfl rfl rfl rfl ?_
      refine ws_iload_5 73 rfl rfl ?_
      refine ws_ialdn 74 rfl rfl rfl (by omega) (by omega) h18s ?_
      refine ws_if_eqn 201 77 rfl rfl rfl (by omega) (fun c1 => ?_) (fun c1 => ?_)
      · exact skip c1 _ _ _ _
      · refine ws_iload_6 79 rfl rfl ?_
        refine ws_iconst 80 rfl rfl kc_i4 ?_
        refine ws_icmp_len 86 83 rfl rfl rfl (by omega) (by omega) (fun c2 => ?_) (fun c2 => ?_)
        · have hAn' : ∀ j, j < 20 → I' 10 j = nI (F j) := fun j hj => by rw [hf 10 (by decide)]; exact hAn j hj
          have mid : ∀ (z8 z9 : Option Value) (wv : Nat), wv = wn A k s → xW E 2 22 102 [some (.ref 14), some (.int (nI k)), some (.int (nI w)), some (.int (xb wb)), some (.int (nI wc)), some (.int (nI s)), some (.int (nI (pop 5 s))), some (.int (nI wv)), z8, z9] [] (xC0 ++ T, I', L) 0 0 (fun r t => r = none ∧ ∃ I', t = (xC0 ++ T, I', L) ∧ (∀ a, a ≠ 14 → I' a = I a) ∧ I' 14 5 = nI (sg (soS A F P k) 0 32) ∧ I' 14 6 = nI (sg (coS A F P k) 0 32) ∧ I' 14 7 = nI (sg (paS A F P k) 0 32)) := by
            intro z8 z9 wv hwv
            have hwl := wn_lt A k s
            rw [← hwv] at hwl
            have hf0 := hF (0 * 10 + 2 * pop 5 s + wv) (by omega)
            have hf1 := hF (1 * 10 + 2 * pop 5 s + wv) (by omega)
            have m0 : P s * F (0 * 10 + 2 * pop 5 s + wv) ≤ 1000000 * 1000 := Nat.mul_le_mul hPs hf0
            have so_e : P s * F (0 * 10 + 2 * pop 5 s + wv) / 1000 = soS A F P k s := by rw [hwv]; rfl
            have so_l := soS_le (A := A) (P := P) (k := k) hF c2
            have m1 : soS A F P k s * F (1 * 10 + 2 * pop 5 s + wv) ≤ 1000000 * 1000 := Nat.mul_le_mul (by omega) hf1
            have co_e : soS A F P k s * F (1 * 10 + 2 * pop 5 s + wv) / 1000 = coS A F P k s := by rw [hwv]; rfl
            have co_l := coS_le (A := A) (P := P) (k := k) hF c2
            refine ws_aload_0 103 rfl rfl ?_
            refine ws_getfr 106 rfl rfl rfl rfl rfl ?_
            refine ws_iload_5 108 rfl rfl ?_
            refine ws_ialdn 109 rfl rfl rfl (by omega) (by omega) h18s ?_
            refine ws_aload_0 110 rfl rfl ?_
            refine ws_getfr 113 rfl rfl rfl rfl rfl ?_
            refine ws_iconst 114 rfl rfl kc_i0 ?_
            refine ws_iload_6 116 rfl rfl ?_
            refine ws_iload_7 118 rfl rfl ?_
            refine ws_invV3p 121 rfl rfl rfl rfl (c_answer hAn' 0 _ _ (by omega) (by omega) hwl) rfl rfl rfl ?_
            refine ws_imul 122 rfl rfl (pk_mul _ _) ?_
            refine ws_sipush 125 rfl rfl kc_s1000 ?_
            refine ws_idiv 126 rfl rfl (kn_ne0 (by omega) (by omega)) (pk_div (by omega) (by omega) (by omega)) ?_
            rw [so_e]
            refine ws_istore_8 128 rfl rfl rfl rfl ?_
            refine ws_iload_8 130 rfl rfl ?_
            refine ws_aload_0 131 rfl rfl ?_
            refine ws_getfr 134 rfl rfl rfl rfl rfl ?_
            refine ws_iconst 135 rfl rfl kc_i1 ?_
            refine ws_iload_6 137 rfl rfl ?_
            refine ws_iload_7 139 rfl rfl ?_
            refine ws_invV3p 142 rfl rfl rfl rfl (c_answer hAn' 1 _ _ (by omega) (by omega) hwl) rfl rfl rfl ?_
            refine ws_imul 143 rfl rfl (pk_mul _ _) ?_
            refine ws_sipush 146 rfl rfl kc_s1000 ?_
            refine ws_idiv 147 rfl rfl (kn_ne0 (by omega) (by omega)) (pk_div (by omega) (by omega) (by omega)) ?_
            rw [co_e]
            have j5 : ∀ x y z : Int32, wI (wI (wI I' 14 5 x) 14 6 y) 14 7 z 14 5 = x := fun _ _ _ => rfl
            have j6 : ∀ x y z : Int32, wI (wI (wI I' 14 5 x) 14 6 y) 14 7 z 14 6 = y := fun _ _ _ => rfl
            have j7 : ∀ x y z : Int32, wI (wI (wI I' 14 5 x) 14 6 y) 14 7 z 14 7 = z := fun _ _ _ => rfl
            have hfr : ∀ (x y z : Int32) (a : Nat), a ≠ 14 → wI (wI (wI I' 14 5 x) 14 6 y) 14 7 z a = I a := fun x y z a ha => by rw [wI_ne ha, wI_ne ha, wI_ne ha]; exact hf a ha
            have hOt' : ∀ x y : Int32, wI (wI I' 14 5 x) 14 6 y 5 7 = nI (A 6 0) := fun x y => by rw [wI_ne (by decide), wI_ne (by decide), hf 5 (by decide)]; exact hOt
            have e7 : ∀ x y : Int32, wI (wI I' 14 5 x) 14 6 y 14 7 = nI (sg (paS A F P k) 0 s) := fun _ _ => i7
            refine ws_istore_9 149 rfl rfl rfl rfl ?_
            refine ws_aload_0 150 rfl rfl ?_
            refine ws_dup 151 rfl rfl rfl ?_
            refine ws_getfi 154 rfl rfl rfl rfl rfl i5 ?_
            refine ws_iload_8 156 rfl rfl ?_
            refine ws_iadd 157 rfl rfl (nI_add _ _) ?_
            refine ws_putfi 160 rfl rfl rfl rfl rfl rfl rfl rfl ?_
            refine ws_aload_0 161 rfl rfl ?_
            refine ws_dup 162 rfl rfl rfl ?_
            refine ws_getfi 165 rfl rfl rfl rfl rfl i6 ?_
            refine ws_iload_9 167 rfl rfl ?_
            refine ws_iadd 168 rfl rfl (nI_add _ _) ?_
            refine ws_putfi 171 rfl rfl rfl rfl rfl rfl rfl rfl ?_
            refine ws_aload_0 172 rfl rfl ?_
            refine ws_dup 173 rfl rfl rfl ?_
            refine ws_getfi 176 rfl rfl rfl rfl rfl (e7 _ _) ?_
            refine ws_iload_9 178 rfl rfl ?_
            refine ws_iload_7 180 rfl rfl ?_
            refine ws_iconst 181 rfl rfl kc_i1 ?_
            refine ws_icmp_nen 189 184 rfl rfl rfl (by omega) (by omega) (fun c3 => ?_) (fun c3 => ?_)
            · have pe : paS A F P k s = coS A F P k s * A 6 0 := by unfold paS; rw [if_neg (by omega)]
              refine ws_aload_0 190 rfl rfl ?_
              refine ws_getfr 193 rfl rfl rfl rfl rfl ?_
              refine ws_getfi 196 rfl rfl rfl rfl rfl (hOt' _ _) ?_
              refine ws_imul 197 rfl rfl (pk_mul _ _) ?_
              refine ws_iadd 198 rfl rfl (nI_add _ _) ?_
              refine ws_putfi 201 rfl rfl rfl rfl rfl rfl rfl rfl ?_
              refine ws_iinc_5 204 rfl rfl (ki_1 _) rfl rfl ?_
              refine ws_goto 53 rfl rfl ?_
              exact ih (s + 1) _ _ _ _ _ (by omega) (hfr _ _ _) ((j5 _ _ _).trans (by rw [es])) ((j6 _ _ _).trans (by rw [es])) ((j7 _ _ _).trans (by rw [es, pe]))
            · have hb5 : w < 5 := by
                rcases Nat.lt_or_ge w 5 with h | h
                · exact h
                · rw [hwv] at c3; unfold wn at c3; rw [← hw, if_neg (by omega)] at c3; omega
              have hwb : wb = true := by
                cases wb with
                | true => rfl
                | false => exact absurd hb5 (hwf rfl)
              obtain ⟨-, hwc⟩ := hwt hwb
              have pe : paS A F P k s = coS A F P k s * wc := by unfold paS; rw [if_pos (by omega), hwc, hw]
              refine ws_iload_4 186 rfl rfl ?_
              refine ws_goto 196 rfl rfl ?_
              refine ws_imul 197 rfl rfl (pk_mul _ _) ?_
              refine ws_iadd 198 rfl rfl (nI_add _ _) ?_
              refine ws_putfi 201 rfl rfl rfl rfl rfl rfl rfl rfl ?_
              refine ws_iinc_5 204 rfl rfl (ki_1 _) rfl rfl ?_
              refine ws_goto 53 rfl rfl ?_
              exact ih (s + 1) _ _ _ _ _ (by omega) (hfr _ _ _) ((j5 _ _ _).trans (by rw [es])) ((j6 _ _ _).trans (by rw [es])) ((j7 _ _ _).trans (by rw [es, pe]))
          refine ws_iload_3 87 rfl rfl ?_
          refine ws_if_eqb 99 90 rfl rfl rfl (fun c4 => ?_) (fun c4 => ?_)
          · refine ws_iconst 100 rfl rfl kc_i0 ?_
            refine ws_istore_7 102 rfl rfl rfl rfl ?_
            exact mid _ _ _ (by unfold wn; rw [← hw, if_neg (hwf c4)])
          · have hw5 := (hwt c4).1
            have e : s / 2 ^ w &&& 1 = s / 2 ^ w % 2 := Nat.and_one_is_mod _
            refine ws_iload_5 92 rfl rfl ?_
            refine ws_iload_2 93 rfl rfl ?_
            refine ws_ishr 94 rfl rfl (kn_shr (by omega) (by omega)) ?_
            refine ws_iconst 95 rfl rfl kc_i1 ?_
            refine ws_iand 96 rfl rfl (kn_and _ _) ?_
            refine ws_goto 100 rfl rfl ?_
            rw [e]
            refine ws_istore_7 102 rfl rfl rfl rfl ?_
            exact mid _ _ _ (by unfold wn; rw [← hw, if_pos hw5])
        · refine ws_goto 201 rfl rfl ?_
          exact skip (hpp s hs32 (by omega)) _ _ _ _
  have hh := c_habit (E := E) (T := T) (L := L) (I := wI (wI (wI I 14 5 (nI 0)) 14 6 (nI 0)) 14 7 (nI 0)) (A := A) (fun j hj => hKi j hj) k 4 hk (by omega)
  rw [← hw] at hh k4
  have st := loop
  rcases Nat.lt_or_ge w 5 with h5 | h5
  · have ht := c_trait (E := E) (T := T) (L := L) (I := wI (wI (wI I 14 5 (nI 0)) 14 6 (nI 0)) 14 7 (nI 0)) (A := A) (fun j hj => hTh j hj) w 1 h5 (by omega)
    refine ws_aload_0 1 rfl rfl ?_
    refine ws_iconst 2 rfl rfl kc_i0 ?_
    refine ws_putfi 5 rfl rfl rfl rfl rfl rfl rfl rfl ?_
    refine ws_aload_0 6 rfl rfl ?_
    refine ws_iconst 7 rfl rfl kc_i0 ?_
    refine ws_putfi 10 rfl rfl rfl rfl rfl rfl rfl rfl ?_
    refine ws_aload_0 11 rfl rfl ?_
    refine ws_iconst 12 rfl rfl kc_i0 ?_
    refine ws_putfi 15 rfl rfl rfl rfl rfl rfl rfl rfl ?_
    refine ws_aload_0 16 rfl rfl ?_
    refine ws_getfr 19 rfl rfl rfl rfl rfl ?_
    refine ws_iload_1 20 rfl rfl ?_
    refine ws_iconst 21 rfl rfl kc_i4 ?_
    refine ws_invV2p 24 rfl rfl rfl rfl (hh) rfl rfl rfl ?_
    refine ws_istore_2 25 rfl rfl rfl rfl ?_
    refine ws_iload_2 26 rfl rfl ?_
    refine ws_iconst 27 rfl rfl kc_i5 ?_
    refine ws_invSN2p 30 rfl rfl rfl (p_below5t w h5) rfl rfl rfl ?_
    refine ws_istore_3 31 rfl rfl rfl rfl ?_
    refine ws_iload_3 32 rfl rfl ?_
    refine ws_if_eqb 47 35 rfl rfl rfl (fun h9 => absurd h9 (by first | decide | simp_all)) (fun h9 => ?_)
    refine ws_aload_0 36 rfl rfl ?_
    refine ws_getfr 39 rfl rfl rfl rfl rfl ?_
    refine ws_iload_2 40 rfl rfl ?_
    refine ws_iconst 41 rfl rfl kc_i1 ?_
    refine ws_invV2p 44 rfl rfl rfl rfl (ht) rfl rfl rfl ?_
    refine ws_goto 48 rfl rfl ?_
    refine ws_istore_4 50 rfl rfl rfl rfl ?_
    refine ws_iconst 51 rfl rfl kc_i0 ?_
    refine ws_istore_5 53 rfl rfl rfl rfl ?_
    exact loop true _ (fun _ => ⟨h5, rfl⟩) (fun h => by cases h) 32 0 _ _ _ _ _ rfl (fun a ha => by rw [wI_ne ha, wI_ne ha, wI_ne ha]) rfl rfl rfl
  · obtain rfl : w = 5 := by omega
    refine ws_aload_0 1 rfl rfl ?_
    refine ws_iconst 2 rfl rfl kc_i0 ?_
    refine ws_putfi 5 rfl rfl rfl rfl rfl rfl rfl rfl ?_
    refine ws_aload_0 6 rfl rfl ?_
    refine ws_iconst 7 rfl rfl kc_i0 ?_
    refine ws_putfi 10 rfl rfl rfl rfl rfl rfl rfl rfl ?_
    refine ws_aload_0 11 rfl rfl ?_
    refine ws_iconst 12 rfl rfl kc_i0 ?_
    refine ws_putfi 15 rfl rfl rfl rfl rfl rfl rfl rfl ?_
    refine ws_aload_0 16 rfl rfl ?_
    refine ws_getfr 19 rfl rfl rfl rfl rfl ?_
    refine ws_iload_1 20 rfl rfl ?_
    refine ws_iconst 21 rfl rfl kc_i4 ?_
    refine ws_invV2p 24 rfl rfl rfl rfl (hh) rfl rfl rfl ?_
    refine ws_istore_2 25 rfl rfl rfl rfl ?_
    refine ws_iload_2 26 rfl rfl ?_
    refine ws_iconst 27 rfl rfl kc_i5 ?_
    refine ws_invSN2p 30 rfl rfl rfl (p_below5e) rfl rfl rfl ?_
    refine ws_istore_3 31 rfl rfl rfl rfl ?_
    refine ws_iload_3 32 rfl rfl ?_
    refine ws_if_eqb 47 35 rfl rfl rfl (fun h9 => ?_) (fun h9 => absurd h9 (by first | decide | simp_all))
    refine ws_iconst 48 rfl rfl kc_i0 ?_
    refine ws_istore_4 50 rfl rfl rfl rfl ?_
    refine ws_iconst 51 rfl rfl kc_i0 ?_
    refine ws_istore_5 53 rfl rfl rfl rfl ?_
    exact loop false _ (fun h => by cases h) (fun _ => by omega) 32 0 _ _ _ _ _ rfl (fun a ha => by rw [wI_ne ha, wI_ne ha, wI_ne ha]) rfl rfl rfl
theorem c_weekOf (c more : Nat) (hc : c ≠ 16) (hc2 : c ≠ 15) (hc3 : c < 14 ∨ 18 < c) (hm : more ≤ 9) (hS : (xC0 ++ T)[c]? = some (.inl (.int, 5))) (hTh : ∀ j, j < 15 → I 6 j = nI (A 0 j)) (hLi : ∀ j, j < 5 → I 7 j = nI (A 1 j)) (hKi : ∀ j, j < 24 → I 9 j = nI (A 3 j)) (hAn : ∀ j, j < 20 → I 10 j = nI (F j)) (hOt : I 5 7 = nI (A 6 0)) (h1 : ∀ j, j < 5 → A 0 j ≤ 9) (h2 : ∀ j, j < 5 → A 1 j ≤ 9) (h3 : ∀ j, j < 15 → A 0 j ≤ 99) (ho : A 6 0 ≤ 99) (hok : okK A) (hF : ∀ j, j < 20 → F j ≤ 1000) (hb : ∀ p, p < 5 → b p ≤ 5) (hrow : ∀ p, p < 5 → I c p = rw6 (b p)) :
    xC E 4 23 [.ref 14, .ref c, .int (nI more)] (xC0 ++ T, I, L) (fun r t => r = some (.int (nI (wkF A F b more))) ∧ ∃ I', t = (xC0 ++ T, I', L) ∧ (∀ a, a < 14 ∨ 18 < a → I' a = I a)) := by
  refine xC.mk [some (.ref 14), some (.ref c), some (.int (nI more)), none, none, none, none] rfl ?_
  refine ws_aload_0 1 rfl rfl ?_
  refine ws_aload_1 2 rfl rfl ?_
  refine ws_invV1 5 rfl rfl rfl rfl (c_standBefore c hc hc2 hS hTh hLi h1 h2 h3 hb hrow) rfl rfl rfl ?_
  rintro _ _ ⟨rfl, I2, rfl, hf2, h15, h16⟩
  have loop : ∀ (m k : Nat) (I' : Nat → Nat → Int32) (z : Option Value), k + m = 4 → (∀ a, a < 14 ∨ 18 < a → I' a = I a) → (∀ p, p < 5 → I' 15 p = nI (bt b p)) → (∀ p, p < 5 → I' 16 p = nI (dz A b p)) → xW E 4 23 10 [some (.ref 14), some (.ref c), some (.int (nI more)), some (.long (lN (sg (fun k => payF A F b more k * A 3 (k * 6 + 5)) 0 k))), none, some (.int (nI k)), z] [] (xC0 ++ T, I', L) 0 0 (fun r t => r = some (.int (nI (wkF A F b more))) ∧ ∃ I', t = (xC0 ++ T, I', L) ∧ (∀ a, a < 14 ∨ 18 < a → I' a = I a)) := by
    intro m
    induction m with
    | zero =>
      intro k I' z hk hf h15 h16
      obtain rfl : k = 4 := by omega
      have hsl := wk_sum_le (more := more) hok hb hF h3 ho 4 (by omega)
      refine ws_iload_5 12 rfl rfl ?_
      refine ws_iconst 13 rfl rfl kc_i4 ?_
      refine ws_icmp_gen 64 16 rfl rfl rfl (by omega) (by omega) (fun h9 => ?_) (fun h9 => absurd h9 (by omega))
      refine ws_lload_3 65 rfl rfl ?_
      refine ws_ldc2 68 rfl rfl rfl (show (1000 : Int64) = lN 1000 from rfl) ?_
      refine ws_ldiv 69 rfl rfl (kn_lne0 (by omega) (by omega)) (pk_lDiv (by omega) (by omega) (by omega)) ?_
      refine ws_l2i 70 rfl rfl (lN_i _) ?_
      refine ws_iret rfl rfl rfl (Nat.le_of_ble_eq_true rfl) ?_
      exact ⟨rfl, I', rfl, hf⟩
    | succ m ih =>
      intro k I' z hk hf h15 h16
      have hk4 : k < 4 := by omega
      have es : sg (fun k => payF A F b more k * A 3 (k * 6 + 5)) 0 (k + 1) = sg (fun k => payF A F b more k * A 3 (k * 6 + 5)) 0 k + payF A F b more k * A 3 (k * 6 + 5) := by
        show _ + (fun k => payF A F b more k * A 3 (k * 6 + 5)) (0 + k) = _
        rw [Nat.zero_add]
      have hKi' : ∀ j, j < 24 → I' 9 j = nI (A 3 j) := fun j hj => by rw [hf 9 (by omega)]; exact hKi j hj
      obtain ⟨k0, k1, k2, k3, k4, k5⟩ := hok k hk4
      refine ws_iload_5 12 rfl rfl ?_
      refine ws_iconst 13 rfl rfl kc_i4 ?_
      refine ws_icmp_gen 64 16 rfl rfl rfl (by omega) (by omega) (fun h9 => absurd h9 (by omega)) (fun h9 => ?_)
      refine ws_aload_0 17 rfl rfl ?_
      refine ws_getfr 20 rfl rfl rfl rfl rfl ?_
      refine ws_iload_5 22 rfl rfl ?_
      refine ws_iconst 23 rfl rfl kc_i5 ?_
      refine ws_invV2p 26 rfl rfl rfl rfl (c_habit hKi' k 5 hk4 (by omega)) rfl rfl rfl ?_
      refine ws_istore_6 28 rfl rfl rfl rfl ?_
      refine ws_iload_6 30 rfl rfl ?_
      refine ws_if_len 58 33 rfl rfl rfl (by omega) (fun c1 => ?_) (fun c1 => ?_)
      · have c0 : A 3 (k * 6 + 5) = 0 := by omega
        refine ws_iinc_5 61 rfl rfl (ki_1 _) rfl rfl ?_
        refine ws_goto 10 rfl rfl ?_
        have := ih (k + 1) I' (some (.int (nI (A 3 (k * 6 + 5))))) (by omega) hf h15 h16; rw [es, c0, Nat.mul_zero, Nat.add_zero] at this; rw [c0]; exact this
      · refine ws_aload_0 34 rfl rfl ?_
        refine ws_iload_5 36 rfl rfl ?_
        refine ws_iload_2 37 rfl rfl ?_
        refine ws_invV2 40 rfl rfl rfl rfl (c_goBy k more hk4 hm hKi' hok h1 h2 hb h15 h16) rfl rfl rfl ?_
        rintro _ _ ⟨rfl, I3, rfl, hf3, h18⟩
        refine ws_aload_0 41 rfl rfl ?_
        refine ws_iload_5 43 rfl rfl ?_
        refine ws_invV1 46 rfl rfl rfl rfl (c_reckon (A := A) (F := F) k hk4 (fun j hj => by rw [hf3 6 (by decide) (by decide), hf 6 (by omega)]; exact hTh j hj) (fun j hj => by rw [hf3 9 (by decide) (by decide)]; exact hKi' j hj) (fun j hj => by rw [hf3 10 (by decide) (by decide), hf 10 (by omega)]; exact hAn j hj) (by rw [hf3 5 (by decide) (by decide), hf 5 (by omega)]; exact hOt) hok hF h18 (fun u hu => pt_le hb (by omega) hu) (fun u hu h => pt_pop hb _ (by omega) u hu (by omega))) rfl rfl rfl ?_
        rintro _ _ ⟨rfl, I4, rfl, hf4, i5, i6, i7⟩
        have hpay := payF_le (more := more) hk4 hok hb hF h3 ho
        have i7 : I4 14 7 = nI (payF A F b more k) := i7
        refine ws_lload_3 47 rfl rfl ?_
        refine ws_aload_0 48 rfl rfl ?_
        refine ws_getfi 51 rfl rfl rfl rfl rfl i7 ?_
        refine ws_i2l 52 rfl rfl (nI_l (by omega)) ?_
        refine ws_iload_6 54 rfl rfl ?_
        refine ws_i2l 55 rfl rfl (nI_l (by omega)) ?_
        refine ws_lmul 56 rfl rfl (lN_mul _ _) ?_
        refine ws_ladd 57 rfl rfl (lN_add _ _) ?_
        refine ws_lstore_3 58 rfl rfl rfl rfl ?_
        refine ws_iinc_5 61 rfl rfl (ki_1 _) rfl rfl ?_
        refine ws_goto 10 rfl rfl ?_
        have := ih (k + 1) I4 (some (.int (nI (A 3 (k * 6 + 5))))) (by omega) (fun a ha => by rw [hf4 a (by omega), hf3 a (by omega) (by omega)]; exact hf a ha) (fun p hp => by rw [hf4 15 (by decide), hf3 15 (by decide) (by decide)]; exact h15 p hp) (fun p hp => by rw [hf4 16 (by decide), hf3 16 (by decide) (by decide)]; exact h16 p hp); rw [es] at this; exact this
  refine ws_lconst (v := lN 0) 6 rfl rfl rfl ?_
  refine ws_lstore_3 7 rfl rfl rfl rfl ?_
  refine ws_iconst 8 rfl rfl kc_i0 ?_
  refine ws_istore_5 10 rfl rfl rfl rfl ?_
  exact loop 4 0 I2 _ rfl (fun a ha => hf2 a (by omega) (by omega)) h15 h16
end WEEK
