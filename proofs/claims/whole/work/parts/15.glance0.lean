/-! ===== glances, in numbers ===== -/
/-- a sum of n terms from lo on -/
def sg (f : Nat → Nat) (lo : Nat) : Nat → Nat
  | 0 => 0
  | n + 1 => sg f lo n + f (lo + n)
theorem sg_front (f : Nat → Nat) : ∀ (n lo : Nat), sg f lo (n + 1) = f lo + sg f (lo + 1) n
  | 0, lo => by show 0 + f (lo + 0) = f lo + 0; simp
  | n + 1, lo => by
    show sg f lo (n + 1) + f (lo + (n + 1)) = f lo + (sg f (lo + 1) n + f (lo + 1 + n))
    rw [sg_front f n lo, show lo + (n + 1) = lo + 1 + n by omega]
    omega
theorem sg_congr {f g : Nat → Nat} {lo : Nat} : ∀ {n : Nat}, (∀ i, i < n → f (lo + i) = g (lo + i)) → sg f lo n = sg g lo n
  | 0, _ => rfl
  | n + 1, h => by
    show sg f lo n + f (lo + n) = sg g lo n + g (lo + n)
    rw [sg_congr (fun i hi => h i (by omega)), h n (by omega)]
theorem sg_add (f g : Nat → Nat) (lo : Nat) : ∀ n, sg (fun i => f i + g i) lo n = sg f lo n + sg g lo n
  | 0 => rfl
  | n + 1 => by
    show sg (fun i => f i + g i) lo n + (f (lo + n) + g (lo + n)) = (sg f lo n + f (lo + n)) + (sg g lo n + g (lo + n))
    rw [sg_add f g lo n]
    omega
theorem sg_zero (lo : Nat) : ∀ n, sg (fun _ => 0) lo n = 0
  | 0 => rfl
  | n + 1 => by show sg (fun _ => 0) lo n + 0 = 0; rw [sg_zero lo n]
theorem sg_le {f g : Nat → Nat} {lo : Nat} : ∀ {n : Nat}, (∀ i, i < n → f (lo + i) ≤ g (lo + i)) → sg f lo n ≤ sg g lo n
  | 0, _ => Nat.le_refl 0
  | n + 1, h => Nat.add_le_add (sg_le (fun i hi => h i (by omega))) (h n (by omega))
theorem sg_mono {f : Nat → Nat} {lo : Nat} : ∀ {n m : Nat}, n ≤ m → sg f lo n ≤ sg f lo m
  | n, 0, h => by
    have : n = 0 := by omega
    rw [this]
    exact Nat.le_refl _
  | n, m + 1, h => by
    rcases Nat.lt_or_ge n (m + 1) with h1 | h1
    · exact Nat.le_trans (sg_mono (by omega)) (Nat.le_add_right _ _)
    · have : n = m + 1 := by omega
      rw [this]
      exact Nat.le_refl _
theorem sg_term {f : Nat → Nat} {n i : Nat} (h : i < n) : f i ≤ sg f 0 n := by
  have h1 : f i ≤ sg f 0 (i + 1) := by
    show f i ≤ sg f 0 i + f (0 + i)
    rw [Nat.zero_add]
    omega
  exact Nat.le_trans h1 (sg_mono h)
/-- one place of a sum -/
theorem sg_one (v : Nat) (t : Nat) : ∀ n, sg (fun u => if u = t then v else 0) 0 n = if t < n then v else 0
  | 0 => by rw [if_neg (Nat.not_lt_zero t)]; rfl
  | n + 1 => by
    show sg (fun u => if u = t then v else 0) 0 n + (if 0 + n = t then v else 0) = _
    rw [sg_one v t n, Nat.zero_add]
    by_cases h : n = t
    · rw [if_neg (by omega), if_pos h, if_pos (by omega), Nat.zero_add]
    · rw [if_neg h, Nat.add_zero]
      by_cases h2 : t < n
      · rw [if_pos h2, if_pos (by omega)]
      · rw [if_neg h2, if_neg (by omega)]
theorem sg_comm (F : Nat → Nat → Nat) (m : Nat) : ∀ n, sg (fun u => sg (fun s => F s u) 0 m) 0 n = sg (fun s => sg (fun u => F s u) 0 n) 0 m
  | 0 => by show 0 = sg (fun _ => 0) 0 m; rw [sg_zero]
  | n + 1 => by
    show sg (fun u => sg (fun s => F s u) 0 m) 0 n + sg (fun s => F s (0 + n)) 0 m = sg (fun s => sg (fun u => F s u) 0 n + F s (0 + n)) 0 m
    rw [sg_comm F m n, sg_add]
/-- may a glance fall on the thing at p, for one who has seen s -/
def mf (b : Nat → Nat) (s p : Nat) : Bool := decide (¬ b p = 0) && decide (s / 2 ^ (b p - 1) % 2 = 0)
section GL
variable (b w : Nat → Nat) (s f : Nat)
/-- what draws, of the first k places from f on -/
def smf (k : Nat) : Nat := sg (fun p => bif mf b s p then w p else 0) f k
/-- the last of them, and 1; 0: there is none -/
def laf : Nat → Nat
  | 0 => 0
  | k + 1 => bif mf b s (f + k) then f + k + 1 else laf k
variable (n v : Nat)
/-- what goes over at the place f + k, as long as it isn't the last -/
def qf (k : Nat) : Nat := v * w (f + k) / smf b w s f n
/-- what has gone over before place f + k, the last one left out -/
def lff : Nat → Nat
  | 0 => v
  | k + 1 => bif mf b s (f + k) then (if f + k + 1 = laf b s f n then 0 else lff k - qf b w s f n v k) else lff k
/-- what goes over at the place f + k -/
def owf (k : Nat) : Nat := if f + k + 1 = laf b s f n then lff b w s f n v k else qf b w s f n v k
/-- what has come to u from the first k places -/
def csf : Nat → Nat → Nat
  | 0, _ => 0
  | k + 1, u => bif mf b s (f + k) then csf k u + (if u = s ||| 2 ^ (b (f + k) - 1) then owf b w s f n v k else 0) else csf k u
/-- what comes to u of the part v of the set s -/
def ctf (u : Nat) : Nat := csf b w s f n v n u + (if u = s then lff b w s f n v n else 0)
end GL
/-- the parts behind a glance -/
def gla (b w : Nat → Nat) (f n : Nat) (P : Nat → Nat) (u : Nat) : Nat := sg (fun s => ctf b w s f n (P s) u) 0 32
theorem laf_le (b : Nat → Nat) (s f : Nat) : ∀ k, laf b s f k ≤ f + k
  | 0 => Nat.zero_le _
  | k + 1 => by
    show (bif mf b s (f + k) then f + k + 1 else laf b s f k) ≤ f + (k + 1)
    cases mf b s (f + k) with
    | true => show f + k + 1 ≤ f + (k + 1); omega
    | false => have := laf_le b s f k; show laf b s f k ≤ f + (k + 1); omega
theorem laf_mono (b : Nat → Nat) (s f : Nat) : ∀ {k m : Nat}, k ≤ m → laf b s f k ≤ laf b s f m
  | k, 0, h => by
    have : k = 0 := by omega
    rw [this]; exact Nat.le_refl _
  | k, m + 1, h => by
    rcases Nat.lt_or_ge k (m + 1) with h1 | h1
    · have h2 := laf_mono b s f (show k ≤ m by omega)
      show _ ≤ (bif mf b s (f + m) then f + m + 1 else laf b s f m)
      cases mf b s (f + m) with
      | true => have := laf_le b s f k; show _ ≤ f + m + 1; omega
      | false => exact h2
    · have : k = m + 1 := by omega
      rw [this]; exact Nat.le_refl _
/-- where one may fall, the last isn't ahead of it -/
theorem laf_ge {b : Nat → Nat} {s f k m : Nat} (h : mf b s (f + k) = true) (hk : k < m) : f + k + 1 ≤ laf b s f m := by
  have h1 : laf b s f (k + 1) = f + k + 1 := by show (bif mf b s (f + k) then f + k + 1 else _) = _; rw [h]; rfl
  rw [← h1]
  exact laf_mono b s f hk
theorem laf_mf {b : Nat → Nat} {s f : Nat} : ∀ {k : Nat}, 0 < laf b s f k → ∃ i, i < k ∧ laf b s f k = f + i + 1 ∧ mf b s (f + i) = true
  | 0, h => by cases h
  | k + 1, h => by
    cases hm : mf b s (f + k) with
    | true => exact ⟨k, by omega, by show (bif mf b s (f + k) then f + k + 1 else _) = _; rw [hm]; rfl, hm⟩
    | false =>
      have e : laf b s f (k + 1) = laf b s f k := by show (bif mf b s (f + k) then f + k + 1 else _) = _; rw [hm]; rfl
      rw [e] at h ⊢
      obtain ⟨i, h1, h2, h3⟩ := laf_mf h
      exact ⟨i, by omega, h2, h3⟩
theorem smf_s (b w : Nat → Nat) (s f k : Nat) : smf b w s f (k + 1) = smf b w s f k + (bif mf b s (f + k) then w (f + k) else 0) := rfl
theorem div_add_le (a c d : Nat) : a / d + c / d ≤ (a + c) / d := by
  rcases Nat.eq_zero_or_pos d with h | h
  · subst h; simp
  · rw [Nat.le_div_iff_mul_le h, Nat.add_mul]
    exact Nat.add_le_add (Nat.div_mul_le_self a d) (Nat.div_mul_le_self c d)
/-- what is left: as long as the last isn't passed, the part less what went over, and that isn't more -/
theorem lff_ge (b w : Nat → Nat) (s f n v : Nat) : ∀ k, k ≤ n → f + k < laf b s f n → v ≤ lff b w s f n v k + v * smf b w s f k / smf b w s f n ∧ lff b w s f n v k ≤ v
  | 0, _, _ => by
    exact ⟨Nat.le_add_right _ _, Nat.le_refl _⟩
  | k + 1, hk, hl => by
    obtain ⟨h1, h2⟩ := lff_ge b w s f n v k (by omega) (by omega)
    cases hm : mf b s (f + k) with
    | false =>
      have e1 : lff b w s f n v (k + 1) = lff b w s f n v k := by show (bif mf b s (f + k) then _ else _) = _; rw [hm]; rfl
      have e2 : smf b w s f (k + 1) = smf b w s f k := by rw [smf_s, hm]; rfl
      rw [e1, e2]
      exact ⟨h1, h2⟩
    | true =>
      have e1 : lff b w s f n v (k + 1) = lff b w s f n v k - qf b w s f n v k := by
        show (bif mf b s (f + k) then (if f + k + 1 = laf b s f n then 0 else _) else _) = _
        rw [hm]
        show (if f + k + 1 = laf b s f n then 0 else _) = _
        rw [if_neg (by omega)]
      have e2 : smf b w s f (k + 1) = smf b w s f k + w (f + k) := by rw [smf_s, hm]; rfl
      rw [e1, e2, Nat.mul_add]
      have h3 := div_add_le (v * smf b w s f k) (v * w (f + k)) (smf b w s f n)
      have h4 : qf b w s f n v k = v * w (f + k) / smf b w s f n := rfl
      omega
theorem smf_mono {b w : Nat → Nat} {s f k m : Nat} (h : k ≤ m) : smf b w s f k ≤ smf b w s f m := sg_mono h
/-- what goes over isn't more than what is left -/
theorem qf_le (b w : Nat → Nat) (s f n v k : Nat) (hk : k < n) (hm : mf b s (f + k) = true) (hl : f + k + 1 < laf b s f n + 1) (hp : 0 < smf b w s f n) : owf b w s f n v k ≤ lff b w s f n v k := by
  unfold owf
  split
  · exact Nat.le_refl _
  · obtain ⟨h1, h2⟩ := lff_ge b w s f n v k (by omega) (by omega)
    have h3 := div_add_le (v * smf b w s f k) (v * w (f + k)) (smf b w s f n)
    have h4 : qf b w s f n v k = v * w (f + k) / smf b w s f n := rfl
    have e2 : smf b w s f (k + 1) = smf b w s f k + w (f + k) := by rw [smf_s, hm]; rfl
    have h5 : smf b w s f (k + 1) ≤ smf b w s f n := smf_mono (by omega)
    have h6 : (v * smf b w s f k + v * w (f + k)) / smf b w s f n ≤ v := by
      rw [← Nat.mul_add, ← e2]
      calc v * smf b w s f (k + 1) / smf b w s f n ≤ v * smf b w s f n / smf b w s f n := Nat.div_le_div_right (Nat.mul_le_mul_left v h5)
        _ = v := Nat.mul_div_cancel v hp
    omega
/-- behind the last nothing is left -/
theorem lff_0 (b w : Nat → Nat) (s f n v : Nat) : ∀ k, k ≤ n → 0 < laf b s f n → laf b s f n ≤ f + k → lff b w s f n v k = 0
  | 0, _, h0, h => by
    obtain ⟨i, h1, h2, h3⟩ := laf_mf h0
    omega
  | k + 1, hk, h0, h => by
    show (bif mf b s (f + k) then (if f + k + 1 = laf b s f n then 0 else lff b w s f n v k - qf b w s f n v k) else lff b w s f n v k) = 0
    cases hm : mf b s (f + k) with
    | true =>
      have := laf_ge hm (show k < n by omega)
      show (if f + k + 1 = laf b s f n then 0 else _) = 0
      rw [if_pos (by omega)]
    | false =>
      show lff b w s f n v k = 0
      refine lff_0 b w s f n v k (by omega) h0 ?_
      obtain ⟨i, h1, h2, h3⟩ := laf_mf h0
      have : ¬ i = k := fun e => by rw [e, hm] at h3; cases h3
      omega
theorem lff_s {b w : Nat → Nat} {s f n v k : Nat} (hm : mf b s (f + k) = true) : lff b w s f n v (k + 1) = lff b w s f n v k - owf b w s f n v k := by
  show (bif mf b s (f + k) then (if f + k + 1 = laf b s f n then 0 else _) else _) = _
  rw [hm]
  show (if f + k + 1 = laf b s f n then 0 else _) = _
  unfold owf
  split
  · omega
  · rfl
theorem lff_n {b w : Nat → Nat} {s f n v k : Nat} (hm : mf b s (f + k) = false) : lff b w s f n v (k + 1) = lff b w s f n v k := by
  show (bif mf b s (f + k) then _ else _) = _
  rw [hm]
  rfl
theorem csf_s {b w : Nat → Nat} {s f n v k u : Nat} (hm : mf b s (f + k) = true) : csf b w s f n v (k + 1) u = csf b w s f n v k u + (if u = s ||| 2 ^ (b (f + k) - 1) then owf b w s f n v k else 0) := by
  show (bif mf b s (f + k) then _ else _) = _
  rw [hm]
  rfl
theorem csf_n {b w : Nat → Nat} {s f n v k u : Nat} (hm : mf b s (f + k) = false) : csf b w s f n v (k + 1) u = csf b w s f n v k u := by
  show (bif mf b s (f + k) then _ else _) = _
  rw [hm]
  rfl
theorem lff_none {b w : Nat → Nat} {s f n v : Nat} (h : laf b s f n = 0) : ∀ k, k ≤ n → lff b w s f n v k = v ∧ ∀ u, csf b w s f n v k u = 0
  | 0, _ => ⟨rfl, fun _ => rfl⟩
  | k + 1, hk => by
    have hm : mf b s (f + k) = false := by
      cases hm : mf b s (f + k) with
      | false => rfl
      | true => have := laf_ge hm (show k < n by omega); omega
    obtain ⟨h1, h2⟩ := lff_none (b := b) (w := w) (v := v) h k (by omega)
    exact ⟨by rw [lff_n hm]; exact h1, fun u => by rw [csf_n hm]; exact h2 u⟩
/-- nothing of no part -/
theorem ctf_0 (b w : Nat → Nat) (s f n u : Nat) : ctf b w s f n 0 u = 0 := by
  have h : ∀ k, lff b w s f n 0 k = 0 ∧ csf b w s f n 0 k u = 0 := by
    intro k
    induction k with
    | zero => exact ⟨rfl, rfl⟩
    | succ k ih =>
      have ho : owf b w s f n 0 k = 0 := by
        unfold owf qf
        rw [ih.1]
        split <;> simp
      cases hm : mf b s (f + k) with
      | true => exact ⟨by rw [lff_s hm, ih.1]; omega, by rw [csf_s hm, ih.2, ho]; simp⟩
      | false => exact ⟨by rw [lff_n hm]; exact ih.1, by rw [csf_n hm]; exact ih.2⟩
  unfold ctf
  rw [(h n).1, (h n).2]
  simp
theorem or_ge (a c : Nat) : a ≤ a ||| c := Nat.left_le_or
/-- nothing comes to a lesser number -/
theorem ctf_lt {b w : Nat → Nat} {s f n v u : Nat} (h : u < s) : ctf b w s f n v u = 0 := by
  have hc : ∀ k, csf b w s f n v k u = 0 := by
    intro k
    induction k with
    | zero => rfl
    | succ k ih =>
      cases hm : mf b s (f + k) with
      | true =>
        have := or_ge s (2 ^ (b (f + k) - 1))
        rw [csf_s hm, ih, if_neg (by omega)]
      | false => rw [csf_n hm]; exact ih
  unfold ctf
  rw [hc, if_neg (by omega)]
theorem or_lt32 : ∀ s, s < 32 → ∀ d, d < 5 → s ||| 2 ^ d < 32 := by decide
/-- all of a part comes somewhere -/
theorem ctf_sum {b w : Nat → Nat} {s f n v : Nat} (hs : s < 32) (hb : ∀ k, k < n → b (f + k) ≤ 5) (hw : ∀ k, k < n → mf b s (f + k) = true → 0 < w (f + k)) : sg (ctf b w s f n v) 0 32 = v := by
  have hc : ∀ k, k ≤ n → f + k ≤ laf b s f n ∨ laf b s f n ≤ f + k := fun k _ => by omega
  have key : ∀ k, k ≤ n → sg (csf b w s f n v k) 0 32 + lff b w s f n v k = v := by
    intro k
    induction k with
    | zero => intro _; show sg (fun _ => 0) 0 32 + v = v; rw [sg_zero]; omega
    | succ k ih =>
      intro hk
      have ih := ih (by omega)
      cases hm : mf b s (f + k) with
      | false =>
        rw [lff_n hm, show sg (csf b w s f n v (k + 1)) 0 32 = sg (csf b w s f n v k) 0 32 from sg_congr (fun i _ => csf_n hm)]
        exact ih
      | true =>
        have hge := laf_ge hm (show k < n by omega)
        have hd : b (f + k) - 1 < 5 := by have := hb k (by omega); omega
        have ht := or_lt32 s hs _ hd
        have hsp : 0 < smf b w s f n := by
          have h1 : smf b w s f (k + 1) = smf b w s f k + w (f + k) := by rw [smf_s, hm]; rfl
          have h2 := hw k (by omega) hm
          have h3 : smf b w s f (k + 1) ≤ smf b w s f n := smf_mono (by omega)
          omega
        have hle := qf_le b w s f n v k (by omega) hm (by omega) hsp
        have e1 : sg (csf b w s f n v (k + 1)) 0 32 = sg (csf b w s f n v k) 0 32 + owf b w s f n v k := by
          rw [show sg (csf b w s f n v (k + 1)) 0 32 = sg (fun u => csf b w s f n v k u + (if u = s ||| 2 ^ (b (f + k) - 1) then owf b w s f n v k else 0)) 0 32 from sg_congr (fun i _ => csf_s hm), sg_add, sg_one, if_pos ht]
        rw [e1, lff_s hm]
        omega
  have h1 := key n (Nat.le_refl n)
  show sg (fun u => csf b w s f n v n u + (if u = s then lff b w s f n v n else 0)) 0 32 = v
  rw [sg_add, sg_one, if_pos hs]
  exact h1
theorem gla_sum {b w P : Nat → Nat} {f n : Nat} (hb : ∀ k, k < n → b (f + k) ≤ 5) (hw : ∀ k, k < n → ¬ b (f + k) = 0 → 0 < w (f + k)) : sg (gla b w f n P) 0 32 = sg P 0 32 := by
  show sg (fun u => sg (fun s => ctf b w s f n (P s) u) 0 32) 0 32 = _
  rw [sg_comm (fun s u => ctf b w s f n (P s) u)]
  refine sg_congr (fun i hi => ?_)
  refine ctf_sum (by omega) hb (fun k hk hm => hw k hk ?_)
  unfold mf at hm
  simp at hm
  exact hm.1
/-- glances downwards, in one row: what stands behind the sets from k on -/
theorem gla_down {b w P : Nat → Nat} {f n k u : Nat} {D : Nat → Nat} (hk : k < 32) (hD : ∀ u, u < 32 → D u = (if u < k + 1 then P u else 0) + sg (fun s => ctf b w s f n (P s) u) (k + 1) (32 - (k + 1))) (hu : u < 32) :
    D k = P k ∧ (if u = k then 0 else D u) + ctf b w k f n (P k) u = (if u < k then P u else 0) + sg (fun s => ctf b w s f n (P s) u) k (32 - k) := by
  have hz : ∀ m, sg (fun s => ctf b w s f n (P s) k) (k + 1) m = 0 := by
    intro m
    induction m with
    | zero => rfl
    | succ m ih => show _ + ctf b w (k + 1 + m) f n _ k = 0; rw [ih, ctf_lt (by omega)]
  have h1 : D k = P k := by rw [hD k hk, if_pos (by omega), hz, Nat.add_zero]
  refine ⟨h1, ?_⟩
  have e : 32 - k = (32 - (k + 1)) + 1 := by omega
  rw [e, sg_front]
  by_cases hu2 : u = k
  · subst hu2
    rw [if_pos rfl, if_neg (by omega), hz]
    omega
  · rw [if_neg hu2, hD u hu]
    by_cases h3 : u < k
    · rw [if_pos (by omega), if_pos h3]; omega
    · rw [if_neg (by omega), if_neg h3]; omega
/-- how many bits: a glance adds one at most -/
theorem pop_or : ∀ s, s < 32 → ∀ d, d < 5 → pop 5 (s ||| 2 ^ d) ≤ pop 5 s + 1 := by decide +kernel
theorem gla_pop {b w P : Nat → Nat} {f n g : Nat} (hb : ∀ k, k < n → b (f + k) ≤ 5) (hP : ∀ s, s < 32 → g < pop 5 s → P s = 0) : ∀ u, u < 32 → g + 1 < pop 5 u → gla b w f n P u = 0 := by
  intro u hu hg
  unfold gla
  have : ∀ s, s < 32 → ctf b w s f n (P s) u = 0 := by
    intro s hs
    rcases Nat.lt_or_ge g (pop 5 s) with h | h
    · rw [hP s hs h, ctf_0]
    · have hne : ¬ u = s := fun e => by rw [e] at hg; omega
      have hc : ∀ k, k ≤ n → csf b w s f n (P s) k u = 0 := by
        intro k
        induction k with
        | zero => intro _; rfl
        | succ k ih =>
          intro hk
          cases hm : mf b s (f + k) with
          | true =>
            have h2 := pop_or s hs (b (f + k) - 1) (by have := hb k (by omega); omega)
            rw [csf_s hm, ih (by omega), if_neg (fun e => by rw [e] at hg; omega)]
          | false => rw [csf_n hm]; exact ih (by omega)
      unfold ctf
      rw [hc n (Nat.le_refl n), if_neg hne]
  rw [show sg (fun s => ctf b w s f n (P s) u) 0 32 = sg (fun _ => 0) 0 32 from sg_congr (fun i hi => this (0 + i) (by omega)), sg_zero]
