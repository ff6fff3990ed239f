/-! ===== all windows: codes to six, numbers to eight ===== -/
/-- things of a window, as bits; none: one stands twice -/
def tin (b : Nat → Nat) : Nat → Option Nat
  | 0 => some 0
  | k + 1 => match tin b k with
    | none => none
    | some s => if b k = 0 then some s else if s / 2 ^ (b k - 1) % 2 = 1 then none else some (s ||| 2 ^ (b k - 1))
def cd (b : Nat → Nat) : Nat := b 0 * 1296 + b 1 * 216 + b 2 * 36 + b 3 * 6 + b 4
def n8 (b : Nat → Nat) : Nat := (((b 0 * 8 + b 1) * 8 + b 2) * 8 + b 3) * 8 + b 4
def vB (c : Nat) : Bool := (tin (dg c) 5).isSome
def sC (c : Nat) : Nat := (tin (dg c) 5).getD 0
def vc : List Nat := (List.range 7776).filter vB
def enT (f : Nat → Nat → List (Nat × Nat)) (num s : Nat) : Nat → List (Nat × Nat)
  | 0 => []
  | th + 1 => enT f num s th ++ (if s / 2 ^ th % 2 = 0 then f (num * 8 + (th + 1)) (s ||| 2 ^ th) else [])
/-- how the class lists them -/
def en : Nat → Nat → Nat → List (Nat × Nat)
  | 0, num, s => [(num, s)]
  | k + 1, num, s => en k (num * 8) s ++ enT (en k) num s 5
theorem en_vc : en 5 0 0 = vc.map (fun c => (n8 (dg c), sC c)) := by decide +kernel
theorem vc_len : vc.length = 1546 := by decide +kernel
def vcn (i : Nat) : Nat := vc.getD i 0
theorem dg_0 (c : Nat) : dg c 0 = c / 1296 % 6 := rfl
theorem dg_1 (c : Nat) : dg c 1 = c / 216 % 6 := rfl
theorem dg_2 (c : Nat) : dg c 2 = c / 36 % 6 := rfl
theorem dg_3 (c : Nat) : dg c 3 = c / 6 % 6 := rfl
theorem dg_4 (c : Nat) : dg c 4 = c / 1 % 6 := rfl
theorem dg_le (c p : Nat) : dg c p ≤ 5 := by unfold dg; omega
theorem p5 {P : Nat → Prop} (h0 : P 0) (h1 : P 1) (h2 : P 2) (h3 : P 3) (h4 : P 4) : ∀ p, p < 5 → P p := by
  intro p hp
  rcases (show p = 0 ∨ p = 1 ∨ p = 2 ∨ p = 3 ∨ p = 4 by omega) with rfl | rfl | rfl | rfl | rfl
  · exact h0
  · exact h1
  · exact h2
  · exact h3
  · exact h4
theorem cd_lt {b : Nat → Nat} (hb : ∀ p, p < 5 → b p ≤ 5) : cd b < 7776 := by
  have h0 := hb 0 (by omega); have h1 := hb 1 (by omega); have h2 := hb 2 (by omega); have h3 := hb 3 (by omega); have h4 := hb 4 (by omega)
  unfold cd
  omega
theorem dg_cd {b : Nat → Nat} (hb : ∀ p, p < 5 → b p ≤ 5) : ∀ p, p < 5 → dg (cd b) p = b p := by
  have h0 := hb 0 (by omega); have h1 := hb 1 (by omega); have h2 := hb 2 (by omega); have h3 := hb 3 (by omega); have h4 := hb 4 (by omega)
  refine p5 ?_ ?_ ?_ ?_ ?_
  · rw [dg_0]; unfold cd; omega
  · rw [dg_1]; unfold cd; omega
  · rw [dg_2]; unfold cd; omega
  · rw [dg_3]; unfold cd; omega
  · rw [dg_4]; unfold cd; omega
theorem cd_dg {c : Nat} (hc : c < 7776) : cd (dg c) = c := by
  unfold cd
  rw [dg_0, dg_1, dg_2, dg_3, dg_4]
  omega
theorem cd_congr {a b : Nat → Nat} (h : ∀ p, p < 5 → a p = b p) : cd a = cd b := by
  unfold cd
  rw [h 0 (by omega), h 1 (by omega), h 2 (by omega), h 3 (by omega), h 4 (by omega)]
theorem n8_congr {a b : Nat → Nat} (h : ∀ p, p < 5 → a p = b p) : n8 a = n8 b := by
  unfold n8
  rw [h 0 (by omega), h 1 (by omega), h 2 (by omega), h 3 (by omega), h 4 (by omega)]
theorem tin_congr {a b : Nat → Nat} : ∀ {k : Nat}, (∀ p, p < k → a p = b p) → tin a k = tin b k
  | 0, _ => rfl
  | k + 1, h => by
    have e := tin_congr (a := a) (b := b) (k := k) (fun p hp => h p (by omega))
    unfold tin
    rw [e, h k (by omega)]
theorem n8_lt {b : Nat → Nat} (hb : ∀ p, p < 5 → b p ≤ 5) : n8 b < 32768 := by
  have h0 := hb 0 (by omega); have h1 := hb 1 (by omega); have h2 := hb 2 (by omega); have h3 := hb 3 (by omega); have h4 := hb 4 (by omega)
  unfold n8
  omega
theorem n8_dg {b : Nat → Nat} (hb : ∀ p, p < 5 → b p ≤ 5) : ∀ p, p < 5 → n8 b / 2 ^ (3 * (4 - p)) % 8 = b p := by
  have h0 := hb 0 (by omega); have h1 := hb 1 (by omega); have h2 := hb 2 (by omega); have h3 := hb 3 (by omega); have h4 := hb 4 (by omega)
  refine p5 ?_ ?_ ?_ ?_ ?_
  · show n8 b / 4096 % 8 = _; unfold n8; omega
  · show n8 b / 512 % 8 = _; unfold n8; omega
  · show n8 b / 64 % 8 = _; unfold n8; omega
  · show n8 b / 8 % 8 = _; unfold n8; omega
  · show n8 b / 1 % 8 = _; unfold n8; omega
theorem n8_step0 : (List.range 7775).all (fun c => decide (n8 (dg c) < n8 (dg (c + 1)))) = true := by decide +kernel
theorem n8_step (c : Nat) (hc : c < 7775) : n8 (dg c) < n8 (dg (c + 1)) := co_dec (P := fun c => n8 (dg c) < n8 (dg (c + 1))) n8_step0 hc
theorem n8_mono {a : Nat} : ∀ {c : Nat}, a < c → c < 7776 → n8 (dg a) < n8 (dg c)
  | 0, h, _ => by omega
  | c + 1, h, hc => by
    have h1 := n8_step c (by omega)
    rcases Nat.lt_or_ge a c with h2 | h2
    · exact Nat.lt_trans (n8_mono h2 (by omega)) h1
    · have : a = c := by omega
      rw [this]; exact h1
theorem vcn_get {i : Nat} (h : i < 1546) : vc[i]? = some (vcn i) := by
  unfold vcn
  rw [List.getD_eq_getElem?_getD, List.getElem?_eq_getElem (by rw [vc_len]; exact h)]
  rfl
theorem vcn_ok {i : Nat} (h : i < 1546) : vcn i < 7776 ∧ vB (vcn i) = true := by
  have h1 := List.mem_filter.mp (List.mem_of_getElem? (vcn_get h))
  exact ⟨List.mem_range.mp h1.1, h1.2⟩
theorem vcn_lt {i j : Nat} (h : i < j) (hj : j < 1546) : vcn i < vcn j := by
  have hp : vc.Pairwise (· < ·) := List.Pairwise.filter _ List.pairwise_lt_range
  have h1 := List.pairwise_iff_getElem.mp hp i j (by rw [vc_len]; omega) (by rw [vc_len]; exact hj) h
  have e1 : vc[i]'(by rw [vc_len]; omega) = vcn i := by
    have := vcn_get (i := i) (by omega)
    rw [List.getElem?_eq_getElem (by rw [vc_len]; omega)] at this
    exact Option.some.inj this
  have e2 : vc[j]'(by rw [vc_len]; exact hj) = vcn j := by
    have := vcn_get (i := j) hj
    rw [List.getElem?_eq_getElem (by rw [vc_len]; exact hj)] at this
    exact Option.some.inj this
  rw [e1, e2] at h1
  exact h1
/-- where a window is listed -/
theorem vcn_ix {c : Nat} (hc : c < 7776) (hv : vB c = true) : ∃ i, i < 1546 ∧ vcn i = c := by
  have hm : c ∈ vc := List.mem_filter.mpr ⟨List.mem_range.mpr hc, hv⟩
  obtain ⟨i, hi⟩ := List.getElem?_of_mem hm
  have hl : i < 1546 := by rw [← vc_len]; exact (List.getElem?_eq_some_iff.mp hi).1
  exact ⟨i, hl, Option.some.inj ((vcn_get hl).symm.trans hi)⟩
theorem wl_get {i : Nat} (h : i < 1546) : (en 5 0 0)[i]? = some (n8 (dg (vcn i)), sC (vcn i)) := by
  rw [en_vc, List.getElem?_map, vcn_get h]
  rfl
theorem wl_len : (en 5 0 0).length = 1546 := by rw [en_vc, List.length_map, vc_len]
theorem tin_lt {b : Nat → Nat} {s : Nat} : ∀ {k : Nat}, (∀ p, p < k → b p ≤ 5) → tin b k = some s → s < 32
  | 0, _, h => by
    have : 0 = s := Option.some.inj h
    omega
  | k + 1, hb, h => by
    unfold tin at h
    cases hq : tin b k with
    | none => rw [hq] at h; cases h
    | some u =>
      rw [hq] at h
      have ih := tin_lt (fun p hp => hb p (by omega)) hq
      have hk := hb k (by omega)
      simp only at h
      split at h
      · have := Option.some.inj h; omega
      · split at h
        · cases h
        · have := Option.some.inj h
          rw [← this]
          exact or_lt32 u ih _ (by omega)
theorem sC_lt (c : Nat) : sC c < 32 := by
  unfold sC
  cases h : tin (dg c) 5 with
  | none => exact (by decide : (0 : Nat) < 32)
  | some s => exact tin_lt (fun p _ => dg_le c p) h
theorem sC_of {c : Nat} (hv : vB c = true) : tin (dg c) 5 = some (sC c) := by
  unfold vB at hv
  unfold sC
  cases h : tin (dg c) 5 with
  | none => rw [h] at hv; cases hv
  | some s => rfl
/-- the best of a list of windows -/
def stp (ft : Nat → Bool) (g pq : Nat → Nat) (best : Option Nat) (c : Nat) : Option Nat := bif ft c then (match best with
  | none => some c
  | some b => if g b < g c ∨ (g c = g b ∧ pq c < pq b) then some c else some b) else best
def bst (ft : Nat → Bool) (g pq : Nat → Nat) : Option Nat := vc.foldl (stp ft g pq) none
theorem bst_range (ft : Nat → Bool) (g pq : Nat → Nat) : bst ft g pq = (List.range 7776).foldl (fun x c => if vB c then stp ft g pq x c else x) none := by
  unfold bst vc
  rw [List.foldl_filter]
theorem foldl_some {ft : Nat → Bool} {g pq : Nat → Nat} : ∀ (l : List Nat) (b : Option Nat), (b ≠ none ∨ ∃ c ∈ l, ft c = true) → l.foldl (stp ft g pq) b ≠ none
  | [], b, h => by
    rcases h with h | ⟨c, hc, -⟩
    · exact h
    · cases hc
  | a :: l, b, h => by
    rw [List.foldl_cons]
    refine foldl_some l _ ?_
    unfold stp
    cases ha : ft a with
    | true =>
      left
      simp only [cond_true]
      cases b with
      | none => simp
      | some q => simp only; split <;> simp
    | false =>
      simp only [cond_false]
      rcases h with h | ⟨c, hc, hf⟩
      · exact Or.inl h
      · rcases List.mem_cons.mp hc with rfl | hc
        · rw [ha] at hf; cases hf
        · exact Or.inr ⟨c, hc, hf⟩
theorem foldl_ok {ft : Nat → Bool} {g pq : Nat → Nat} {P : Nat → Prop} : ∀ (l : List Nat) (b : Option Nat), (∀ c ∈ l, P c) → (∀ c, b = some c → P c) → ∀ c, l.foldl (stp ft g pq) b = some c → P c
  | [], b, _, hb, c, h => hb c h
  | a :: l, b, hl, hb, c, h => by
    rw [List.foldl_cons] at h
    refine foldl_ok l _ (fun x hx => hl x (List.mem_cons_of_mem _ hx)) (fun x hx => ?_) c h
    unfold stp at hx
    cases ha : ft a with
    | true =>
      rw [ha] at hx
      simp only [cond_true] at hx
      cases b with
      | none => have := Option.some.inj hx; rw [← this]; exact hl a List.mem_cons_self
      | some q =>
        simp only at hx
        split at hx
        · have := Option.some.inj hx; rw [← this]; exact hl a List.mem_cons_self
        · have := Option.some.inj hx; rw [← this]; exact hb q rfl
    | false =>
      rw [ha] at hx
      exact hb x hx
theorem bst_ok {ft : Nat → Bool} {g pq : Nat → Nat} {c : Nat} (h : bst ft g pq = some c) : c < 7776 ∧ vB c = true := by
  unfold bst at h
  refine foldl_ok (P := fun c => c < 7776 ∧ vB c = true) vc none (fun x hx => ?_) (fun x hx => by cases hx) c h
  have h1 := List.mem_filter.mp hx
  exact ⟨List.mem_range.mp h1.1, h1.2⟩
theorem bst_some {ft : Nat → Bool} {g pq : Nat → Nat} (c : Nat) (hc : c < 7776) (hv : vB c = true) (hf : ft c = true) : ∃ b, bst ft g pq = some b := by
  have h := foldl_some (ft := ft) (g := g) (pq := pq) vc none (Or.inr ⟨c, List.mem_filter.mpr ⟨List.mem_range.mpr hc, hv⟩, hf⟩)
  unfold bst
  generalize vc.foldl (stp ft g pq) none = q at h
  cases q with
  | none => exact absurd rfl h
  | some b => exact ⟨b, rfl⟩
