/-! ===== exchanges, in numbers ===== -/
def sw (b : Nat → Nat) (p q : Nat) : Nat → Nat := fun r => if r = p then b q else if r = q then b p else b r
def pu (b : Nat → Nat) (p d : Nat) : Nat → Nat := fun r => if r = p then d else b r
/-- no thing stands twice on the first k places -/
def dst (b : Nat → Nat) (k : Nat) : Prop := ∀ p q, p < k → q < k → p ≠ q → b p ≠ 0 → b p ≠ b q
theorem or_bit : ∀ u, u < 32 → ∀ e, e < 5 → ∀ d, d < 5 → ((u ||| 2 ^ e) / 2 ^ d % 2 = 1 ↔ (e = d ∨ u / 2 ^ d % 2 = 1)) := by decide +kernel
theorem tin_spec {b : Nat → Nat} : ∀ {k : Nat}, (∀ p, p < k → b p ≤ 5) → (∀ s, tin b k = some s → (∀ d, d < 5 → (s / 2 ^ d % 2 = 1 ↔ ∃ p, p < k ∧ b p = d + 1)) ∧ dst b k) ∧ (tin b k = none → ¬ dst b k)
  | 0, _ => by
    refine ⟨fun s hs => ?_, fun h => by cases h⟩
    have : 0 = s := Option.some.inj hs
    subst this
    refine ⟨fun d _ => ⟨fun h => by simp at h, fun ⟨p, hp, _⟩ => by omega⟩, fun p q hp => by omega⟩
  | k + 1, hb => by
    obtain ⟨ih1, ih2⟩ := tin_spec (b := b) (k := k) (fun p hp => hb p (by omega))
    have hk := hb k (by omega)
    have sub : dst b (k + 1) → dst b k := fun h p q hp hq => h p q (by omega) (by omega)
    unfold tin
    cases hq : tin b k with
    | none =>
      refine ⟨fun s hs => (by cases hs), fun _ h => ih2 hq (sub h)⟩
    | some u =>
      obtain ⟨hu, hd⟩ := ih1 u hq
      have hu32 := tin_lt (fun p hp => hb p (by omega)) hq
      simp only
      by_cases h0 : b k = 0
      · rw [if_pos h0]
        refine ⟨fun s hs => ?_, fun h => by cases h⟩
        have : u = s := Option.some.inj hs
        subst this
        refine ⟨fun d hd5 => ?_, fun p q hp hq2 hpq hz => ?_⟩
        · rw [hu d hd5]
          constructor
          · rintro ⟨p, hp, e⟩; exact ⟨p, by omega, e⟩
          · rintro ⟨p, hp, e⟩
            refine ⟨p, ?_, e⟩
            rcases Nat.lt_or_ge p k with h | h
            · exact h
            · have : p = k := by omega
              rw [this, h0] at e; omega
        · rcases Nat.lt_or_ge p k with h | h
          · rcases Nat.lt_or_ge q k with h' | h'
            · exact hd p q h h' hpq hz
            · have : q = k := by omega
              rw [this, h0]; exact hz
          · have : p = k := by omega
            rw [this] at hz; exact absurd h0 hz
      · rw [if_neg h0]
        by_cases h1 : u / 2 ^ (b k - 1) % 2 = 1
        · rw [if_pos h1]
          refine ⟨fun s hs => (by cases hs), fun _ h => ?_⟩
          obtain ⟨p, hp, e⟩ := (hu (b k - 1) (by omega)).mp h1
          exact h p k (by omega) (by omega) (by omega) (by omega) (by omega)
        · rw [if_neg h1]
          refine ⟨fun s hs => ?_, fun h => by cases h⟩
          have : u ||| 2 ^ (b k - 1) = s := Option.some.inj hs
          subst this
          refine ⟨fun d hd5 => ?_, fun p q hp hq2 hpq hz => ?_⟩
          · rw [or_bit u hu32 (b k - 1) (by omega) d hd5, hu d hd5]
            constructor
            · rintro (e | ⟨p, hp, e⟩)
              · exact ⟨k, by omega, by omega⟩
              · exact ⟨p, by omega, e⟩
            · rintro ⟨p, hp, e⟩
              rcases Nat.lt_or_ge p k with h | h
              · exact Or.inr ⟨p, h, e⟩
              · have : p = k := by omega
                rw [this] at e; exact Or.inl (by omega)
          · have key : ∀ r, r < k → b r ≠ b k := fun r hr e => h1 ((hu (b k - 1) (by omega)).mpr ⟨r, hr, by omega⟩)
            rcases Nat.lt_or_ge p k with h | h
            · rcases Nat.lt_or_ge q k with h' | h'
              · exact hd p q h h' hpq hz
              · have : q = k := by omega
                rw [this]; exact key p h
            · have e : p = k := by omega
              rw [e]
              exact fun e2 => key q (by omega) e2.symm
theorem vB_iff {b : Nat → Nat} (hb : ∀ p, p < 5 → b p ≤ 5) : vB (cd b) = true ↔ dst b 5 := by
  have e : tin (dg (cd b)) 5 = tin b 5 := tin_congr (dg_cd hb)
  unfold vB
  rw [e]
  obtain ⟨h1, h2⟩ := tin_spec hb
  cases hq : tin b 5 with
  | none => exact ⟨fun h => (by cases h), fun h => absurd h (h2 hq)⟩
  | some s => exact ⟨fun _ => (h1 s hq).2, fun _ => rfl⟩
theorem vB_dg {c : Nat} (hc : c < 7776) (hv : vB c = true) : dst (dg c) 5 := by
  rw [← cd_dg hc] at hv
  exact (vB_iff (fun p _ => dg_le c p)).mp hv
theorem sC_bit {c : Nat} (hv : vB c = true) {d : Nat} (hd : d < 5) : sC c / 2 ^ d % 2 = 1 ↔ ∃ p, p < 5 ∧ dg c p = d + 1 := ((tin_spec (b := dg c) (k := 5) (fun p _ => dg_le c p)).1 _ (sC_of hv)).1 d hd
theorem sw_le {b : Nat → Nat} {p q : Nat} (hb : ∀ p, p < 5 → b p ≤ 5) (hp : p < 5) (hq : q < 5) : ∀ r, r < 5 → sw b p q r ≤ 5 := by
  intro r hr
  unfold sw
  split
  · exact hb q hq
  · split
    · exact hb p hp
    · exact hb r hr
theorem sw_dst {b : Nat → Nat} {p q : Nat} (h : dst b 5) (hp : p < 5) (hq : q < 5) : dst (sw b p q) 5 := by
  intro x y hx hy hxy
  have k1 := h p q hp hq; have k2 := h q p hq hp
  have k3 := fun r (hr : r < 5) => h r p hr hp; have k4 := fun r (hr : r < 5) => h r q hr hq
  have k5 := fun r (hr : r < 5) => h p r hp hr; have k6 := fun r (hr : r < 5) => h q r hq hr
  have k7 := h x y hx hy hxy
  unfold sw
  by_cases e1 : x = p
  · rw [if_pos e1]
    by_cases e2 : y = p
    · omega
    · rw [if_neg e2]
      by_cases e3 : y = q
      · rw [if_pos e3]; exact k2 (by omega)
      · rw [if_neg e3]; exact k6 y hy (by omega)
  · rw [if_neg e1]
    by_cases e4 : x = q
    · rw [if_pos e4]
      by_cases e2 : y = p
      · rw [if_pos e2]; exact k1 (by omega)
      · rw [if_neg e2]
        by_cases e3 : y = q
        · omega
        · rw [if_neg e3]; exact k5 y hy (by omega)
    · rw [if_neg e4]
      by_cases e2 : y = p
      · rw [if_pos e2]; exact k4 x hx e4
      · rw [if_neg e2]
        by_cases e3 : y = q
        · rw [if_pos e3]; exact k3 x hx e1
        · rw [if_neg e3]; exact k7
theorem sw_sw (b : Nat → Nat) (p q : Nat) : ∀ r, sw (sw b p q) p q r = b r := by
  intro r
  unfold sw
  by_cases e1 : r = p
  · rw [if_pos e1]
    by_cases e2 : q = p
    · rw [if_pos e2, e1, e2]
    · rw [if_neg e2, if_pos rfl, e1]
  · rw [if_neg e1]
    by_cases e2 : r = q
    · rw [if_pos e2, if_pos rfl, e2]
    · rw [if_neg e2, if_neg e1, if_neg e2]
theorem pu_le {b : Nat → Nat} {p d : Nat} (hb : ∀ p, p < 5 → b p ≤ 5) (hd : d ≤ 5) : ∀ r, r < 5 → pu b p d r ≤ 5 := by
  intro r hr
  unfold pu
  split
  · exact hd
  · exact hb r hr
theorem pu_dst {b : Nat → Nat} {p d : Nat} (h : dst b 5) (hd : d = 0 ∨ ∀ r, r < 5 → b r ≠ d) : dst (pu b p d) 5 := by
  intro x y hx hy hxy
  unfold pu
  by_cases e1 : x = p
  · rw [if_pos e1, if_neg (show ¬ y = p by omega)]
    intro hz
    rcases hd with hd | hd
    · exact absurd hd hz
    · exact fun e => hd y hy e.symm
  · rw [if_neg e1]
    by_cases e2 : y = p
    · rw [if_pos e2]
      intro hz
      rcases hd with hd | hd
      · rw [hd]; exact hz
      · exact hd x hx
    · rw [if_neg e2]
      exact h x y hx hy hxy
/-- what may be exchanged, in its order -/
def sw1 (b : Nat → Nat) (p : Nat) : Nat → List Nat
  | 0 => []
  | m + 1 => sw1 b p m ++ [cd (sw b p (p + 1 + m))]
def sw2 (b : Nat → Nat) : Nat → List Nat
  | 0 => []
  | p + 1 => sw2 b p ++ sw1 b p (4 - p)
def pu1 (b : Nat → Nat) (s p : Nat) : Nat → List Nat
  | 0 => []
  | t + 1 => pu1 b s p t ++ (if s / 2 ^ t % 2 = 0 then [cd (pu b p (t + 1))] else [])
def pu2 (b : Nat → Nat) (s : Nat) : Nat → List Nat
  | 0 => []
  | p + 1 => pu2 b s p ++ pu1 b s p 5
def tk1 (b : Nat → Nat) : Nat → List Nat
  | 0 => []
  | p + 1 => tk1 b p ++ [cd (pu b p 0)]
def cands (b : Nat → Nat) (s : Nat) : List Nat := sw2 b 5 ++ pu2 b s 5 ++ tk1 b 5
theorem sw1_len (b : Nat → Nat) (p : Nat) : ∀ m, (sw1 b p m).length = m
  | 0 => rfl
  | m + 1 => by show (sw1 b p m ++ [_]).length = _; rw [List.length_append, sw1_len b p m]; rfl
theorem sw2_len (b : Nat → Nat) : (sw2 b 0).length = 0 ∧ (sw2 b 1).length = 4 ∧ (sw2 b 2).length = 7 ∧ (sw2 b 3).length = 9 ∧ (sw2 b 4).length = 10 ∧ (sw2 b 5).length = 10 := by
  simp [sw2, sw1_len]
theorem pu1_len (b : Nat → Nat) (s p : Nat) : ∀ t, (pu1 b s p t).length ≤ t
  | 0 => Nat.le_refl 0
  | t + 1 => by
    have := pu1_len b s p t
    show (pu1 b s p t ++ _).length ≤ _
    rw [List.length_append]
    split <;> simp <;> omega
theorem pu2_len (b : Nat → Nat) (s : Nat) : ∀ p, (pu2 b s p).length ≤ 5 * p
  | 0 => Nat.le_refl 0
  | p + 1 => by
    have h1 := pu2_len b s p
    have h2 := pu1_len b s p 5
    show (pu2 b s p ++ _).length ≤ _
    rw [List.length_append]; omega
theorem tk1_len (b : Nat → Nat) : ∀ p, (tk1 b p).length = p
  | 0 => rfl
  | p + 1 => by show (tk1 b p ++ [_]).length = _; rw [List.length_append, tk1_len b p]; rfl
/-- one exchange: the first of the greatest, if it is greater -/
def ost (g : Nat → Nat) (c0 : Nat) (o : Option Nat) (c : Nat) : Option Nat := if g (o.getD c0) < g c then some c else o
def exq (g : Nat → Nat) (c : Nat) : Option Nat := (cands (dg c) (sC c)).foldl (ost g c) none
def clm (g : Nat → Nat) : Nat → Nat → Nat × Nat
  | 0, c => (0, c)
  | k + 1, c => match exq g c with
    | none => (0, c)
    | some c' => ((clm g k c').1 + 1, (clm g k c').2)
theorem ost_gt {g : Nat → Nat} {c0 : Nat} : ∀ (l : List Nat) (o : Option Nat), (∀ c, o = some c → g c0 < g c) → ∀ c, l.foldl (ost g c0) o = some c → g c0 < g c
  | [], o, h, c, hc => h c hc
  | a :: l, o, h, c, hc => by
    rw [List.foldl_cons] at hc
    refine ost_gt l _ (fun x hx => ?_) c hc
    unfold ost at hx
    split at hx
    · rename_i hlt
      have e := Option.some.inj hx
      rw [← e]
      cases o with
      | none => exact hlt
      | some q => exact Nat.lt_trans (h q rfl) hlt
    · exact h x hx
theorem exq_ne {g : Nat → Nat} {c c' : Nat} (h : exq g c = some c') : c' ≠ c := by
  have := ost_gt (g := g) (c0 := c) _ none (fun x hx => by cases hx) c' h
  intro e
  rw [e] at this
  omega
theorem ost_mem {g : Nat → Nat} {c0 : Nat} {P : Nat → Prop} : ∀ (l : List Nat) (o : Option Nat), (∀ c ∈ l, P c) → (∀ c, o = some c → P c) → ∀ c, l.foldl (ost g c0) o = some c → P c
  | [], o, _, h, c, hc => h c hc
  | a :: l, o, hl, h, c, hc => by
    rw [List.foldl_cons] at hc
    refine ost_mem l _ (fun x hx => hl x (List.mem_cons_of_mem _ hx)) (fun x hx => ?_) c hc
    unfold ost at hx
    split at hx
    · have e := Option.some.inj hx
      rw [← e]
      exact hl a List.mem_cons_self
    · exact h x hx
/-- a window that is listed -/
def okC (c : Nat) : Prop := c < 7776 ∧ vB c = true
theorem okC_of {b : Nat → Nat} (hb : ∀ p, p < 5 → b p ≤ 5) (h : dst b 5) : okC (cd b) := ⟨cd_lt hb, (vB_iff hb).mpr h⟩
theorem okC_sw {c p q : Nat} (h : okC c) (hp : p < 5) (hq : q < 5) : okC (cd (sw (dg c) p q)) := okC_of (sw_le (fun p _ => dg_le c p) hp hq) (sw_dst (vB_dg h.1 h.2) hp hq)
theorem okC_tk {c p : Nat} (h : okC c) : okC (cd (pu (dg c) p 0)) := okC_of (pu_le (fun p _ => dg_le c p) (by omega)) (pu_dst (vB_dg h.1 h.2) (Or.inl rfl))
theorem okC_pu {c p t : Nat} (h : okC c) (ht : t < 5) (hs : sC c / 2 ^ t % 2 = 0) : okC (cd (pu (dg c) p (t + 1))) := by
  refine okC_of (pu_le (fun p _ => dg_le c p) (by omega)) (pu_dst (vB_dg h.1 h.2) (Or.inr (fun r hr e => ?_)))
  have := (sC_bit h.2 ht).mpr ⟨r, hr, e⟩
  omega
theorem cands_ok {c : Nat} (h : okC c) : ∀ x ∈ cands (dg c) (sC c), okC x := by
  have h1 : ∀ p m, p + m < 5 → ∀ x ∈ sw1 (dg c) p m, okC x := by
    intro p m
    induction m with
    | zero => intro _ x hx; cases hx
    | succ m ih =>
      intro hm x hx
      rcases List.mem_append.mp hx with hx | hx
      · exact ih (by omega) x hx
      · rw [List.mem_singleton.mp hx]; exact okC_sw h (by omega) (by omega)
  have h2 : ∀ p, p ≤ 5 → ∀ x ∈ sw2 (dg c) p, okC x := by
    intro p
    induction p with
    | zero => intro _ x hx; cases hx
    | succ p ih =>
      intro hp x hx
      rcases List.mem_append.mp hx with hx | hx
      · exact ih (by omega) x hx
      · exact h1 p (4 - p) (by omega) x hx
  have h3 : ∀ p t, t ≤ 5 → ∀ x ∈ pu1 (dg c) (sC c) p t, okC x := by
    intro p t
    induction t with
    | zero => intro _ x hx; cases hx
    | succ t ih =>
      intro ht x hx
      rcases List.mem_append.mp hx with hx | hx
      · exact ih (by omega) x hx
      · split at hx
        · rename_i hs
          rw [List.mem_singleton.mp hx]; exact okC_pu h (by omega) hs
        · cases hx
  have h4 : ∀ p, ∀ x ∈ pu2 (dg c) (sC c) p, okC x := by
    intro p
    induction p with
    | zero => intro x hx; cases hx
    | succ p ih =>
      intro x hx
      rcases List.mem_append.mp hx with hx | hx
      · exact ih x hx
      · exact h3 p 5 (by omega) x hx
  have h5 : ∀ p, ∀ x ∈ tk1 (dg c) p, okC x := by
    intro p
    induction p with
    | zero => intro x hx; cases hx
    | succ p ih =>
      intro x hx
      rcases List.mem_append.mp hx with hx | hx
      · exact ih x hx
      · rw [List.mem_singleton.mp hx]; exact okC_tk h
  intro x hx
  unfold cands at hx
  rcases List.mem_append.mp hx with hx | hx
  · rcases List.mem_append.mp hx with hx | hx
    · exact h2 5 (by omega) x hx
    · exact h4 5 x hx
  · exact h5 5 x hx
theorem exq_ok {g : Nat → Nat} {c c' : Nat} (h : okC c) (he : exq g c = some c') : okC c' := ost_mem (P := okC) _ none (cands_ok h) (fun x hx => by cases hx) c' he
theorem clm_ok {g : Nat → Nat} : ∀ (k c : Nat), okC c → okC (clm g k c).2 ∧ (clm g k c).1 ≤ k
  | 0, c, h => ⟨h, Nat.le_refl 0⟩
  | k + 1, c, h => by
    unfold clm
    cases he : exq g c with
    | none => exact ⟨h, Nat.zero_le _⟩
    | some c' =>
      obtain ⟨h1, h2⟩ := clm_ok (g := g) k c' (exq_ok h he)
      exact ⟨h1, by show _ + 1 ≤ _; omega⟩
