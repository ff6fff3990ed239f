/-! ===== the reference: windows, weeks laid, exchanges ===== -/
/-- the reference's scene -/
def MS (A : Nat → Nat → Nat) (I : Nat → Nat → Int32) : Prop := (∀ j, j < 15 → I 43 j = nI (A 0 j)) ∧ (∀ j, j < 5 → I 44 j = nI (A 1 j)) ∧ (∀ j, j < 24 → I 47 j = nI (A 3 j)) ∧ I 42 8 = nI (A 6 0) ∧ (I 48 0 = nI (A 5 0) ∧ I 48 1 = nI (A 5 1)) ∧ (∀ i, i < A 5 0 → I 49 (15 * 0 + i) = nI (A 4 i)) ∧ ∀ i, i < A 5 1 → I 49 (15 * 1 + i) = nI (A 4 (15 + i))
/-- the laws stand, and F is what they answer -/
def okF (A : Nat → Nat → Nat) (F : Nat → Nat) : Prop := okL (fun i => A 4 i) (A 5 0) ∧ okL (fun i => A 4 (15 + i)) (A 5 1) ∧ (∀ j, j < 10 → lwv (fun i => A 4 i) (A 5 0) (j / 2) (j % 2) = F j) ∧ ∀ j, j < 10 → lwv (fun i => A 4 (15 + i)) (A 5 1) (j / 2) (j % 2) = F (10 + j)
theorem MS.keep {A : Nat → Nat → Nat} {I I' : Nat → Nat → Int32} (h : MS A I) (hf : ∀ a, 42 < a → a < 50 → I' a = I a) (h8 : I' 42 8 = I 42 8) : MS A I' := by
  obtain ⟨h1, h2, h3, h4, ⟨h5, h6⟩, h7, h9⟩ := h
  exact ⟨fun j hj => by rw [hf 43 (by omega) (by omega)]; exact h1 j hj, fun j hj => by rw [hf 44 (by omega) (by omega)]; exact h2 j hj, fun j hj => by rw [hf 47 (by omega) (by omega)]; exact h3 j hj, by rw [h8]; exact h4, ⟨by rw [hf 48 (by omega) (by omega)]; exact h5, by rw [hf 48 (by omega) (by omega)]; exact h6⟩, fun j hj => by rw [hf 49 (by omega) (by omega)]; exact h7 j hj, fun j hj => by rw [hf 49 (by omega) (by omega)]; exact h9 j hj⟩
def wl (g : Nat → Nat) (c : Nat) : Int32 := bif vB c then nI (g c) else -6
def LD (g : Nat → Nat) (I : Nat → Nat → Int32) : Prop := I 42 11 = nI 1 ∧ ∀ c, c < 7776 → I 60 c = wl g c
def PL (g : Nat → Nat) (I : Nat → Nat → Int32) : Prop := I 42 11 = nI 0 ∨ LD g I
theorem LD.at {g : Nat → Nat} {I : Nat → Nat → Int32} (h : LD g I) {c : Nat} (hc : okC c) : I 60 c = nI (g c) := by
  rw [h.2 c hc.1]
  unfold wl
  rw [hc.2]
  rfl
theorem tin_some {b : Nat → Nat} {s : Nat} : ∀ {k m : Nat}, tin b (k + m) = some s → ∃ u, tin b k = some u
  | k, 0, h => ⟨s, h⟩
  | k, m + 1, h => by
    have h2 : tin b (k + m + 1) = some s := h
    unfold tin at h2
    cases hq : tin b (k + m) with
    | none => rw [hq] at h2; cases h2
    | some u => exact tin_some hq
theorem tin_none {b : Nat → Nat} {k : Nat} : ∀ {m : Nat}, tin b k = none → tin b (k + m) = none
  | 0, h => h
  | m + 1, h => by
    show tin b (k + m + 1) = none
    unfold tin
    rw [tin_none (m := m) h]
theorem p_thingsIn (c : Nat) (hc : c < 7776) : xP 2 119 [.int (nI c)] (.int (bif vB c then nI (sC c) else -6)) := by
  intro E σ
  refine xC.mk [some (.int (nI c)), none, none, none] rfl ?_
  have loop : ∀ (m k s : Nat) (z3 : Option Value), k + m = 5 → tin (dg c) k = some s → xW E 2 119 4 [some (.int (nI c)), some (.int (nI s)), some (.int (nI k)), z3] [] σ 0 0 (fun r t => r = some (.int (bif vB c then nI (sC c) else -6)) ∧ t = σ) := by
    intro m
    induction m with
    | zero =>
      intro k s z3 hk hs
      obtain rfl : k = 5 := by omega
      have e1 : vB c = true := by unfold vB; rw [hs]; rfl
      have e2 : sC c = s := by unfold sC; rw [hs]; rfl
      rw [e1, e2]
      refine ws_iload_2 5 rfl rfl ?_
      refine ws_iconst 6 rfl rfl kc_i5 ?_
      refine ws_icmp_gen 55 9 rfl rfl rfl (by omega) (by omega) (fun h9 => ?_) (fun h9 => absurd h9 (by omega))
      refine ws_iload_1 56 rfl rfl ?_
      refine ws_iret rfl rfl rfl (Nat.le_of_ble_eq_true rfl) ?_
      exact ⟨rfl, rfl⟩
    | succ m ih =>
      intro k s z3 hk hs
      have hd5 := dg_le c k
      have hs32 := tin_lt (fun p _ => dg_le c p) hs
      have e : s / 2 ^ (dg c k - 1) &&& 1 = s / 2 ^ (dg c k - 1) % 2 := Nat.and_one_is_mod _
      have et : tin (dg c) (k + 1) = if dg c k = 0 then some s else if s / 2 ^ (dg c k - 1) % 2 = 1 then none else some (s ||| 2 ^ (dg c k - 1)) := by
        rw [tin, hs]
      have hpw : 1 * 2 ^ (dg c k - 1) < 4294967296 := by
        have : 2 ^ (dg c k - 1) ≤ 2 ^ 4 := Nat.pow_le_pow_right (by omega) (by omega)
        omega
      refine ws_iload_2 5 rfl rfl ?_
      refine ws_iconst 6 rfl rfl kc_i5 ?_
      refine ws_icmp_gen 55 9 rfl rfl rfl (by omega) (by omega) (fun h9 => absurd h9 (by omega)) (fun h9 => ?_)
      refine ws_iload_0 10 rfl rfl ?_
      refine ws_iload_2 11 rfl rfl ?_
      refine ws_invS2p 14 rfl rfl rfl (p_digit c k hc (by omega)) rfl rfl rfl ?_
      refine ws_istore_3 15 rfl rfl rfl rfl ?_
      refine ws_iload_3 16 rfl rfl ?_
      refine ws_if_len 33 19 rfl rfl rfl (by omega) (fun c1 => ?_) (fun c1 => ?_)
      · have h0 : dg c k = 0 := by omega
        rw [if_pos h0] at et
        have eo : s ||| 0 = s := Nat.or_zero s
        refine ws_iload_1 34 rfl rfl ?_
        refine ws_iload_3 35 rfl rfl ?_
        refine ws_if_len 46 38 rfl rfl rfl (by omega) (fun h9 => ?_) (fun h9 => absurd h9 (by omega))
        refine ws_iconst 47 rfl rfl kc_i0 ?_
        refine ws_ior 48 rfl rfl (kn_or _ _) ?_
        rw [eo]
        refine ws_istore_1 49 rfl rfl rfl rfl ?_
        refine ws_iinc_2 52 rfl rfl (ki_1 _) rfl rfl ?_
        refine ws_goto 4 rfl rfl ?_
        exact ih (k + 1) s _ (by omega) et
      · rw [if_neg (by omega)] at et
        refine ws_iload_1 20 rfl rfl ?_
        refine ws_iload_3 21 rfl rfl ?_
        refine ws_iconst 22 rfl rfl kc_i1 ?_
        refine ws_isub 23 rfl rfl (pk_sub (by omega)) ?_
        refine ws_ishr 24 rfl rfl (kn_shr (by omega) (by omega)) ?_
        refine ws_iconst 25 rfl rfl kc_i1 ?_
        refine ws_iand 26 rfl rfl (kn_and _ _) ?_
        refine ws_iconst 27 rfl rfl kc_i1 ?_
        rw [e]
        refine ws_icmp_nen 33 30 rfl rfl rfl (by omega) (by omega) (fun c2 => ?_) (fun c2 => ?_)
        · rw [if_neg c2] at et
          refine ws_iload_1 34 rfl rfl ?_
          refine ws_iload_3 35 rfl rfl ?_
          refine ws_if_len 46 38 rfl rfl rfl (by omega) (fun h9 => absurd h9 (by omega)) (fun h9 => ?_)
          refine ws_iconst 39 rfl rfl kc_i1 ?_
          refine ws_iload_3 40 rfl rfl ?_
          refine ws_iconst 41 rfl rfl kc_i1 ?_
          refine ws_isub 42 rfl rfl (pk_sub (by omega)) ?_
          refine ws_ishl 43 rfl rfl (kn_shl (by omega) hpw) ?_
          refine ws_goto 47 rfl rfl ?_
          rw [Nat.one_mul]
          refine ws_ior 48 rfl rfl (kn_or _ _) ?_
          refine ws_istore_1 49 rfl rfl rfl rfl ?_
          refine ws_iinc_2 52 rfl rfl (ki_1 _) rfl rfl ?_
          refine ws_goto 4 rfl rfl ?_
          exact ih (k + 1) _ _ (by omega) et
        · have c3 : s / 2 ^ (dg c k - 1) % 2 = 1 := by omega
          rw [if_pos c3] at et
          have e1 : vB c = false := by
            have h := tin_none (m := m) et
            rw [show k + 1 + m = 5 by omega] at h
            unfold vB
            rw [h]
            rfl
          rw [e1]
          refine ws_bipush 32 rfl rfl kc_bm6 ?_
          refine ws_iret rfl rfl rfl (Nat.le_of_ble_eq_true rfl) ?_
          exact ⟨rfl, rfl⟩
  refine ws_iconst 1 rfl rfl kc_i0 ?_
  refine ws_istore_1 2 rfl rfl rfl rfl ?_
  refine ws_iconst 3 rfl rfl kc_i0 ?_
  refine ws_istore_2 4 rfl rfl rfl rfl ?_
  exact loop 5 0 0 _ rfl rfl
section MWIN
variable {E : xEx} {I : Nat → Nat → Int32} {L : Nat → Nat → Int64} {A : Nat → Nat → Nat} {F g b : Nat → Nat}
theorem m_layWeeks (hok : okA A F) (hF : okF A F) (hM : MS A I) (hP : PL (wkc A F) I) : xC E 6 120 [.ref 42] (xS, I, L) (fun r t => r = none ∧ ∃ I' L', t = (xS, I', L') ∧ ((∀ a, a < 42 ∨ (42 < a ∧ a < 53) ∨ 60 < a → I' a = I a) ∧ ∀ j, j ≠ 11 → I' 42 j = I 42 j) ∧ (∀ a, a ≠ 42 → a ≠ 55 → L' a = L a) ∧ LD (wkc A F) I') := by
  refine xC.mk [some (.ref 42), none, none] rfl ?_
  rcases hP with h0 | h1
  · obtain ⟨o1, o2, o3, o4, o5, o6⟩ := hok
    obtain ⟨f1, f2, f3, f4⟩ := hF
    have hM1 := hM.keep (I' := wI I 42 11 (nI 1)) (fun a h1 h2 => wI_ne (by omega)) (by rw [wI_eq, pk_un (by decide)])
    refine ws_aload_0 1 rfl rfl ?_
    refine ws_getfi 4 rfl rfl rfl rfl rfl h0 ?_
    refine ws_if_eqn 8 7 rfl rfl rfl (by omega) (fun h9 => ?_) (fun h9 => absurd h9 (by omega))
    refine ws_aload_0 9 rfl rfl ?_
    refine ws_iconst 10 rfl rfl kc_i1 ?_
    refine ws_putfi 13 rfl rfl rfl rfl rfl rfl rfl rfl ?_
    refine ws_aload_0 14 rfl rfl ?_
    refine ws_invV0 17 rfl rfl rfl rfl (m_layLaws f1 f2 hM1.2.2.2.2.1.1 hM1.2.2.2.2.1.2 hM1.2.2.2.2.2.1 hM1.2.2.2.2.2.2) rfl rfl rfl ?_
    rintro _ _ ⟨rfl, I1, L1, rfl, hf1, hl1, h58, h59⟩
    have loop : ∀ (m k : Nat) (I' : Nat → Nat → Int32) (L' : Nat → Nat → Int64) (z2 : Option Value), k + m = 7776 → (∀ a, a ≠ 53 → a ≠ 54 → a ≠ 56 → a ≠ 57 → a ≠ 60 → I' a = I1 a) → (∀ a, a ≠ 42 → a ≠ 55 → L' a = L a) → (∀ c, c < k → I' 60 c = wl (wkc A F) c) → xW E 6 120 19 [some (.ref 42), some (.int (nI k)), z2] [] (xS, I', L') 0 0 (fun r t => r = none ∧ ∃ I' L', t = (xS, I', L') ∧ ((∀ a, a < 42 ∨ (42 < a ∧ a < 53) ∨ 60 < a → I' a = I a) ∧ ∀ j, j ≠ 11 → I' 42 j = I 42 j) ∧ (∀ a, a ≠ 42 → a ≠ 55 → L' a = L a) ∧ LD (wkc A F) I') := by
      intro m
      induction m with
      | zero =>
        intro k I' L' z2 hk hf hl h60
        obtain rfl : k = 7776 := by omega
        refine ws_iload_1 20 rfl rfl ?_
        refine ws_sipush 23 rfl rfl kc_s7776 ?_
        refine ws_icmp_gen 82 26 rfl rfl rfl (by omega) (by omega) (fun h9 => ?_) (fun h9 => absurd h9 (by omega))
        refine ws_vret rfl rfl rfl (Nat.le_of_ble_eq_true rfl) ?_
        refine ⟨rfl, I', L', rfl, ⟨fun a ha => ?_, fun j hj => ?_⟩, hl, ?_, h60⟩
        · rw [hf a (by omega) (by omega) (by omega) (by omega) (by omega), hf1 a (by omega) (by omega), wI_ne (by omega)]
        · rw [hf 42 (by omega) (by omega) (by omega) (by omega) (by omega), hf1 42 (by omega) (by omega), wI_eq, pk_un hj]
        · rw [hf 42 (by omega) (by omega) (by omega) (by omega) (by omega), hf1 42 (by omega) (by omega), wI_eq, pk_us]
      | succ m ih =>
        intro k I' L' z2 hk hf hl h60
        have hk6 : k < 7776 := by omega
        have ht := p_thingsIn k hk6
        cases hv : vB k with
        | false =>
          rw [hv] at ht
          have ht : xP 2 119 [.int (nI k)] (.int (-6)) := ht
          refine ws_iload_1 20 rfl rfl ?_
          refine ws_sipush 23 rfl rfl kc_s7776 ?_
          refine ws_icmp_gen 82 26 rfl rfl rfl (by omega) (by omega) (fun h9 => absurd h9 (by omega)) (fun h9 => ?_)
          refine ws_aload_0 27 rfl rfl ?_
          refine ws_getfr 30 rfl rfl rfl rfl rfl ?_
          refine ws_iload_1 31 rfl rfl ?_
          refine ws_bipush 33 rfl rfl kc_bm6 ?_
          refine ws_iastn 34 rfl rfl rfl (by omega) (by omega) ?_
          refine ws_iload_1 35 rfl rfl ?_
          refine ws_invS1p 38 rfl rfl rfl (ht) rfl rfl rfl ?_
          refine ws_if_lt 76 41 rfl rfl rfl (fun h9 => ?_) (fun h9 => absurd h9 (by decide))
          refine ws_iinc_1 79 rfl rfl (ki_1 _) rfl rfl ?_
          refine ws_goto 19 rfl rfl ?_
          exact ih (k + 1) _ _ _ (by omega) (fun a a1 a2 a3 a4 a5 => by rw [wI_ne a5]; exact hf a a1 a2 a3 a4 a5) hl (fl h60 (by unfold wl; rw [hv]; rfl))
        | true =>
          rw [hv] at ht
          have ht : xP 2 119 [.int (nI k)] (.int (nI (sC k))) := ht
          have hs32 := sC_lt k
          have inner : ∀ (m p : Nat) (I' : Nat → Nat → Int32), p + m = 5 → (∀ a, a ≠ 53 → a ≠ 54 → a ≠ 56 → a ≠ 57 → a ≠ 60 → I' a = I1 a) → (∀ c, c < k → I' 60 c = wl (wkc A F) c) → (∀ q, q < p → I' 53 q = nI (dg k q)) → xW E 6 120 43 [some (.ref 42), some (.int (nI k)), some (.int (nI p))] [] (xS, I', L') 0 0 (fun r t => r = none ∧ ∃ I' L', t = (xS, I', L') ∧ ((∀ a, a < 42 ∨ (42 < a ∧ a < 53) ∨ 60 < a → I' a = I a) ∧ ∀ j, j ≠ 11 → I' 42 j = I 42 j) ∧ (∀ a, a ≠ 42 → a ≠ 55 → L' a = L a) ∧ LD (wkc A F) I') := by
            intro m
            induction m with
            | zero =>
              intro p I' hp hf h60 h53
              obtain rfl : p = 5 := by omega
              have hf9 : ∀ a, 42 ≤ a → a < 50 → I' a = wI I 42 11 (nI 1) a := fun a a1 a2 => by rw [hf a (by omega) (by omega) (by omega) (by omega) (by omega)]; exact hf1 a (by omega) (by omega)
              obtain ⟨m1, m2, m3, m4, -⟩ := hM1.keep (I' := I') (fun a a1 a2 => hf9 a (by omega) a2) (by rw [hf9 42 (by omega) (by omega)])
              refine ws_iload_2 44 rfl rfl ?_
              refine ws_iconst 45 rfl rfl kc_i5 ?_
              refine ws_icmp_gen 65 48 rfl rfl rfl (by omega) (by omega) (fun h9 => ?_) (fun h9 => absurd h9 (by omega))
              refine ws_aload_0 66 rfl rfl ?_
              refine ws_getfr 69 rfl rfl rfl rfl rfl ?_
              refine ws_iload_1 70 rfl rfl ?_
              refine ws_aload_0 71 rfl rfl ?_
              refine ws_iconst 72 rfl rfl kc_i0 ?_
              refine ws_invV1 75 rfl rfl rfl rfl (m_weekOf (A := A) (F := F) (b := dg k) 0 (by omega) m1 m2 m3 m4 (fun j hj => by rw [hf 58 (by decide) (by decide) (by decide) (by decide) (by decide)]; exact h58 j hj) (fun j hj => by rw [hf 59 (by decide) (by decide) (by decide) (by decide) (by decide)]; exact h59 j hj) f3 f4 o5 o6 o1 o2 o3 o4 (fun p _ => dg_le k p) h53) rfl rfl rfl ?_
              rintro _ _ ⟨rfl, I2, L2, rfl, hf2, hl2⟩
              refine ws_iastn 76 rfl rfl rfl (by omega) (by omega) ?_
              refine ws_iinc_1 79 rfl rfl (ki_1 _) rfl rfl ?_
              refine ws_goto 19 rfl rfl ?_
              refine ih (k + 1) _ _ _ (by omega) (fun a a1 a2 a3 a4 a5 => by rw [wI_ne a5, hf2 a a2 a3 a4]; exact hf a a1 a2 a3 a4 a5) (fun a a1 a2 => by rw [hl2 a a1]; exact hl a a1 a2) (fl (fun c hc => by rw [hf2 60 (by decide) (by decide) (by decide)]; exact h60 c hc) (by unfold wl; rw [hv]; rfl))
            | succ m ih2 =>
              intro p I' hp hf h60 h53
              refine ws_iload_2 44 rfl rfl ?_
              refine ws_iconst 45 rfl rfl kc_i5 ?_
              refine ws_icmp_gen 65 48 rfl rfl rfl (by omega) (by omega) (fun h9 => absurd h9 (by omega)) (fun h9 => ?_)
              refine ws_aload_0 49 rfl rfl ?_
              refine ws_getfr 52 rfl rfl rfl rfl rfl ?_
              refine ws_iload_2 53 rfl rfl ?_
              refine ws_iload_1 54 rfl rfl ?_
              refine ws_iload_2 55 rfl rfl ?_
              refine ws_invS2p 58 rfl rfl rfl (p_digit k p hk6 (by omega)) rfl rfl rfl ?_
              refine ws_iastn 59 rfl rfl rfl (by omega) (by omega) ?_
              refine ws_iinc_2 62 rfl rfl (ki_1 _) rfl rfl ?_
              refine ws_goto 43 rfl rfl ?_
              exact ih2 (p + 1) _ (by omega) (fun a a1 a2 a3 a4 a5 => by rw [wI_ne a1]; exact hf a a1 a2 a3 a4 a5) (fun c hc => by rw [wI_ne (by decide)]; exact h60 c hc) (fl h53 rfl)
          refine ws_iload_1 20 rfl rfl ?_
          refine ws_sipush 23 rfl rfl kc_s7776 ?_
          refine ws_icmp_gen 82 26 rfl rfl rfl (by omega) (by omega) (fun h9 => absurd h9 (by omega)) (fun h9 => ?_)
          refine ws_aload_0 27 rfl rfl ?_
          refine ws_getfr 30 rfl rfl rfl rfl rfl ?_
          refine ws_iload_1 31 rfl rfl ?_
          refine ws_bipush 33 rfl rfl kc_bm6 ?_
          refine ws_iastn 34 rfl rfl rfl (by omega) (by omega) ?_
          refine ws_iload_1 35 rfl rfl ?_
          refine ws_invS1p 38 rfl rfl rfl (ht) rfl rfl rfl ?_
          refine ws_if_ltn 76 41 rfl rfl rfl (by omega) (fun h9 => absurd h9 (by omega)) (fun h9 => ?_)
          refine ws_iconst 42 rfl rfl kc_i0 ?_
          refine ws_istore_2 43 rfl rfl rfl rfl ?_
          exact inner 5 0 _ rfl (fun a a1 a2 a3 a4 a5 => by rw [wI_ne a5]; exact hf a a1 a2 a3 a4 a5) (fun c hc => by rw [wI_eq, pk_un (by omega)]; exact h60 c hc) (fun q hq => by omega)
    refine ws_iconst 18 rfl rfl kc_i0 ?_
    refine ws_istore_1 19 rfl rfl rfl rfl ?_
    exact loop 7776 0 I1 L1 _ rfl (fun _ _ _ _ _ _ => rfl) (fun a _ a2 => hl1 a a2) (fun c hc => by omega)
  · refine ws_aload_0 1 rfl rfl ?_
    refine ws_getfi 4 rfl rfl rfl rfl rfl h1.1 ?_
    refine ws_if_eqn 8 7 rfl rfl rfl (by omega) (fun h9 => absurd h9 (by omega)) (fun h9 => ?_)
    refine ws_vret rfl rfl rfl (Nat.le_of_ble_eq_true rfl) ?_
    exact ⟨rfl, I, L, rfl, ⟨fun _ _ => rfl, fun _ _ => rfl⟩, fun _ _ _ => rfl, h1⟩
end MWIN
