/-! ===== the reference: the best window, exchanges ===== -/
theorem gsel_ok {A : Nat → Nat → Nat} {F : Nat → Nat} {may must c : Nat} {o : Option Nat} (h : gsel A F may must o = some c) : okC c := bst_ok h
theorem sw_I {c c' d1 d2 P1 P2 : Nat} (h : c' + d1 * P1 + d2 * P2 = c + d2 * P1 + d1 * P2) : nI c + (nI d2 - nI d1) * nI P1 + (nI d1 - nI d2) * nI P2 = nI c' := by
  have h2 : nI c' + nI d1 * nI P1 + nI d2 * nI P2 = nI c + nI d2 * nI P1 + nI d1 * nI P2 := by
    rw [pk_mul, pk_mul, pk_mul, pk_mul, nI_add, nI_add, nI_add, nI_add, h]
  grind
theorem pu_I {c c' d e P : Nat} (h : c' + d * P = c + e * P) : nI c + (nI e - nI d) * nI P = nI c' := by
  have h2 : nI c' + nI d * nI P = nI c + nI e * nI P := by
    rw [pk_mul, pk_mul, nI_add, nI_add, h]
  grind
set_option maxRecDepth 20000 in
theorem cd_sw {c p q : Nat} (hc : c < 7776) (hp : p < q) (hq : q < 5) : cd (sw (dg c) p q) + dg c p * 6 ^ (4 - p) + dg c q * 6 ^ (4 - q) = c + dg c q * 6 ^ (4 - p) + dg c p * 6 ^ (4 - q) := by
  have e := cd_dg hc
  unfold cd at e ⊢
  rcases (show q = 1 ∨ q = 2 ∨ q = 3 ∨ q = 4 by omega) with rfl | rfl | rfl | rfl
  · obtain rfl : p = 0 := by omega
    simp only [sw]
    simp
    omega
  · rcases (show p = 0 ∨ p = 1 by omega) with rfl | rfl <;> (simp only [sw]; simp; omega)
  · rcases (show p = 0 ∨ p = 1 ∨ p = 2 by omega) with rfl | rfl | rfl <;> (simp only [sw]; simp; omega)
  · rcases (show p = 0 ∨ p = 1 ∨ p = 2 ∨ p = 3 by omega) with rfl | rfl | rfl | rfl <;> (simp only [sw]; simp; omega)
set_option maxRecDepth 20000 in
theorem cd_pu {c p e : Nat} (hc : c < 7776) (hp : p < 5) : cd (pu (dg c) p e) + dg c p * 6 ^ (4 - p) = c + e * 6 ^ (4 - p) := by
  have h := cd_dg hc
  unfold cd at h ⊢
  rcases (show p = 0 ∨ p = 1 ∨ p = 2 ∨ p = 3 ∨ p = 4 by omega) with rfl | rfl | rfl | rfl | rfl <;> (simp only [pu]; simp; omega)
theorem p_change (c p q : Nat) (hc : c < 7776) (hp : p < q) (hq : q < 5) : xP 2 125 [.int (nI c), .int (nI p), .int (nI q)] (.int (nI (cd (sw (dg c) p q)))) := by
  intro E σ
  refine xC.mk [some (.int (nI c)), some (.int (nI p)), some (.int (nI q)), none, none] rfl ?_
  have e := sw_I (cd_sw hc hp hq)
  refine ws_iload_0 1 rfl rfl ?_
  refine ws_iload_1 2 rfl rfl ?_
  refine ws_invS2p 5 rfl rfl rfl (p_digit c p hc (by omega)) rfl rfl rfl ?_
  refine ws_istore_3 6 rfl rfl rfl rfl ?_
  refine ws_iload_0 7 rfl rfl ?_
  refine ws_iload_2 8 rfl rfl ?_
  refine ws_invS2p 11 rfl rfl rfl (p_digit c q hc hq) rfl rfl rfl ?_
  refine ws_istore_4 13 rfl rfl rfl rfl ?_
  refine ws_iload_0 14 rfl rfl ?_
  refine ws_iload_4 16 rfl rfl ?_
  refine ws_iload_3 17 rfl rfl ?_
  refine ws_isub 18 rfl rfl rfl ?_
  refine ws_iload_1 19 rfl rfl ?_
  refine ws_invS1p 22 rfl rfl rfl (p_power p (by omega)) rfl rfl rfl ?_
  refine ws_imul 23 rfl rfl rfl ?_
  refine ws_iadd 24 rfl rfl rfl ?_
  refine ws_iload_3 25 rfl rfl ?_
  refine ws_iload_4 27 rfl rfl ?_
  refine ws_isub 28 rfl rfl rfl ?_
  refine ws_iload_2 29 rfl rfl ?_
  refine ws_invS1p 32 rfl rfl rfl (p_power q hq) rfl rfl rfl ?_
  refine ws_imul 33 rfl rfl rfl ?_
  refine ws_iadd 34 rfl rfl rfl ?_
  refine ws_iret rfl rfl rfl (Nat.le_of_ble_eq_true rfl) ?_
  exact ⟨by rw [e], rfl⟩
def st7 (ft : Nat → Bool) (g pq : Nat → Nat) (x : Option Nat) (c : Nat) : Option Nat := if vB c then stp ft g pq x c else x
theorem bst_st7 (ft : Nat → Bool) (g pq : Nat → Nat) : bst ft g pq = (List.range 7776).foldl (st7 ft g pq) none := bst_range ft g pq
theorem ostD (g : Nat → Nat) (c0 : Nat) (o : Option Nat) (x : Nat) : (ost g c0 o x).getD c0 = if g (o.getD c0) < g x then x else o.getD c0 := by
  unfold ost
  split <;> rfl
section MBEST
variable {E : xEx} {I : Nat → Nat → Int32} {L : Nat → Nat → Int64} {A : Nat → Nat → Nat} {F g b : Nat → Nat}
theorem m_bestOf (may must : Nat) (o : Option Nat) (ho : ∀ n, o = some n → n ≤ 5) (c0 : Nat) (hc0 : c0 < 7776) (hv0 : vB c0 = true) (hf0 : ftC may must o c0 = true) (hok : okA A F) (hF : okF A F) (hM : MS A I) (hP : PL (wkc A F) I) : xC E 7 121 [.ref 42, .int (nI may), .int (nI must), .int (szI o)] (xS, I, L) (fun r t => ∃ c, gsel A F may must o = some c ∧ r = some (.int (nI c)) ∧ ∃ I' L', t = (xS, I', L') ∧ ((∀ a, a < 42 ∨ (42 < a ∧ a < 53) ∨ 60 < a → I' a = I a) ∧ ∀ j, j ≠ 11 → I' 42 j = I 42 j) ∧ (∀ a, a ≠ 42 → a ≠ 55 → L' a = L a) ∧ LD (wkc A F) I') := by
  refine xC.mk [some (.ref 42), some (.int (nI may)), some (.int (nI must)), some (.int (szI o)), none, none, none, none, none] rfl ?_
  refine ws_aload_0 1 rfl rfl ?_
  refine ws_invV0 4 rfl rfl rfl rfl (m_layWeeks hok hF hM hP) rfl rfl rfl ?_
  rintro _ _ ⟨rfl, I1, L1, rfl, hf1, hl1, hL1⟩
  have loop : ∀ (m k : Nat) (fd fe : Int32) (z7 z8 : Option Value), k + m = 7776 → (match (List.range k).foldl (st7 (ftC may must o) (wkc A F) pqC) none with | none => fd = -6 ∧ fe = nI 0 | some c => okC c ∧ fd = nI c ∧ fe = nI (pqC c)) → xW E 7 121 14 [some (.ref 42), some (.int (nI may)), some (.int (nI must)), some (.int (szI o)), some (.int fd), some (.int fe), some (.int (nI k)), z7, z8] [] (xS, I1, L1) 0 0 (fun r t => ∃ c, gsel A F may must o = some c ∧ r = some (.int (nI c)) ∧ ∃ I' L', t = (xS, I', L') ∧ ((∀ a, a < 42 ∨ (42 < a ∧ a < 53) ∨ 60 < a → I' a = I a) ∧ ∀ j, j ≠ 11 → I' 42 j = I 42 j) ∧ (∀ a, a ≠ 42 → a ≠ 55 → L' a = L a) ∧ LD (wkc A F) I') := by
    intro m
    induction m with
    | zero =>
      intro k fd fe z7 z8 hk hq
      obtain rfl : k = 7776 := by omega
      obtain ⟨c, hb⟩ := bst_some (ft := ftC may must o) (g := wkc A F) (pq := pqC) c0 hc0 hv0 hf0
      have hb2 : (List.range 7776).foldl (st7 (ftC may must o) (wkc A F) pqC) none = some c := by rw [← bst_st7]; exact hb
      rw [hb2] at hq
      obtain ⟨-, h3, -⟩ := hq
      refine ws_iload_6 16 rfl rfl ?_
      refine ws_sipush 19 rfl rfl kc_s7776 ?_
      refine ws_icmp_gen 158 22 rfl rfl rfl (by omega) (by omega) (fun h9 => ?_) (fun h9 => absurd h9 (by omega))
      refine ws_iload_4 160 rfl rfl ?_
      refine ws_iret rfl rfl rfl (Nat.le_of_ble_eq_true rfl) ?_
      exact ⟨c, hb, by rw [h3], I1, L1, rfl, hf1, hl1, hL1⟩
    | succ m ih =>
      intro k fd fe z7 z8 hk hq
      have hk6 : k < 7776 := by omega
      have ht := p_thingsIn k hk6
      have hs32 := sC_lt k
      have hpl := pop_le 5 (sC k)
      have etk : (List.range (k + 1)).foldl (st7 (ftC may must o) (wkc A F) pqC) none = st7 (ftC may must o) (wkc A F) pqC ((List.range k).foldl (st7 (ftC may must o) (wkc A F) pqC) none) k := by
        rw [List.range_succ, List.foldl_append]
        rfl
      obtain ⟨b0, hb0⟩ : ∃ b0, b0 = (List.range k).foldl (st7 (ftC may must o) (wkc A F) pqC) none := ⟨_, rfl⟩
      rw [← hb0] at hq etk
      have leave : st7 (ftC may must o) (wkc A F) pqC b0 k = b0 → ∀ (z7 z8 : Option Value), xW E 7 121 152 [some (.ref 42), some (.int (nI may)), some (.int (nI must)), some (.int (szI o)), some (.int fd), some (.int fe), some (.int (nI k)), z7, z8] [] (xS, I1, L1) 0 0 (fun r t => ∃ c, gsel A F may must o = some c ∧ r = some (.int (nI c)) ∧ ∃ I' L', t = (xS, I', L') ∧ ((∀ a, a < 42 ∨ (42 < a ∧ a < 53) ∨ 60 < a → I' a = I a) ∧ ∀ j, j ≠ 11 → I' 42 j = I 42 j) ∧ (∀ a, a ≠ 42 → a ≠ 55 → L' a = L a) ∧ LD (wkc A F) I') := by
        intro hs z7 z8
        refine ws_iinc_6 155 rfl rfl (ki_1 _) rfl rfl ?_
        refine ws_goto 14 rfl rfl ?_
        exact ih (k + 1) fd fe _ _ (by omega) (by rw [etk, hs]; exact hq)
      cases hv : vB k with
      | false =>
        rw [hv] at ht
        have ht : xP 2 119 [.int (nI k)] (.int (-6)) := ht
        refine ws_iload_6 16 rfl rfl ?_
        refine ws_sipush 19 rfl rfl kc_s7776 ?_
        refine ws_icmp_gen 158 22 rfl rfl rfl (by omega) (by omega) (fun h9 => absurd h9 (by omega)) (fun h9 => ?_)
        refine ws_iload_6 24 rfl rfl ?_
        refine ws_invS1p 27 rfl rfl rfl (ht) rfl rfl rfl ?_
        refine ws_istore_7 29 rfl rfl rfl rfl ?_
        refine ws_iload_7 31 rfl rfl ?_
        refine ws_if_lt 152 34 rfl rfl rfl (fun h9 => ?_) (fun h9 => absurd h9 (by decide))
        exact leave (by unfold st7; rw [hv]; rfl) _ _
      | true =>
        rw [hv] at ht
        have ht : xP 2 119 [.int (nI k)] (.int (nI (sC k))) := ht
        have e7 : st7 (ftC may must o) (wkc A F) pqC b0 k = stp (ftC may must o) (wkc A F) pqC b0 k := by unfold st7; rw [hv]; rfl
        rw [e7] at etk leave
        have hckk : okC k := ⟨hk6, hv⟩
        have skip : ftC may must o k = false → ∀ (z7 z8 : Option Value), xW E 7 121 152 [some (.ref 42), some (.int (nI may)), some (.int (nI must)), some (.int (szI o)), some (.int fd), some (.int fe), some (.int (nI k)), z7, z8] [] (xS, I1, L1) 0 0 (fun r t => ∃ c, gsel A F may must o = some c ∧ r = some (.int (nI c)) ∧ ∃ I' L', t = (xS, I', L') ∧ ((∀ a, a < 42 ∨ (42 < a ∧ a < 53) ∨ 60 < a → I' a = I a) ∧ ∀ j, j ≠ 11 → I' 42 j = I 42 j) ∧ (∀ a, a ≠ 42 → a ≠ 55 → L' a = L a) ∧ LD (wkc A F) I') := fun hft => leave (by unfold stp; rw [hft]; rfl)
        by_cases c1 : nI (sC k) &&& (nI may ^^^ (-1)) = 0
        · by_cases c2 : nI must &&& (nI (sC k) ^^^ (-1)) = 0
          · have hfit : fitI may must (sC k) = true := by unfold fitI; rw [decide_eq_true c1, decide_eq_true c2]; rfl
            have go : szB o (pop 5 (sC k)) = true → ∀ (z8 : Option Value), xW E 7 121 65 [some (.ref 42), some (.int (nI may)), some (.int (nI must)), some (.int (szI o)), some (.int fd), some (.int fe), some (.int (nI k)), some (.int (nI (sC k))), z8] [] (xS, I1, L1) 0 0 (fun r t => ∃ c, gsel A F may must o = some c ∧ r = some (.int (nI c)) ∧ ∃ I' L', t = (xS, I', L') ∧ ((∀ a, a < 42 ∨ (42 < a ∧ a < 53) ∨ 60 < a → I' a = I a) ∧ ∀ j, j ≠ 11 → I' 42 j = I 42 j) ∧ (∀ a, a ≠ 42 → a ≠ 55 → L' a = L a) ∧ LD (wkc A F) I') := by
              intro hsz z8
              have hft : ftC may must o k = true := by unfold ftC; rw [hfit, hsz]; rfl
              have take : stp (ftC may must o) (wkc A F) pqC b0 k = some k → ∀ (z8 : Option Value), xW E 7 121 114 [some (.ref 42), some (.int (nI may)), some (.int (nI must)), some (.int (szI o)), some (.int fd), some (.int fe), some (.int (nI k)), some (.int (nI (sC k))), z8] [] (xS, I1, L1) 0 0 (fun r t => ∃ c, gsel A F may must o = some c ∧ r = some (.int (nI c)) ∧ ∃ I' L', t = (xS, I', L') ∧ ((∀ a, a < 42 ∨ (42 < a ∧ a < 53) ∨ 60 < a → I' a = I a) ∧ ∀ j, j ≠ 11 → I' 42 j = I 42 j) ∧ (∀ a, a ≠ 42 → a ≠ 55 → L' a = L a) ∧ LD (wkc A F) I') := by
                intro hs z8
                rw [hs] at etk
                refine ws_iconst 115 rfl rfl kc_i1 ?_
                refine ws_goto 119 rfl rfl ?_
                refine ws_istore_8 121 rfl rfl rfl rfl ?_
                refine ws_iload_8 123 rfl rfl ?_
                refine ws_if_eqn 131 126 rfl rfl rfl (by omega) (fun h9 => absurd h9 (by omega)) (fun h9 => ?_)
                refine ws_iload_6 128 rfl rfl ?_
                refine ws_goto 133 rfl rfl ?_
                refine ws_istore_4 135 rfl rfl rfl rfl ?_
                refine ws_iload_8 137 rfl rfl ?_
                refine ws_if_eqn 148 140 rfl rfl rfl (by omega) (fun h9 => absurd h9 (by omega)) (fun h9 => ?_)
                refine ws_iload_7 142 rfl rfl ?_
                refine ws_invS1p 145 rfl rfl rfl (p_bits _ (by omega)) rfl rfl rfl ?_
                refine ws_goto 150 rfl rfl ?_
                refine ws_istore_5 152 rfl rfl rfl rfl ?_
                refine ws_iinc_6 155 rfl rfl (ki_1 _) rfl rfl ?_
                refine ws_goto 14 rfl rfl ?_
                exact ih (k + 1) _ _ _ _ (by omega) (by rw [etk]; exact ⟨hckk, rfl, rfl⟩)
              have left : stp (ftC may must o) (wkc A F) pqC b0 k = b0 → ∀ (z8 : Option Value), xW E 7 121 118 [some (.ref 42), some (.int (nI may)), some (.int (nI must)), some (.int (szI o)), some (.int fd), some (.int fe), some (.int (nI k)), some (.int (nI (sC k))), z8] [] (xS, I1, L1) 0 0 (fun r t => ∃ c, gsel A F may must o = some c ∧ r = some (.int (nI c)) ∧ ∃ I' L', t = (xS, I', L') ∧ ((∀ a, a < 42 ∨ (42 < a ∧ a < 53) ∨ 60 < a → I' a = I a) ∧ ∀ j, j ≠ 11 → I' 42 j = I 42 j) ∧ (∀ a, a ≠ 42 → a ≠ 55 → L' a = L a) ∧ LD (wkc A F) I') := by
                intro hs z8
                refine ws_iconst 119 rfl rfl kc_i0 ?_
                refine ws_istore_8 121 rfl rfl rfl rfl ?_
                refine ws_iload_8 123 rfl rfl ?_
                refine ws_if_eqn 131 126 rfl rfl rfl (by omega) (fun h9 => ?_) (fun h9 => absurd h9 (by omega))
                refine ws_iload_4 133 rfl rfl ?_
                refine ws_istore_4 135 rfl rfl rfl rfl ?_
                refine ws_iload_8 137 rfl rfl ?_
                refine ws_if_eqn 148 140 rfl rfl rfl (by omega) (fun h9 => ?_) (fun h9 => absurd h9 (by omega))
                refine ws_iload_5 150 rfl rfl ?_
                refine ws_istore_5 152 rfl rfl rfl rfl ?_
                exact leave hs _ _
              have hwl := wkc_le hok k
              have h60k := hL1.at hckk
              cases hb : b0 with
              | none =>
                rw [hb] at hq
                obtain ⟨q1, -⟩ := hq
                rw [hb] at take
                have hs : stp (ftC may must o) (wkc A F) pqC none k = some k := by unfold stp; rw [hft]; rfl
                have hgt : ¬ ¬ (fd < 0) := by rw [q1]; decide
                refine ws_iload_4 67 rfl rfl ?_
                refine ws_if_lt 114 70 rfl rfl rfl (fun h9 => ?_) (fun h9 => absurd h9 hgt)
                exact take hs _
              | some c =>
                rw [hb] at hq
                obtain ⟨q1, q3, q5⟩ := hq
                rw [hb] at take left
                have hwc := wkc_le hok c
                have hpc := pop_le 5 (sC c)
                have hpe : pqC c = pop 5 (sC c) := rfl
                have hpk : pqC k = pop 5 (sC k) := rfl
                have hc6 := q1.1
                have h60c := hL1.at q1
                have hs : stp (ftC may must o) (wkc A F) pqC (some c) k = if wkc A F c < wkc A F k ∨ (wkc A F k = wkc A F c ∧ pqC k < pqC c) then some k else some c := by unfold stp; rw [hft]; rfl
                rw [q3, q5] at take left ⊢
                refine ws_iload_4 67 rfl rfl ?_
                refine ws_if_ltn 114 70 rfl rfl rfl (by omega) (fun h9 => absurd h9 (by omega)) (fun h9 => ?_)
                refine ws_aload_0 71 rfl rfl ?_
                refine ws_getfr 74 rfl rfl rfl rfl rfl ?_
                refine ws_iload_6 76 rfl rfl ?_
                refine ws_ialdn 77 rfl rfl rfl (by omega) (by omega) h60k ?_
                refine ws_aload_0 78 rfl rfl ?_
                refine ws_getfr 81 rfl rfl rfl rfl rfl ?_
                refine ws_iload_4 83 rfl rfl ?_
                refine ws_ialdn 84 rfl rfl rfl (by omega) (by omega) h60c ?_
                refine ws_icmp_gtn 114 87 rfl rfl rfl (by omega) (by omega) (fun d1 => ?_) (fun d1 => ?_)
                · exact take (by rw [hs, if_pos (Or.inl (by omega))]) _
                · refine ws_aload_0 88 rfl rfl ?_
                  refine ws_getfr 91 rfl rfl rfl rfl rfl ?_
                  refine ws_iload_6 93 rfl rfl ?_
                  refine ws_ialdn 94 rfl rfl rfl (by omega) (by omega) h60k ?_
                  refine ws_aload_0 95 rfl rfl ?_
                  refine ws_getfr 98 rfl rfl rfl rfl rfl ?_
                  refine ws_iload_4 100 rfl rfl ?_
                  refine ws_ialdn 101 rfl rfl rfl (by omega) (by omega) h60c ?_
                  refine ws_icmp_nen 118 104 rfl rfl rfl (by omega) (by omega) (fun d2 => ?_) (fun d2 => ?_)
                  · exact left (by rw [hs, if_neg (by omega)]) _
                  · refine ws_iload_7 106 rfl rfl ?_
                    refine ws_invS1p 109 rfl rfl rfl (p_bits _ (by omega)) rfl rfl rfl ?_
                    refine ws_iload_5 111 rfl rfl ?_
                    refine ws_icmp_gen 118 114 rfl rfl rfl (by omega) (by omega) (fun d3 => ?_) (fun d3 => ?_)
                    · exact left (by rw [hs, if_neg (by omega)]) _
                    · exact take (by rw [hs, if_pos (Or.inr ⟨d2, by omega⟩)]) _
            refine ws_iload_6 16 rfl rfl ?_
            refine ws_sipush 19 rfl rfl kc_s7776 ?_
            refine ws_icmp_gen 158 22 rfl rfl rfl (by omega) (by omega) (fun h9 => absurd h9 (by omega)) (fun h9 => ?_)
            refine ws_iload_6 24 rfl rfl ?_
            refine ws_invS1p 27 rfl rfl rfl (ht) rfl rfl rfl ?_
            refine ws_istore_7 29 rfl rfl rfl rfl ?_
            refine ws_iload_7 31 rfl rfl ?_
            refine ws_if_ltn 152 34 rfl rfl rfl (by omega) (fun h9 => absurd h9 (by omega)) (fun h9 => ?_)
            refine ws_iload_7 36 rfl rfl ?_
            refine ws_iload_1 37 rfl rfl ?_
            refine ws_iconst 38 rfl rfl kc_im1 ?_
            refine ws_ixor 39 rfl rfl rfl ?_
            refine ws_iand 40 rfl rfl rfl ?_
            refine ws_if_ne 152 43 rfl rfl rfl (fun h9 => absurd h9 (not_not_intro c1)) (fun h9 => ?_)
            refine ws_iload_2 44 rfl rfl ?_
            refine ws_iload_7 46 rfl rfl ?_
            refine ws_iconst 47 rfl rfl kc_im1 ?_
            refine ws_ixor 48 rfl rfl rfl ?_
            refine ws_iand 49 rfl rfl rfl ?_
            refine ws_if_ne 152 52 rfl rfl rfl (fun h9 => absurd h9 (not_not_intro c2)) (fun h9 => ?_)
            cases ho' : o with
            | none =>
              rw [ho'] at go
              refine ws_iload_3 53 rfl rfl ?_
              refine ws_if_lt 65 56 rfl rfl rfl (fun h9 => ?_) (fun h9 => absurd h9 (by decide))
              exact go rfl _
            | some n =>
              have hn5 := ho n ho'
              rw [ho'] at go skip
              show xW E 7 121 52 [some (.ref 42), some (.int (nI may)), some (.int (nI must)), some (.int (nI n)), some (.int fd), some (.int fe), some (.int (nI k)), some (.int (nI (sC k))), z8] [] (xS, I1, L1) 0 0 _
              refine ws_iload_3 53 rfl rfl ?_
              refine ws_if_ltn 65 56 rfl rfl rfl (by omega) (fun h9 => absurd h9 (by omega)) (fun h9 => ?_)
              refine ws_iload_7 58 rfl rfl ?_
              refine ws_invS1p 61 rfl rfl rfl (p_bits _ (by omega)) rfl rfl rfl ?_
              refine ws_iload_3 62 rfl rfl ?_
              refine ws_icmp_nen 152 65 rfl rfl rfl (by omega) (by omega) (fun d1 => ?_) (fun d1 => ?_)
              · exact skip (by unfold ftC; simp [szB, Ne.symm d1]) _ _
              · exact go (by simp [szB, d1]) _
          · refine ws_iload_6 16 rfl rfl ?_
            refine ws_sipush 19 rfl rfl kc_s7776 ?_
            refine ws_icmp_gen 158 22 rfl rfl rfl (by omega) (by omega) (fun h9 => absurd h9 (by omega)) (fun h9 => ?_)
            refine ws_iload_6 24 rfl rfl ?_
            refine ws_invS1p 27 rfl rfl rfl (ht) rfl rfl rfl ?_
            refine ws_istore_7 29 rfl rfl rfl rfl ?_
            refine ws_iload_7 31 rfl rfl ?_
            refine ws_if_ltn 152 34 rfl rfl rfl (by omega) (fun h9 => absurd h9 (by omega)) (fun h9 => ?_)
            refine ws_iload_7 36 rfl rfl ?_
            refine ws_iload_1 37 rfl rfl ?_
            refine ws_iconst 38 rfl rfl kc_im1 ?_
            refine ws_ixor 39 rfl rfl rfl ?_
            refine ws_iand 40 rfl rfl rfl ?_
            refine ws_if_ne 152 43 rfl rfl rfl (fun h9 => absurd h9 (not_not_intro c1)) (fun h9 => ?_)
            refine ws_iload_2 44 rfl rfl ?_
            refine ws_iload_7 46 rfl rfl ?_
            refine ws_iconst 47 rfl rfl kc_im1 ?_
            refine ws_ixor 48 rfl rfl rfl ?_
            refine ws_iand 49 rfl rfl rfl ?_
            refine ws_if_ne 152 52 rfl rfl rfl (fun h9 => ?_) (fun h9 => absurd h9 c2)
            exact skip (by unfold ftC fitI; rw [decide_eq_false c2, Bool.and_false]; rfl) _ _
        · refine ws_iload_6 16 rfl rfl ?_
          refine ws_sipush 19 rfl rfl kc_s7776 ?_
          refine ws_icmp_gen 158 22 rfl rfl rfl (by omega) (by omega) (fun h9 => absurd h9 (by omega)) (fun h9 => ?_)
          refine ws_iload_6 24 rfl rfl ?_
          refine ws_invS1p 27 rfl rfl rfl (ht) rfl rfl rfl ?_
          refine ws_istore_7 29 rfl rfl rfl rfl ?_
          refine ws_iload_7 31 rfl rfl ?_
          refine ws_if_ltn 152 34 rfl rfl rfl (by omega) (fun h9 => absurd h9 (by omega)) (fun h9 => ?_)
          refine ws_iload_7 36 rfl rfl ?_
          refine ws_iload_1 37 rfl rfl ?_
          refine ws_iconst 38 rfl rfl kc_im1 ?_
          refine ws_ixor 39 rfl rfl rfl ?_
          refine ws_iand 40 rfl rfl rfl ?_
          refine ws_if_ne 152 43 rfl rfl rfl (fun h9 => ?_) (fun h9 => absurd h9 c1)
          exact skip (by unfold ftC fitI; rw [decide_eq_false c1]; rfl) _ _
  refine ws_bipush 6 rfl rfl kc_bm6 ?_
  refine ws_istore_4 8 rfl rfl rfl rfl ?_
  refine ws_iconst 9 rfl rfl kc_i0 ?_
  refine ws_istore_5 11 rfl rfl rfl rfl ?_
  refine ws_iconst 12 rfl rfl kc_i0 ?_
  refine ws_istore_6 14 rfl rfl rfl rfl ?_
  exact loop 7776 0 _ _ _ _ rfl ⟨rfl, rfl⟩
theorem m_windowCode (hb : ∀ p, p < 5 → b p ≤ 5) (h46 : ∀ p, p < 5 → I 46 p = nI (b p)) : xC E 1 124 [.ref 42] (xS, I, L) (rV (.int (nI (cd b))) (xS, I, L)) := by
  refine xC.mk [some (.ref 42), none, none] rfl ?_
  have h0 := hb 0 (by omega); have h1 := hb 1 (by omega); have h2 := hb 2 (by omega); have h3 := hb 3 (by omega); have h4 := hb 4 (by omega)
  have g0 := h46 0 (by omega); have g1 := h46 1 (by omega); have g2 := h46 2 (by omega); have g3 := h46 3 (by omega); have g4 := h46 4 (by omega)
  refine ws_iconst 1 rfl rfl kc_i0 ?_
  refine ws_istore_1 2 rfl rfl rfl rfl ?_
  refine ws_iconst 3 rfl rfl kc_i0 ?_
  refine ws_istore_2 4 rfl rfl rfl rfl ?_
  refine ws_iload_2 5 rfl rfl ?_
  refine ws_iconst 6 rfl rfl kc_i5 ?_
  refine ws_icmp_gen 27 9 rfl rfl rfl (by omega) (by omega) (fun h9 => absurd h9 (by omega)) (fun h9 => ?_)
  refine ws_bipush 11 rfl rfl kc_b6 ?_
  refine ws_iload_1 12 rfl rfl ?_
  refine ws_imul 13 rfl rfl (pk_mul _ _) ?_
  refine ws_aload_0 14 rfl rfl ?_
  refine ws_getfr 17 rfl rfl rfl rfl rfl ?_
  refine ws_iload_2 18 rfl rfl ?_
  refine ws_ialdn 19 rfl rfl rfl (by omega) (by omega) g0 ?_
  refine ws_iadd 20 rfl rfl (nI_add _ _) ?_
  refine ws_istore_1 21 rfl rfl rfl rfl ?_
  refine ws_iinc_2 24 rfl rfl (ki_1 _) rfl rfl ?_
  refine ws_goto 4 rfl rfl ?_
  refine ws_iload_2 5 rfl rfl ?_
  refine ws_iconst 6 rfl rfl kc_i5 ?_
  refine ws_icmp_gen 27 9 rfl rfl rfl (by omega) (by omega) (fun h9 => absurd h9 (by omega)) (fun h9 => ?_)
  refine ws_bipush 11 rfl rfl kc_b6 ?_
  refine ws_iload_1 12 rfl rfl ?_
  refine ws_imul 13 rfl rfl (pk_mul _ _) ?_
  refine ws_aload_0 14 rfl rfl ?_
  refine ws_getfr 17 rfl rfl rfl rfl rfl ?_
  refine ws_iload_2 18 rfl rfl ?_
  refine ws_ialdn 19 rfl rfl rfl (by omega) (by omega) g1 ?_
  refine ws_iadd 20 rfl rfl (nI_add _ _) ?_
  refine ws_istore_1 21 rfl rfl rfl rfl ?_
  refine ws_iinc_2 24 rfl rfl (ki_1 _) rfl rfl ?_
  refine ws_goto 4 rfl rfl ?_
  refine ws_iload_2 5 rfl rfl ?_
  refine ws_iconst 6 rfl rfl kc_i5 ?_
  refine ws_icmp_gen 27 9 rfl rfl rfl (by omega) (by omega) (fun h9 => absurd h9 (by omega)) (fun h9 => ?_)
  refine ws_bipush 11 rfl rfl kc_b6 ?_
  refine ws_iload_1 12 rfl rfl ?_
  refine ws_imul 13 rfl rfl (pk_mul _ _) ?_
  refine ws_aload_0 14 rfl rfl ?_
  refine ws_getfr 17 rfl rfl rfl rfl rfl ?_
  refine ws_iload_2 18 rfl rfl ?_
  refine ws_ialdn 19 rfl rfl rfl (by omega) (by omega) g2 ?_
  refine ws_iadd 20 rfl rfl (nI_add _ _) ?_
  refine ws_istore_1 21 rfl rfl rfl rfl ?_
  refine ws_iinc_2 24 rfl rfl (ki_1 _) rfl rfl ?_
  refine ws_goto 4 rfl rfl ?_
  refine ws_iload_2 5 rfl rfl ?_
  refine ws_iconst 6 rfl rfl kc_i5 ?_
  refine ws_icmp_gen 27 9 rfl rfl rfl (by omega) (by omega) (fun h9 => absurd h9 (by omega)) (fun h9 => ?_)
  refine ws_bipush 11 rfl rfl kc_b6 ?_
  refine ws_iload_1 12 rfl rfl ?_
  refine ws_imul 13 rfl rfl (pk_mul _ _) ?_
  refine ws_aload_0 14 rfl rfl ?_
  refine ws_getfr 17 rfl rfl rfl rfl rfl ?_
  refine ws_iload_2 18 rfl rfl ?_
  refine ws_ialdn 19 rfl rfl rfl (by omega) (by omega) g3 ?_
  refine ws_iadd 20 rfl rfl (nI_add _ _) ?_
  refine ws_istore_1 21 rfl rfl rfl rfl ?_
  refine ws_iinc_2 24 rfl rfl (ki_1 _) rfl rfl ?_
  refine ws_goto 4 rfl rfl ?_
  refine ws_iload_2 5 rfl rfl ?_
  refine ws_iconst 6 rfl rfl kc_i5 ?_
  refine ws_icmp_gen 27 9 rfl rfl rfl (by omega) (by omega) (fun h9 => absurd h9 (by omega)) (fun h9 => ?_)
  refine ws_bipush 11 rfl rfl kc_b6 ?_
  refine ws_iload_1 12 rfl rfl ?_
  refine ws_imul 13 rfl rfl (pk_mul _ _) ?_
  refine ws_aload_0 14 rfl rfl ?_
  refine ws_getfr 17 rfl rfl rfl rfl rfl ?_
  refine ws_iload_2 18 rfl rfl ?_
  refine ws_ialdn 19 rfl rfl rfl (by omega) (by omega) g4 ?_
  refine ws_iadd 20 rfl rfl (nI_add _ _) ?_
  refine ws_istore_1 21 rfl rfl rfl rfl ?_
  refine ws_iinc_2 24 rfl rfl (ki_1 _) rfl rfl ?_
  refine ws_goto 4 rfl rfl ?_
  refine ws_iload_2 5 rfl rfl ?_
  refine ws_iconst 6 rfl rfl kc_i5 ?_
  refine ws_icmp_gen 27 9 rfl rfl rfl (by omega) (by omega) (fun h9 => ?_) (fun h9 => absurd h9 (by omega))
  refine ws_iload_1 28 rfl rfl ?_
  refine ws_iret rfl rfl rfl (Nat.le_of_ble_eq_true rfl) ?_
  exact ⟨congrArg (fun n => some (Value.int (nI n))) (by unfold cd; omega), rfl⟩
theorem m_exchanged (c : Nat) (hc : okC c) (hok : okA A F) (hL : LD (wkc A F) I) : xC E 3 126 [.ref 42, .int (nI c)] (xS, I, L) (rV (.int (nI ((exq (wkc A F) c).getD c))) (xS, I, L)) := by
  refine xC.mk [some (.ref 42), some (.int (nI c)), none, none, none, none] rfl ?_
  have hc7 := hc.1
  have hs32 := sC_lt c
  have ht := p_thingsIn c hc.1
  rw [hc.2] at ht
  have ht : xP 2 119 [.int (nI c)] (.int (nI (sC c))) := ht
  have okO : ∀ (l : List Nat), (∀ x ∈ l, okC x) → okC ((l.foldl (ost (wkc A F) c) none).getD c) := fun l hl => by
    cases h : l.foldl (ost (wkc A F) c) none with
    | none => exact hc
    | some y => exact ost_mem (P := okC) _ none hl (fun x hx => by cases hx) y h
  have hall := cands_ok hc
  have le40 : ∀ x, wkc A F x ≤ 395604000 := wkc_le hok
  have hm1 : ∀ x ∈ sw2 (dg c) 5, okC x := fun x hx => hall x (by unfold cands; exact List.mem_append_left _ (List.mem_append_left _ hx))
  have hm2 : ∀ x ∈ sw2 (dg c) 5 ++ pu2 (dg c) (sC c) 5, okC x := fun x hx => hall x (by unfold cands; exact List.mem_append_left _ hx)
  -- the takings
  have tk : ∀ (m p v : Nat) (z4 z5 : Option Value), p + m = 5 → okC v → v = ((sw2 (dg c) 5 ++ pu2 (dg c) (sC c) 5 ++ tk1 (dg c) p).foldl (ost (wkc A F) c) none).getD c → xW E 3 126 148 [some (.ref 42), some (.int (nI c)), some (.int (nI v)), some (.int (nI p)), z4, z5] [] (xS, I, L) 0 0 (rV (.int (nI ((exq (wkc A F) c).getD c))) (xS, I, L)) := by
    intro m
    induction m with
    | zero =>
      intro p v z4 z5 hp hv ev
      obtain rfl : p = 5 := by omega
      rw [ev]
      refine ws_iload_3 149 rfl rfl ?_
      refine ws_iconst 150 rfl rfl kc_i5 ?_
      refine ws_icmp_gen 196 153 rfl rfl rfl (by omega) (by omega) (fun h9 => ?_) (fun h9 => absurd h9 (by omega))
      refine ws_iload_2 197 rfl rfl ?_
      refine ws_iret rfl rfl rfl (Nat.le_of_ble_eq_true rfl) ?_
      exact ⟨rfl, rfl⟩
    | succ m ih =>
      intro p v z4 z5 hp hv ev
      have hv7 := hv.1
      obtain ⟨x, hx⟩ : ∃ x, x = cd (pu (dg c) p 0) := ⟨_, rfl⟩
      have hxo : okC x := by rw [hx]; exact okC_tk hc
      have hx7 := hxo.1
      have he : nI c - nI (dg c p * 6 ^ (4 - p)) = nI x := by
        have := cd_pu (e := 0) hc.1 (show p < 5 by omega)
        rw [← hx] at this
        rw [pk_sub (by omega)]
        congr 1
        omega
      have eT : ((sw2 (dg c) 5 ++ pu2 (dg c) (sC c) 5 ++ tk1 (dg c) (p + 1)).foldl (ost (wkc A F) c) none).getD c = if wkc A F v < wkc A F x then x else v := by
        show ((sw2 (dg c) 5 ++ pu2 (dg c) (sC c) 5 ++ (tk1 (dg c) p ++ [cd (pu (dg c) p 0)])).foldl (ost (wkc A F) c) none).getD c = _
        rw [← List.append_assoc, List.foldl_append, ev, hx]
        exact ostD _ _ _ _
      have hwx := le40 x
      have hwv := le40 v
      refine ws_iload_3 149 rfl rfl ?_
      refine ws_iconst 150 rfl rfl kc_i5 ?_
      refine ws_icmp_gen 196 153 rfl rfl rfl (by omega) (by omega) (fun h9 => absurd h9 (by omega)) (fun h9 => ?_)
      refine ws_iload_1 154 rfl rfl ?_
      refine ws_iload_1 155 rfl rfl ?_
      refine ws_iload_3 156 rfl rfl ?_
      refine ws_invS2p 159 rfl rfl rfl (p_digit c p hc.1 (by omega)) rfl rfl rfl ?_
      refine ws_iload_3 160 rfl rfl ?_
      refine ws_invS1p 163 rfl rfl rfl (p_power p (by omega)) rfl rfl rfl ?_
      refine ws_imul 164 rfl rfl (pk_mul _ _) ?_
      refine ws_isub 165 rfl rfl he ?_
      refine ws_istore_4 167 rfl rfl rfl rfl ?_
      refine ws_aload_0 168 rfl rfl ?_
      refine ws_getfr 171 rfl rfl rfl rfl rfl ?_
      refine ws_iload_4 173 rfl rfl ?_
      refine ws_ialdn 174 rfl rfl rfl (by omega) (by omega) (hL.at hxo) ?_
      refine ws_aload_0 175 rfl rfl ?_
      refine ws_getfr 178 rfl rfl rfl rfl rfl ?_
      refine ws_iload_2 179 rfl rfl ?_
      refine ws_ialdn 180 rfl rfl rfl (by omega) (by omega) (hL.at hv) ?_
      refine ws_icmp_len 188 183 rfl rfl rfl (by omega) (by omega) (fun c1 => ?_) (fun c1 => ?_)
      · refine ws_iload_2 189 rfl rfl ?_
        refine ws_istore_2 190 rfl rfl rfl rfl ?_
        refine ws_iinc_3 193 rfl rfl (ki_1 _) rfl rfl ?_
        refine ws_goto 148 rfl rfl ?_
        exact ih (p + 1) v _ _ (by omega) hv (by rw [eT, if_neg (by omega)])
      · refine ws_iload_4 185 rfl rfl ?_
        refine ws_goto 189 rfl rfl ?_
        refine ws_istore_2 190 rfl rfl rfl rfl ?_
        refine ws_iinc_3 193 rfl rfl (ki_1 _) rfl rfl ?_
        refine ws_goto 148 rfl rfl ?_
        exact ih (p + 1) x _ _ (by omega) hxo (by rw [eT, if_pos (by omega)])
  have pt : ∀ (m p v : Nat) (z4 z5 : Option Value), p + m = 5 → okC v → v = ((sw2 (dg c) 5 ++ pu2 (dg c) (sC c) p).foldl (ost (wkc A F) c) none).getD c → xW E 3 126 66 [some (.ref 42), some (.int (nI c)), some (.int (nI v)), some (.int (nI p)), z4, z5] [] (xS, I, L) 0 0 (rV (.int (nI ((exq (wkc A F) c).getD c))) (xS, I, L)) := by
    intro m
    induction m with
    | zero =>
      intro p v z4 z5 hp hv ev
      obtain rfl : p = 5 := by omega
      refine ws_iload_3 67 rfl rfl ?_
      refine ws_iconst 68 rfl rfl kc_i5 ?_
      refine ws_icmp_gen 146 71 rfl rfl rfl (by omega) (by omega) (fun h9 => ?_) (fun h9 => absurd h9 (by omega))
      refine ws_iconst 147 rfl rfl kc_i0 ?_
      refine ws_istore_3 148 rfl rfl rfl rfl ?_
      exact tk 5 0 v _ _ rfl hv (by rw [show tk1 (dg c) 0 = [] from rfl, List.append_nil]; exact ev)
    | succ m ih =>
      intro p v z4 z5 hp hv ev
      have inner : ∀ (m t v : Nat) (z5 : Option Value), t + m = 5 → okC v → v = ((sw2 (dg c) 5 ++ (pu2 (dg c) (sC c) p ++ pu1 (dg c) (sC c) p t)).foldl (ost (wkc A F) c) none).getD c → xW E 3 126 74 [some (.ref 42), some (.int (nI c)), some (.int (nI v)), some (.int (nI p)), some (.int (nI t)), z5] [] (xS, I, L) 0 0 (rV (.int (nI ((exq (wkc A F) c).getD c))) (xS, I, L)) := by
        intro m
        induction m with
        | zero =>
          intro t v z5 ht5 hv ev
          obtain rfl : t = 5 := by omega
          refine ws_iload_4 76 rfl rfl ?_
          refine ws_iconst 77 rfl rfl kc_i5 ?_
          refine ws_icmp_gen 140 80 rfl rfl rfl (by omega) (by omega) (fun h9 => ?_) (fun h9 => absurd h9 (by omega))
          refine ws_iinc_3 143 rfl rfl (ki_1 _) rfl rfl ?_
          refine ws_goto 66 rfl rfl ?_
          exact ih (p + 1) v _ _ (by omega) hv ev
        | succ m ih2 =>
          intro t v z5 ht5 hv ev
          have hv7 := hv.1
          have e : sC c / 2 ^ t &&& 1 = sC c / 2 ^ t % 2 := Nat.and_one_is_mod _
          have eT : pu1 (dg c) (sC c) p (t + 1) = pu1 (dg c) (sC c) p t ++ (if sC c / 2 ^ t % 2 = 0 then [cd (pu (dg c) p (t + 1))] else []) := rfl
          refine ws_iload_4 76 rfl rfl ?_
          refine ws_iconst 77 rfl rfl kc_i5 ?_
          refine ws_icmp_gen 140 80 rfl rfl rfl (by omega) (by omega) (fun h9 => absurd h9 (by omega)) (fun h9 => ?_)
          refine ws_iload_1 81 rfl rfl ?_
          refine ws_invS1p 84 rfl rfl rfl (ht) rfl rfl rfl ?_
          refine ws_iload_4 86 rfl rfl ?_
          refine ws_ishr 87 rfl rfl (kn_shr (by omega) (by omega)) ?_
          refine ws_iconst 88 rfl rfl kc_i1 ?_
          refine ws_iand 89 rfl rfl (kn_and _ _) ?_
          rw [e]
          refine ws_if_nen 134 92 rfl rfl rfl (by omega) (fun c1 => ?_) (fun c1 => ?_)
          · rw [if_neg (by omega), List.append_nil] at eT
            refine ws_iinc_4 137 rfl rfl (ki_1 _) rfl rfl ?_
            refine ws_goto 74 rfl rfl ?_
            exact ih2 (t + 1) v _ (by omega) hv (by rw [eT]; exact ev)
          · rw [if_pos (by omega)] at eT
            obtain ⟨x, hx⟩ : ∃ x, x = cd (pu (dg c) p (t + 1)) := ⟨_, rfl⟩
            have hxo : okC x := by rw [hx]; exact okC_pu hc (by omega) (by omega)
            have hx7 := hxo.1
            have he : nI c + (nI (t + 1) - nI (dg c p)) * nI (6 ^ (4 - p)) = nI x := by
              rw [hx]
              exact pu_I (cd_pu hc.1 (by omega))
            have eT2 : ((sw2 (dg c) 5 ++ (pu2 (dg c) (sC c) p ++ pu1 (dg c) (sC c) p (t + 1))).foldl (ost (wkc A F) c) none).getD c = if wkc A F v < wkc A F x then x else v := by
              rw [eT, ← List.append_assoc, ← List.append_assoc, List.foldl_append, List.append_assoc, ev, hx]
              exact ostD _ _ _ _
            have hwx := le40 x
            have hwv := le40 v
            refine ws_iload_1 93 rfl rfl ?_
            refine ws_iload_4 95 rfl rfl ?_
            refine ws_iconst 96 rfl rfl kc_i1 ?_
            refine ws_iadd 97 rfl rfl (nI_add _ _) ?_
            refine ws_iload_1 98 rfl rfl ?_
            refine ws_iload_3 99 rfl rfl ?_
            refine ws_invS2p 102 rfl rfl rfl (p_digit c p hc.1 (by omega)) rfl rfl rfl ?_
            refine ws_isub 103 rfl rfl rfl ?_
            refine ws_iload_3 104 rfl rfl ?_
            refine ws_invS1p 107 rfl rfl rfl (p_power p (by omega)) rfl rfl rfl ?_
            refine ws_imul 108 rfl rfl rfl ?_
            refine ws_iadd 109 rfl rfl he ?_
            refine ws_istore_5 111 rfl rfl rfl rfl ?_
            refine ws_aload_0 112 rfl rfl ?_
            refine ws_getfr 115 rfl rfl rfl rfl rfl ?_
            refine ws_iload_5 117 rfl rfl ?_
            refine ws_ialdn 118 rfl rfl rfl (by omega) (by omega) (hL.at hxo) ?_
            refine ws_aload_0 119 rfl rfl ?_
            refine ws_getfr 122 rfl rfl rfl rfl rfl ?_
            refine ws_iload_2 123 rfl rfl ?_
            refine ws_ialdn 124 rfl rfl rfl (by omega) (by omega) (hL.at hv) ?_
            refine ws_icmp_len 132 127 rfl rfl rfl (by omega) (by omega) (fun c2 => ?_) (fun c2 => ?_)
            · refine ws_iload_2 133 rfl rfl ?_
              refine ws_istore_2 134 rfl rfl rfl rfl ?_
              refine ws_iinc_4 137 rfl rfl (ki_1 _) rfl rfl ?_
              refine ws_goto 74 rfl rfl ?_
              exact ih2 (t + 1) v _ (by omega) hv (by rw [eT2, if_neg (by omega)])
            · refine ws_iload_5 129 rfl rfl ?_
              refine ws_goto 133 rfl rfl ?_
              refine ws_istore_2 134 rfl rfl rfl rfl ?_
              refine ws_iinc_4 137 rfl rfl (ki_1 _) rfl rfl ?_
              refine ws_goto 74 rfl rfl ?_
              exact ih2 (t + 1) x _ (by omega) hxo (by rw [eT2, if_pos (by omega)])
      refine ws_iload_3 67 rfl rfl ?_
      refine ws_iconst 68 rfl rfl kc_i5 ?_
      refine ws_icmp_gen 146 71 rfl rfl rfl (by omega) (by omega) (fun h9 => absurd h9 (by omega)) (fun h9 => ?_)
      refine ws_iconst 72 rfl rfl kc_i0 ?_
      refine ws_istore_4 74 rfl rfl rfl rfl ?_
      exact inner 5 0 v _ rfl hv (by rw [show pu1 (dg c) (sC c) p 0 = [] from rfl, List.append_nil]; exact ev)
  have sp : ∀ (m p v : Nat) (z4 z5 : Option Value), p + m = 5 → okC v → v = ((sw2 (dg c) p).foldl (ost (wkc A F) c) none).getD c → xW E 3 126 4 [some (.ref 42), some (.int (nI c)), some (.int (nI v)), some (.int (nI p)), z4, z5] [] (xS, I, L) 0 0 (rV (.int (nI ((exq (wkc A F) c).getD c))) (xS, I, L)) := by
    intro m
    induction m with
    | zero =>
      intro p v z4 z5 hp hv ev
      obtain rfl : p = 5 := by omega
      refine ws_iload_3 5 rfl rfl ?_
      refine ws_iconst 6 rfl rfl kc_i5 ?_
      refine ws_icmp_gen 64 9 rfl rfl rfl (by omega) (by omega) (fun h9 => ?_) (fun h9 => absurd h9 (by omega))
      refine ws_iconst 65 rfl rfl kc_i0 ?_
      refine ws_istore_3 66 rfl rfl rfl rfl ?_
      exact pt 5 0 v _ _ rfl hv (by rw [show pu2 (dg c) (sC c) 0 = [] from rfl, List.append_nil]; exact ev)
    | succ m ih =>
      intro p v z4 z5 hp hv ev
      have inner : ∀ (m n v : Nat) (z5 : Option Value), n + m = 4 - p → okC v → v = ((sw2 (dg c) p ++ sw1 (dg c) p n).foldl (ost (wkc A F) c) none).getD c → xW E 3 126 14 [some (.ref 42), some (.int (nI c)), some (.int (nI v)), some (.int (nI p)), some (.int (nI (p + 1 + n))), z5] [] (xS, I, L) 0 0 (rV (.int (nI ((exq (wkc A F) c).getD c))) (xS, I, L)) := by
        intro m
        induction m with
        | zero =>
          intro n v z5 hn hv ev
          have e : n = 4 - p := by omega
          rw [e] at ev
          refine ws_iload_4 16 rfl rfl ?_
          refine ws_iconst 17 rfl rfl kc_i5 ?_
          refine ws_icmp_gen 58 20 rfl rfl rfl (by omega) (by omega) (fun h9 => ?_) (fun h9 => absurd h9 (by omega))
          refine ws_iinc_3 61 rfl rfl (ki_1 _) rfl rfl ?_
          refine ws_goto 4 rfl rfl ?_
          exact ih (p + 1) v _ _ (by omega) hv ev
        | succ m ih2 =>
          intro n v z5 hn hv ev
          have hv7 := hv.1
          obtain ⟨x, hx⟩ : ∃ x, x = cd (sw (dg c) p (p + 1 + n)) := ⟨_, rfl⟩
          have hxo : okC x := by rw [hx]; exact okC_sw hc (by omega) (by omega)
          have hx7 := hxo.1
          have ch := p_change c p (p + 1 + n) hc.1 (by omega) (by omega)
          rw [← hx] at ch
          have eT : ((sw2 (dg c) p ++ sw1 (dg c) p (n + 1)).foldl (ost (wkc A F) c) none).getD c = if wkc A F v < wkc A F x then x else v := by
            show ((sw2 (dg c) p ++ (sw1 (dg c) p n ++ [cd (sw (dg c) p (p + 1 + n))])).foldl (ost (wkc A F) c) none).getD c = _
            rw [← List.append_assoc, List.foldl_append, ev, hx]
            exact ostD _ _ _ _
          have hwx := le40 x
          have hwv := le40 v
          refine ws_iload_4 16 rfl rfl ?_
          refine ws_iconst 17 rfl rfl kc_i5 ?_
          refine ws_icmp_gen 58 20 rfl rfl rfl (by omega) (by omega) (fun h9 => absurd h9 (by omega)) (fun h9 => ?_)
          refine ws_iload_1 21 rfl rfl ?_
          refine ws_iload_3 22 rfl rfl ?_
          refine ws_iload_4 24 rfl rfl ?_
          refine ws_invS3p 27 rfl rfl rfl (ch) rfl rfl rfl ?_
          refine ws_istore_5 29 rfl rfl rfl rfl ?_
          refine ws_aload_0 30 rfl rfl ?_
          refine ws_getfr 33 rfl rfl rfl rfl rfl ?_
          refine ws_iload_5 35 rfl rfl ?_
          refine ws_ialdn 36 rfl rfl rfl (by omega) (by omega) (hL.at hxo) ?_
          refine ws_aload_0 37 rfl rfl ?_
          refine ws_getfr 40 rfl rfl rfl rfl rfl ?_
          refine ws_iload_2 41 rfl rfl ?_
          refine ws_ialdn 42 rfl rfl rfl (by omega) (by omega) (hL.at hv) ?_
          refine ws_icmp_len 50 45 rfl rfl rfl (by omega) (by omega) (fun c2 => ?_) (fun c2 => ?_)
          · refine ws_iload_2 51 rfl rfl ?_
            refine ws_istore_2 52 rfl rfl rfl rfl ?_
            refine ws_iinc_4 55 rfl rfl (ki_1 _) rfl rfl ?_
            refine ws_goto 14 rfl rfl ?_
            exact ih2 (n + 1) v _ (by omega) hv (by rw [eT, if_neg (by omega)])
          · refine ws_iload_5 47 rfl rfl ?_
            refine ws_goto 51 rfl rfl ?_
            refine ws_istore_2 52 rfl rfl rfl rfl ?_
            refine ws_iinc_4 55 rfl rfl (ki_1 _) rfl rfl ?_
            refine ws_goto 14 rfl rfl ?_
            exact ih2 (n + 1) x _ (by omega) hxo (by rw [eT, if_pos (by omega)])
      refine ws_iload_3 5 rfl rfl ?_
      refine ws_iconst 6 rfl rfl kc_i5 ?_
      refine ws_icmp_gen 64 9 rfl rfl rfl (by omega) (by omega) (fun h9 => absurd h9 (by omega)) (fun h9 => ?_)
      refine ws_iload_3 10 rfl rfl ?_
      refine ws_iconst 11 rfl rfl kc_i1 ?_
      refine ws_iadd 12 rfl rfl (nI_add _ _) ?_
      refine ws_istore_4 14 rfl rfl rfl rfl ?_
      exact inner (4 - p) 0 v _ (by omega) hv (by rw [show sw1 (dg c) p 0 = [] from rfl, List.append_nil]; exact ev)
  refine ws_iload_1 1 rfl rfl ?_
  refine ws_istore_2 2 rfl rfl rfl rfl ?_
  refine ws_iconst 3 rfl rfl kc_i0 ?_
  refine ws_istore_3 4 rfl rfl rfl rfl ?_
  exact sp 5 0 c _ _ rfl hc rfl
theorem lNle {a b : Nat} (ha : a < 9223372036854775808) (hb : b < 9223372036854775808) : lN a ≤ lN b ↔ a ≤ b := by
  rw [Int64.le_iff_toInt_le, show (lN a).toInt = (a : Int) from lg_ofNat_toInt (by omega), show (lN b).toInt = (b : Int) from lg_ofNat_toInt (by omega)]
  omega
/-- how many hours more: the first week that falls under -/
def stl (A : Nat → Nat → Nat) (F b : Nat → Nat) (w x : Nat) : Nat → Nat → Option Nat
  | 0, _ => none
  | m + 1, i => if 100 * wkF A F b i < w * x then some i else stl A F b w x m (i + 1)
/-- the reference, its laws laid, looking at a window -/
def MW (A : Nat → Nat → Nat) (b : Nat → Nat) (I : Nat → Nat → Int32) : Prop := MS A I ∧ (∀ j, j < 12 → I 58 j = nI (lwv (fun i => A 4 i) (A 5 0) (j / 2) (j % 2))) ∧ (∀ j, j < 12 → I 59 j = nI (lwv (fun i => A 4 (15 + i)) (A 5 1) (j / 2) (j % 2))) ∧ ∀ p, p < 5 → I 53 p = nI (b p)
theorem MW.keep {I' : Nat → Nat → Int32} (h : MW A b I) (hf : ∀ a, a ≠ 54 → a ≠ 56 → a ≠ 57 → I' a = I a) : MW A b I' := by
  obtain ⟨h1, h2, h3, h4⟩ := h
  exact ⟨h1.keep (fun a a1 a2 => hf a (by omega) (by omega) (by omega)) (by rw [hf 42 (by decide) (by decide) (by decide)]), fun j hj => by rw [hf 58 (by decide) (by decide) (by decide)]; exact h2 j hj, fun j hj => by rw [hf 59 (by decide) (by decide) (by decide)]; exact h3 j hj, fun j hj => by rw [hf 53 (by decide) (by decide) (by decide)]; exact h4 j hj⟩
theorem m_wk (more : Nat) (hm : more ≤ 9) (hok : okA A F) (hF : okF A F) (hb : ∀ p, p < 5 → b p ≤ 5) (h : MW A b I) : xC E 5 114 [.ref 42, .int (nI more)] (xS, I, L) (fun r t => r = some (.int (nI (wkF A F b more))) ∧ ∃ I' L', t = (xS, I', L') ∧ (∀ a, a ≠ 54 → a ≠ 56 → a ≠ 57 → I' a = I a) ∧ (∀ a, a ≠ 42 → L' a = L a)) := by
  obtain ⟨⟨m1, m2, m3, m4, -⟩, h2, h3, h4⟩ := h
  obtain ⟨o1, o2, o3, o4, o5, o6⟩ := hok
  obtain ⟨f1, f2, f3, f4⟩ := hF
  exact m_weekOf more hm m1 m2 m3 m4 h2 h3 f3 f4 o5 o6 o1 o2 o3 o4 hb h4
theorem wkF_bd (hok : okA A F) (hb : ∀ p, p < 5 → b p ≤ 5) (more : Nat) : wkF A F b more ≤ 395604000 := wkF_le hok.2.2.2.2.1 hb hok.2.2.2.2.2 hok.2.2.1 hok.2.2.2.1
theorem m_staleBy (w x : Nat) (hw : w ≤ 100) (hx : x ≤ 395604000) (hok : okA A F) (hF : okF A F) (hb : ∀ p, p < 5 → b p ≤ 5) (h : MW A b I) : xC E 6 129 [.ref 42, .int (nI w), .long (lN x)] (xS, I, L) (fun r t => r = some (.int (fo (stl A F b w x 9 1))) ∧ ∃ I' L', t = (xS, I', L') ∧ (∀ a, a ≠ 54 → a ≠ 56 → a ≠ 57 → I' a = I a) ∧ (∀ a, a ≠ 42 → L' a = L a)) := by
  refine xC.mk [some (.ref 42), some (.int (nI w)), some (.long (lN x)), none, none] rfl ?_
  have hwx : w * x ≤ 39560400000 := by
    calc w * x ≤ 100 * 395604000 := Nat.mul_le_mul hw hx
      _ = 39560400000 := by decide
  have loop : ∀ (m i : Nat) (I' : Nat → Nat → Int32) (L' : Nat → Nat → Int64), i + m = 10 → (∀ a, a ≠ 54 → a ≠ 56 → a ≠ 57 → I' a = I a) → (∀ a, a ≠ 42 → L' a = L a) → stl A F b w x 9 1 = stl A F b w x m i → xW E 6 129 3 [some (.ref 42), some (.int (nI w)), some (.long (lN x)), none, some (.int (nI i))] [] (xS, I', L') 0 0 (fun r t => r = some (.int (fo (stl A F b w x 9 1))) ∧ ∃ I' L', t = (xS, I', L') ∧ (∀ a, a ≠ 54 → a ≠ 56 → a ≠ 57 → I' a = I a) ∧ (∀ a, a ≠ 42 → L' a = L a)) := by
    intro m
    induction m with
    | zero =>
      intro i I' L' hi hf hl he
      rw [he]
      refine ws_iload_4 5 rfl rfl ?_
      refine ws_bipush 7 rfl rfl kc_b10 ?_
      refine ws_icmp_gen 38 10 rfl rfl rfl (by omega) (by omega) (fun h9 => ?_) (fun h9 => absurd h9 (by omega))
      refine ws_bipush 40 rfl rfl kc_bm6 ?_
      refine ws_iret rfl rfl rfl (Nat.le_of_ble_eq_true rfl) ?_
      exact ⟨rfl, I', L', rfl, hf, hl⟩
    | succ m ih =>
      intro i I' L' hi hf hl he
      have hwk := wkF_bd hok hb i
      have es : stl A F b w x (m + 1) i = if 100 * wkF A F b i < w * x then some i else stl A F b w x m (i + 1) := rfl
      refine ws_iload_4 5 rfl rfl ?_
      refine ws_bipush 7 rfl rfl kc_b10 ?_
      refine ws_icmp_gen 38 10 rfl rfl rfl (by omega) (by omega) (fun h9 => absurd h9 (by omega)) (fun h9 => ?_)
      refine ws_ldc2 13 rfl rfl rfl (show (100 : Int64) = lN 100 from rfl) ?_
      refine ws_aload_0 14 rfl rfl ?_
      refine ws_iload_4 16 rfl rfl ?_
      refine ws_invV1 19 rfl rfl rfl rfl (m_wk i (by omega) hok hF hb (h.keep hf)) rfl rfl rfl ?_
      rintro _ _ ⟨rfl, I2, L2, rfl, hf2, hl2⟩
      refine ws_i2l 20 rfl rfl (nI_l (by omega)) ?_
      refine ws_lmul 21 rfl rfl (lN_mul _ _) ?_
      refine ws_iload_1 22 rfl rfl ?_
      refine ws_i2l 23 rfl rfl (nI_l (by omega)) ?_
      refine ws_lload_2 24 rfl rfl ?_
      refine ws_lmul 25 rfl rfl (lN_mul _ _) ?_
      refine ws_lcmp 26 rfl rfl ?_
      refine ws_lc_ge 32 29 rfl rfl rfl (fun c1 => ?_) (fun c1 => ?_)
      · rw [lNle (by omega) (by omega)] at c1
        rw [es, if_neg (by omega)] at he
        refine ws_iinc_4 35 rfl rfl (ki_1 _) rfl rfl ?_
        refine ws_goto 3 rfl rfl ?_
        exact ih (i + 1) I2 L2 (by omega) (fun a a1 a2 a3 => by rw [hf2 a a1 a2 a3]; exact hf a a1 a2 a3) (fun a a1 => by rw [hl2 a a1]; exact hl a a1) he
      · rw [lNle (by omega) (by omega)] at c1
        rw [es, if_pos (by omega)] at he
        rw [he]
        refine ws_iload_4 31 rfl rfl ?_
        refine ws_iret rfl rfl rfl (Nat.le_of_ble_eq_true rfl) ?_
        exact ⟨rfl, I2, L2, rfl, (fun a a1 a2 a3 => by rw [hf2 a a1 a2 a3]; exact hf a a1 a2 a3), (fun a a1 => by rw [hl2 a a1]; exact hl a a1)⟩
  refine ws_iconst 1 rfl rfl kc_i1 ?_
  refine ws_istore_4 3 rfl rfl rfl rfl ?_
  exact loop 9 1 I L rfl (fun _ _ _ _ => rfl) (fun _ _ => rfl) rfl
end MBEST
