/-! ===== the reference: parts, deeds, weeks ===== -/
section MWEEK
variable {E : xEx} {I : Nat → Nat → Int32} {L : Nat → Nat → Int64} {A : Nat → Nat → Nat} {b F G0 G1 : Nat → Nat}
theorem m_layParts (k more : Nat) (hk : k < 4) (hm : more ≤ 9) (hTh : ∀ j, j < 15 → I 43 j = nI (A 0 j)) (hLi : ∀ j, j < 5 → I 44 j = nI (A 1 j)) (hKi : ∀ j, j < 24 → I 47 j = nI (A 3 j)) (hok : okK A) (h1 : ∀ j, j < 5 → A 0 j ≤ 9) (h2 : ∀ j, j < 5 → A 1 j ≤ 9) (h3 : ∀ j, j < 15 → A 0 j ≤ 99) (hb : ∀ p, p < 5 → b p ≤ 5) (hat : ∀ p, p < 5 → I 53 p = nI (b p)) :
    xC E 3 105 [.ref 42, .int (nI k), .int (nI more)] (xS, I, L) (fun r t => r = none ∧ ∃ I', t = (xS, I', L) ∧ (∀ a, a ≠ 54 → a ≠ 56 → a ≠ 57 → I' a = I a) ∧ ∀ u, u < 32 → I' 56 u = nI (pt A b k more (A 3 (k * 6 + 1)) u)) := by
  refine xC.mk [some (.ref 42), some (.int (nI k)), some (.int (nI more)), none, none] rfl ?_
  obtain ⟨k0, k1, k2, k3, k4, k5⟩ := hok k hk
  have hkd : ∀ (I' : Nat → Nat → Int32), I' 47 = I 47 → ∀ w, w < 6 → I' 47 (6 * k + w) = nI (A 3 (k * 6 + w)) := fun I' h w hw => by rw [h, Nat.mul_comm 6 k]; exact hKi _ (by omega)
  have hkd0 : ∀ (I' : Nat → Nat → Int32), I' 47 = I 47 → I' 47 (6 * k) = nI (A 3 (k * 6 + 0)) := fun I' h => hkd I' h 0 (by omega)
  obtain ⟨nb, hnb⟩ : ∃ nb, nb = A 3 (k * 6 + 3) + more := ⟨_, rfl⟩
  have outer : ∀ (m g : Nat) (I' : Nat → Nat → Int32) (z4 : Option Value), g + m = A 3 (k * 6 + 1) → (∀ a, a ≠ 54 → a ≠ 56 → a ≠ 57 → I' a = I a) → (∀ p, p < 5 → I' 54 p = nI (dw A b p nb)) → (∀ u, u < 32 → I' 56 u = nI (pt A b k more g u)) → xW E 3 105 68 [some (.ref 42), some (.int (nI k)), some (.int (nI more)), some (.int (nI g)), z4] [] (xS, I', L) 0 0 (fun r t => r = none ∧ ∃ I', t = (xS, I', L) ∧ (∀ a, a ≠ 54 → a ≠ 56 → a ≠ 57 → I' a = I a) ∧ ∀ u, u < 32 → I' 56 u = nI (pt A b k more (A 3 (k * 6 + 1)) u)) := by
    intro m
    induction m with
    | zero =>
      intro g I' z4 hg hf h54 h56
      obtain rfl : g = A 3 (k * 6 + 1) := by omega
      have h47 := hf 47 (by decide) (by decide) (by decide)
      refine ws_iload_3 69 rfl rfl ?_
      refine ws_aload_0 70 rfl rfl ?_
      refine ws_getfr 73 rfl rfl rfl rfl rfl ?_
      refine ws_bipush 75 rfl rfl kc_b6 ?_
      refine ws_iload_1 76 rfl rfl ?_
      refine ws_imul 77 rfl rfl (pk_mul _ _) ?_
      refine ws_iconst 78 rfl rfl kc_i1 ?_
      refine ws_iadd 79 rfl rfl (nI_add _ _) ?_
      refine ws_ialdn 80 rfl rfl rfl (by omega) (by omega) (hkd I' h47 1 (by omega)) ?_
      refine ws_icmp_gen 170 83 rfl rfl rfl (by omega) (by omega) (fun h9 => ?_) (fun h9 => absurd h9 (by omega))
      refine ws_vret rfl rfl rfl (Nat.le_of_ble_eq_true rfl) ?_
      exact ⟨rfl, I', rfl, hf, h56⟩
    | succ m ih =>
      intro g I' z4 hg hf h54 h56
      have h47 := hf 47 (by decide) (by decide) (by decide)
      have g1 : 1 ≤ gnn A k g := by unfold gnn; omega
      have g2 : gfr A k g + gnn A k g ≤ 5 := by unfold gfr gnn; split <;> omega
      have hgl : ∀ (fr to : Nat), fr = gfr A k g → min 4 to + 1 = gfr A k g + gnn A k g → to < 100 → xC E 2 107 [.ref 42, .int (nI fr), .int (nI to)] (xS, I', L) (fun r t => r = none ∧ ∃ I2, t = (xS, I2, L) ∧ (∀ a, a ≠ 56 → a ≠ 57 → I2 a = I' a) ∧ ∀ u, u < 32 → I2 56 u = nI (gla b (fun p => dw A b p nb) (gfr A k g) (gnn A k g) (pt A b k more g) u)) := by
        intro fr to hfr hto hto2
        rw [hfr]
        exact m_glance (gfr A k g) (gnn A k g) to g1 g2 hto hto2 hb (fun p hp => dw_le h1 h2 hp (hb p hp)) (fun p _ h => dw_pos h) (fun u hu => pt_le hb (by omega) hu) (fun p hp => by rw [hf 53 (by decide) (by decide) (by decide)]; exact hat p hp) h54 h56
      have step : ∀ (I2 : Nat → Nat → Int32) (z4 : Option Value), (∀ a, a ≠ 56 → a ≠ 57 → I2 a = I' a) → (∀ u, u < 32 → I2 56 u = nI (gla b (fun p => dw A b p nb) (gfr A k g) (gnn A k g) (pt A b k more g) u)) → xW E 3 105 164 [some (.ref 42), some (.int (nI k)), some (.int (nI more)), some (.int (nI g)), z4] [] (xS, I2, L) 0 0 (fun r t => r = none ∧ ∃ I', t = (xS, I', L) ∧ (∀ a, a ≠ 54 → a ≠ 56 → a ≠ 57 → I' a = I a) ∧ ∀ u, u < 32 → I' 56 u = nI (pt A b k more (A 3 (k * 6 + 1)) u)) := by
        intro I2 z4 hf2 h56'
        refine ws_iinc_3 167 rfl rfl (ki_1 _) rfl rfl ?_
        refine ws_goto 68 rfl rfl ?_
        exact ih (g + 1) I2 _ (by omega) (fun a a1 a2 a3 => by rw [hf2 a a2 a3]; exact hf a a1 a2 a3) (fun p hp => by rw [hf2 54 (by decide) (by decide)]; exact h54 p hp) (fun u hu => by rw [h56' u hu, hnb]; rfl)
      rcases Nat.eq_zero_or_pos (A 3 (k * 6 + 0)) with hs | hs
      · have e1 : gfr A k g = g := by unfold gfr; rw [if_pos hs]
        have e0 := hkd0 I' h47
        rw [hs] at e0
        refine ws_iload_3 69 rfl rfl ?_
        refine ws_aload_0 70 rfl rfl ?_
        refine ws_getfr 73 rfl rfl rfl rfl rfl ?_
        refine ws_bipush 75 rfl rfl kc_b6 ?_
        refine ws_iload_1 76 rfl rfl ?_
        refine ws_imul 77 rfl rfl (pk_mul _ _) ?_
        refine ws_iconst 78 rfl rfl kc_i1 ?_
        refine ws_iadd 79 rfl rfl (nI_add _ _) ?_
        refine ws_ialdn 80 rfl rfl rfl (by omega) (by omega) (hkd I' h47 1 (by omega)) ?_
        refine ws_icmp_gen 170 83 rfl rfl rfl (by omega) (by omega) (fun h9 => absurd h9 (by omega)) (fun h9 => ?_)
        refine ws_aload_0 84 rfl rfl ?_
        refine ws_getfr 87 rfl rfl rfl rfl rfl ?_
        refine ws_bipush 89 rfl rfl kc_b6 ?_
        refine ws_iload_1 90 rfl rfl ?_
        refine ws_imul 91 rfl rfl (pk_mul _ _) ?_
        refine ws_ialdn 92 rfl rfl rfl (by omega) (by omega) e0 ?_
        refine ws_if_nen 99 95 rfl rfl rfl (by omega) (fun h9 => absurd h9 (by omega)) (fun h9 => ?_)
        refine ws_iload_3 96 rfl rfl ?_
        refine ws_goto 114 rfl rfl ?_
        refine ws_istore_4 116 rfl rfl rfl rfl ?_
        refine ws_aload_0 117 rfl rfl ?_
        refine ws_iload_4 119 rfl rfl ?_
        refine ws_if_gen 126 122 rfl rfl rfl (by omega) (fun h9 => ?_) (fun h9 => absurd h9 (by omega))
        refine ws_iload_4 128 rfl rfl ?_
        refine ws_aload_0 129 rfl rfl ?_
        refine ws_getfr 132 rfl rfl rfl rfl rfl ?_
        refine ws_bipush 134 rfl rfl kc_b6 ?_
        refine ws_iload_1 135 rfl rfl ?_
        refine ws_imul 136 rfl rfl (pk_mul _ _) ?_
        refine ws_ialdn 137 rfl rfl rfl (by omega) (by omega) e0 ?_
        refine ws_if_nen 158 140 rfl rfl rfl (by omega) (fun h9 => absurd h9 (by omega)) (fun h9 => ?_)
        refine ws_iload_3 141 rfl rfl ?_
        refine ws_aload_0 142 rfl rfl ?_
        refine ws_getfr 145 rfl rfl rfl rfl rfl ?_
        refine ws_bipush 147 rfl rfl kc_b6 ?_
        refine ws_iload_1 148 rfl rfl ?_
        refine ws_imul 149 rfl rfl (pk_mul _ _) ?_
        refine ws_iconst 150 rfl rfl kc_i2 ?_
        refine ws_iadd 151 rfl rfl (nI_add _ _) ?_
        refine ws_ialdn 152 rfl rfl rfl (by omega) (by omega) (hkd I' h47 2 (by omega)) ?_
        refine ws_iadd 153 rfl rfl (nI_add _ _) ?_
        refine ws_iconst 154 rfl rfl kc_i1 ?_
        refine ws_isub 155 rfl rfl (pk_sub (by omega)) ?_
        refine ws_goto 161 rfl rfl ?_
        refine ws_invV2 164 rfl rfl rfl rfl (hgl _ _ e1.symm (by rw [e1]; unfold gnn; omega) (by omega)) rfl rfl rfl ?_
        rintro _ _ ⟨rfl, I2, rfl, hf2, h56'⟩
        exact step I2 _ hf2 h56'
      · have hs1 : A 3 (k * 6 + 0) = 1 := by omega
        have e0 := hkd0 I' h47
        rw [hs1] at e0
        have hr := hkd I' h47 2 (by omega)
        rcases Nat.lt_or_ge (5 - g) (A 3 (k * 6 + 2)) with c1 | c1
        · have e1 : gfr A k g = 0 := by unfold gfr; rw [if_neg (by omega)]; omega
          have hneg := pk_sneg (a := 5 - g) (b := A 3 (k * 6 + 2)) (by omega) c1
          refine ws_iload_3 69 rfl rfl ?_
          refine ws_aload_0 70 rfl rfl ?_
          refine ws_getfr 73 rfl rfl rfl rfl rfl ?_
          refine ws_bipush 75 rfl rfl kc_b6 ?_
          refine ws_iload_1 76 rfl rfl ?_
          refine ws_imul 77 rfl rfl (pk_mul _ _) ?_
          refine ws_iconst 78 rfl rfl kc_i1 ?_
          refine ws_iadd 79 rfl rfl (nI_add _ _) ?_
          refine ws_ialdn 80 rfl rfl rfl (by omega) (by omega) (hkd I' h47 1 (by omega)) ?_
          refine ws_icmp_gen 170 83 rfl rfl rfl (by omega) (by omega) (fun h9 => absurd h9 (by omega)) (fun h9 => ?_)
          refine ws_aload_0 84 rfl rfl ?_
          refine ws_getfr 87 rfl rfl rfl rfl rfl ?_
          refine ws_bipush 89 rfl rfl kc_b6 ?_
          refine ws_iload_1 90 rfl rfl ?_
          refine ws_imul 91 rfl rfl (pk_mul _ _) ?_
          refine ws_ialdn 92 rfl rfl rfl (by omega) (by omega) e0 ?_
          refine ws_if_nen 99 95 rfl rfl rfl (by omega) (fun h9 => ?_) (fun h9 => absurd h9 (by omega))
          refine ws_iconst 100 rfl rfl kc_i5 ?_
          refine ws_iload_3 101 rfl rfl ?_
          refine ws_isub 102 rfl rfl (pk_sub (by omega)) ?_
          refine ws_aload_0 103 rfl rfl ?_
          refine ws_getfr 106 rfl rfl rfl rfl rfl ?_
          refine ws_bipush 108 rfl rfl kc_b6 ?_
          refine ws_iload_1 109 rfl rfl ?_
          refine ws_imul 110 rfl rfl (pk_mul _ _) ?_
          refine ws_iconst 111 rfl rfl kc_i2 ?_
          refine ws_iadd 112 rfl rfl (nI_add _ _) ?_
          refine ws_ialdn 113 rfl rfl rfl (by omega) (by omega) hr ?_
          refine ws_isub 114 rfl rfl rfl ?_
          refine ws_istore_4 116 rfl rfl rfl rfl ?_
          refine ws_aload_0 117 rfl rfl ?_
          refine ws_iload_4 119 rfl rfl ?_
          refine ws_if_ge 126 122 rfl rfl rfl (fun h9 => absurd h9 (by rw [Int32.not_le]; exact hneg)) (fun h9 => ?_)
          refine ws_iconst 123 rfl rfl kc_i0 ?_
          refine ws_goto 128 rfl rfl ?_
          refine ws_aload_0 129 rfl rfl ?_
          refine ws_getfr 132 rfl rfl rfl rfl rfl ?_
          refine ws_bipush 134 rfl rfl kc_b6 ?_
          refine ws_iload_1 135 rfl rfl ?_
          refine ws_imul 136 rfl rfl (pk_mul _ _) ?_
          refine ws_ialdn 137 rfl rfl rfl (by omega) (by omega) e0 ?_
          refine ws_if_nen 158 140 rfl rfl rfl (by omega) (fun h9 => ?_) (fun h9 => absurd h9 (by omega))
          refine ws_iconst 159 rfl rfl kc_i4 ?_
          refine ws_iload_3 160 rfl rfl ?_
          refine ws_isub 161 rfl rfl (pk_sub (by omega)) ?_
          refine ws_invV2 164 rfl rfl rfl rfl (hgl 0 (4 - g) e1.symm (by rw [e1]; unfold gnn; omega) (by omega)) rfl rfl rfl ?_
          rintro _ _ ⟨rfl, I2, rfl, hf2, h56'⟩
          exact step I2 _ hf2 h56'
        · have e1 : gfr A k g = 5 - g - A 3 (k * 6 + 2) := by unfold gfr; rw [if_neg (by omega)]; omega
          refine ws_iload_3 69 rfl rfl ?_
          refine ws_aload_0 70 rfl rfl ?_
          refine ws_getfr 73 rfl rfl rfl rfl rfl ?_
          refine ws_bipush 75 rfl rfl kc_b6 ?_
          refine ws_iload_1 76 rfl rfl ?_
          refine ws_imul 77 rfl rfl (pk_mul _ _) ?_
          refine ws_iconst 78 rfl rfl kc_i1 ?_
          refine ws_iadd 79 rfl rfl (nI_add _ _) ?_
          refine ws_ialdn 80 rfl rfl rfl (by omega) (by omega) (hkd I' h47 1 (by omega)) ?_
          refine ws_icmp_gen 170 83 rfl rfl rfl (by omega) (by omega) (fun h9 => absurd h9 (by omega)) (fun h9 => ?_)
          refine ws_aload_0 84 rfl rfl ?_
          refine ws_getfr 87 rfl rfl rfl rfl rfl ?_
          refine ws_bipush 89 rfl rfl kc_b6 ?_
          refine ws_iload_1 90 rfl rfl ?_
          refine ws_imul 91 rfl rfl (pk_mul _ _) ?_
          refine ws_ialdn 92 rfl rfl rfl (by omega) (by omega) e0 ?_
          refine ws_if_nen 99 95 rfl rfl rfl (by omega) (fun h9 => ?_) (fun h9 => absurd h9 (by omega))
          refine ws_iconst 100 rfl rfl kc_i5 ?_
          refine ws_iload_3 101 rfl rfl ?_
          refine ws_isub 102 rfl rfl (pk_sub (by omega)) ?_
          refine ws_aload_0 103 rfl rfl ?_
          refine ws_getfr 106 rfl rfl rfl rfl rfl ?_
          refine ws_bipush 108 rfl rfl kc_b6 ?_
          refine ws_iload_1 109 rfl rfl ?_
          refine ws_imul 110 rfl rfl (pk_mul _ _) ?_
          refine ws_iconst 111 rfl rfl kc_i2 ?_
          refine ws_iadd 112 rfl rfl (nI_add _ _) ?_
          refine ws_ialdn 113 rfl rfl rfl (by omega) (by omega) hr ?_
          refine ws_isub 114 rfl rfl (pk_sub (by omega)) ?_
          refine ws_istore_4 116 rfl rfl rfl rfl ?_
          refine ws_aload_0 117 rfl rfl ?_
          refine ws_iload_4 119 rfl rfl ?_
          refine ws_if_gen 126 122 rfl rfl rfl (by omega) (fun h9 => ?_) (fun h9 => absurd h9 (by omega))
          refine ws_iload_4 128 rfl rfl ?_
          refine ws_aload_0 129 rfl rfl ?_
          refine ws_getfr 132 rfl rfl rfl rfl rfl ?_
          refine ws_bipush 134 rfl rfl kc_b6 ?_
          refine ws_iload_1 135 rfl rfl ?_
          refine ws_imul 136 rfl rfl (pk_mul _ _) ?_
          refine ws_ialdn 137 rfl rfl rfl (by omega) (by omega) e0 ?_
          refine ws_if_nen 158 140 rfl rfl rfl (by omega) (fun h9 => ?_) (fun h9 => absurd h9 (by omega))
          refine ws_iconst 159 rfl rfl kc_i4 ?_
          refine ws_iload_3 160 rfl rfl ?_
          refine ws_isub 161 rfl rfl (pk_sub (by omega)) ?_
          refine ws_invV2 164 rfl rfl rfl rfl (hgl _ (4 - g) e1.symm (by rw [e1]; unfold gnn; omega) (by omega)) rfl rfl rfl ?_
          rintro _ _ ⟨rfl, I2, rfl, hf2, h56'⟩
          exact step I2 _ hf2 h56'
  have zero : ∀ (m p : Nat) (I' : Nat → Nat → Int32), p + m = 32 → (∀ a, a ≠ 54 → a ≠ 56 → a ≠ 57 → I' a = I a) → (∀ p, p < 5 → I' 54 p = nI (dw A b p nb)) → (∀ u, u < p → I' 56 u = nI 0) → xW E 3 105 39 [some (.ref 42), some (.int (nI k)), some (.int (nI more)), some (.int (nI p)), none] [] (xS, I', L) 0 0 (fun r t => r = none ∧ ∃ I', t = (xS, I', L) ∧ (∀ a, a ≠ 54 → a ≠ 56 → a ≠ 57 → I' a = I a) ∧ ∀ u, u < 32 → I' 56 u = nI (pt A b k more (A 3 (k * 6 + 1)) u)) := by
    intro m
    induction m with
    | zero =>
      intro p I' hp hf h54 h56
      obtain rfl : p = 32 := by omega
      refine ws_iload_3 40 rfl rfl ?_
      refine ws_bipush 42 rfl rfl kc_b32 ?_
      refine ws_icmp_gen 58 45 rfl rfl rfl (by omega) (by omega) (fun h9 => ?_) (fun h9 => absurd h9 (by omega))
      refine ws_aload_0 59 rfl rfl ?_
      refine ws_getfr 62 rfl rfl rfl rfl rfl ?_
      refine ws_iconst 63 rfl rfl kc_i0 ?_
      refine ws_ldc 65 rfl rfl rfl (show (1000000 : Int32) = nI 1000000 by decide) ?_
      refine ws_iastn 66 rfl rfl rfl (by omega) (by omega) ?_
      refine ws_iconst 67 rfl rfl kc_i0 ?_
      refine ws_istore_3 68 rfl rfl rfl rfl ?_
      refine outer (A 3 (k * 6 + 1)) 0 _ _ (by omega) (fun a a1 a2 a3 => by rw [wI_ne a2]; exact hf a a1 a2 a3) h54 (fun u hu => ?_)
      show upd (I' 56) 0 _ u = nI (if u = 0 then 1000000 else 0)
      by_cases e : u = 0
      · rw [if_pos e, e, pk_us]
      · rw [if_neg e, pk_un e]; exact h56 u hu
    | succ m ih =>
      intro p I' hp hf h54 h56
      refine ws_iload_3 40 rfl rfl ?_
      refine ws_bipush 42 rfl rfl kc_b32 ?_
      refine ws_icmp_gen 58 45 rfl rfl rfl (by omega) (by omega) (fun h9 => absurd h9 (by omega)) (fun h9 => ?_)
      refine ws_aload_0 46 rfl rfl ?_
      refine ws_getfr 49 rfl rfl rfl rfl rfl ?_
      refine ws_iload_3 50 rfl rfl ?_
      refine ws_iconst 51 rfl rfl kc_i0 ?_
      refine ws_iastn 52 rfl rfl rfl (by omega) (by omega) ?_
      refine ws_iinc_3 55 rfl rfl (ki_1 _) rfl rfl ?_
      refine ws_goto 39 rfl rfl ?_
      exact ih (p + 1) _ (by omega) (fun a a1 a2 a3 => by rw [wI_ne a2]; exact hf a a1 a2 a3) h54 (fl (g := fun _ => nI 0) h56 rfl)
  have draws : ∀ (m p : Nat) (I' : Nat → Nat → Int32), p + m = 5 → (∀ a, a ≠ 54 → a ≠ 56 → a ≠ 57 → I' a = I a) → (∀ q, q < p → I' 54 q = nI (dw A b q nb)) → xW E 3 105 2 [some (.ref 42), some (.int (nI k)), some (.int (nI more)), some (.int (nI p)), none] [] (xS, I', L) 0 0 (fun r t => r = none ∧ ∃ I', t = (xS, I', L) ∧ (∀ a, a ≠ 54 → a ≠ 56 → a ≠ 57 → I' a = I a) ∧ ∀ u, u < 32 → I' 56 u = nI (pt A b k more (A 3 (k * 6 + 1)) u)) := by
    intro m
    induction m with
    | zero =>
      intro p I' hp hf h54
      obtain rfl : p = 5 := by omega
      refine ws_iload_3 3 rfl rfl ?_
      refine ws_iconst 4 rfl rfl kc_i5 ?_
      refine ws_icmp_gen 37 7 rfl rfl rfl (by omega) (by omega) (fun h9 => ?_) (fun h9 => absurd h9 (by omega))
      refine ws_iconst 38 rfl rfl kc_i0 ?_
      refine ws_istore_3 39 rfl rfl rfl rfl ?_
      exact zero 32 0 I' rfl hf h54 (fun _ h => by omega)
    | succ m ih =>
      intro p I' hp hf h54
      have hd := m_drawsOf (E := E) (L := L) (I := I') (A := A) (b := b) p nb (by omega) (by omega) (fun j hj => by rw [hf 43 (by decide) (by decide) (by decide)]; exact hTh j hj) (fun j hj => by rw [hf 44 (by decide) (by decide) (by decide)]; exact hLi j hj) h1 h2 h3 hb (fun j hj => by rw [hf 53 (by decide) (by decide) (by decide)]; exact hat j hj)
      rw [hnb] at hd
      have h47 := hf 47 (by decide) (by decide) (by decide)
      refine ws_iload_3 3 rfl rfl ?_
      refine ws_iconst 4 rfl rfl kc_i5 ?_
      refine ws_icmp_gen 37 7 rfl rfl rfl (by omega) (by omega) (fun h9 => absurd h9 (by omega)) (fun h9 => ?_)
      refine ws_aload_0 8 rfl rfl ?_
      refine ws_getfr 11 rfl rfl rfl rfl rfl ?_
      refine ws_iload_3 12 rfl rfl ?_
      refine ws_aload_0 13 rfl rfl ?_
      refine ws_iload_3 14 rfl rfl ?_
      refine ws_aload_0 15 rfl rfl ?_
      refine ws_getfr 18 rfl rfl rfl rfl rfl ?_
      refine ws_bipush 20 rfl rfl kc_b6 ?_
      refine ws_iload_1 21 rfl rfl ?_
      refine ws_imul 22 rfl rfl (pk_mul _ _) ?_
      refine ws_iconst 23 rfl rfl kc_i3 ?_
      refine ws_iadd 24 rfl rfl (nI_add _ _) ?_
      refine ws_ialdn 25 rfl rfl rfl (by omega) (by omega) (hkd I' h47 3 (by omega)) ?_
      refine ws_iload_2 26 rfl rfl ?_
      refine ws_iadd 27 rfl rfl (nI_add _ _) ?_
      refine ws_invV2p 30 rfl rfl rfl rfl (hd) rfl rfl rfl ?_
      refine ws_iastn 31 rfl rfl rfl (by omega) (by omega) ?_
      refine ws_iinc_3 34 rfl rfl (ki_1 _) rfl rfl ?_
      refine ws_goto 2 rfl rfl ?_
      exact ih (p + 1) _ (by omega) (fun a a1 a2 a3 => by rw [wI_ne a1]; exact hf a a1 a2 a3) (fl h54 (by rw [hnb]))
  refine ws_iconst 1 rfl rfl kc_i0 ?_
  refine ws_istore_3 2 rfl rfl rfl rfl ?_
  exact draws 5 0 I rfl (fun _ _ _ _ => rfl) (fun _ h => by omega)
theorem m_layDeeds (k more : Nat) (hk : k < 4) (hm : more ≤ 9) (hTh : ∀ j, j < 15 → I 43 j = nI (A 0 j)) (hLi : ∀ j, j < 5 → I 44 j = nI (A 1 j)) (hKi : ∀ j, j < 24 → I 47 j = nI (A 3 j)) (hOt : I 42 8 = nI (A 6 0)) (h58 : ∀ j, j < 12 → I 58 j = nI (G0 j)) (h59 : ∀ j, j < 12 → I 59 j = nI (G1 j)) (hG0 : ∀ j, j < 10 → G0 j = F j) (hG1 : ∀ j, j < 10 → G1 j = F (10 + j)) (hok : okK A) (hF : ∀ j, j < 20 → F j ≤ 1000) (h1 : ∀ j, j < 5 → A 0 j ≤ 9) (h2 : ∀ j, j < 5 → A 1 j ≤ 9) (h3 : ∀ j, j < 15 → A 0 j ≤ 99) (ho : A 6 0 ≤ 99) (hb : ∀ p, p < 5 → b p ≤ 5) (hat : ∀ p, p < 5 → I 53 p = nI (b p)) :
    xC E 4 112 [.ref 42, .int (nI k), .int (nI more)] (xS, I, L) (fun r t => r = none ∧ ∃ I' L', t = (xS, I', L') ∧ (∀ a, a ≠ 54 → a ≠ 56 → a ≠ 57 → I' a = I a) ∧ (∀ a, a ≠ 42 → L' a = L a) ∧ L' 42 20 = lN (sg (soS A F (pt A b k more (A 3 (k * 6 + 1))) k) 0 32) ∧ L' 42 21 = lN (sg (coS A F (pt A b k more (A 3 (k * 6 + 1))) k) 0 32) ∧ L' 42 22 = lN (payF A F b more k)) := by
  refine xC.mk [some (.ref 42), some (.int (nI k)), some (.int (nI more)), none, none, none, none, none, none, none, none] rfl ?_
  obtain ⟨k0, k1, k2, k3, k4, k5⟩ := hok k hk
  refine ws_aload_0 1 rfl rfl ?_
  refine ws_iload_1 2 rfl rfl ?_
  refine ws_iload_2 3 rfl rfl ?_
  refine ws_invV2 6 rfl rfl rfl rfl (m_layParts k more hk hm hTh hLi hKi hok h1 h2 h3 hb hat) rfl rfl rfl ?_
  rintro _ _ ⟨rfl, I1, rfl, hf1, h56⟩
  obtain ⟨P, hP⟩ : ∃ P, P = pt A b k more (A 3 (k * 6 + 1)) := ⟨_, rfl⟩
  have hPl : ∀ u, u < 32 → P u ≤ 1000000 := fun u hu => by rw [hP]; exact pt_le hb (by omega) hu
  have hPp : ∀ u, u < 32 → 4 < pop 5 u → P u = 0 := fun u hu h => by rw [hP]; exact pt_pop hb _ (by omega) u hu (by omega)
  rw [← hP] at h56 ⊢
  rw [show payF A F b more k = sg (paS A F P k) 0 32 by rw [hP]; rfl]
  obtain ⟨w, hw⟩ : ∃ w, w = A 3 (k * 6 + 4) := ⟨_, rfl⟩
  have hw47 : I1 47 (6 * k + 4) = nI w := by rw [hf1 47 (by decide) (by decide) (by decide), Nat.mul_comm 6 k, hw]; exact hKi _ (by omega)
  have loop : ∀ (m s : Nat) (L' : Nat → Nat → Int64) (z5 z6 z7 z8 z9 z10 : Option Value), s + m = 32 → xcat (z6.getD .null) = false → xcat (z8.getD .null) = false → (∀ a, a ≠ 42 → L' a = L a) → L' 42 20 = lN (sg (soS A F P k) 0 s) → L' 42 21 = lN (sg (coS A F P k) 0 s) → L' 42 22 = lN (sg (paS A F P k) 0 s) → xW E 4 112 36 [some (.ref 42), some (.int (nI k)), some (.int (nI more)), some (.int (nI w)), some (.int (nI s)), none, none, none, none, none, none] [] (xS, I1, L') 0 0 (fun r t => r = none ∧ ∃ I' L', t = (xS, I', L') ∧ (∀ a, a ≠ 54 → a ≠ 56 → a ≠ 57 → I' a = I a) ∧ (∀ a, a ≠ 42 → L' a = L a) ∧ L' 42 20 = lN (sg (soS A F P k) 0 32) ∧ L' 42 21 = lN (sg (coS A F P k) 0 32) ∧ L' 42 22 = lN (sg (paS A F P k) 0 32)) := by
    intro m
    induction m with
    | zero =>
      intro s L' z5 z6 z7 z8 z9 z10 hs z6c z8c hf l0 l1 l2
      obtain rfl : s = 32 := by omega
      refine ws_iload_4 38 rfl rfl ?_
      refine ws_bipush 40 rfl rfl kc_b32 ?_
      refine ws_icmp_gen 184 43 rfl rfl rfl (by omega) (by omega) (fun h9 => ?_) (fun h9 => absurd h9 (by omega))
      refine ws_vret rfl rfl rfl (Nat.le_of_ble_eq_true rfl) ?_
      exact ⟨rfl, I1, L', rfl, hf1, hf, l0, l1, l2⟩
    | succ m ih =>
      intro s L' z5 z6 z7 z8 z9 z10 hs z6c z8c hf l0 l1 l2
      have hs32 : s < 32 := by omega
      have h56s := h56 s hs32
      have hPs := hPl s hs32
      have es : ∀ f : Nat → Nat, sg f 0 (s + 1) = sg f 0 s + f s := fun f => by show _ + f (0 + s) = _; rw [Nat.zero_add]
      refine ws_iload_4 38 rfl rfl ?_
      refine ws_bipush 40 rfl rfl kc_b32 ?_
      refine ws_icmp_gen 184 43 rfl rfl rfl (by omega) (by omega) (fun h9 => absurd h9 (by omega)) (fun h9 => ?_)
      refine ws_aload_0 44 rfl rfl ?_
      refine ws_getfr 47 rfl rfl rfl rfl rfl ?_
      refine ws_iload_4 49 rfl rfl ?_
      refine ws_ialdn 50 rfl rfl rfl (by omega) (by omega) h56s ?_
      refine ws_if_len 178 53 rfl rfl rfl (by omega) (fun c1 => ?_) (fun c1 => ?_)
      · have h0 : P s = 0 := by omega
        obtain ⟨p1, p2, p3⟩ := paS_0 (A := A) (F := F) (k := k) h0
        refine ws_iinc_4 181 rfl rfl (ki_1 _) rfl rfl ?_
        refine ws_goto 36 rfl rfl ?_
        exact ih (s + 1) L' none none none none none none (by omega) rfl rfl hf (by rw [es, p1]; exact l0) (by rw [es, p2]; exact l1) (by rw [es, p3]; exact l2)
      · have hp4 : pop 5 s ≤ 4 := by
          rcases Nat.lt_or_ge 4 (pop 5 s) with h | h
          · have := hPp s hs32 h; omega
          · exact h
        have mid : ∀ (wv : Nat), wv = wn A k s → xW E 4 112 70 [some (.ref 42), some (.int (nI k)), some (.int (nI more)), some (.int (nI w)), some (.int (nI s)), some (.int (nI wv)), none, none, none, none, none] [] (xS, I1, L') 0 0 (fun r t => r = none ∧ ∃ I' L', t = (xS, I', L') ∧ (∀ a, a ≠ 54 → a ≠ 56 → a ≠ 57 → I' a = I a) ∧ (∀ a, a ≠ 42 → L' a = L a) ∧ L' 42 20 = lN (sg (soS A F P k) 0 32) ∧ L' 42 21 = lN (sg (coS A F P k) 0 32) ∧ L' 42 22 = lN (sg (paS A F P k) 0 32)) := by
          intro wv hwv
          have hwl := wn_lt A k s
          rw [← hwv] at hwl
          have hf0 := hF (0 * 10 + 2 * pop 5 s + wv) (by omega)
          have hf1' := hF (1 * 10 + 2 * pop 5 s + wv) (by omega)
          have g0 : I1 58 (2 * pop 5 s + wv) = nI (F (0 * 10 + 2 * pop 5 s + wv)) := by rw [hf1 58 (by decide) (by decide) (by decide), h58 _ (by omega), hG0 _ (by omega), Nat.zero_mul, Nat.zero_add]
          have g1 : I1 59 (2 * pop 5 s + wv) = nI (F (1 * 10 + 2 * pop 5 s + wv)) := by rw [hf1 59 (by decide) (by decide) (by decide), h59 _ (by omega), hG1 _ (by omega), Nat.one_mul, Nat.add_assoc]
          have so_e : P s * F (0 * 10 + 2 * pop 5 s + wv) / 1000 = soS A F P k s := by rw [hwv]; rfl
          have m0 : P s * F (0 * 10 + 2 * pop 5 s + wv) ≤ 1000000 * 1000 := Nat.mul_le_mul hPs hf0
          have so_l := soS_le (A := A) (P := P) (k := k) hF hp4
          have m1 : soS A F P k s * F (1 * 10 + 2 * pop 5 s + wv) ≤ 1000000 * 1000 := Nat.mul_le_mul (by omega) hf1'
          have co_e : soS A F P k s * F (1 * 10 + 2 * pop 5 s + wv) / 1000 = coS A F P k s := by rw [hwv]; rfl
          refine ws_iconst 71 rfl rfl kc_i2 ?_
          refine ws_iload_4 73 rfl rfl ?_
          refine ws_invS1p 76 rfl rfl rfl (p_bits s (by omega)) rfl rfl rfl ?_
          refine ws_imul 77 rfl rfl (pk_mul _ _) ?_
          refine ws_iload_5 79 rfl rfl ?_
          refine ws_iadd 80 rfl rfl (nI_add _ _) ?_
          refine ws_istore_6 82 rfl rfl rfl rfl ?_
          refine ws_aload_0 83 rfl rfl ?_
          refine ws_getfr 86 rfl rfl rfl rfl rfl ?_
          refine ws_iload_4 88 rfl rfl ?_
          refine ws_ialdn 89 rfl rfl rfl (by omega) (by omega) h56s ?_
          refine ws_i2l 90 rfl rfl (nI_l (by omega)) ?_
          refine ws_aload_0 91 rfl rfl ?_
          refine ws_getfr 94 rfl rfl rfl rfl rfl ?_
          refine ws_iload_6 96 rfl rfl ?_
          refine ws_ialdn 97 rfl rfl rfl (by omega) (by omega) g0 ?_
          refine ws_i2l 98 rfl rfl (nI_l (by omega)) ?_
          refine ws_lmul 99 rfl rfl (lN_mul _ _) ?_
          refine ws_ldc2 102 rfl rfl rfl (show (1000 : Int64) = lN 1000 from rfl) ?_
          refine ws_ldiv 103 rfl rfl (kn_lne0 (by omega) (by omega)) (pk_lDiv (by omega) (by omega) (by omega)) ?_
          rw [so_e]
          refine ws_lstore_7 105 rfl rfl rfl rfl ?_
          refine ws_lload_7 107 rfl rfl ?_
          refine ws_aload_0 108 rfl rfl ?_
          refine ws_getfr 111 rfl rfl rfl rfl rfl ?_
          refine ws_iload_6 113 rfl rfl ?_
          refine ws_ialdn 114 rfl rfl rfl (by omega) (by omega) g1 ?_
          refine ws_i2l 115 rfl rfl (nI_l (by omega)) ?_
          refine ws_lmul 116 rfl rfl (lN_mul _ _) ?_
          refine ws_ldc2 119 rfl rfl rfl (show (1000 : Int64) = lN 1000 from rfl) ?_
          refine ws_ldiv 120 rfl rfl (kn_lne0 (by omega) (by omega)) (pk_lDiv (by omega) (by omega) (by omega)) ?_
          rw [co_e]
          have j0 : ∀ x y z : Int64, wL (wL (wL L' 42 20 x) 42 21 y) 42 22 z 42 20 = x := fun _ _ _ => rfl
          have j1 : ∀ x y z : Int64, wL (wL (wL L' 42 20 x) 42 21 y) 42 22 z 42 21 = y := fun _ _ _ => rfl
          have j2 : ∀ x y z : Int64, wL (wL (wL L' 42 20 x) 42 21 y) 42 22 z 42 22 = z := fun _ _ _ => rfl
          have hfr : ∀ (x y z : Int64) (a : Nat), a ≠ 42 → wL (wL (wL L' 42 20 x) 42 21 y) 42 22 z a = L a := fun x y z a ha => by rw [wL_ne ha, wL_ne ha, wL_ne ha]; exact hf a ha
          have e1 : ∀ x : Int64, wL L' 42 20 x 42 21 = lN (sg (coS A F P k) 0 s) := fun _ => l1
          have e2 : ∀ x y : Int64, wL (wL L' 42 20 x) 42 21 y 42 22 = lN (sg (paS A F P k) 0 s) := fun _ _ => l2
          refine ws_lstore_9 122 rfl rfl rfl rfl ?_
          refine ws_aload_0 123 rfl rfl ?_
          refine ws_dup 124 rfl rfl rfl ?_
          refine ws_getfl 127 rfl rfl rfl rfl rfl l0 ?_
          refine ws_lload_7 129 rfl rfl ?_
          refine ws_ladd 130 rfl rfl (lN_add _ _) ?_
          refine ws_putfl 133 rfl rfl rfl rfl rfl rfl rfl rfl ?_
          refine ws_aload_0 134 rfl rfl ?_
          refine ws_dup 135 rfl rfl rfl ?_
          refine ws_getfl 138 rfl rfl rfl rfl rfl (e1 _) ?_
          refine ws_lload_9 140 rfl rfl ?_
          refine ws_ladd 141 rfl rfl (lN_add _ _) ?_
          refine ws_putfl 144 rfl rfl rfl rfl rfl rfl rfl rfl ?_
          refine ws_aload_0 145 rfl rfl ?_
          refine ws_dup 146 rfl rfl rfl ?_
          refine ws_getfl 149 rfl rfl rfl rfl rfl (e2 _ _) ?_
          refine ws_lload_9 151 rfl rfl ?_
          refine ws_iload_5 153 rfl rfl ?_
          refine ws_iconst 154 rfl rfl kc_i1 ?_
          refine ws_icmp_nen 168 157 rfl rfl rfl (by omega) (by omega) (fun c3 => ?_) (fun c3 => ?_)
          · have pe : paS A F P k s = coS A F P k s * A 6 0 := by unfold paS; rw [if_neg (by omega)]
            have hOt' : I1 42 8 = nI (A 6 0) := by rw [hf1 42 (by decide) (by decide) (by decide)]; exact hOt
            refine ws_aload_0 169 rfl rfl ?_
            refine ws_getfi 172 rfl rfl rfl rfl rfl hOt' ?_
            refine ws_i2l 173 rfl rfl (nI_l (by omega)) ?_
            refine ws_lmul 174 rfl rfl (lN_mul _ _) ?_
            refine ws_ladd 175 rfl rfl (lN_add _ _) ?_
            refine ws_putfl 178 rfl rfl rfl rfl rfl rfl rfl rfl ?_
            refine ws_forget 5 _ rfl ?_
            refine ws_forget 6 _ rfl ?_
            refine ws_forget 7 _ rfl ?_
            refine ws_forget 9 _ rfl ?_
            refine ws_iinc_4 181 rfl rfl (ki_1 _) rfl rfl ?_
            refine ws_goto 36 rfl rfl ?_
            exact ih (s + 1) _ none none none none none none (by omega) rfl rfl (hfr _ _ _) ((j0 _ _ _).trans (by rw [es])) ((j1 _ _ _).trans (by rw [es])) ((j2 _ _ _).trans (by rw [es, pe]))
          · have hb5 : w < 5 := by
              rcases Nat.lt_or_ge w 5 with h | h
              · exact h
              · rw [hwv] at c3; unfold wn at c3; rw [← hw, if_neg (by omega)] at c3; omega
            have pe : paS A F P k s = coS A F P k s * A 0 (5 + w) := by unfold paS; rw [if_pos (by omega), hw]
            have hTc : I1 43 (5 + w) = nI (A 0 (5 + w)) := by rw [hf1 43 (by decide) (by decide) (by decide)]; exact hTh _ (by omega)
            have hTl := h3 (5 + w) (by omega)
            refine ws_aload_0 158 rfl rfl ?_
            refine ws_getfr 161 rfl rfl rfl rfl rfl ?_
            refine ws_iconst 162 rfl rfl kc_i5 ?_
            refine ws_iload_3 163 rfl rfl ?_
            refine ws_iadd 164 rfl rfl (nI_add _ _) ?_
            refine ws_ialdn 165 rfl rfl rfl (by omega) (by omega) hTc ?_
            refine ws_goto 172 rfl rfl ?_
            refine ws_i2l 173 rfl rfl (nI_l (by omega)) ?_
            refine ws_lmul 174 rfl rfl (lN_mul _ _) ?_
            refine ws_ladd 175 rfl rfl (lN_add _ _) ?_
            refine ws_putfl 178 rfl rfl rfl rfl rfl rfl rfl rfl ?_
            refine ws_forget 5 _ rfl ?_
            refine ws_forget 6 _ rfl ?_
            refine ws_forget 7 _ rfl ?_
            refine ws_forget 9 _ rfl ?_
            refine ws_iinc_4 181 rfl rfl (ki_1 _) rfl rfl ?_
            refine ws_goto 36 rfl rfl ?_
            exact ih (s + 1) _ none none none none none none (by omega) rfl rfl (hfr _ _ _) ((j0 _ _ _).trans (by rw [es])) ((j1 _ _ _).trans (by rw [es])) ((j2 _ _ _).trans (by rw [es, pe]))
        rw [← hw] at k4
        refine ws_iload_3 54 rfl rfl ?_
        refine ws_iconst 55 rfl rfl kc_i5 ?_
        refine ws_icmp_gen 67 58 rfl rfl rfl (by omega) (by omega) (fun c4 => ?_) (fun c4 => ?_)
        · refine ws_iconst 68 rfl rfl kc_i0 ?_
          refine ws_istore_5 70 rfl rfl rfl rfl ?_
          exact mid _ (by unfold wn; rw [← hw, if_neg (by omega)])
        · have e : s / 2 ^ w &&& 1 = s / 2 ^ w % 2 := Nat.and_one_is_mod _
          refine ws_iload_4 60 rfl rfl ?_
          refine ws_iload_3 61 rfl rfl ?_
          refine ws_ishr 62 rfl rfl (kn_shr (by omega) (by omega)) ?_
          refine ws_iconst 63 rfl rfl kc_i1 ?_
          refine ws_iand 64 rfl rfl (kn_and _ _) ?_
          refine ws_goto 68 rfl rfl ?_
          rw [e]
          refine ws_istore_5 70 rfl rfl rfl rfl ?_
          exact mid _ (by unfold wn; rw [← hw, if_pos c4])
  refine ws_aload_0 7 rfl rfl ?_
  refine ws_getfr 10 rfl rfl rfl rfl rfl ?_
  refine ws_bipush 12 rfl rfl kc_b6 ?_
  refine ws_iload_1 13 rfl rfl ?_
  refine ws_imul 14 rfl rfl (pk_mul _ _) ?_
  refine ws_iconst 15 rfl rfl kc_i4 ?_
  refine ws_iadd 16 rfl rfl (nI_add _ _) ?_
  refine ws_ialdn 17 rfl rfl rfl (by omega) (by omega) hw47 ?_
  refine ws_istore_3 18 rfl rfl rfl rfl ?_
  refine ws_aload_0 19 rfl rfl ?_
  refine ws_lconst (v := lN 0) 20 rfl rfl rfl ?_
  refine ws_putfl 23 rfl rfl rfl rfl rfl rfl rfl rfl ?_
  refine ws_aload_0 24 rfl rfl ?_
  refine ws_lconst (v := lN 0) 25 rfl rfl rfl ?_
  refine ws_putfl 28 rfl rfl rfl rfl rfl rfl rfl rfl ?_
  refine ws_aload_0 29 rfl rfl ?_
  refine ws_lconst (v := lN 0) 30 rfl rfl rfl ?_
  refine ws_putfl 33 rfl rfl rfl rfl rfl rfl rfl rfl ?_
  refine ws_iconst 34 rfl rfl kc_i0 ?_
  refine ws_istore_4 36 rfl rfl rfl rfl ?_
  exact loop 32 0 _ none none none none none none rfl rfl rfl (fun a ha => by rw [wL_ne ha, wL_ne ha, wL_ne ha]) rfl rfl rfl
theorem m_weekOf (more : Nat) (hm : more ≤ 9) (hTh : ∀ j, j < 15 → I 43 j = nI (A 0 j)) (hLi : ∀ j, j < 5 → I 44 j = nI (A 1 j)) (hKi : ∀ j, j < 24 → I 47 j = nI (A 3 j)) (hOt : I 42 8 = nI (A 6 0)) (h58 : ∀ j, j < 12 → I 58 j = nI (G0 j)) (h59 : ∀ j, j < 12 → I 59 j = nI (G1 j)) (hG0 : ∀ j, j < 10 → G0 j = F j) (hG1 : ∀ j, j < 10 → G1 j = F (10 + j)) (hok : okK A) (hF : ∀ j, j < 20 → F j ≤ 1000) (h1 : ∀ j, j < 5 → A 0 j ≤ 9) (h2 : ∀ j, j < 5 → A 1 j ≤ 9) (h3 : ∀ j, j < 15 → A 0 j ≤ 99) (ho : A 6 0 ≤ 99) (hb : ∀ p, p < 5 → b p ≤ 5) (hat : ∀ p, p < 5 → I 53 p = nI (b p)) :
    xC E 5 114 [.ref 42, .int (nI more)] (xS, I, L) (fun r t => r = some (.int (nI (wkF A F b more))) ∧ ∃ I' L', t = (xS, I', L') ∧ (∀ a, a ≠ 54 → a ≠ 56 → a ≠ 57 → I' a = I a) ∧ (∀ a, a ≠ 42 → L' a = L a)) := by
  refine xC.mk [some (.ref 42), some (.int (nI more)), none, none, none] rfl ?_
  have loop : ∀ (m k : Nat) (I' : Nat → Nat → Int32) (L' : Nat → Nat → Int64), k + m = 4 → (∀ a, a ≠ 54 → a ≠ 56 → a ≠ 57 → I' a = I a) → (∀ a, a ≠ 42 → L' a = L a) → xW E 5 114 5 [some (.ref 42), some (.int (nI more)), some (.long (lN (sg (fun k => payF A F b more k * A 3 (k * 6 + 5)) 0 k))), none, some (.int (nI k))] [] (xS, I', L') 0 0 (fun r t => r = some (.int (nI (wkF A F b more))) ∧ ∃ I' L', t = (xS, I', L') ∧ (∀ a, a ≠ 54 → a ≠ 56 → a ≠ 57 → I' a = I a) ∧ (∀ a, a ≠ 42 → L' a = L a)) := by
    intro m
    induction m with
    | zero =>
      intro k I' L' hk hf hfl
      obtain rfl : k = 4 := by omega
      have hsl := wk_sum_le (more := more) hok hb hF h3 ho 4 (by omega)
      refine ws_iload_4 7 rfl rfl ?_
      refine ws_iconst 8 rfl rfl kc_i4 ?_
      refine ws_icmp_gen 60 11 rfl rfl rfl (by omega) (by omega) (fun h9 => ?_) (fun h9 => absurd h9 (by omega))
      refine ws_lload_2 61 rfl rfl ?_
      refine ws_ldc2 64 rfl rfl rfl (show (1000 : Int64) = lN 1000 from rfl) ?_
      refine ws_ldiv 65 rfl rfl (kn_lne0 (by omega) (by omega)) (pk_lDiv (by omega) (by omega) (by omega)) ?_
      refine ws_l2i 66 rfl rfl (lN_i _) ?_
      refine ws_iret rfl rfl rfl (Nat.le_of_ble_eq_true rfl) ?_
      exact ⟨rfl, I', L', rfl, hf, hfl⟩
    | succ m ih =>
      intro k I' L' hk hf hfl
      have hk4 : k < 4 := by omega
      obtain ⟨k0, k1, k2, k3, k4, k5⟩ := hok k hk4
      have es : sg (fun k => payF A F b more k * A 3 (k * 6 + 5)) 0 (k + 1) = sg (fun k => payF A F b more k * A 3 (k * 6 + 5)) 0 k + payF A F b more k * A 3 (k * 6 + 5) := by
        show _ + (fun k => payF A F b more k * A 3 (k * 6 + 5)) (0 + k) = _
        rw [Nat.zero_add]
      have h47 : ∀ (I2 : Nat → Nat → Int32), (∀ a, a ≠ 54 → a ≠ 56 → a ≠ 57 → I2 a = I a) → I2 47 (6 * k + 5) = nI (A 3 (k * 6 + 5)) := fun I2 h => by rw [h 47 (by decide) (by decide) (by decide), Nat.mul_comm 6 k]; exact hKi _ (by omega)
      refine ws_iload_4 7 rfl rfl ?_
      refine ws_iconst 8 rfl rfl kc_i4 ?_
      refine ws_icmp_gen 60 11 rfl rfl rfl (by omega) (by omega) (fun h9 => absurd h9 (by omega)) (fun h9 => ?_)
      refine ws_aload_0 12 rfl rfl ?_
      refine ws_getfr 15 rfl rfl rfl rfl rfl ?_
      refine ws_bipush 17 rfl rfl kc_b6 ?_
      refine ws_iload_4 19 rfl rfl ?_
      refine ws_imul 20 rfl rfl (pk_mul _ _) ?_
      refine ws_iconst 21 rfl rfl kc_i5 ?_
      refine ws_iadd 22 rfl rfl (nI_add _ _) ?_
      refine ws_ialdn 23 rfl rfl rfl (by omega) (by omega) (h47 I' hf) ?_
      refine ws_if_len 54 26 rfl rfl rfl (by omega) (fun c1 => ?_) (fun c1 => ?_)
      · have c0 : A 3 (k * 6 + 5) = 0 := by omega
        refine ws_iinc_4 57 rfl rfl (ki_1 _) rfl rfl ?_
        refine ws_goto 5 rfl rfl ?_
        have := ih (k + 1) I' L' (by omega) hf hfl; rw [es, c0, Nat.mul_zero, Nat.add_zero] at this; exact this
      · refine ws_aload_0 27 rfl rfl ?_
        refine ws_iload_4 29 rfl rfl ?_
        refine ws_iload_1 30 rfl rfl ?_
        refine ws_invV2 33 rfl rfl rfl rfl (m_layDeeds k more hk4 hm (fun j hj => by rw [hf 43 (by decide) (by decide) (by decide)]; exact hTh j hj) (fun j hj => by rw [hf 44 (by decide) (by decide) (by decide)]; exact hLi j hj) (fun j hj => by rw [hf 47 (by decide) (by decide) (by decide)]; exact hKi j hj) (by rw [hf 42 (by decide) (by decide) (by decide)]; exact hOt) (fun j hj => by rw [hf 58 (by decide) (by decide) (by decide)]; exact h58 j hj) (fun j hj => by rw [hf 59 (by decide) (by decide) (by decide)]; exact h59 j hj) hG0 hG1 hok hF h1 h2 h3 ho hb (fun j hj => by rw [hf 53 (by decide) (by decide) (by decide)]; exact hat j hj)) rfl rfl rfl ?_
        rintro _ _ ⟨rfl, I2, L2, rfl, hf2, hfl2, l0, l1, l2⟩
        have hf3 : ∀ a, a ≠ 54 → a ≠ 56 → a ≠ 57 → I2 a = I a := fun a a1 a2 a3 => by rw [hf2 a a1 a2 a3]; exact hf a a1 a2 a3
        refine ws_lload_2 34 rfl rfl ?_
        refine ws_aload_0 35 rfl rfl ?_
        refine ws_getfl 38 rfl rfl rfl rfl rfl l2 ?_
        refine ws_aload_0 39 rfl rfl ?_
        refine ws_getfr 42 rfl rfl rfl rfl rfl ?_
        refine ws_bipush 44 rfl rfl kc_b6 ?_
        refine ws_iload_4 46 rfl rfl ?_
        refine ws_imul 47 rfl rfl (pk_mul _ _) ?_
        refine ws_iconst 48 rfl rfl kc_i5 ?_
        refine ws_iadd 49 rfl rfl (nI_add _ _) ?_
        refine ws_ialdn 50 rfl rfl rfl (by omega) (by omega) (h47 I2 hf3) ?_
        refine ws_i2l 51 rfl rfl (nI_l (by omega)) ?_
        refine ws_lmul 52 rfl rfl (lN_mul _ _) ?_
        refine ws_ladd 53 rfl rfl (lN_add _ _) ?_
        refine ws_lstore_2 54 rfl rfl rfl rfl ?_
        refine ws_iinc_4 57 rfl rfl (ki_1 _) rfl rfl ?_
        refine ws_goto 5 rfl rfl ?_
        have := ih (k + 1) I2 L2 (by omega) hf3 (fun a ha => by rw [hfl2 a ha]; exact hfl a ha); rw [es] at this; exact this
  refine ws_lconst (v := lN 0) 1 rfl rfl rfl ?_
  refine ws_lstore_2 2 rfl rfl rfl rfl ?_
  refine ws_iconst 3 rfl rfl kc_i0 ?_
  refine ws_istore_4 5 rfl rfl rfl rfl ?_
  exact loop 4 0 I L rfl (fun _ _ _ _ => rfl) (fun _ _ => rfl)
end MWEEK
