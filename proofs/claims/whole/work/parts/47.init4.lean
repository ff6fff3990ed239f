/-! ===== the reference's constructor ===== -/
theorem i_mod {E : xEx} {I : Nat → Nat → Int32} {L : Nat → Nat → Int64} (hz : zF 42 I L) : xC E 2 82 [.ref 42] (xC0 ++ [.inr (.inl (6, xdf 6))], I, L) (fun r t => r = none ∧ ∃ I', t = (xS, I', L) ∧ RR s00 I' ∧ ∀ a, a < 42 → I' a = I a) := by
  refine xC.mk [some (.ref 42), none] rfl ?_
  have z0 : ∀ a, 42 ≤ a → ∀ j, I a j = nI 0 := fun a ha j => (hz a ha j).1
  have fin : ∀ (I' : Nat → Nat → Int32), (∀ a, a ≠ 42 → a ≠ 43 → a ≠ 44 → a ≠ 47 → I' a = I a) → (∀ j, j ≠ 8 → I' 42 j = I 42 j) → I' 42 8 = nI 2 → (∀ j, j < 15 → I' 43 j = nI (ini0 j)) → (∀ j, j < 5 → I' 44 j = nI 5) → (∀ j, j < 24 → I' 47 j = nI (ini3 j)) → ∀ z1 : Option Value, xW E 2 82 251 [some (.ref 42), z1] [] (xS, I', L) 20 8302 (fun r t => r = none ∧ ∃ I', t = (xS, I', L) ∧ RR s00 I' ∧ ∀ a, a < 42 → I' a = I a) := by
    intro I' hf hf2 h8 h43 h44 h47 z1
    refine ws_aload_0 252 rfl rfl ?_
    refine ws_getfr 255 rfl rfl rfl rfl rfl ?_
    refine ws_iconst 256 rfl rfl kc_i0 ?_
    refine ws_iconst 257 rfl rfl kc_i3 ?_
    refine ws_iastn 258 rfl rfl rfl (by omega) (by omega) ?_
    refine ws_aload_0 259 rfl rfl ?_
    refine ws_getfr 262 rfl rfl rfl rfl rfl ?_
    refine ws_iconst 263 rfl rfl kc_i0 ?_
    refine ws_bipush 265 rfl rfl kc_b42 ?_
    refine ws_iastn 266 rfl rfl rfl (by omega) (by omega) ?_
    refine ws_aload_0 267 rfl rfl ?_
    refine ws_getfr 270 rfl rfl rfl rfl rfl ?_
    refine ws_iconst 271 rfl rfl kc_i1 ?_
    refine ws_bipush 273 rfl rfl kc_b115 ?_
    refine ws_iastn 274 rfl rfl rfl (by omega) (by omega) ?_
    refine ws_aload_0 275 rfl rfl ?_
    refine ws_getfr 278 rfl rfl rfl rfl rfl ?_
    refine ws_iconst 279 rfl rfl kc_i2 ?_
    refine ws_bipush 281 rfl rfl kc_b104 ?_
    refine ws_iastn 282 rfl rfl rfl (by omega) (by omega) ?_
    refine ws_aload_0 283 rfl rfl ?_
    refine ws_getfr 286 rfl rfl rfl rfl rfl ?_
    refine ws_iconst 287 rfl rfl kc_i1 ?_
    refine ws_iconst 288 rfl rfl kc_i1 ?_
    refine ws_iastn 289 rfl rfl rfl (by omega) (by omega) ?_
    refine ws_aload_0 290 rfl rfl ?_
    refine ws_getfr 293 rfl rfl rfl rfl rfl ?_
    refine ws_bipush 295 rfl rfl kc_b15 ?_
    refine ws_bipush 297 rfl rfl kc_b104 ?_
    refine ws_iastn 298 rfl rfl rfl (by omega) (by omega) ?_
    refine ws_vret rfl rfl rfl (Nat.le_of_ble_eq_true rfl) ?_
    refine ⟨rfl, _, rfl, ⟨⟨fun j hj => ?_, fun j hj => ?_, fun j hj => ?_, fun j hj => ?_, fun j hj => ?_, ⟨?_, ?_⟩, ?_, fun j hj => ?_, fun j hj => ?_⟩, Or.inl ?_, ⟨?_, fun i hi => absurd hi (by show ¬ i < 0; omega)⟩, fun n hn => ⟨?_, fun hk => by cases hk⟩⟩, fun a ha => ?_⟩
    · rw [wI_ne (by decide), wI_ne (by decide), wI_ne (by decide), wI_ne (by decide), wI_ne (by decide), wI_ne (by decide)]; exact h43 j hj
    · rw [wI_ne (by decide), wI_ne (by decide), wI_ne (by decide), wI_ne (by decide), wI_ne (by decide), wI_ne (by decide)]; exact h44 j hj
    · rw [wI_ne (by decide), wI_ne (by decide), wI_ne (by decide), wI_ne (by decide), wI_ne (by decide), wI_ne (by decide), hf 46 (by decide) (by decide) (by decide) (by decide)]; exact z0 46 (by omega) j
    · rw [wI_ne (by decide), wI_ne (by decide), wI_ne (by decide), wI_ne (by decide), wI_ne (by decide), wI_ne (by decide)]; exact h47 j hj
    · show _ = nI (ini4 j)
      rw [wI_eq, wI_ne (show (49 : Nat) ≠ 48 by decide), wI_eq, wI_eq, wI_eq, wI_ne (show (49 : Nat) ≠ 48 by decide), hf 49 (by decide) (by decide) (by decide) (by decide)]
      by_cases e15 : j = 15
      · rw [e15, pk_us]; rfl
      · rw [pk_un e15]
        by_cases e2 : j = 2
        · rw [e2, pk_us]; rfl
        · rw [pk_un e2]
          by_cases e1 : j = 1
          · rw [e1, pk_us]; rfl
          · rw [pk_un e1]
            by_cases e0 : j = 0
            · rw [e0, pk_us]; rfl
            · rw [pk_un e0, z0 49 (by omega) j]
              congr 1
              unfold ini4
              split
              · rw [List.getD_eq_getElem?_getD, List.getElem?_eq_none (by show 3 ≤ j; omega)]; rfl
              · rw [List.getD_eq_getElem?_getD, List.getElem?_eq_none (by show 1 ≤ j - 15; omega)]; rfl
    · rfl
    · rfl
    · rw [wI_ne (by decide), wI_ne (by decide), wI_ne (by decide), wI_ne (by decide), wI_ne (by decide), wI_ne (by decide)]; exact h8
    · rw [wI_ne (by decide), wI_ne (by decide), wI_ne (by decide), wI_ne (by decide), wI_ne (by decide), wI_ne (by decide), hf 50 (by decide) (by decide) (by decide) (by decide)]; exact z0 50 (by omega) j
    · rw [wI_ne (by decide), wI_ne (by decide), wI_ne (by decide), wI_ne (by decide), wI_ne (by decide), wI_ne (by decide), hf 51 (by decide) (by decide) (by decide) (by decide), z0 51 (by omega) j]
      congr 1
      show 0 = 0 / 2 ^ j % 2
      rw [Nat.zero_div]
    · rw [wI_ne (by decide), wI_ne (by decide), wI_ne (by decide), wI_ne (by decide), wI_ne (by decide), wI_ne (by decide), hf2 11 (by decide)]; exact z0 42 (by omega) 11
    · rw [wI_ne (by decide), wI_ne (by decide), wI_ne (by decide), wI_ne (by decide), wI_ne (by decide), wI_ne (by decide), hf2 2 (by decide)]; exact z0 42 (by omega) 2
    · rw [wI_ne (by decide), wI_ne (by decide), wI_ne (by decide), wI_ne (by decide), wI_ne (by decide), wI_ne (by decide), hf 62 (by decide) (by decide) (by decide) (by decide)]; exact z0 62 (by omega) n
    · rw [wI_ne (by omega), wI_ne (by omega), wI_ne (by omega), wI_ne (by omega), wI_ne (by omega), wI_ne (by omega)]; exact hf a (by omega) (by omega) (by omega) (by omega)
  have l2 : ∀ (m k : Nat) (I' : Nat → Nat → Int32), k + m = 4 → (∀ a, a ≠ 42 → a ≠ 43 → a ≠ 44 → a ≠ 47 → I' a = I a) → (∀ j, j ≠ 8 → I' 42 j = I 42 j) → I' 42 8 = nI 2 → (∀ j, j < 15 → I' 43 j = nI (ini0 j)) → (∀ j, j < 5 → I' 44 j = nI 5) → (∀ j, I' 47 j = if j < 6 * k then nI (ini3 j) else nI 0) → xW E 2 82 204 [some (.ref 42), some (.int (nI k))] [] (xS, I', L) 20 8302 (fun r t => r = none ∧ ∃ I', t = (xS, I', L) ∧ RR s00 I' ∧ ∀ a, a < 42 → I' a = I a) := by
    intro m
    induction m with
    | zero =>
      intro k I' hk hf hf2 h8 h43 h44 h47
      obtain rfl : k = 4 := by omega
      refine ws_iload_1 205 rfl rfl ?_
      refine ws_iconst 206 rfl rfl kc_i4 ?_
      refine ws_icmp_gen 251 209 rfl rfl rfl (by omega) (by omega) (fun h9 => ?_) (fun h9 => absurd h9 (by omega))
      exact fin I' hf hf2 h8 h43 h44 (fun j hj => by rw [h47 j, if_pos (by omega)]) _
    | succ m ih =>
      intro k I' hk hf hf2 h8 h43 h44 h47
      refine ws_iload_1 205 rfl rfl ?_
      refine ws_iconst 206 rfl rfl kc_i4 ?_
      refine ws_icmp_gen 251 209 rfl rfl rfl (by omega) (by omega) (fun h9 => absurd h9 (by omega)) (fun h9 => ?_)
      refine ws_aload_0 210 rfl rfl ?_
      refine ws_getfr 213 rfl rfl rfl rfl rfl ?_
      refine ws_bipush 215 rfl rfl kc_b6 ?_
      refine ws_iload_1 216 rfl rfl ?_
      refine ws_imul 217 rfl rfl (pk_mul _ _) ?_
      refine ws_iconst 218 rfl rfl kc_i1 ?_
      refine ws_iadd 219 rfl rfl (nI_add _ _) ?_
      refine ws_iconst 220 rfl rfl kc_i2 ?_
      refine ws_iastn 221 rfl rfl rfl (by omega) (by omega) ?_
      refine ws_aload_0 222 rfl rfl ?_
      refine ws_getfr 225 rfl rfl rfl rfl rfl ?_
      refine ws_bipush 227 rfl rfl kc_b6 ?_
      refine ws_iload_1 228 rfl rfl ?_
      refine ws_imul 229 rfl rfl (pk_mul _ _) ?_
      refine ws_iconst 230 rfl rfl kc_i2 ?_
      refine ws_iadd 231 rfl rfl (nI_add _ _) ?_
      refine ws_iconst 232 rfl rfl kc_i3 ?_
      refine ws_iastn 233 rfl rfl rfl (by omega) (by omega) ?_
      refine ws_aload_0 234 rfl rfl ?_
      refine ws_getfr 237 rfl rfl rfl rfl rfl ?_
      refine ws_bipush 239 rfl rfl kc_b6 ?_
      refine ws_iload_1 240 rfl rfl ?_
      refine ws_imul 241 rfl rfl (pk_mul _ _) ?_
      refine ws_iconst 242 rfl rfl kc_i4 ?_
      refine ws_iadd 243 rfl rfl (nI_add _ _) ?_
      refine ws_iconst 244 rfl rfl kc_i5 ?_
      refine ws_iastn 245 rfl rfl rfl (by omega) (by omega) ?_
      refine ws_iinc_1 248 rfl rfl (ki_1 _) rfl rfl ?_
      refine ws_goto 204 rfl rfl ?_
      refine ih (k + 1) _ (by omega) (fun a b1 b2 b3 b4 => by rw [wI_ne b4, wI_ne b4, wI_ne b4]; exact hf a b1 b2 b3 b4) (fun j hj => by rw [wI_ne (by decide), wI_ne (by decide), wI_ne (by decide)]; exact hf2 j hj) (by rw [wI_ne (by decide), wI_ne (by decide), wI_ne (by decide)]; exact h8) (fun j hj => by rw [wI_ne (by decide), wI_ne (by decide), wI_ne (by decide)]; exact h43 j hj) (fun j hj => by rw [wI_ne (by decide), wI_ne (by decide), wI_ne (by decide)]; exact h44 j hj) (fun j => ?_)
      rw [wI_eq, wI_eq, wI_eq]
      have v : ∀ r, r < 6 → ini3 (6 * k + r) = [0, 2, 3, 0, 5, 0].getD r 0 := fun r hr => by unfold ini3; rw [show (6 * k + r) % 6 = r by omega]
      by_cases e4 : j = 6 * k + 4
      · rw [e4, pk_us, if_pos (by omega), v 4 (by omega)]; rfl
      · rw [pk_un e4]
        by_cases e2 : j = 6 * k + 2
        · rw [e2, pk_us, if_pos (by omega), v 2 (by omega)]; rfl
        · rw [pk_un e2]
          by_cases e1 : j = 6 * k + 1
          · rw [e1, pk_us, if_pos (by omega), v 1 (by omega)]; rfl
          · rw [pk_un e1, h47 j]
            by_cases q1 : j < 6 * k
            · rw [if_pos q1, if_pos (by omega)]
            · rw [if_neg q1]
              by_cases q2 : j < 6 * (k + 1)
              · rw [if_pos q2]
                rcases (show j = 6 * k + 0 ∨ j = 6 * k + 3 ∨ j = 6 * k + 5 by omega) with e | e | e
                · rw [e, v 0 (by omega)]; rfl
                · rw [e, v 3 (by omega)]; rfl
                · rw [e, v 5 (by omega)]; rfl
              · rw [if_neg q2]
  have l1 : ∀ (m k : Nat) (I' : Nat → Nat → Int32), k + m = 5 → (∀ a, a ≠ 42 → a ≠ 43 → a ≠ 44 → I' a = I a) → (∀ j, j ≠ 8 → I' 42 j = I 42 j) → I' 42 8 = nI 2 → (∀ j, I' 43 j = if j < k then nI 5 else if 5 ≤ j ∧ j < 5 + k then nI 10 else nI 0) → (∀ j, j < k → I' 44 j = nI 5) → xW E 2 82 167 [some (.ref 42), some (.int (nI k))] [] (xS, I', L) 20 8302 (fun r t => r = none ∧ ∃ I', t = (xS, I', L) ∧ RR s00 I' ∧ ∀ a, a < 42 → I' a = I a) := by
    intro m
    induction m with
    | zero =>
      intro k I' hk hf hf2 h8 h43 h44
      obtain rfl : k = 5 := by omega
      refine ws_iload_1 168 rfl rfl ?_
      refine ws_iconst 169 rfl rfl kc_i5 ?_
      refine ws_icmp_gen 202 172 rfl rfl rfl (by omega) (by omega) (fun h9 => ?_) (fun h9 => absurd h9 (by omega))
      refine ws_iconst 203 rfl rfl kc_i0 ?_
      refine ws_istore_1 204 rfl rfl rfl rfl ?_
      refine l2 4 0 I' rfl (fun a b1 b2 b3 _ => hf a b1 b2 b3) hf2 h8 (fun j hj => ?_) h44 (fun j => by rw [if_neg (by omega), hf 47 (by decide) (by decide) (by decide)]; exact z0 47 (by omega) j)
      rw [h43 j]
      unfold ini0
      by_cases q1 : j < 5
      · rw [if_pos q1, show j / 5 = 0 by omega]; rfl
      · rw [if_neg q1]
        by_cases q2 : 5 ≤ j ∧ j < 5 + 5
        · rw [if_pos q2, show j / 5 = 1 by omega]; rfl
        · rw [if_neg q2, show j / 5 = 2 by omega]; rfl
    | succ m ih =>
      intro k I' hk hf hf2 h8 h43 h44
      refine ws_iload_1 168 rfl rfl ?_
      refine ws_iconst 169 rfl rfl kc_i5 ?_
      refine ws_icmp_gen 202 172 rfl rfl rfl (by omega) (by omega) (fun h9 => absurd h9 (by omega)) (fun h9 => ?_)
      refine ws_aload_0 173 rfl rfl ?_
      refine ws_getfr 176 rfl rfl rfl rfl rfl ?_
      refine ws_iload_1 177 rfl rfl ?_
      refine ws_iconst 178 rfl rfl kc_i5 ?_
      refine ws_iastn 179 rfl rfl rfl (by omega) (by omega) ?_
      refine ws_aload_0 180 rfl rfl ?_
      refine ws_getfr 183 rfl rfl rfl rfl rfl ?_
      refine ws_iconst 184 rfl rfl kc_i5 ?_
      refine ws_iload_1 185 rfl rfl ?_
      refine ws_iadd 186 rfl rfl (nI_add _ _) ?_
      refine ws_bipush 188 rfl rfl kc_b10 ?_
      refine ws_iastn 189 rfl rfl rfl (by omega) (by omega) ?_
      refine ws_aload_0 190 rfl rfl ?_
      refine ws_getfr 193 rfl rfl rfl rfl rfl ?_
      refine ws_iload_1 194 rfl rfl ?_
      refine ws_iconst 195 rfl rfl kc_i5 ?_
      refine ws_iastn 196 rfl rfl rfl (by omega) (by omega) ?_
      refine ws_iinc_1 199 rfl rfl (ki_1 _) rfl rfl ?_
      refine ws_goto 167 rfl rfl ?_
      refine ih (k + 1) _ (by omega) (fun a b1 b2 b3 => by rw [wI_ne b3, wI_ne b2, wI_ne b2]; exact hf a b1 b2 b3) (fun j hj => by rw [wI_ne (by decide), wI_ne (by decide), wI_ne (by decide)]; exact hf2 j hj) (by rw [wI_ne (by decide), wI_ne (by decide), wI_ne (by decide)]; exact h8) (fun j => ?_) ?_
      · rw [wI_ne (by decide), wI_eq, wI_eq]
        by_cases e1 : j = 5 + k
        · rw [e1, pk_us, if_neg (by omega), if_pos (by omega)]
        · rw [pk_un e1]
          by_cases e2 : j = k
          · rw [e2, pk_us, if_pos (by omega)]
          · rw [pk_un e2, h43 j]
            by_cases q1 : j < k
            · rw [if_pos q1, if_pos (by omega)]
            · rw [if_neg q1, if_neg (show ¬ j < k + 1 by omega)]
              by_cases q2 : 5 ≤ j ∧ j < 5 + k
              · rw [if_pos q2, if_pos (show 5 ≤ j ∧ j < 5 + (k + 1) by omega)]
              · rw [if_neg q2, if_neg (show ¬ (5 ≤ j ∧ j < 5 + (k + 1)) by omega)]
      · rw [wI_eq, wI_ne (by decide), wI_ne (by decide)]
        exact fl (g := fun _ => nI 5) h44 rfl
  refine ws_aload_0 1 rfl rfl ?_
  refine ws_oinit 4 rfl rfl rfl (by omega) (by decide) ?_
  refine ws_aload_0 5 rfl rfl ?_
  refine ws_bipush 7 rfl rfl kc_b15 ?_
  refine wn_newI 9 43 rfl rfl rfl (by decide) rfl (hz.mono (by omega)) (by decide) (Nat.le_of_ble_eq_true rfl) (Nat.le_of_ble_eq_true rfl) ?_
  refine ws_putfrF 12 rfl rfl rfl rfl rfl rfl rfl rfl rfl rfl ?_
  refine ws_aload_0 13 rfl rfl ?_
  refine ws_iconst 14 rfl rfl kc_i5 ?_
  refine wn_newI 16 44 rfl rfl rfl (by decide) rfl (hz.mono (by omega)) (by decide) (Nat.le_of_ble_eq_true rfl) (Nat.le_of_ble_eq_true rfl) ?_
  refine ws_putfrF 19 rfl rfl rfl rfl rfl rfl rfl rfl rfl rfl ?_
  refine ws_aload_0 20 rfl rfl ?_
  refine ws_bipush 22 rfl rfl kc_b40 ?_
  refine wn_newI 24 45 rfl rfl rfl (by decide) rfl (hz.mono (by omega)) (by decide) (Nat.le_of_ble_eq_true rfl) (Nat.le_of_ble_eq_true rfl) ?_
  refine ws_putfrF 27 rfl rfl rfl rfl rfl rfl rfl rfl rfl rfl ?_
  refine ws_aload_0 28 rfl rfl ?_
  refine ws_iconst 29 rfl rfl kc_i5 ?_
  refine wn_newI 31 46 rfl rfl rfl (by decide) rfl (hz.mono (by omega)) (by decide) (Nat.le_of_ble_eq_true rfl) (Nat.le_of_ble_eq_true rfl) ?_
  refine ws_putfrF 34 rfl rfl rfl rfl rfl rfl rfl rfl rfl rfl ?_
  refine ws_aload_0 35 rfl rfl ?_
  refine ws_bipush 37 rfl rfl kc_b24 ?_
  refine wn_newI 39 47 rfl rfl rfl (by decide) rfl (hz.mono (by omega)) (by decide) (Nat.le_of_ble_eq_true rfl) (Nat.le_of_ble_eq_true rfl) ?_
  refine ws_putfrF 42 rfl rfl rfl rfl rfl rfl rfl rfl rfl rfl ?_
  refine ws_aload_0 43 rfl rfl ?_
  refine ws_iconst 44 rfl rfl kc_i2 ?_
  refine wn_newI 46 48 rfl rfl rfl (by decide) rfl (hz.mono (by omega)) (by decide) (Nat.le_of_ble_eq_true rfl) (Nat.le_of_ble_eq_true rfl) ?_
  refine ws_putfrF 49 rfl rfl rfl rfl rfl rfl rfl rfl rfl rfl ?_
  refine ws_aload_0 50 rfl rfl ?_
  refine ws_bipush 52 rfl rfl kc_b30 ?_
  refine wn_newI 54 49 rfl rfl rfl (by decide) rfl (hz.mono (by omega)) (by decide) (Nat.le_of_ble_eq_true rfl) (Nat.le_of_ble_eq_true rfl) ?_
  refine ws_putfrF 57 rfl rfl rfl rfl rfl rfl rfl rfl rfl rfl ?_
  refine ws_aload_0 58 rfl rfl ?_
  refine ws_iconst 59 rfl rfl kc_i2 ?_
  refine ws_putfi 62 rfl rfl rfl rfl rfl rfl rfl rfl ?_
  refine ws_aload_0 63 rfl rfl ?_
  refine ws_bipush 65 rfl rfl kc_b11 ?_
  refine wn_newI 67 50 rfl rfl rfl (by decide) rfl ((hz.mono (by omega)).w (by omega)) (by decide) (Nat.le_of_ble_eq_true rfl) (Nat.le_of_ble_eq_true rfl) ?_
  refine ws_putfrF 70 rfl rfl rfl rfl rfl rfl rfl rfl rfl rfl ?_
  refine ws_aload_0 71 rfl rfl ?_
  refine ws_bipush 73 rfl rfl kc_b11 ?_
  refine wn_newZ 75 51 rfl rfl rfl (by decide) rfl ((hz.mono (by omega)).w (by omega)) (by decide) (Nat.le_of_ble_eq_true rfl) (Nat.le_of_ble_eq_true rfl) ?_
  refine ws_putfrF 78 rfl rfl rfl rfl rfl rfl rfl rfl rfl rfl ?_
  refine ws_aload_0 79 rfl rfl ?_
  refine ws_bipush 81 rfl rfl kc_b7 ?_
  refine wn_newI 83 52 rfl rfl rfl (by decide) rfl ((hz.mono (by omega)).w (by omega)) (by decide) (Nat.le_of_ble_eq_true rfl) (Nat.le_of_ble_eq_true rfl) ?_
  refine ws_putfrF 86 rfl rfl rfl rfl rfl rfl rfl rfl rfl rfl ?_
  refine ws_aload_0 87 rfl rfl ?_
  refine ws_iconst 88 rfl rfl kc_i5 ?_
  refine wn_newI 90 53 rfl rfl rfl (by decide) rfl ((hz.mono (by omega)).w (by omega)) (by decide) (Nat.le_of_ble_eq_true rfl) (Nat.le_of_ble_eq_true rfl) ?_
  refine ws_putfrF 93 rfl rfl rfl rfl rfl rfl rfl rfl rfl rfl ?_
  refine ws_aload_0 94 rfl rfl ?_
  refine ws_iconst 95 rfl rfl kc_i5 ?_
  refine wn_newI 97 54 rfl rfl rfl (by decide) rfl ((hz.mono (by omega)).w (by omega)) (by decide) (Nat.le_of_ble_eq_true rfl) (Nat.le_of_ble_eq_true rfl) ?_
  refine ws_putfrF 100 rfl rfl rfl rfl rfl rfl rfl rfl rfl rfl ?_
  refine ws_aload_0 101 rfl rfl ?_
  refine ws_bipush 103 rfl rfl kc_b16 ?_
  refine wn_newL 105 55 rfl rfl rfl (by decide) rfl ((hz.mono (by omega)).w (by omega)) (by decide) (Nat.le_of_ble_eq_true rfl) (Nat.le_of_ble_eq_true rfl) ?_
  refine ws_putfrF 108 rfl rfl rfl rfl rfl rfl rfl rfl rfl rfl ?_
  refine ws_aload_0 109 rfl rfl ?_
  refine ws_bipush 111 rfl rfl kc_b32 ?_
  refine wn_newI 113 56 rfl rfl rfl (by decide) rfl ((hz.mono (by omega)).w (by omega)) (by decide) (Nat.le_of_ble_eq_true rfl) (Nat.le_of_ble_eq_true rfl) ?_
  refine ws_putfrF 116 rfl rfl rfl rfl rfl rfl rfl rfl rfl rfl ?_
  refine ws_aload_0 117 rfl rfl ?_
  refine ws_bipush 119 rfl rfl kc_b32 ?_
  refine wn_newI 121 57 rfl rfl rfl (by decide) rfl ((hz.mono (by omega)).w (by omega)) (by decide) (Nat.le_of_ble_eq_true rfl) (Nat.le_of_ble_eq_true rfl) ?_
  refine ws_putfrF 124 rfl rfl rfl rfl rfl rfl rfl rfl rfl rfl ?_
  refine ws_aload_0 125 rfl rfl ?_
  refine ws_bipush 127 rfl rfl kc_b12 ?_
  refine wn_newI 129 58 rfl rfl rfl (by decide) rfl ((hz.mono (by omega)).w (by omega)) (by decide) (Nat.le_of_ble_eq_true rfl) (Nat.le_of_ble_eq_true rfl) ?_
  refine ws_putfrF 132 rfl rfl rfl rfl rfl rfl rfl rfl rfl rfl ?_
  refine ws_aload_0 133 rfl rfl ?_
  refine ws_bipush 135 rfl rfl kc_b12 ?_
  refine wn_newI 137 59 rfl rfl rfl (by decide) rfl ((hz.mono (by omega)).w (by omega)) (by decide) (Nat.le_of_ble_eq_true rfl) (Nat.le_of_ble_eq_true rfl) ?_
  refine ws_putfrF 140 rfl rfl rfl rfl rfl rfl rfl rfl rfl rfl ?_
  refine ws_aload_0 141 rfl rfl ?_
  refine ws_sipush 144 rfl rfl kc_s7776 ?_
  refine wn_newI 146 60 rfl rfl rfl (by decide) rfl ((hz.mono (by omega)).w (by omega)) (by decide) (Nat.le_of_ble_eq_true rfl) (Nat.le_of_ble_eq_true rfl) ?_
  refine ws_putfrF 149 rfl rfl rfl rfl rfl rfl rfl rfl rfl rfl ?_
  refine ws_aload_0 150 rfl rfl ?_
  refine ws_sipush 153 rfl rfl kc_s260 ?_
  refine wn_newI 155 61 rfl rfl rfl (by decide) rfl ((hz.mono (by omega)).w (by omega)) (by decide) (Nat.le_of_ble_eq_true rfl) (Nat.le_of_ble_eq_true rfl) ?_
  refine ws_putfrF 158 rfl rfl rfl rfl rfl rfl rfl rfl rfl rfl ?_
  refine ws_aload_0 159 rfl rfl ?_
  refine ws_iconst 160 rfl rfl kc_i2 ?_
  refine wn_newZ 162 62 rfl rfl rfl (by decide) rfl ((hz.mono (by omega)).w (by omega)) (by decide) (Nat.le_of_ble_eq_true rfl) (Nat.le_of_ble_eq_true rfl) ?_
  refine ws_putfrF 165 rfl rfl rfl rfl rfl rfl rfl rfl rfl rfl ?_
  refine ws_iconst 166 rfl rfl kc_i0 ?_
  refine ws_istore_1 167 rfl rfl rfl rfl ?_
  exact l1 5 0 _ rfl (fun a b1 _ _ => wI_ne b1) (fun j hj => by rw [wI_eq, pk_un hj]) (by rw [wI_eq, pk_us]) (fun j => by rw [wI_ne (by decide), if_neg (by omega), if_neg (by omega)]; exact z0 43 (by omega) j) (fun _ h => by omega)
