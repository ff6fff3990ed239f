/-! ===== constructors: scenes, passers, windows, lottery ===== -/
def ini0 (j : Nat) : Nat := [5, 10, 0].getD (j / 5) 0
def ini3 (j : Nat) : Nat := [0, 2, 3, 0, 5, 0].getD (j % 6) 0
section INIT2
variable {E : xEx} {I : Nat → Nat → Int32} {L : Nat → Nat → Int64}
theorem i_sc5 (hE : xEok E) (hz : zF 6 I L) : xC E 2 24 [.ref 5] ([.inr (.inl (5, [.ref 1, .null, .null, .null, .null, .null, .null, .null])), .inr (.inl (1, [.ref 2, .ref 3, .ref 4, .int 0])), .inl (.int, 40), .inl (.int, 16), .inl (.long, 40), .inr (.inl (3, xdf 3))], I, L) (fun r t => r = none ∧ ∃ I', t = ([.inr (.inl (5, [.ref 1, .null, .null, .null, .null, .null, .null, .null])), .inr (.inl (1, [.ref 2, .ref 3, .ref 4, .int 0])), .inl (.int, 40), .inl (.int, 16), .inl (.long, 40), .inr (.inl (3, [.ref 6, .ref 7, .ref 8, .ref 9, .ref 10, .ref 11, .int 0, .int 0])), .inl (.int, 15), .inl (.int, 5), .inl (.int, 5), .inl (.int, 24), .inl (.int, 20), .inl (.int, 11)], I', L) ∧ (∀ a, a < 5 ∨ 9 < a → I' a = I a) ∧ (∀ j, j < 15 → I' 6 j = nI (ini0 j)) ∧ (∀ j, j < 5 → I' 7 j = nI 5) ∧ (∀ j, j < 5 → I' 8 j = -6) ∧ (∀ j, j < 24 → I' 9 j = nI (ini3 j)) ∧ I' 5 6 = nI 0 ∧ I' 5 7 = nI 2) := by
  refine xC.mk [some (.ref 5), none] rfl ?_
  have l2 : ∀ (m k : Nat) (I' : Nat → Nat → Int32), k + m = 24 → (∀ a, a < 5 ∨ 6 < a → a ≠ 9 → I' a = I a) → (∀ j, j < 15 → I' 6 j = nI (ini0 j)) → (∀ j, j < k → I' 9 j = nI (ini3 j)) → I' 5 6 = nI 0 → I' 5 7 = nI 2 → xW E 2 24 92 [some (.ref 5), some (.int (nI k))] [] ([.inr (.inl (5, [.ref 1, .null, .null, .null, .null, .null, .null, .null])), .inr (.inl (1, [.ref 2, .ref 3, .ref 4, .int 0])), .inl (.int, 40), .inl (.int, 16), .inl (.long, 40), .inr (.inl (3, [.ref 6, .ref 7, .ref 8, .ref 9, .ref 10, .ref 11, .int 0, .int 0])), .inl (.int, 15), .inl (.int, 5), .inl (.int, 5), .inl (.int, 24), .inl (.int, 20), .inl (.int, 11)], I', L) 6 80 (fun r t => r = none ∧ ∃ I', t = ([.inr (.inl (5, [.ref 1, .null, .null, .null, .null, .null, .null, .null])), .inr (.inl (1, [.ref 2, .ref 3, .ref 4, .int 0])), .inl (.int, 40), .inl (.int, 16), .inl (.long, 40), .inr (.inl (3, [.ref 6, .ref 7, .ref 8, .ref 9, .ref 10, .ref 11, .int 0, .int 0])), .inl (.int, 15), .inl (.int, 5), .inl (.int, 5), .inl (.int, 24), .inl (.int, 20), .inl (.int, 11)], I', L) ∧ (∀ a, a < 5 ∨ 9 < a → I' a = I a) ∧ (∀ j, j < 15 → I' 6 j = nI (ini0 j)) ∧ (∀ j, j < 5 → I' 7 j = nI 5) ∧ (∀ j, j < 5 → I' 8 j = -6) ∧ (∀ j, j < 24 → I' 9 j = nI (ini3 j)) ∧ I' 5 6 = nI 0 ∧ I' 5 7 = nI 2) := by
    intro m
    induction m with
    | zero =>
      intro k I' hk hf h1 h4 h6 h7
      obtain rfl : k = 24 := by omega
      refine ws_iload_1 93 rfl rfl ?_
      refine ws_aload_0 94 rfl rfl ?_
      refine ws_getfr 97 rfl rfl rfl rfl rfl ?_
      refine ws_alen 98 rfl rfl rfl rfl ?_
      refine ws_icmp_gen 121 101 rfl rfl rfl (by omega) (by omega) (fun h9 => ?_) (fun h9 => absurd h9 (by omega))
      refine ws_aload_0 122 rfl rfl ?_
      refine ws_getfr 125 rfl rfl rfl rfl rfl ?_
      refine ws_iconst 126 rfl rfl kc_i5 ?_
      refine ws_invS2 129 rfl rfl rfl (c_fill 7 5 (nI 5) rfl (by omega)) rfl rfl rfl ?_
      rintro _ _ ⟨rfl, I2, rfl, hf2, g2⟩
      refine ws_aload_0 130 rfl rfl ?_
      refine ws_getfr 133 rfl rfl rfl rfl rfl ?_
      refine ws_bipush 135 rfl rfl kc_bm6 ?_
      refine ws_invS2 138 rfl rfl rfl (c_fill 8 5 (-6) rfl (by omega)) rfl rfl rfl ?_
      rintro _ _ ⟨rfl, I3, rfl, hf3, g3⟩
      refine ws_vret rfl rfl rfl (Nat.le_of_ble_eq_true rfl) ?_
      refine ⟨rfl, I3, rfl, fun a ha => ?_, fun j hj => ?_, fun j hj => ?_, g3, fun j hj => ?_, ?_, ?_⟩
      · rw [hf3 a (by omega), hf2 a (by omega)]; exact hf a (by omega) (by omega)
      · rw [hf3 6 (by decide), hf2 6 (by decide)]; exact h1 j hj
      · rw [hf3 7 (by decide)]; exact g2 j hj
      · rw [hf3 9 (by decide), hf2 9 (by decide)]; exact h4 j hj
      · rw [hf3 5 (by decide), hf2 5 (by decide)]; exact h6
      · rw [hf3 5 (by decide), hf2 5 (by decide)]; exact h7
    | succ m ih =>
      intro k I' hk hf h1 h4 h6 h7
      refine ws_iload_1 93 rfl rfl ?_
      refine ws_aload_0 94 rfl rfl ?_
      refine ws_getfr 97 rfl rfl rfl rfl rfl ?_
      refine ws_alen 98 rfl rfl rfl rfl ?_
      refine ws_icmp_gen 121 101 rfl rfl rfl (by omega) (by omega) (fun h9 => absurd h9 (by omega)) (fun h9 => ?_)
      refine ws_aload_0 102 rfl rfl ?_
      refine ws_getfr 105 rfl rfl rfl rfl rfl ?_
      refine ws_iload_1 106 rfl rfl ?_
      refine ws_getsN 109 rfl rfl rfl rfl ?_
      refine ws_iload_1 110 rfl rfl ?_
      refine ws_bipush 112 rfl rfl kc_b6 ?_
      refine ws_irem 113 rfl rfl (kn_ne0 (by omega) (by omega)) (pk_rem (by omega) (by omega) (by omega)) ?_
      refine ws_xaldn 114 rfl rfl 2 rfl hE.2.1 (by omega) (by omega) rfl ?_
      refine ws_iastn 115 rfl rfl rfl (by omega) (by omega) ?_
      refine ws_iinc_1 118 rfl rfl (ki_1 _) rfl rfl ?_
      refine ws_goto 92 rfl rfl ?_
      exact ih (k + 1) _ (by omega) (fun a ha ha4 => by rw [wI_ne ha4]; exact hf a ha ha4) (fun j hj => by rw [wI_ne (by decide)]; exact h1 j hj) (fl h4 rfl) (by rw [wI_ne (by decide)]; exact h6) (by rw [wI_ne (by decide)]; exact h7)
  have l1 : ∀ (m k : Nat) (I' : Nat → Nat → Int32), k + m = 15 → (∀ a, a < 5 ∨ 5 < a → a ≠ 6 → I' a = I a) → (∀ j, j < k → I' 6 j = nI (ini0 j)) → I' 5 6 = nI 0 → I' 5 7 = nI 2 → xW E 2 24 62 [some (.ref 5), some (.int (nI k))] [] ([.inr (.inl (5, [.ref 1, .null, .null, .null, .null, .null, .null, .null])), .inr (.inl (1, [.ref 2, .ref 3, .ref 4, .int 0])), .inl (.int, 40), .inl (.int, 16), .inl (.long, 40), .inr (.inl (3, [.ref 6, .ref 7, .ref 8, .ref 9, .ref 10, .ref 11, .int 0, .int 0])), .inl (.int, 15), .inl (.int, 5), .inl (.int, 5), .inl (.int, 24), .inl (.int, 20), .inl (.int, 11)], I', L) 6 80 (fun r t => r = none ∧ ∃ I', t = ([.inr (.inl (5, [.ref 1, .null, .null, .null, .null, .null, .null, .null])), .inr (.inl (1, [.ref 2, .ref 3, .ref 4, .int 0])), .inl (.int, 40), .inl (.int, 16), .inl (.long, 40), .inr (.inl (3, [.ref 6, .ref 7, .ref 8, .ref 9, .ref 10, .ref 11, .int 0, .int 0])), .inl (.int, 15), .inl (.int, 5), .inl (.int, 5), .inl (.int, 24), .inl (.int, 20), .inl (.int, 11)], I', L) ∧ (∀ a, a < 5 ∨ 9 < a → I' a = I a) ∧ (∀ j, j < 15 → I' 6 j = nI (ini0 j)) ∧ (∀ j, j < 5 → I' 7 j = nI 5) ∧ (∀ j, j < 5 → I' 8 j = -6) ∧ (∀ j, j < 24 → I' 9 j = nI (ini3 j)) ∧ I' 5 6 = nI 0 ∧ I' 5 7 = nI 2) := by
    intro m
    induction m with
    | zero =>
      intro k I' hk hf h1 h6 h7
      obtain rfl : k = 15 := by omega
      refine ws_iload_1 63 rfl rfl ?_
      refine ws_aload_0 64 rfl rfl ?_
      refine ws_getfr 67 rfl rfl rfl rfl rfl ?_
      refine ws_alen 68 rfl rfl rfl rfl ?_
      refine ws_icmp_gen 90 71 rfl rfl rfl (by omega) (by omega) (fun h9 => ?_) (fun h9 => absurd h9 (by omega))
      refine ws_iconst 91 rfl rfl kc_i0 ?_
      refine ws_istore_1 92 rfl rfl rfl rfl ?_
      exact l2 24 0 I' rfl (fun a ha _ => hf a (by omega) (by omega)) h1 (fun _ h => by omega) h6 h7
    | succ m ih =>
      intro k I' hk hf h1 h6 h7
      refine ws_iload_1 63 rfl rfl ?_
      refine ws_aload_0 64 rfl rfl ?_
      refine ws_getfr 67 rfl rfl rfl rfl rfl ?_
      refine ws_alen 68 rfl rfl rfl rfl ?_
      refine ws_icmp_gen 90 71 rfl rfl rfl (by omega) (by omega) (fun h9 => absurd h9 (by omega)) (fun h9 => ?_)
      refine ws_aload_0 72 rfl rfl ?_
      refine ws_getfr 75 rfl rfl rfl rfl rfl ?_
      refine ws_iload_1 76 rfl rfl ?_
      refine ws_getsN 79 rfl rfl rfl rfl ?_
      refine ws_iload_1 80 rfl rfl ?_
      refine ws_iconst 81 rfl rfl kc_i5 ?_
      refine ws_idiv 82 rfl rfl (kn_ne0 (by omega) (by omega)) (pk_div (by omega) (by omega) (by omega)) ?_
      refine ws_xaldn 83 rfl rfl 1 rfl hE.1 (by omega) (by omega) rfl ?_
      refine ws_iastn 84 rfl rfl rfl (by omega) (by omega) ?_
      refine ws_iinc_1 87 rfl rfl (ki_1 _) rfl rfl ?_
      refine ws_goto 62 rfl rfl ?_
      exact ih (k + 1) _ (by omega) (fun a ha ha4 => by rw [wI_ne ha4]; exact hf a ha ha4) (fl h1 rfl) (by rw [wI_ne (by decide)]; exact h6) (by rw [wI_ne (by decide)]; exact h7)
  refine ws_aload_0 1 rfl rfl ?_
  refine ws_oinit 4 rfl rfl rfl (by omega) (by decide) ?_
  refine ws_aload_0 5 rfl rfl ?_
  refine ws_bipush 7 rfl rfl kc_b15 ?_
  refine wn_newI 9 6 rfl rfl rfl (by decide) rfl hz (by decide) (Nat.le_of_ble_eq_true rfl) (Nat.le_of_ble_eq_true rfl) ?_
  refine ws_putfrF 12 rfl rfl rfl rfl rfl rfl rfl rfl rfl rfl ?_
  refine ws_aload_0 13 rfl rfl ?_
  refine ws_iconst 14 rfl rfl kc_i5 ?_
  refine wn_newI 16 7 rfl rfl rfl (by decide) rfl (hz.mono (by omega)) (by decide) (Nat.le_of_ble_eq_true rfl) (Nat.le_of_ble_eq_true rfl) ?_
  refine ws_putfrF 19 rfl rfl rfl rfl rfl rfl rfl rfl rfl rfl ?_
  refine ws_aload_0 20 rfl rfl ?_
  refine ws_iconst 21 rfl rfl kc_i5 ?_
  refine wn_newI 23 8 rfl rfl rfl (by decide) rfl (hz.mono (by omega)) (by decide) (Nat.le_of_ble_eq_true rfl) (Nat.le_of_ble_eq_true rfl) ?_
  refine ws_putfrF 26 rfl rfl rfl rfl rfl rfl rfl rfl rfl rfl ?_
  refine ws_aload_0 27 rfl rfl ?_
  refine ws_bipush 29 rfl rfl kc_b24 ?_
  refine wn_newI 31 9 rfl rfl rfl (by decide) rfl (hz.mono (by omega)) (by decide) (Nat.le_of_ble_eq_true rfl) (Nat.le_of_ble_eq_true rfl) ?_
  refine ws_putfrF 34 rfl rfl rfl rfl rfl rfl rfl rfl rfl rfl ?_
  refine ws_aload_0 35 rfl rfl ?_
  refine ws_bipush 37 rfl rfl kc_b20 ?_
  refine wn_newI 39 10 rfl rfl rfl (by decide) rfl (hz.mono (by omega)) (by decide) (Nat.le_of_ble_eq_true rfl) (Nat.le_of_ble_eq_true rfl) ?_
  refine ws_putfrF 42 rfl rfl rfl rfl rfl rfl rfl rfl rfl rfl ?_
  refine ws_aload_0 43 rfl rfl ?_
  refine ws_bipush 45 rfl rfl kc_b11 ?_
  refine wn_newI 47 11 rfl rfl rfl (by decide) rfl (hz.mono (by omega)) (by decide) (Nat.le_of_ble_eq_true rfl) (Nat.le_of_ble_eq_true rfl) ?_
  refine ws_putfrF 50 rfl rfl rfl rfl rfl rfl rfl rfl rfl rfl ?_
  refine ws_aload_0 51 rfl rfl ?_
  refine ws_iconst 52 rfl rfl kc_i0 ?_
  refine ws_putfi 55 rfl rfl rfl rfl rfl rfl rfl rfl ?_
  refine ws_aload_0 56 rfl rfl ?_
  refine ws_iconst 57 rfl rfl kc_i2 ?_
  refine ws_putfi 60 rfl rfl rfl rfl rfl rfl rfl rfl ?_
  refine ws_iconst 61 rfl rfl kc_i0 ?_
  refine ws_istore_1 62 rfl rfl rfl rfl ?_
  exact l1 15 0 _ rfl (fun a ha _ => by rw [wI_ne (by omega), wI_ne (by omega)]) (fun _ h => by omega) (by rw [wI_eq, pk_un (by decide), wI_eq, pk_us]) (by rw [wI_eq, pk_us])
theorem i_sc28 (hE : xEok E) (hz : zF 29 I L) : xC E 2 24 [.ref 28] ([.inr (.inl (5, [.ref 1, .ref 5, .ref 12, .ref 13, .ref 14, .ref 19, .ref 26, .ref 27])), .inr (.inl (1, [.ref 2, .ref 3, .ref 4, .int 0])), .inl (.int, 40), .inl (.int, 16), .inl (.long, 40), .inr (.inl (3, [.ref 6, .ref 7, .ref 8, .ref 9, .ref 10, .ref 11, .int 0, .int 0])), .inl (.int, 15), .inl (.int, 5), .inl (.int, 5), .inl (.int, 24), .inl (.int, 20), .inl (.int, 11), .inr (.inr [.null, .null]), .inl (.boolean, 2), .inr (.inl (2, [.ref 5, .ref 15, .ref 16, .ref 17, .ref 18, .int 0, .int 0, .int 0])), .inl (.int, 5), .inl (.int, 5), .inl (.int, 5), .inl (.int, 32), .inr (.inl (4, [.ref 14, .ref 20, .ref 21, .int 0, .ref 22, .int 0, .ref 23, .ref 24, .ref 25, .int 0, .int 0, .int 0])), .inl (.int, 1546), .inl (.int, 1546), .inl (.int, 1546), .inl (.int, 5), .inl (.int, 5), .inl (.int, 40), .inr (.inl (0, [.long 0, .long 0])), .inl (.int, 5), .inr (.inl (3, xdf 3))], I, L) (fun r t => r = none ∧ ∃ I', t = ([.inr (.inl (5, [.ref 1, .ref 5, .ref 12, .ref 13, .ref 14, .ref 19, .ref 26, .ref 27])), .inr (.inl (1, [.ref 2, .ref 3, .ref 4, .int 0])), .inl (.int, 40), .inl (.int, 16), .inl (.long, 40), .inr (.inl (3, [.ref 6, .ref 7, .ref 8, .ref 9, .ref 10, .ref 11, .int 0, .int 0])), .inl (.int, 15), .inl (.int, 5), .inl (.int, 5), .inl (.int, 24), .inl (.int, 20), .inl (.int, 11), .inr (.inr [.null, .null]), .inl (.boolean, 2), .inr (.inl (2, [.ref 5, .ref 15, .ref 16, .ref 17, .ref 18, .int 0, .int 0, .int 0])), .inl (.int, 5), .inl (.int, 5), .inl (.int, 5), .inl (.int, 32), .inr (.inl (4, [.ref 14, .ref 20, .ref 21, .int 0, .ref 22, .int 0, .ref 23, .ref 24, .ref 25, .int 0, .int 0, .int 0])), .inl (.int, 1546), .inl (.int, 1546), .inl (.int, 1546), .inl (.int, 5), .inl (.int, 5), .inl (.int, 40), .inr (.inl (0, [.long 0, .long 0])), .inl (.int, 5), .inr (.inl (3, [.ref 29, .ref 30, .ref 31, .ref 32, .ref 33, .ref 34, .int 0, .int 0])), .inl (.int, 15), .inl (.int, 5), .inl (.int, 5), .inl (.int, 24), .inl (.int, 20), .inl (.int, 11)], I', L) ∧ (∀ a, a < 28 ∨ 32 < a → I' a = I a) ∧ (∀ j, j < 15 → I' 29 j = nI (ini0 j)) ∧ (∀ j, j < 5 → I' 30 j = nI 5) ∧ (∀ j, j < 5 → I' 31 j = -6) ∧ (∀ j, j < 24 → I' 32 j = nI (ini3 j)) ∧ I' 28 6 = nI 0 ∧ I' 28 7 = nI 2) := by
  refine xC.mk [some (.ref 28), none] rfl ?_
  have l2 : ∀ (m k : Nat) (I' : Nat → Nat → Int32), k + m = 24 → (∀ a, a < 28 ∨ 29 < a → a ≠ 32 → I' a = I a) → (∀ j, j < 15 → I' 29 j = nI (ini0 j)) → (∀ j, j < k → I' 32 j = nI (ini3 j)) → I' 28 6 = nI 0 → I' 28 7 = nI 2 → xW E 2 24 92 [some (.ref 28), some (.int (nI k))] [] ([.inr (.inl (5, [.ref 1, .ref 5, .ref 12, .ref 13, .ref 14, .ref 19, .ref 26, .ref 27])), .inr (.inl (1, [.ref 2, .ref 3, .ref 4, .int 0])), .inl (.int, 40), .inl (.int, 16), .inl (.long, 40), .inr (.inl (3, [.ref 6, .ref 7, .ref 8, .ref 9, .ref 10, .ref 11, .int 0, .int 0])), .inl (.int, 15), .inl (.int, 5), .inl (.int, 5), .inl (.int, 24), .inl (.int, 20), .inl (.int, 11), .inr (.inr [.null, .null]), .inl (.boolean, 2), .inr (.inl (2, [.ref 5, .ref 15, .ref 16, .ref 17, .ref 18, .int 0, .int 0, .int 0])), .inl (.int, 5), .inl (.int, 5), .inl (.int, 5), .inl (.int, 32), .inr (.inl (4, [.ref 14, .ref 20, .ref 21, .int 0, .ref 22, .int 0, .ref 23, .ref 24, .ref 25, .int 0, .int 0, .int 0])), .inl (.int, 1546), .inl (.int, 1546), .inl (.int, 1546), .inl (.int, 5), .inl (.int, 5), .inl (.int, 40), .inr (.inl (0, [.long 0, .long 0])), .inl (.int, 5), .inr (.inl (3, [.ref 29, .ref 30, .ref 31, .ref 32, .ref 33, .ref 34, .int 0, .int 0])), .inl (.int, 15), .inl (.int, 5), .inl (.int, 5), .inl (.int, 24), .inl (.int, 20), .inl (.int, 11)], I', L) 6 80 (fun r t => r = none ∧ ∃ I', t = ([.inr (.inl (5, [.ref 1, .ref 5, .ref 12, .ref 13, .ref 14, .ref 19, .ref 26, .ref 27])), .inr (.inl (1, [.ref 2, .ref 3, .ref 4, .int 0])), .inl (.int, 40), .inl (.int, 16), .inl (.long, 40), .inr (.inl (3, [.ref 6, .ref 7, .ref 8, .ref 9, .ref 10, .ref 11, .int 0, .int 0])), .inl (.int, 15), .inl (.int, 5), .inl (.int, 5), .inl (.int, 24), .inl (.int, 20), .inl (.int, 11), .inr (.inr [.null, .null]), .inl (.boolean, 2), .inr (.inl (2, [.ref 5, .ref 15, .ref 16, .ref 17, .ref 18, .int 0, .int 0, .int 0])), .inl (.int, 5), .inl (.int, 5), .inl (.int, 5), .inl (.int, 32), .inr (.inl (4, [.ref 14, .ref 20, .ref 21, .int 0, .ref 22, .int 0, .ref 23, .ref 24, .ref 25, .int 0, .int 0, .int 0])), .inl (.int, 1546), .inl (.int, 1546), .inl (.int, 1546), .inl (.int, 5), .inl (.int, 5), .inl (.int, 40), .inr (.inl (0, [.long 0, .long 0])), .inl (.int, 5), .inr (.inl (3, [.ref 29, .ref 30, .ref 31, .ref 32, .ref 33, .ref 34, .int 0, .int 0])), .inl (.int, 15), .inl (.int, 5), .inl (.int, 5), .inl (.int, 24), .inl (.int, 20), .inl (.int, 11)], I', L) ∧ (∀ a, a < 28 ∨ 32 < a → I' a = I a) ∧ (∀ j, j < 15 → I' 29 j = nI (ini0 j)) ∧ (∀ j, j < 5 → I' 30 j = nI 5) ∧ (∀ j, j < 5 → I' 31 j = -6) ∧ (∀ j, j < 24 → I' 32 j = nI (ini3 j)) ∧ I' 28 6 = nI 0 ∧ I' 28 7 = nI 2) := by
    intro m
    induction m with
    | zero =>
      intro k I' hk hf h1 h4 h6 h7
      obtain rfl : k = 24 := by omega
      refine ws_iload_1 93 rfl rfl ?_
      refine ws_aload_0 94 rfl rfl ?_
      refine ws_getfr 97 rfl rfl rfl rfl rfl ?_
      refine ws_alen 98 rfl rfl rfl rfl ?_
      refine ws_icmp_gen 121 101 rfl rfl rfl (by omega) (by omega) (fun h9 => ?_) (fun h9 => absurd h9 (by omega))
      refine ws_aload_0 122 rfl rfl ?_
      refine ws_getfr 125 rfl rfl rfl rfl rfl ?_
      refine ws_iconst 126 rfl rfl kc_i5 ?_
      refine ws_invS2 129 rfl rfl rfl (c_fill 30 5 (nI 5) rfl (by omega)) rfl rfl rfl ?_
      rintro _ _ ⟨rfl, I2, rfl, hf2, g2⟩
      refine ws_aload_0 130 rfl rfl ?_
      refine ws_getfr 133 rfl rfl rfl rfl rfl ?_
      refine ws_bipush 135 rfl rfl kc_bm6 ?_
      refine ws_invS2 138 rfl rfl rfl (c_fill 31 5 (-6) rfl (by omega)) rfl rfl rfl ?_
      rintro _ _ ⟨rfl, I3, rfl, hf3, g3⟩
      refine ws_vret rfl rfl rfl (Nat.le_of_ble_eq_true rfl) ?_
      refine ⟨rfl, I3, rfl, fun a ha => ?_, fun j hj => ?_, fun j hj => ?_, g3, fun j hj => ?_, ?_, ?_⟩
      · rw [hf3 a (by omega), hf2 a (by omega)]; exact hf a (by omega) (by omega)
      · rw [hf3 29 (by decide), hf2 29 (by decide)]; exact h1 j hj
      · rw [hf3 30 (by decide)]; exact g2 j hj
      · rw [hf3 32 (by decide), hf2 32 (by decide)]; exact h4 j hj
      · rw [hf3 28 (by decide), hf2 28 (by decide)]; exact h6
      · rw [hf3 28 (by decide), hf2 28 (by decide)]; exact h7
    | succ m ih =>
      intro k I' hk hf h1 h4 h6 h7
      refine ws_iload_1 93 rfl rfl ?_
      refine ws_aload_0 94 rfl rfl ?_
      refine ws_getfr 97 rfl rfl rfl rfl rfl ?_
      refine ws_alen 98 rfl rfl rfl rfl ?_
      refine ws_icmp_gen 121 101 rfl rfl rfl (by omega) (by omega) (fun h9 => absurd h9 (by omega)) (fun h9 => ?_)
      refine ws_aload_0 102 rfl rfl ?_
      refine ws_getfr 105 rfl rfl rfl rfl rfl ?_
      refine ws_iload_1 106 rfl rfl ?_
      refine ws_getsN 109 rfl rfl rfl rfl ?_
      refine ws_iload_1 110 rfl rfl ?_
      refine ws_bipush 112 rfl rfl kc_b6 ?_
      refine ws_irem 113 rfl rfl (kn_ne0 (by omega) (by omega)) (pk_rem (by omega) (by omega) (by omega)) ?_
      refine ws_xaldn 114 rfl rfl 2 rfl hE.2.1 (by omega) (by omega) rfl ?_
      refine ws_iastn 115 rfl rfl rfl (by omega) (by omega) ?_
      refine ws_iinc_1 118 rfl rfl (ki_1 _) rfl rfl ?_
      refine ws_goto 92 rfl rfl ?_
      exact ih (k + 1) _ (by omega) (fun a ha ha4 => by rw [wI_ne ha4]; exact hf a ha ha4) (fun j hj => by rw [wI_ne (by decide)]; exact h1 j hj) (fl h4 rfl) (by rw [wI_ne (by decide)]; exact h6) (by rw [wI_ne (by decide)]; exact h7)
  have l1 : ∀ (m k : Nat) (I' : Nat → Nat → Int32), k + m = 15 → (∀ a, a < 28 ∨ 28 < a → a ≠ 29 → I' a = I a) → (∀ j, j < k → I' 29 j = nI (ini0 j)) → I' 28 6 = nI 0 → I' 28 7 = nI 2 → xW E 2 24 62 [some (.ref 28), some (.int (nI k))] [] ([.inr (.inl (5, [.ref 1, .ref 5, .ref 12, .ref 13, .ref 14, .ref 19, .ref 26, .ref 27])), .inr (.inl (1, [.ref 2, .ref 3, .ref 4, .int 0])), .inl (.int, 40), .inl (.int, 16), .inl (.long, 40), .inr (.inl (3, [.ref 6, .ref 7, .ref 8, .ref 9, .ref 10, .ref 11, .int 0, .int 0])), .inl (.int, 15), .inl (.int, 5), .inl (.int, 5), .inl (.int, 24), .inl (.int, 20), .inl (.int, 11), .inr (.inr [.null, .null]), .inl (.boolean, 2), .inr (.inl (2, [.ref 5, .ref 15, .ref 16, .ref 17, .ref 18, .int 0, .int 0, .int 0])), .inl (.int, 5), .inl (.int, 5), .inl (.int, 5), .inl (.int, 32), .inr (.inl (4, [.ref 14, .ref 20, .ref 21, .int 0, .ref 22, .int 0, .ref 23, .ref 24, .ref 25, .int 0, .int 0, .int 0])), .inl (.int, 1546), .inl (.int, 1546), .inl (.int, 1546), .inl (.int, 5), .inl (.int, 5), .inl (.int, 40), .inr (.inl (0, [.long 0, .long 0])), .inl (.int, 5), .inr (.inl (3, [.ref 29, .ref 30, .ref 31, .ref 32, .ref 33, .ref 34, .int 0, .int 0])), .inl (.int, 15), .inl (.int, 5), .inl (.int, 5), .inl (.int, 24), .inl (.int, 20), .inl (.int, 11)], I', L) 6 80 (fun r t => r = none ∧ ∃ I', t = ([.inr (.inl (5, [.ref 1, .ref 5, .ref 12, .ref 13, .ref 14, .ref 19, .ref 26, .ref 27])), .inr (.inl (1, [.ref 2, .ref 3, .ref 4, .int 0])), .inl (.int, 40), .inl (.int, 16), .inl (.long, 40), .inr (.inl (3, [.ref 6, .ref 7, .ref 8, .ref 9, .ref 10, .ref 11, .int 0, .int 0])), .inl (.int, 15), .inl (.int, 5), .inl (.int, 5), .inl (.int, 24), .inl (.int, 20), .inl (.int, 11), .inr (.inr [.null, .null]), .inl (.boolean, 2), .inr (.inl (2, [.ref 5, .ref 15, .ref 16, .ref 17, .ref 18, .int 0, .int 0, .int 0])), .inl (.int, 5), .inl (.int, 5), .inl (.int, 5), .inl (.int, 32), .inr (.inl (4, [.ref 14, .ref 20, .ref 21, .int 0, .ref 22, .int 0, .ref 23, .ref 24, .ref 25, .int 0, .int 0, .int 0])), .inl (.int, 1546), .inl (.int, 1546), .inl (.int, 1546), .inl (.int, 5), .inl (.int, 5), .inl (.int, 40), .inr (.inl (0, [.long 0, .long 0])), .inl (.int, 5), .inr (.inl (3, [.ref 29, .ref 30, .ref 31, .ref 32, .ref 33, .ref 34, .int 0, .int 0])), .inl (.int, 15), .inl (.int, 5), .inl (.int, 5), .inl (.int, 24), .inl (.int, 20), .inl (.int, 11)], I', L) ∧ (∀ a, a < 28 ∨ 32 < a → I' a = I a) ∧ (∀ j, j < 15 → I' 29 j = nI (ini0 j)) ∧ (∀ j, j < 5 → I' 30 j = nI 5) ∧ (∀ j, j < 5 → I' 31 j = -6) ∧ (∀ j, j < 24 → I' 32 j = nI (ini3 j)) ∧ I' 28 6 = nI 0 ∧ I' 28 7 = nI 2) := by
    intro m
    induction m with
    | zero =>
      intro k I' hk hf h1 h6 h7
      obtain rfl : k = 15 := by omega
      refine ws_iload_1 63 rfl rfl ?_
      refine ws_aload_0 64 rfl rfl ?_
      refine ws_getfr 67 rfl rfl rfl rfl rfl ?_
      refine ws_alen 68 rfl rfl rfl rfl ?_
      refine ws_icmp_gen 90 71 rfl rfl rfl (by omega) (by omega) (fun h9 => ?_) (fun h9 => absurd h9 (by omega))
      refine ws_iconst 91 rfl rfl kc_i0 ?_
      refine ws_istore_1 92 rfl rfl rfl rfl ?_
      exact l2 24 0 I' rfl (fun a ha _ => hf a (by omega) (by omega)) h1 (fun _ h => by omega) h6 h7
    | succ m ih =>
      intro k I' hk hf h1 h6 h7
      refine ws_iload_1 63 rfl rfl ?_
      refine ws_aload_0 64 rfl rfl ?_
      refine ws_getfr 67 rfl rfl rfl rfl rfl ?_
      refine ws_alen 68 rfl rfl rfl rfl ?_
      refine ws_icmp_gen 90 71 rfl rfl rfl (by omega) (by omega) (fun h9 => absurd h9 (by omega)) (fun h9 => ?_)
      refine ws_aload_0 72 rfl rfl ?_
      refine ws_getfr 75 rfl rfl rfl rfl rfl ?_
      refine ws_iload_1 76 rfl rfl ?_
      refine ws_getsN 79 rfl rfl rfl rfl ?_
      refine ws_iload_1 80 rfl rfl ?_
      refine ws_iconst 81 rfl rfl kc_i5 ?_
      refine ws_idiv 82 rfl rfl (kn_ne0 (by omega) (by omega)) (pk_div (by omega) (by omega) (by omega)) ?_
      refine ws_xaldn 83 rfl rfl 1 rfl hE.1 (by omega) (by omega) rfl ?_
      refine ws_iastn 84 rfl rfl rfl (by omega) (by omega) ?_
      refine ws_iinc_1 87 rfl rfl (ki_1 _) rfl rfl ?_
      refine ws_goto 62 rfl rfl ?_
      exact ih (k + 1) _ (by omega) (fun a ha ha4 => by rw [wI_ne ha4]; exact hf a ha ha4) (fl h1 rfl) (by rw [wI_ne (by decide)]; exact h6) (by rw [wI_ne (by decide)]; exact h7)
  refine ws_aload_0 1 rfl rfl ?_
  refine ws_oinit 4 rfl rfl rfl (by omega) (by decide) ?_
  refine ws_aload_0 5 rfl rfl ?_
  refine ws_bipush 7 rfl rfl kc_b15 ?_
  refine wn_newI 9 29 rfl rfl rfl (by decide) rfl hz (by decide) (Nat.le_of_ble_eq_true rfl) (Nat.le_of_ble_eq_true rfl) ?_
  refine ws_putfrF 12 rfl rfl rfl rfl rfl rfl rfl rfl rfl rfl ?_
  refine ws_aload_0 13 rfl rfl ?_
  refine ws_iconst 14 rfl rfl kc_i5 ?_
  refine wn_newI 16 30 rfl rfl rfl (by decide) rfl (hz.mono (by omega)) (by decide) (Nat.le_of_ble_eq_true rfl) (Nat.le_of_ble_eq_true rfl) ?_
  refine ws_putfrF 19 rfl rfl rfl rfl rfl rfl rfl rfl rfl rfl ?_
  refine ws_aload_0 20 rfl rfl ?_
  refine ws_iconst 21 rfl rfl kc_i5 ?_
  refine wn_newI 23 31 rfl rfl rfl (by decide) rfl (hz.mono (by omega)) (by decide) (Nat.le_of_ble_eq_true rfl) (Nat.le_of_ble_eq_true rfl) ?_
  refine ws_putfrF 26 rfl rfl rfl rfl rfl rfl rfl rfl rfl rfl ?_
  refine ws_aload_0 27 rfl rfl ?_
  refine ws_bipush 29 rfl rfl kc_b24 ?_
  refine wn_newI 31 32 rfl rfl rfl (by decide) rfl (hz.mono (by omega)) (by decide) (Nat.le_of_ble_eq_true rfl) (Nat.le_of_ble_eq_true rfl) ?_
  refine ws_putfrF 34 rfl rfl rfl rfl rfl rfl rfl rfl rfl rfl ?_
  refine ws_aload_0 35 rfl rfl ?_
  refine ws_bipush 37 rfl rfl kc_b20 ?_
  refine wn_newI 39 33 rfl rfl rfl (by decide) rfl (hz.mono (by omega)) (by decide) (Nat.le_of_ble_eq_true rfl) (Nat.le_of_ble_eq_true rfl) ?_
  refine ws_putfrF 42 rfl rfl rfl rfl rfl rfl rfl rfl rfl rfl ?_
  refine ws_aload_0 43 rfl rfl ?_
  refine ws_bipush 45 rfl rfl kc_b11 ?_
  refine wn_newI 47 34 rfl rfl rfl (by decide) rfl (hz.mono (by omega)) (by decide) (Nat.le_of_ble_eq_true rfl) (Nat.le_of_ble_eq_true rfl) ?_
  refine ws_putfrF 50 rfl rfl rfl rfl rfl rfl rfl rfl rfl rfl ?_
  refine ws_aload_0 51 rfl rfl ?_
  refine ws_iconst 52 rfl rfl kc_i0 ?_
  refine ws_putfi 55 rfl rfl rfl rfl rfl rfl rfl rfl ?_
  refine ws_aload_0 56 rfl rfl ?_
  refine ws_iconst 57 rfl rfl kc_i2 ?_
  refine ws_putfi 60 rfl rfl rfl rfl rfl rfl rfl rfl ?_
  refine ws_iconst 61 rfl rfl kc_i0 ?_
  refine ws_istore_1 62 rfl rfl rfl rfl ?_
  exact l1 15 0 _ rfl (fun a ha _ => by rw [wI_ne (by omega), wI_ne (by omega)]) (fun _ h => by omega) (by rw [wI_eq, pk_un (by decide), wI_eq, pk_us]) (by rw [wI_eq, pk_us])
theorem i_sc35 (hE : xEok E) (hz : zF 36 I L) : xC E 2 24 [.ref 35] ([.inr (.inl (5, [.ref 1, .ref 5, .ref 12, .ref 13, .ref 14, .ref 19, .ref 26, .ref 27])), .inr (.inl (1, [.ref 2, .ref 3, .ref 4, .int 0])), .inl (.int, 40), .inl (.int, 16), .inl (.long, 40), .inr (.inl (3, [.ref 6, .ref 7, .ref 8, .ref 9, .ref 10, .ref 11, .int 0, .int 0])), .inl (.int, 15), .inl (.int, 5), .inl (.int, 5), .inl (.int, 24), .inl (.int, 20), .inl (.int, 11), .inr (.inr [.ref 28, .null]), .inl (.boolean, 2), .inr (.inl (2, [.ref 5, .ref 15, .ref 16, .ref 17, .ref 18, .int 0, .int 0, .int 0])), .inl (.int, 5), .inl (.int, 5), .inl (.int, 5), .inl (.int, 32), .inr (.inl (4, [.ref 14, .ref 20, .ref 21, .int 0, .ref 22, .int 0, .ref 23, .ref 24, .ref 25, .int 0, .int 0, .int 0])), .inl (.int, 1546), .inl (.int, 1546), .inl (.int, 1546), .inl (.int, 5), .inl (.int, 5), .inl (.int, 40), .inr (.inl (0, [.long 0, .long 0])), .inl (.int, 5), .inr (.inl (3, [.ref 29, .ref 30, .ref 31, .ref 32, .ref 33, .ref 34, .int 0, .int 0])), .inl (.int, 15), .inl (.int, 5), .inl (.int, 5), .inl (.int, 24), .inl (.int, 20), .inl (.int, 11), .inr (.inl (3, xdf 3))], I, L) (fun r t => r = none ∧ ∃ I', t = ([.inr (.inl (5, [.ref 1, .ref 5, .ref 12, .ref 13, .ref 14, .ref 19, .ref 26, .ref 27])), .inr (.inl (1, [.ref 2, .ref 3, .ref 4, .int 0])), .inl (.int, 40), .inl (.int, 16), .inl (.long, 40), .inr (.inl (3, [.ref 6, .ref 7, .ref 8, .ref 9, .ref 10, .ref 11, .int 0, .int 0])), .inl (.int, 15), .inl (.int, 5), .inl (.int, 5), .inl (.int, 24), .inl (.int, 20), .inl (.int, 11), .inr (.inr [.ref 28, .null]), .inl (.boolean, 2), .inr (.inl (2, [.ref 5, .ref 15, .ref 16, .ref 17, .ref 18, .int 0, .int 0, .int 0])), .inl (.int, 5), .inl (.int, 5), .inl (.int, 5), .inl (.int, 32), .inr (.inl (4, [.ref 14, .ref 20, .ref 21, .int 0, .ref 22, .int 0, .ref 23, .ref 24, .ref 25, .int 0, .int 0, .int 0])), .inl (.int, 1546), .inl (.int, 1546), .inl (.int, 1546), .inl (.int, 5), .inl (.int, 5), .inl (.int, 40), .inr (.inl (0, [.long 0, .long 0])), .inl (.int, 5), .inr (.inl (3, [.ref 29, .ref 30, .ref 31, .ref 32, .ref 33, .ref 34, .int 0, .int 0])), .inl (.int, 15), .inl (.int, 5), .inl (.int, 5), .inl (.int, 24), .inl (.int, 20), .inl (.int, 11), .inr (.inl (3, [.ref 36, .ref 37, .ref 38, .ref 39, .ref 40, .ref 41, .int 0, .int 0])), .inl (.int, 15), .inl (.int, 5), .inl (.int, 5), .inl (.int, 24), .inl (.int, 20), .inl (.int, 11)], I', L) ∧ (∀ a, a < 35 ∨ 39 < a → I' a = I a) ∧ (∀ j, j < 15 → I' 36 j = nI (ini0 j)) ∧ (∀ j, j < 5 → I' 37 j = nI 5) ∧ (∀ j, j < 5 → I' 38 j = -6) ∧ (∀ j, j < 24 → I' 39 j = nI (ini3 j)) ∧ I' 35 6 = nI 0 ∧ I' 35 7 = nI 2) := by
  refine xC.mk [some (.ref 35), none] rfl ?_
  have l2 : ∀ (m k : Nat) (I' : Nat → Nat → Int32), k + m = 24 → (∀ a, a < 35 ∨ 36 < a → a ≠ 39 → I' a = I a) → (∀ j, j < 15 → I' 36 j = nI (ini0 j)) → (∀ j, j < k → I' 39 j = nI (ini3 j)) → I' 35 6 = nI 0 → I' 35 7 = nI 2 → xW E 2 24 92 [some (.ref 35), some (.int (nI k))] [] ([.inr (.inl (5, [.ref 1, .ref 5, .ref 12, .ref 13, .ref 14, .ref 19, .ref 26, .ref 27])), .inr (.inl (1, [.ref 2, .ref 3, .ref 4, .int 0])), .inl (.int, 40), .inl (.int, 16), .inl (.long, 40), .inr (.inl (3, [.ref 6, .ref 7, .ref 8, .ref 9, .ref 10, .ref 11, .int 0, .int 0])), .inl (.int, 15), .inl (.int, 5), .inl (.int, 5), .inl (.int, 24), .inl (.int, 20), .inl (.int, 11), .inr (.inr [.ref 28, .null]), .inl (.boolean, 2), .inr (.inl (2, [.ref 5, .ref 15, .ref 16, .ref 17, .ref 18, .int 0, .int 0, .int 0])), .inl (.int, 5), .inl (.int, 5), .inl (.int, 5), .inl (.int, 32), .inr (.inl (4, [.ref 14, .ref 20, .ref 21, .int 0, .ref 22, .int 0, .ref 23, .ref 24, .ref 25, .int 0, .int 0, .int 0])), .inl (.int, 1546), .inl (.int, 1546), .inl (.int, 1546), .inl (.int, 5), .inl (.int, 5), .inl (.int, 40), .inr (.inl (0, [.long 0, .long 0])), .inl (.int, 5), .inr (.inl (3, [.ref 29, .ref 30, .ref 31, .ref 32, .ref 33, .ref 34, .int 0, .int 0])), .inl (.int, 15), .inl (.int, 5), .inl (.int, 5), .inl (.int, 24), .inl (.int, 20), .inl (.int, 11), .inr (.inl (3, [.ref 36, .ref 37, .ref 38, .ref 39, .ref 40, .ref 41, .int 0, .int 0])), .inl (.int, 15), .inl (.int, 5), .inl (.int, 5), .inl (.int, 24), .inl (.int, 20), .inl (.int, 11)], I', L) 6 80 (fun r t => r = none ∧ ∃ I', t = ([.inr (.inl (5, [.ref 1, .ref 5, .ref 12, .ref 13, .ref 14, .ref 19, .ref 26, .ref 27])), .inr (.inl (1, [.ref 2, .ref 3, .ref 4, .int 0])), .inl (.int, 40), .inl (.int, 16), .inl (.long, 40), .inr (.inl (3, [.ref 6, .ref 7, .ref 8, .ref 9, .ref 10, .ref 11, .int 0, .int 0])), .inl (.int, 15), .inl (.int, 5), .inl (.int, 5), .inl (.int, 24), .inl (.int, 20), .inl (.int, 11), .inr (.inr [.ref 28, .null]), .inl (.boolean, 2), .inr (.inl (2, [.ref 5, .ref 15, .ref 16, .ref 17, .ref 18, .int 0, .int 0, .int 0])), .inl (.int, 5), .inl (.int, 5), .inl (.int, 5), .inl (.int, 32), .inr (.inl (4, [.ref 14, .ref 20, .ref 21, .int 0, .ref 22, .int 0, .ref 23, .ref 24, .ref 25, .int 0, .int 0, .int 0])), .inl (.int, 1546), .inl (.int, 1546), .inl (.int, 1546), .inl (.int, 5), .inl (.int, 5), .inl (.int, 40), .inr (.inl (0, [.long 0, .long 0])), .inl (.int, 5), .inr (.inl (3, [.ref 29, .ref 30, .ref 31, .ref 32, .ref 33, .ref 34, .int 0, .int 0])), .inl (.int, 15), .inl (.int, 5), .inl (.int, 5), .inl (.int, 24), .inl (.int, 20), .inl (.int, 11), .inr (.inl (3, [.ref 36, .ref 37, .ref 38, .ref 39, .ref 40, .ref 41, .int 0, .int 0])), .inl (.int, 15), .inl (.int, 5), .inl (.int, 5), .inl (.int, 24), .inl (.int, 20), .inl (.int, 11)], I', L) ∧ (∀ a, a < 35 ∨ 39 < a → I' a = I a) ∧ (∀ j, j < 15 → I' 36 j = nI (ini0 j)) ∧ (∀ j, j < 5 → I' 37 j = nI 5) ∧ (∀ j, j < 5 → I' 38 j = -6) ∧ (∀ j, j < 24 → I' 39 j = nI (ini3 j)) ∧ I' 35 6 = nI 0 ∧ I' 35 7 = nI 2) := by
    intro m
    induction m with
    | zero =>
      intro k I' hk hf h1 h4 h6 h7
      obtain rfl : k = 24 := by omega
      refine ws_iload_1 93 rfl rfl ?_
      refine ws_aload_0 94 rfl rfl ?_
      refine ws_getfr 97 rfl rfl rfl rfl rfl ?_
      refine ws_alen 98 rfl rfl rfl rfl ?_
      refine ws_icmp_gen 121 101 rfl rfl rfl (by omega) (by omega) (fun h9 => ?_) (fun h9 => absurd h9 (by omega))
      refine ws_aload_0 122 rfl rfl ?_
      refine ws_getfr 125 rfl rfl rfl rfl rfl ?_
      refine ws_iconst 126 rfl rfl kc_i5 ?_
      refine ws_invS2 129 rfl rfl rfl (c_fill 37 5 (nI 5) rfl (by omega)) rfl rfl rfl ?_
      rintro _ _ ⟨rfl, I2, rfl, hf2, g2⟩
      refine ws_aload_0 130 rfl rfl ?_
      refine ws_getfr 133 rfl rfl rfl rfl rfl ?_
      refine ws_bipush 135 rfl rfl kc_bm6 ?_
      refine ws_invS2 138 rfl rfl rfl (c_fill 38 5 (-6) rfl (by omega)) rfl rfl rfl ?_
      rintro _ _ ⟨rfl, I3, rfl, hf3, g3⟩
      refine ws_vret rfl rfl rfl (Nat.le_of_ble_eq_true rfl) ?_
      refine ⟨rfl, I3, rfl, fun a ha => ?_, fun j hj => ?_, fun j hj => ?_, g3, fun j hj => ?_, ?_, ?_⟩
      · rw [hf3 a (by omega), hf2 a (by omega)]; exact hf a (by omega) (by omega)
      · rw [hf3 36 (by decide), hf2 36 (by decide)]; exact h1 j hj
      · rw [hf3 37 (by decide)]; exact g2 j hj
      · rw [hf3 39 (by decide), hf2 39 (by decide)]; exact h4 j hj
      · rw [hf3 35 (by decide), hf2 35 (by decide)]; exact h6
      · rw [hf3 35 (by decide), hf2 35 (by decide)]; exact h7
    | succ m ih =>
      intro k I' hk hf h1 h4 h6 h7
      refine ws_iload_1 93 rfl rfl ?_
      refine ws_aload_0 94 rfl rfl ?_
      refine ws_getfr 97 rfl rfl rfl rfl rfl ?_
      refine ws_alen 98 rfl rfl rfl rfl ?_
      refine ws_icmp_gen 121 101 rfl rfl rfl (by omega) (by omega) (fun h9 => absurd h9 (by omega)) (fun h9 => ?_)
      refine ws_aload_0 102 rfl rfl ?_
      refine ws_getfr 105 rfl rfl rfl rfl rfl ?_
      refine ws_iload_1 106 rfl rfl ?_
      refine ws_getsN 109 rfl rfl rfl rfl ?_
      refine ws_iload_1 110 rfl rfl ?_
      refine ws_bipush 112 rfl rfl kc_b6 ?_
      refine ws_irem 113 rfl rfl (kn_ne0 (by omega) (by omega)) (pk_rem (by omega) (by omega) (by omega)) ?_
      refine ws_xaldn 114 rfl rfl 2 rfl hE.2.1 (by omega) (by omega) rfl ?_
      refine ws_iastn 115 rfl rfl rfl (by omega) (by omega) ?_
      refine ws_iinc_1 118 rfl rfl (ki_1 _) rfl rfl ?_
      refine ws_goto 92 rfl rfl ?_
      exact ih (k + 1) _ (by omega) (fun a ha ha4 => by rw [wI_ne ha4]; exact hf a ha ha4) (fun j hj => by rw [wI_ne (by decide)]; exact h1 j hj) (fl h4 rfl) (by rw [wI_ne (by decide)]; exact h6) (by rw [wI_ne (by decide)]; exact h7)
  have l1 : ∀ (m k : Nat) (I' : Nat → Nat → Int32), k + m = 15 → (∀ a, a < 35 ∨ 35 < a → a ≠ 36 → I' a = I a) → (∀ j, j < k → I' 36 j = nI (ini0 j)) → I' 35 6 = nI 0 → I' 35 7 = nI 2 → xW E 2 24 62 [some (.ref 35), some (.int (nI k))] [] ([.inr (.inl (5, [.ref 1, .ref 5, .ref 12, .ref 13, .ref 14, .ref 19, .ref 26, .ref 27])), .inr (.inl (1, [.ref 2, .ref 3, .ref 4, .int 0])), .inl (.int, 40), .inl (.int, 16), .inl (.long, 40), .inr (.inl (3, [.ref 6, .ref 7, .ref 8, .ref 9, .ref 10, .ref 11, .int 0, .int 0])), .inl (.int, 15), .inl (.int, 5), .inl (.int, 5), .inl (.int, 24), .inl (.int, 20), .inl (.int, 11), .inr (.inr [.ref 28, .null]), .inl (.boolean, 2), .inr (.inl (2, [.ref 5, .ref 15, .ref 16, .ref 17, .ref 18, .int 0, .int 0, .int 0])), .inl (.int, 5), .inl (.int, 5), .inl (.int, 5), .inl (.int, 32), .inr (.inl (4, [.ref 14, .ref 20, .ref 21, .int 0, .ref 22, .int 0, .ref 23, .ref 24, .ref 25, .int 0, .int 0, .int 0])), .inl (.int, 1546), .inl (.int, 1546), .inl (.int, 1546), .inl (.int, 5), .inl (.int, 5), .inl (.int, 40), .inr (.inl (0, [.long 0, .long 0])), .inl (.int, 5), .inr (.inl (3, [.ref 29, .ref 30, .ref 31, .ref 32, .ref 33, .ref 34, .int 0, .int 0])), .inl (.int, 15), .inl (.int, 5), .inl (.int, 5), .inl (.int, 24), .inl (.int, 20), .inl (.int, 11), .inr (.inl (3, [.ref 36, .ref 37, .ref 38, .ref 39, .ref 40, .ref 41, .int 0, .int 0])), .inl (.int, 15), .inl (.int, 5), .inl (.int, 5), .inl (.int, 24), .inl (.int, 20), .inl (.int, 11)], I', L) 6 80 (fun r t => r = none ∧ ∃ I', t = ([.inr (.inl (5, [.ref 1, .ref 5, .ref 12, .ref 13, .ref 14, .ref 19, .ref 26, .ref 27])), .inr (.inl (1, [.ref 2, .ref 3, .ref 4, .int 0])), .inl (.int, 40), .inl (.int, 16), .inl (.long, 40), .inr (.inl (3, [.ref 6, .ref 7, .ref 8, .ref 9, .ref 10, .ref 11, .int 0, .int 0])), .inl (.int, 15), .inl (.int, 5), .inl (.int, 5), .inl (.int, 24), .inl (.int, 20), .inl (.int, 11), .inr (.inr [.ref 28, .null]), .inl (.boolean, 2), .inr (.inl (2, [.ref 5, .ref 15, .ref 16, .ref 17, .ref 18, .int 0, .int 0, .int 0])), .inl (.int, 5), .inl (.int, 5), .inl (.int, 5), .inl (.int, 32), .inr (.inl (4, [.ref 14, .ref 20, .ref 21, .int 0, .ref 22, .int 0, .ref 23, .ref 24, .ref 25, .int 0, .int 0, .int 0])), .inl (.int, 1546), .inl (.int, 1546), .inl (.int, 1546), .inl (.int, 5), .inl (.int, 5), .inl (.int, 40), .inr (.inl (0, [.long 0, .long 0])), .inl (.int, 5), .inr (.inl (3, [.ref 29, .ref 30, .ref 31, .ref 32, .ref 33, .ref 34, .int 0, .int 0])), .inl (.int, 15), .inl (.int, 5), .inl (.int, 5), .inl (.int, 24), .inl (.int, 20), .inl (.int, 11), .inr (.inl (3, [.ref 36, .ref 37, .ref 38, .ref 39, .ref 40, .ref 41, .int 0, .int 0])), .inl (.int, 15), .inl (.int, 5), .inl (.int, 5), .inl (.int, 24), .inl (.int, 20), .inl (.int, 11)], I', L) ∧ (∀ a, a < 35 ∨ 39 < a → I' a = I a) ∧ (∀ j, j < 15 → I' 36 j = nI (ini0 j)) ∧ (∀ j, j < 5 → I' 37 j = nI 5) ∧ (∀ j, j < 5 → I' 38 j = -6) ∧ (∀ j, j < 24 → I' 39 j = nI (ini3 j)) ∧ I' 35 6 = nI 0 ∧ I' 35 7 = nI 2) := by
    intro m
    induction m with
    | zero =>
      intro k I' hk hf h1 h6 h7
      obtain rfl : k = 15 := by omega
      refine ws_iload_1 63 rfl rfl ?_
      refine ws_aload_0 64 rfl rfl ?_
      refine ws_getfr 67 rfl rfl rfl rfl rfl ?_
      refine ws_alen 68 rfl rfl rfl rfl ?_
      refine ws_icmp_gen 90 71 rfl rfl rfl (by omega) (by omega) (fun h9 => ?_) (fun h9 => absurd h9 (by omega))
      refine ws_iconst 91 rfl rfl kc_i0 ?_
      refine ws_istore_1 92 rfl rfl rfl rfl ?_
      exact l2 24 0 I' rfl (fun a ha _ => hf a (by omega) (by omega)) h1 (fun _ h => by omega) h6 h7
    | succ m ih =>
      intro k I' hk hf h1 h6 h7
      refine ws_iload_1 63 rfl rfl ?_
      refine ws_aload_0 64 rfl rfl ?_
      refine ws_getfr 67 rfl rfl rfl rfl rfl ?_
      refine ws_alen 68 rfl rfl rfl rfl ?_
      refine ws_icmp_gen 90 71 rfl rfl rfl (by omega) (by omega) (fun h9 => absurd h9 (by omega)) (fun h9 => ?_)
      refine ws_aload_0 72 rfl rfl ?_
      refine ws_getfr 75 rfl rfl rfl rfl rfl ?_
      refine ws_iload_1 76 rfl rfl ?_
      refine ws_getsN 79 rfl rfl rfl rfl ?_
      refine ws_iload_1 80 rfl rfl ?_
      refine ws_iconst 81 rfl rfl kc_i5 ?_
      refine ws_idiv 82 rfl rfl (kn_ne0 (by omega) (by omega)) (pk_div (by omega) (by omega) (by omega)) ?_
      refine ws_xaldn 83 rfl rfl 1 rfl hE.1 (by omega) (by omega) rfl ?_
      refine ws_iastn 84 rfl rfl rfl (by omega) (by omega) ?_
      refine ws_iinc_1 87 rfl rfl (ki_1 _) rfl rfl ?_
      refine ws_goto 62 rfl rfl ?_
      exact ih (k + 1) _ (by omega) (fun a ha ha4 => by rw [wI_ne ha4]; exact hf a ha ha4) (fl h1 rfl) (by rw [wI_ne (by decide)]; exact h6) (by rw [wI_ne (by decide)]; exact h7)
  refine ws_aload_0 1 rfl rfl ?_
  refine ws_oinit 4 rfl rfl rfl (by omega) (by decide) ?_
  refine ws_aload_0 5 rfl rfl ?_
  refine ws_bipush 7 rfl rfl kc_b15 ?_
  refine wn_newI 9 36 rfl rfl rfl (by decide) rfl hz (by decide) (Nat.le_of_ble_eq_true rfl) (Nat.le_of_ble_eq_true rfl) ?_
  refine ws_putfrF 12 rfl rfl rfl rfl rfl rfl rfl rfl rfl rfl ?_
  refine ws_aload_0 13 rfl rfl ?_
  refine ws_iconst 14 rfl rfl kc_i5 ?_
  refine wn_newI 16 37 rfl rfl rfl (by decide) rfl (hz.mono (by omega)) (by decide) (Nat.le_of_ble_eq_true rfl) (Nat.le_of_ble_eq_true rfl) ?_
  refine ws_putfrF 19 rfl rfl rfl rfl rfl rfl rfl rfl rfl rfl ?_
  refine ws_aload_0 20 rfl rfl ?_
  refine ws_iconst 21 rfl rfl kc_i5 ?_
  refine wn_newI 23 38 rfl rfl rfl (by decide) rfl (hz.mono (by omega)) (by decide) (Nat.le_of_ble_eq_true rfl) (Nat.le_of_ble_eq_true rfl) ?_
  refine ws_putfrF 26 rfl rfl rfl rfl rfl rfl rfl rfl rfl rfl ?_
  refine ws_aload_0 27 rfl rfl ?_
  refine ws_bipush 29 rfl rfl kc_b24 ?_
  refine wn_newI 31 39 rfl rfl rfl (by decide) rfl (hz.mono (by omega)) (by decide) (Nat.le_of_ble_eq_true rfl) (Nat.le_of_ble_eq_true rfl) ?_
  refine ws_putfrF 34 rfl rfl rfl rfl rfl rfl rfl rfl rfl rfl ?_
  refine ws_aload_0 35 rfl rfl ?_
  refine ws_bipush 37 rfl rfl kc_b20 ?_
  refine wn_newI 39 40 rfl rfl rfl (by decide) rfl (hz.mono (by omega)) (by decide) (Nat.le_of_ble_eq_true rfl) (Nat.le_of_ble_eq_true rfl) ?_
  refine ws_putfrF 42 rfl rfl rfl rfl rfl rfl rfl rfl rfl rfl ?_
  refine ws_aload_0 43 rfl rfl ?_
  refine ws_bipush 45 rfl rfl kc_b11 ?_
  refine wn_newI 47 41 rfl rfl rfl (by decide) rfl (hz.mono (by omega)) (by decide) (Nat.le_of_ble_eq_true rfl) (Nat.le_of_ble_eq_true rfl) ?_
  refine ws_putfrF 50 rfl rfl rfl rfl rfl rfl rfl rfl rfl rfl ?_
  refine ws_aload_0 51 rfl rfl ?_
  refine ws_iconst 52 rfl rfl kc_i0 ?_
  refine ws_putfi 55 rfl rfl rfl rfl rfl rfl rfl rfl ?_
  refine ws_aload_0 56 rfl rfl ?_
  refine ws_iconst 57 rfl rfl kc_i2 ?_
  refine ws_putfi 60 rfl rfl rfl rfl rfl rfl rfl rfl ?_
  refine ws_iconst 61 rfl rfl kc_i0 ?_
  refine ws_istore_1 62 rfl rfl rfl rfl ?_
  exact l1 15 0 _ rfl (fun a ha _ => by rw [wI_ne (by omega), wI_ne (by omega)]) (fun _ h => by omega) (by rw [wI_eq, pk_un (by decide), wI_eq, pk_us]) (by rw [wI_eq, pk_us])
theorem i_pas (hz : zF 15 I L) : xC E 1 15 [.ref 14, .ref 5] ([.inr (.inl (5, [.ref 1, .ref 5, .ref 12, .ref 13, .null, .null, .null, .null])), .inr (.inl (1, [.ref 2, .ref 3, .ref 4, .int 0])), .inl (.int, 40), .inl (.int, 16), .inl (.long, 40), .inr (.inl (3, [.ref 6, .ref 7, .ref 8, .ref 9, .ref 10, .ref 11, .int 0, .int 0])), .inl (.int, 15), .inl (.int, 5), .inl (.int, 5), .inl (.int, 24), .inl (.int, 20), .inl (.int, 11), .inr (.inr [.null, .null]), .inl (.boolean, 2), .inr (.inl (2, xdf 2))], I, L) (fun r t => r = none ∧ t = ([.inr (.inl (5, [.ref 1, .ref 5, .ref 12, .ref 13, .null, .null, .null, .null])), .inr (.inl (1, [.ref 2, .ref 3, .ref 4, .int 0])), .inl (.int, 40), .inl (.int, 16), .inl (.long, 40), .inr (.inl (3, [.ref 6, .ref 7, .ref 8, .ref 9, .ref 10, .ref 11, .int 0, .int 0])), .inl (.int, 15), .inl (.int, 5), .inl (.int, 5), .inl (.int, 24), .inl (.int, 20), .inl (.int, 11), .inr (.inr [.null, .null]), .inl (.boolean, 2), .inr (.inl (2, [.ref 5, .ref 15, .ref 16, .ref 17, .ref 18, .int 0, .int 0, .int 0])), .inl (.int, 5), .inl (.int, 5), .inl (.int, 5), .inl (.int, 32)], wI (wI (wI I 14 5 (nI 0)) 14 6 (nI 0)) 14 7 (nI 0), L)) := by
  refine xC.mk [some (.ref 14), some (.ref 5)] rfl ?_
  refine ws_aload_0 1 rfl rfl ?_
  refine ws_oinit 4 rfl rfl rfl (by omega) (by decide) ?_
  refine ws_aload_0 5 rfl rfl ?_
  refine ws_iconst 6 rfl rfl kc_i5 ?_
  refine wn_newI 8 15 rfl rfl rfl (by decide) rfl hz (by decide) (Nat.le_of_ble_eq_true rfl) (Nat.le_of_ble_eq_true rfl) ?_
  refine ws_putfrF 11 rfl rfl rfl rfl rfl rfl rfl rfl rfl rfl ?_
  refine ws_aload_0 12 rfl rfl ?_
  refine ws_iconst 13 rfl rfl kc_i5 ?_
  refine wn_newI 15 16 rfl rfl rfl (by decide) rfl (hz.mono (by omega)) (by decide) (Nat.le_of_ble_eq_true rfl) (Nat.le_of_ble_eq_true rfl) ?_
  refine ws_putfrF 18 rfl rfl rfl rfl rfl rfl rfl rfl rfl rfl ?_
  refine ws_aload_0 19 rfl rfl ?_
  refine ws_iconst 20 rfl rfl kc_i5 ?_
  refine wn_newI 22 17 rfl rfl rfl (by decide) rfl (hz.mono (by omega)) (by decide) (Nat.le_of_ble_eq_true rfl) (Nat.le_of_ble_eq_true rfl) ?_
  refine ws_putfrF 25 rfl rfl rfl rfl rfl rfl rfl rfl rfl rfl ?_
  refine ws_aload_0 26 rfl rfl ?_
  refine ws_bipush 28 rfl rfl kc_b32 ?_
  refine wn_newI 30 18 rfl rfl rfl (by decide) rfl (hz.mono (by omega)) (by decide) (Nat.le_of_ble_eq_true rfl) (Nat.le_of_ble_eq_true rfl) ?_
  refine ws_putfrF 33 rfl rfl rfl rfl rfl rfl rfl rfl rfl rfl ?_
  refine ws_aload_0 34 rfl rfl ?_
  refine ws_iconst 35 rfl rfl kc_i0 ?_
  refine ws_putfi 38 rfl rfl rfl rfl rfl rfl rfl rfl ?_
  refine ws_aload_0 39 rfl rfl ?_
  refine ws_iconst 40 rfl rfl kc_i0 ?_
  refine ws_putfi 43 rfl rfl rfl rfl rfl rfl rfl rfl ?_
  refine ws_aload_0 44 rfl rfl ?_
  refine ws_iconst 45 rfl rfl kc_i0 ?_
  refine ws_putfi 48 rfl rfl rfl rfl rfl rfl rfl rfl ?_
  refine ws_aload_0 49 rfl rfl ?_
  refine ws_aload_1 50 rfl rfl ?_
  refine ws_putfrF 53 rfl rfl rfl rfl rfl rfl rfl rfl rfl rfl ?_
  refine ws_vret rfl rfl rfl (Nat.le_of_ble_eq_true rfl) ?_
  exact ⟨rfl, rfl⟩
theorem i_win (hz : zF 20 I L) : xC E 1 30 [.ref 19, .ref 14] ([.inr (.inl (5, [.ref 1, .ref 5, .ref 12, .ref 13, .ref 14, .null, .null, .null])), .inr (.inl (1, [.ref 2, .ref 3, .ref 4, .int 0])), .inl (.int, 40), .inl (.int, 16), .inl (.long, 40), .inr (.inl (3, [.ref 6, .ref 7, .ref 8, .ref 9, .ref 10, .ref 11, .int 0, .int 0])), .inl (.int, 15), .inl (.int, 5), .inl (.int, 5), .inl (.int, 24), .inl (.int, 20), .inl (.int, 11), .inr (.inr [.null, .null]), .inl (.boolean, 2), .inr (.inl (2, [.ref 5, .ref 15, .ref 16, .ref 17, .ref 18, .int 0, .int 0, .int 0])), .inl (.int, 5), .inl (.int, 5), .inl (.int, 5), .inl (.int, 32), .inr (.inl (4, xdf 4))], I, L) (fun r t => r = none ∧ t = ([.inr (.inl (5, [.ref 1, .ref 5, .ref 12, .ref 13, .ref 14, .null, .null, .null])), .inr (.inl (1, [.ref 2, .ref 3, .ref 4, .int 0])), .inl (.int, 40), .inl (.int, 16), .inl (.long, 40), .inr (.inl (3, [.ref 6, .ref 7, .ref 8, .ref 9, .ref 10, .ref 11, .int 0, .int 0])), .inl (.int, 15), .inl (.int, 5), .inl (.int, 5), .inl (.int, 24), .inl (.int, 20), .inl (.int, 11), .inr (.inr [.null, .null]), .inl (.boolean, 2), .inr (.inl (2, [.ref 5, .ref 15, .ref 16, .ref 17, .ref 18, .int 0, .int 0, .int 0])), .inl (.int, 5), .inl (.int, 5), .inl (.int, 5), .inl (.int, 32), .inr (.inl (4, [.ref 14, .ref 20, .ref 21, .int 0, .ref 22, .int 0, .ref 23, .ref 24, .ref 25, .int 0, .int 0, .int 0])), .inl (.int, 1546), .inl (.int, 1546), .inl (.int, 1546), .inl (.int, 5), .inl (.int, 5), .inl (.int, 40)], wI (wI (wI (wI (wI I 19 3 (nI 0)) 19 5 (nI 0)) 19 9 (nI 0)) 19 10 (nI 0)) 19 11 (nI 0), L)) := by
  refine xC.mk [some (.ref 19), some (.ref 14)] rfl ?_
  refine ws_aload_0 1 rfl rfl ?_
  refine ws_oinit 4 rfl rfl rfl (by omega) (by decide) ?_
  refine ws_aload_0 5 rfl rfl ?_
  refine ws_sipush 8 rfl rfl kc_s1546 ?_
  refine wn_newI 10 20 rfl rfl rfl (by decide) rfl hz (by decide) (Nat.le_of_ble_eq_true rfl) (Nat.le_of_ble_eq_true rfl) ?_
  refine ws_putfrF 13 rfl rfl rfl rfl rfl rfl rfl rfl rfl rfl ?_
  refine ws_aload_0 14 rfl rfl ?_
  refine ws_sipush 17 rfl rfl kc_s1546 ?_
  refine wn_newI 19 21 rfl rfl rfl (by decide) rfl (hz.mono (by omega)) (by decide) (Nat.le_of_ble_eq_true rfl) (Nat.le_of_ble_eq_true rfl) ?_
  refine ws_putfrF 22 rfl rfl rfl rfl rfl rfl rfl rfl rfl rfl ?_
  refine ws_aload_0 23 rfl rfl ?_
  refine ws_iconst 24 rfl rfl kc_i0 ?_
  refine ws_putfi 27 rfl rfl rfl rfl rfl rfl rfl rfl ?_
  refine ws_aload_0 28 rfl rfl ?_
  refine ws_sipush 31 rfl rfl kc_s1546 ?_
  refine wn_newI 33 22 rfl rfl rfl (by decide) rfl ((hz.mono (by omega)).w (by omega)) (by decide) (Nat.le_of_ble_eq_true rfl) (Nat.le_of_ble_eq_true rfl) ?_
  refine ws_putfrF 36 rfl rfl rfl rfl rfl rfl rfl rfl rfl rfl ?_
  refine ws_aload_0 37 rfl rfl ?_
  refine ws_iconst 38 rfl rfl kc_i0 ?_
  refine ws_putfi 41 rfl rfl rfl rfl rfl rfl rfl rfl ?_
  refine ws_aload_0 42 rfl rfl ?_
  refine ws_iconst 43 rfl rfl kc_i5 ?_
  refine wn_newI 45 23 rfl rfl rfl (by decide) rfl (((hz.mono (by omega)).w (by omega)).w (by omega)) (by decide) (Nat.le_of_ble_eq_true rfl) (Nat.le_of_ble_eq_true rfl) ?_
  refine ws_putfrF 48 rfl rfl rfl rfl rfl rfl rfl rfl rfl rfl ?_
  refine ws_aload_0 49 rfl rfl ?_
  refine ws_iconst 50 rfl rfl kc_i5 ?_
  refine wn_newI 52 24 rfl rfl rfl (by decide) rfl (((hz.mono (by omega)).w (by omega)).w (by omega)) (by decide) (Nat.le_of_ble_eq_true rfl) (Nat.le_of_ble_eq_true rfl) ?_
  refine ws_putfrF 55 rfl rfl rfl rfl rfl rfl rfl rfl rfl rfl ?_
  refine ws_aload_0 56 rfl rfl ?_
  refine ws_bipush 58 rfl rfl kc_b40 ?_
  refine wn_newI 60 25 rfl rfl rfl (by decide) rfl (((hz.mono (by omega)).w (by omega)).w (by omega)) (by decide) (Nat.le_of_ble_eq_true rfl) (Nat.le_of_ble_eq_true rfl) ?_
  refine ws_putfrF 63 rfl rfl rfl rfl rfl rfl rfl rfl rfl rfl ?_
  refine ws_aload_0 64 rfl rfl ?_
  refine ws_iconst 65 rfl rfl kc_i0 ?_
  refine ws_putfi 68 rfl rfl rfl rfl rfl rfl rfl rfl ?_
  refine ws_aload_0 69 rfl rfl ?_
  refine ws_iconst 70 rfl rfl kc_i0 ?_
  refine ws_putfi 73 rfl rfl rfl rfl rfl rfl rfl rfl ?_
  refine ws_aload_0 74 rfl rfl ?_
  refine ws_iconst 75 rfl rfl kc_i0 ?_
  refine ws_putfi 78 rfl rfl rfl rfl rfl rfl rfl rfl ?_
  refine ws_aload_0 79 rfl rfl ?_
  refine ws_aload_1 80 rfl rfl ?_
  refine ws_putfrF 83 rfl rfl rfl rfl rfl rfl rfl rfl rfl rfl ?_
  refine ws_vret rfl rfl rfl (Nat.le_of_ble_eq_true rfl) ?_
  exact ⟨rfl, rfl⟩
theorem i_lot : xC E 1 0 [.ref 26] ([.inr (.inl (5, [.ref 1, .ref 5, .ref 12, .ref 13, .ref 14, .ref 19, .null, .null])), .inr (.inl (1, [.ref 2, .ref 3, .ref 4, .int 0])), .inl (.int, 40), .inl (.int, 16), .inl (.long, 40), .inr (.inl (3, [.ref 6, .ref 7, .ref 8, .ref 9, .ref 10, .ref 11, .int 0, .int 0])), .inl (.int, 15), .inl (.int, 5), .inl (.int, 5), .inl (.int, 24), .inl (.int, 20), .inl (.int, 11), .inr (.inr [.null, .null]), .inl (.boolean, 2), .inr (.inl (2, [.ref 5, .ref 15, .ref 16, .ref 17, .ref 18, .int 0, .int 0, .int 0])), .inl (.int, 5), .inl (.int, 5), .inl (.int, 5), .inl (.int, 32), .inr (.inl (4, [.ref 14, .ref 20, .ref 21, .int 0, .ref 22, .int 0, .ref 23, .ref 24, .ref 25, .int 0, .int 0, .int 0])), .inl (.int, 1546), .inl (.int, 1546), .inl (.int, 1546), .inl (.int, 5), .inl (.int, 5), .inl (.int, 40), .inr (.inl (0, xdf 0))], I, L) (fun r t => r = none ∧ ∃ L', t = ([.inr (.inl (5, [.ref 1, .ref 5, .ref 12, .ref 13, .ref 14, .ref 19, .null, .null])), .inr (.inl (1, [.ref 2, .ref 3, .ref 4, .int 0])), .inl (.int, 40), .inl (.int, 16), .inl (.long, 40), .inr (.inl (3, [.ref 6, .ref 7, .ref 8, .ref 9, .ref 10, .ref 11, .int 0, .int 0])), .inl (.int, 15), .inl (.int, 5), .inl (.int, 5), .inl (.int, 24), .inl (.int, 20), .inl (.int, 11), .inr (.inr [.null, .null]), .inl (.boolean, 2), .inr (.inl (2, [.ref 5, .ref 15, .ref 16, .ref 17, .ref 18, .int 0, .int 0, .int 0])), .inl (.int, 5), .inl (.int, 5), .inl (.int, 5), .inl (.int, 32), .inr (.inl (4, [.ref 14, .ref 20, .ref 21, .int 0, .ref 22, .int 0, .ref 23, .ref 24, .ref 25, .int 0, .int 0, .int 0])), .inl (.int, 1546), .inl (.int, 1546), .inl (.int, 1546), .inl (.int, 5), .inl (.int, 5), .inl (.int, 40), .inr (.inl (0, [.long 0, .long 0]))], I, L') ∧ ∀ a, a ≠ 26 → L' a = L a) := by
  refine xC.mk [some (.ref 26)] rfl ?_
  refine ws_aload_0 1 rfl rfl ?_
  refine ws_oinit 4 rfl rfl rfl (by omega) (by decide) ?_
  refine ws_aload_0 5 rfl rfl ?_
  refine ws_lconst (v := lN 1) 6 rfl rfl rfl ?_
  refine ws_putfl 9 rfl rfl rfl rfl rfl rfl rfl rfl ?_
  refine ws_aload_0 10 rfl rfl ?_
  refine ws_lconst (v := lN 1) 11 rfl rfl rfl ?_
  refine ws_putfl 14 rfl rfl rfl rfl rfl rfl rfl rfl ?_
  refine ws_vret rfl rfl rfl (Nat.le_of_ble_eq_true rfl) ?_
  exact ⟨rfl, _, rfl, fun a ha => by rw [wL_ne ha, wL_ne ha]⟩
end INIT2
