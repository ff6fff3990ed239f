/-! ===== image, restore ===== -/
section TAKE
variable {E : xEx} {I : Nat → Nat → Int32} {L : Nat → Nat → Int64} {x : xSc}
theorem k_take0 (h : scn 5 x I) : xC E 1 25 [.ref 28, .ref 5] (xS, I, L) (fun r t => r = none ∧ ∃ I', t = (xS, I', L) ∧ (∀ a, a < 28 ∨ 34 < a → I' a = I a) ∧ scn 28 x I') := by
  refine xC.mk [some (.ref 28), some (.ref 5)] rfl ?_
  obtain ⟨h1, h2, h3, h4, h5, h6, h7, h8⟩ := h
  obtain ⟨J1, e1⟩ : ∃ J, J = wR I 29 (fun j => if j < 15 then I 6 j else I 29 j) := ⟨_, rfl⟩
  refine ws_aload_1 1 rfl rfl ?_
  refine ws_getfr 4 rfl rfl rfl rfl rfl ?_
  refine ws_iconst 5 rfl rfl kc_i0 ?_
  refine ws_aload_0 6 rfl rfl ?_
  refine ws_getfr 9 rfl rfl rfl rfl rfl ?_
  refine ws_iconst 10 rfl rfl kc_i0 ?_
  refine ws_aload_0 11 rfl rfl ?_
  refine ws_getfr 14 rfl rfl rfl rfl rfl ?_
  refine ws_alen 15 rfl rfl rfl rfl ?_
  refine ws_copy 18 15 rfl rfl rfl rfl rfl rfl rfl rfl (by omega) (by omega) (by omega) (by omega) (show xsum [] ≤ 8 by decide) ?_
  rw [← e1]
  have n1 : ∀ a, a ≠ 29 → J1 a = I a := fun a ha => by rw [e1]; exact wR_ne ha
  have v1 : ∀ j, j < 15 → J1 29 j = I 6 j := fun j hj => by rw [e1, wR_self]; exact if_pos hj
  obtain ⟨J2, e2⟩ : ∃ J, J = wR J1 30 (fun j => if j < 5 then J1 7 j else J1 30 j) := ⟨_, rfl⟩
  refine ws_aload_1 19 rfl rfl ?_
  refine ws_getfr 22 rfl rfl rfl rfl rfl ?_
  refine ws_iconst 23 rfl rfl kc_i0 ?_
  refine ws_aload_0 24 rfl rfl ?_
  refine ws_getfr 27 rfl rfl rfl rfl rfl ?_
  refine ws_iconst 28 rfl rfl kc_i0 ?_
  refine ws_aload_0 29 rfl rfl ?_
  refine ws_getfr 32 rfl rfl rfl rfl rfl ?_
  refine ws_alen 33 rfl rfl rfl rfl ?_
  refine ws_copy 36 5 rfl rfl rfl rfl rfl rfl rfl rfl (by omega) (by omega) (by omega) (by omega) (show xsum [] ≤ 8 by decide) ?_
  rw [← e2]
  have n2 : ∀ a, a ≠ 30 → J2 a = J1 a := fun a ha => by rw [e2]; exact wR_ne ha
  have v2 : ∀ j, j < 5 → J2 30 j = J1 7 j := fun j hj => by rw [e2, wR_self]; exact if_pos hj
  obtain ⟨J3, e3⟩ : ∃ J, J = wR J2 31 (fun j => if j < 5 then J2 8 j else J2 31 j) := ⟨_, rfl⟩
  refine ws_aload_1 37 rfl rfl ?_
  refine ws_getfr 40 rfl rfl rfl rfl rfl ?_
  refine ws_iconst 41 rfl rfl kc_i0 ?_
  refine ws_aload_0 42 rfl rfl ?_
  refine ws_getfr 45 rfl rfl rfl rfl rfl ?_
  refine ws_iconst 46 rfl rfl kc_i0 ?_
  refine ws_aload_0 47 rfl rfl ?_
  refine ws_getfr 50 rfl rfl rfl rfl rfl ?_
  refine ws_alen 51 rfl rfl rfl rfl ?_
  refine ws_copy 54 5 rfl rfl rfl rfl rfl rfl rfl rfl (by omega) (by omega) (by omega) (by omega) (show xsum [] ≤ 8 by decide) ?_
  rw [← e3]
  have n3 : ∀ a, a ≠ 31 → J3 a = J2 a := fun a ha => by rw [e3]; exact wR_ne ha
  have v3 : ∀ j, j < 5 → J3 31 j = J2 8 j := fun j hj => by rw [e3, wR_self]; exact if_pos hj
  obtain ⟨J4, e4⟩ : ∃ J, J = wR J3 32 (fun j => if j < 24 then J3 9 j else J3 32 j) := ⟨_, rfl⟩
  refine ws_aload_1 55 rfl rfl ?_
  refine ws_getfr 58 rfl rfl rfl rfl rfl ?_
  refine ws_iconst 59 rfl rfl kc_i0 ?_
  refine ws_aload_0 60 rfl rfl ?_
  refine ws_getfr 63 rfl rfl rfl rfl rfl ?_
  refine ws_iconst 64 rfl rfl kc_i0 ?_
  refine ws_aload_0 65 rfl rfl ?_
  refine ws_getfr 68 rfl rfl rfl rfl rfl ?_
  refine ws_alen 69 rfl rfl rfl rfl ?_
  refine ws_copy 72 24 rfl rfl rfl rfl rfl rfl rfl rfl (by omega) (by omega) (by omega) (by omega) (show xsum [] ≤ 8 by decide) ?_
  rw [← e4]
  have n4 : ∀ a, a ≠ 32 → J4 a = J3 a := fun a ha => by rw [e4]; exact wR_ne ha
  have v4 : ∀ j, j < 24 → J4 32 j = J3 9 j := fun j hj => by rw [e4, wR_self]; exact if_pos hj
  obtain ⟨J5, e5⟩ : ∃ J, J = wR J4 33 (fun j => if j < 20 then J4 10 j else J4 33 j) := ⟨_, rfl⟩
  refine ws_aload_1 73 rfl rfl ?_
  refine ws_getfr 76 rfl rfl rfl rfl rfl ?_
  refine ws_iconst 77 rfl rfl kc_i0 ?_
  refine ws_aload_0 78 rfl rfl ?_
  refine ws_getfr 81 rfl rfl rfl rfl rfl ?_
  refine ws_iconst 82 rfl rfl kc_i0 ?_
  refine ws_aload_0 83 rfl rfl ?_
  refine ws_getfr 86 rfl rfl rfl rfl rfl ?_
  refine ws_alen 87 rfl rfl rfl rfl ?_
  refine ws_copy 90 20 rfl rfl rfl rfl rfl rfl rfl rfl (by omega) (by omega) (by omega) (by omega) (show xsum [] ≤ 8 by decide) ?_
  rw [← e5]
  have n5 : ∀ a, a ≠ 33 → J5 a = J4 a := fun a ha => by rw [e5]; exact wR_ne ha
  have v5 : ∀ j, j < 20 → J5 33 j = J4 10 j := fun j hj => by rw [e5, wR_self]; exact if_pos hj
  obtain ⟨J6, e6⟩ : ∃ J, J = wR J5 34 (fun j => if j < 11 then J5 11 j else J5 34 j) := ⟨_, rfl⟩
  refine ws_aload_1 91 rfl rfl ?_
  refine ws_getfr 94 rfl rfl rfl rfl rfl ?_
  refine ws_iconst 95 rfl rfl kc_i0 ?_
  refine ws_aload_0 96 rfl rfl ?_
  refine ws_getfr 99 rfl rfl rfl rfl rfl ?_
  refine ws_iconst 100 rfl rfl kc_i0 ?_
  refine ws_aload_0 101 rfl rfl ?_
  refine ws_getfr 104 rfl rfl rfl rfl rfl ?_
  refine ws_alen 105 rfl rfl rfl rfl ?_
  refine ws_copy 108 11 rfl rfl rfl rfl rfl rfl rfl rfl (by omega) (by omega) (by omega) (by omega) (show xsum [] ≤ 8 by decide) ?_
  rw [← e6]
  have n6 : ∀ a, a ≠ 34 → J6 a = J5 a := fun a ha => by rw [e6]; exact wR_ne ha
  have v6 : ∀ j, j < 11 → J6 34 j = J5 11 j := fun j hj => by rw [e6, wR_self]; exact if_pos hj
  have g7 : J6 5 6 = nI x.M := by rw [n6 5 (by omega), n5 5 (by omega), n4 5 (by omega), n3 5 (by omega), n2 5 (by omega), n1 5 (by omega)]; exact h7
  have g8 : wI J6 28 6 (nI x.M) 5 7 = nI (x.A 6 0) := by rw [wI_ne (by decide), n6 5 (by omega), n5 5 (by omega), n4 5 (by omega), n3 5 (by omega), n2 5 (by omega), n1 5 (by omega)]; exact h8
  refine ws_aload_0 109 rfl rfl ?_
  refine ws_aload_1 110 rfl rfl ?_
  refine ws_getfi 113 rfl rfl rfl rfl rfl g7 ?_
  refine ws_putfi 116 rfl rfl rfl rfl rfl rfl rfl rfl ?_
  refine ws_aload_0 117 rfl rfl ?_
  refine ws_aload_1 118 rfl rfl ?_
  refine ws_getfi 121 rfl rfl rfl rfl rfl g8 ?_
  refine ws_putfi 124 rfl rfl rfl rfl rfl rfl rfl rfl ?_
  refine ws_vret rfl rfl rfl (Nat.le_of_ble_eq_true rfl) ?_
  refine ⟨rfl, _, rfl, fun a ha => ?_, ?_⟩
  · rw [wI_ne (by omega), wI_ne (by omega), n6 a (by omega), n5 a (by omega), n4 a (by omega), n3 a (by omega), n2 a (by omega), n1 a (by omega)]
  · refine ⟨fun j hj => ?_, fun j hj => ?_, fun j hj => ?_, fun j hj => ?_, fun j hj => ?_, fun j hj => ?_, ?_, ?_⟩
    · rw [wI_ne (show (29 : Nat) ≠ 28 by decide), wI_ne (show (29 : Nat) ≠ 28 by decide), n6 29 (by omega), n5 29 (by omega), n4 29 (by omega), n3 29 (by omega), n2 29 (by omega), v1 j hj]; exact h1 j hj
    · rw [wI_ne (show (30 : Nat) ≠ 28 by decide), wI_ne (show (30 : Nat) ≠ 28 by decide), n6 30 (by omega), n5 30 (by omega), n4 30 (by omega), n3 30 (by omega), v2 j hj, n1 7 (by omega)]; exact h2 j hj
    · rw [wI_ne (show (31 : Nat) ≠ 28 by decide), wI_ne (show (31 : Nat) ≠ 28 by decide), n6 31 (by omega), n5 31 (by omega), n4 31 (by omega), v3 j hj, n2 8 (by omega), n1 8 (by omega)]; exact h3 j hj
    · rw [wI_ne (show (32 : Nat) ≠ 28 by decide), wI_ne (show (32 : Nat) ≠ 28 by decide), n6 32 (by omega), n5 32 (by omega), v4 j hj, n3 9 (by omega), n2 9 (by omega), n1 9 (by omega)]; exact h4 j hj
    · rw [wI_ne (show (33 : Nat) ≠ 28 by decide), wI_ne (show (33 : Nat) ≠ 28 by decide), n6 33 (by omega), v5 j hj, n4 10 (by omega), n3 10 (by omega), n2 10 (by omega), n1 10 (by omega)]; exact h5 j hj
    · rw [wI_ne (show (34 : Nat) ≠ 28 by decide), wI_ne (show (34 : Nat) ≠ 28 by decide), v6 j hj, n5 11 (by omega), n4 11 (by omega), n3 11 (by omega), n2 11 (by omega), n1 11 (by omega)]; exact h6 j hj
    · rw [wI_eq, pk_un (by decide), wI_eq, pk_us]
    · rw [wI_eq, pk_us]
theorem k_take1 (h : scn 5 x I) : xC E 1 25 [.ref 35, .ref 5] (xS, I, L) (fun r t => r = none ∧ ∃ I', t = (xS, I', L) ∧ (∀ a, a < 35 ∨ 41 < a → I' a = I a) ∧ scn 35 x I') := by
  refine xC.mk [some (.ref 35), some (.ref 5)] rfl ?_
  obtain ⟨h1, h2, h3, h4, h5, h6, h7, h8⟩ := h
  obtain ⟨J1, e1⟩ : ∃ J, J = wR I 36 (fun j => if j < 15 then I 6 j else I 36 j) := ⟨_, rfl⟩
  refine ws_aload_1 1 rfl rfl ?_
  refine ws_getfr 4 rfl rfl rfl rfl rfl ?_
  refine ws_iconst 5 rfl rfl kc_i0 ?_
  refine ws_aload_0 6 rfl rfl ?_
  refine ws_getfr 9 rfl rfl rfl rfl rfl ?_
  refine ws_iconst 10 rfl rfl kc_i0 ?_
  refine ws_aload_0 11 rfl rfl ?_
  refine ws_getfr 14 rfl rfl rfl rfl rfl ?_
  refine ws_alen 15 rfl rfl rfl rfl ?_
  refine ws_copy 18 15 rfl rfl rfl rfl rfl rfl rfl rfl (by omega) (by omega) (by omega) (by omega) (show xsum [] ≤ 8 by decide) ?_
  rw [← e1]
  have n1 : ∀ a, a ≠ 36 → J1 a = I a := fun a ha => by rw [e1]; exact wR_ne ha
  have v1 : ∀ j, j < 15 → J1 36 j = I 6 j := fun j hj => by rw [e1, wR_self]; exact if_pos hj
  obtain ⟨J2, e2⟩ : ∃ J, J = wR J1 37 (fun j => if j < 5 then J1 7 j else J1 37 j) := ⟨_, rfl⟩
  refine ws_aload_1 19 rfl rfl ?_
  refine ws_getfr 22 rfl rfl rfl rfl rfl ?_
  refine ws_iconst 23 rfl rfl kc_i0 ?_
  refine ws_aload_0 24 rfl rfl ?_
  refine ws_getfr 27 rfl rfl rfl rfl rfl ?_
  refine ws_iconst 28 rfl rfl kc_i0 ?_
  refine ws_aload_0 29 rfl rfl ?_
  refine ws_getfr 32 rfl rfl rfl rfl rfl ?_
  refine ws_alen 33 rfl rfl rfl rfl ?_
  refine ws_copy 36 5 rfl rfl rfl rfl rfl rfl rfl rfl (by omega) (by omega) (by omega) (by omega) (show xsum [] ≤ 8 by decide) ?_
  rw [← e2]
  have n2 : ∀ a, a ≠ 37 → J2 a = J1 a := fun a ha => by rw [e2]; exact wR_ne ha
  have v2 : ∀ j, j < 5 → J2 37 j = J1 7 j := fun j hj => by rw [e2, wR_self]; exact if_pos hj
  obtain ⟨J3, e3⟩ : ∃ J, J = wR J2 38 (fun j => if j < 5 then J2 8 j else J2 38 j) := ⟨_, rfl⟩
  refine ws_aload_1 37 rfl rfl ?_
  refine ws_getfr 40 rfl rfl rfl rfl rfl ?_
  refine ws_iconst 41 rfl rfl kc_i0 ?_
  refine ws_aload_0 42 rfl rfl ?_
  refine ws_getfr 45 rfl rfl rfl rfl rfl ?_
  refine ws_iconst 46 rfl rfl kc_i0 ?_
  refine ws_aload_0 47 rfl rfl ?_
  refine ws_getfr 50 rfl rfl rfl rfl rfl ?_
  refine ws_alen 51 rfl rfl rfl rfl ?_
  refine ws_copy 54 5 rfl rfl rfl rfl rfl rfl rfl rfl (by omega) (by omega) (by omega) (by omega) (show xsum [] ≤ 8 by decide) ?_
  rw [← e3]
  have n3 : ∀ a, a ≠ 38 → J3 a = J2 a := fun a ha => by rw [e3]; exact wR_ne ha
  have v3 : ∀ j, j < 5 → J3 38 j = J2 8 j := fun j hj => by rw [e3, wR_self]; exact if_pos hj
  obtain ⟨J4, e4⟩ : ∃ J, J = wR J3 39 (fun j => if j < 24 then J3 9 j else J3 39 j) := ⟨_, rfl⟩
  refine ws_aload_1 55 rfl rfl ?_
  refine ws_getfr 58 rfl rfl rfl rfl rfl ?_
  refine ws_iconst 59 rfl rfl kc_i0 ?_
  refine ws_aload_0 60 rfl rfl ?_
  refine ws_getfr 63 rfl rfl rfl rfl rfl ?_
  refine ws_iconst 64 rfl rfl kc_i0 ?_
  refine ws_aload_0 65 rfl rfl ?_
  refine ws_getfr 68 rfl rfl rfl rfl rfl ?_
  refine ws_alen 69 rfl rfl rfl rfl ?_
  refine ws_copy 72 24 rfl rfl rfl rfl rfl rfl rfl rfl (by omega) (by omega) (by omega) (by omega) (show xsum [] ≤ 8 by decide) ?_
  rw [← e4]
  have n4 : ∀ a, a ≠ 39 → J4 a = J3 a := fun a ha => by rw [e4]; exact wR_ne ha
  have v4 : ∀ j, j < 24 → J4 39 j = J3 9 j := fun j hj => by rw [e4, wR_self]; exact if_pos hj
  obtain ⟨J5, e5⟩ : ∃ J, J = wR J4 40 (fun j => if j < 20 then J4 10 j else J4 40 j) := ⟨_, rfl⟩
  refine ws_aload_1 73 rfl rfl ?_
  refine ws_getfr 76 rfl rfl rfl rfl rfl ?_
  refine ws_iconst 77 rfl rfl kc_i0 ?_
  refine ws_aload_0 78 rfl rfl ?_
  refine ws_getfr 81 rfl rfl rfl rfl rfl ?_
  refine ws_iconst 82 rfl rfl kc_i0 ?_
  refine ws_aload_0 83 rfl rfl ?_
  refine ws_getfr 86 rfl rfl rfl rfl rfl ?_
  refine ws_alen 87 rfl rfl rfl rfl ?_
  refine ws_copy 90 20 rfl rfl rfl rfl rfl rfl rfl rfl (by omega) (by omega) (by omega) (by omega) (show xsum [] ≤ 8 by decide) ?_
  rw [← e5]
  have n5 : ∀ a, a ≠ 40 → J5 a = J4 a := fun a ha => by rw [e5]; exact wR_ne ha
  have v5 : ∀ j, j < 20 → J5 40 j = J4 10 j := fun j hj => by rw [e5, wR_self]; exact if_pos hj
  obtain ⟨J6, e6⟩ : ∃ J, J = wR J5 41 (fun j => if j < 11 then J5 11 j else J5 41 j) := ⟨_, rfl⟩
  refine ws_aload_1 91 rfl rfl ?_
  refine ws_getfr 94 rfl rfl rfl rfl rfl ?_
  refine ws_iconst 95 rfl rfl kc_i0 ?_
  refine ws_aload_0 96 rfl rfl ?_
  refine ws_getfr 99 rfl rfl rfl rfl rfl ?_
  refine ws_iconst 100 rfl rfl kc_i0 ?_
  refine ws_aload_0 101 rfl rfl ?_
  refine ws_getfr 104 rfl rfl rfl rfl rfl ?_
  refine ws_alen 105 rfl rfl rfl rfl ?_
  refine ws_copy 108 11 rfl rfl rfl rfl rfl rfl rfl rfl (by omega) (by omega) (by omega) (by omega) (show xsum [] ≤ 8 by decide) ?_
  rw [← e6]
  have n6 : ∀ a, a ≠ 41 → J6 a = J5 a := fun a ha => by rw [e6]; exact wR_ne ha
  have v6 : ∀ j, j < 11 → J6 41 j = J5 11 j := fun j hj => by rw [e6, wR_self]; exact if_pos hj
  have g7 : J6 5 6 = nI x.M := by rw [n6 5 (by omega), n5 5 (by omega), n4 5 (by omega), n3 5 (by omega), n2 5 (by omega), n1 5 (by omega)]; exact h7
  have g8 : wI J6 35 6 (nI x.M) 5 7 = nI (x.A 6 0) := by rw [wI_ne (by decide), n6 5 (by omega), n5 5 (by omega), n4 5 (by omega), n3 5 (by omega), n2 5 (by omega), n1 5 (by omega)]; exact h8
  refine ws_aload_0 109 rfl rfl ?_
  refine ws_aload_1 110 rfl rfl ?_
  refine ws_getfi 113 rfl rfl rfl rfl rfl g7 ?_
  refine ws_putfi 116 rfl rfl rfl rfl rfl rfl rfl rfl ?_
  refine ws_aload_0 117 rfl rfl ?_
  refine ws_aload_1 118 rfl rfl ?_
  refine ws_getfi 121 rfl rfl rfl rfl rfl g8 ?_
  refine ws_putfi 124 rfl rfl rfl rfl rfl rfl rfl rfl ?_
  refine ws_vret rfl rfl rfl (Nat.le_of_ble_eq_true rfl) ?_
  refine ⟨rfl, _, rfl, fun a ha => ?_, ?_⟩
  · rw [wI_ne (by omega), wI_ne (by omega), n6 a (by omega), n5 a (by omega), n4 a (by omega), n3 a (by omega), n2 a (by omega), n1 a (by omega)]
  · refine ⟨fun j hj => ?_, fun j hj => ?_, fun j hj => ?_, fun j hj => ?_, fun j hj => ?_, fun j hj => ?_, ?_, ?_⟩
    · rw [wI_ne (show (36 : Nat) ≠ 35 by decide), wI_ne (show (36 : Nat) ≠ 35 by decide), n6 36 (by omega), n5 36 (by omega), n4 36 (by omega), n3 36 (by omega), n2 36 (by omega), v1 j hj]; exact h1 j hj
    · rw [wI_ne (show (37 : Nat) ≠ 35 by decide), wI_ne (show (37 : Nat) ≠ 35 by decide), n6 37 (by omega), n5 37 (by omega), n4 37 (by omega), n3 37 (by omega), v2 j hj, n1 7 (by omega)]; exact h2 j hj
    · rw [wI_ne (show (38 : Nat) ≠ 35 by decide), wI_ne (show (38 : Nat) ≠ 35 by decide), n6 38 (by omega), n5 38 (by omega), n4 38 (by omega), v3 j hj, n2 8 (by omega), n1 8 (by omega)]; exact h3 j hj
    · rw [wI_ne (show (39 : Nat) ≠ 35 by decide), wI_ne (show (39 : Nat) ≠ 35 by decide), n6 39 (by omega), n5 39 (by omega), v4 j hj, n3 9 (by omega), n2 9 (by omega), n1 9 (by omega)]; exact h4 j hj
    · rw [wI_ne (show (40 : Nat) ≠ 35 by decide), wI_ne (show (40 : Nat) ≠ 35 by decide), n6 40 (by omega), v5 j hj, n4 10 (by omega), n3 10 (by omega), n2 10 (by omega), n1 10 (by omega)]; exact h5 j hj
    · rw [wI_ne (show (41 : Nat) ≠ 35 by decide), wI_ne (show (41 : Nat) ≠ 35 by decide), v6 j hj, n5 11 (by omega), n4 11 (by omega), n3 11 (by omega), n2 11 (by omega), n1 11 (by omega)]; exact h6 j hj
    · rw [wI_eq, pk_un (by decide), wI_eq, pk_us]
    · rw [wI_eq, pk_us]
theorem k_back0 (h : scn 28 x I) : xC E 1 25 [.ref 5, .ref 28] (xS, I, L) (fun r t => r = none ∧ ∃ I', t = (xS, I', L) ∧ (∀ a, a < 5 ∨ 11 < a → I' a = I a) ∧ scn 5 x I') := by
  refine xC.mk [some (.ref 5), some (.ref 28)] rfl ?_
  obtain ⟨h1, h2, h3, h4, h5, h6, h7, h8⟩ := h
  obtain ⟨J1, e1⟩ : ∃ J, J = wR I 6 (fun j => if j < 15 then I 29 j else I 6 j) := ⟨_, rfl⟩
  refine ws_aload_1 1 rfl rfl ?_
  refine ws_getfr 4 rfl rfl rfl rfl rfl ?_
  refine ws_iconst 5 rfl rfl kc_i0 ?_
  refine ws_aload_0 6 rfl rfl ?_
  refine ws_getfr 9 rfl rfl rfl rfl rfl ?_
  refine ws_iconst 10 rfl rfl kc_i0 ?_
  refine ws_aload_0 11 rfl rfl ?_
  refine ws_getfr 14 rfl rfl rfl rfl rfl ?_
  refine ws_alen 15 rfl rfl rfl rfl ?_
  refine ws_copy 18 15 rfl rfl rfl rfl rfl rfl rfl rfl (by omega) (by omega) (by omega) (by omega) (show xsum [] ≤ 8 by decide) ?_
  rw [← e1]
  have n1 : ∀ a, a ≠ 6 → J1 a = I a := fun a ha => by rw [e1]; exact wR_ne ha
  have v1 : ∀ j, j < 15 → J1 6 j = I 29 j := fun j hj => by rw [e1, wR_self]; exact if_pos hj
  obtain ⟨J2, e2⟩ : ∃ J, J = wR J1 7 (fun j => if j < 5 then J1 30 j else J1 7 j) := ⟨_, rfl⟩
  refine ws_aload_1 19 rfl rfl ?_
  refine ws_getfr 22 rfl rfl rfl rfl rfl ?_
  refine ws_iconst 23 rfl rfl kc_i0 ?_
  refine ws_aload_0 24 rfl rfl ?_
  refine ws_getfr 27 rfl rfl rfl rfl rfl ?_
  refine ws_iconst 28 rfl rfl kc_i0 ?_
  refine ws_aload_0 29 rfl rfl ?_
  refine ws_getfr 32 rfl rfl rfl rfl rfl ?_
  refine ws_alen 33 rfl rfl rfl rfl ?_
  refine ws_copy 36 5 rfl rfl rfl rfl rfl rfl rfl rfl (by omega) (by omega) (by omega) (by omega) (show xsum [] ≤ 8 by decide) ?_
  rw [← e2]
  have n2 : ∀ a, a ≠ 7 → J2 a = J1 a := fun a ha => by rw [e2]; exact wR_ne ha
  have v2 : ∀ j, j < 5 → J2 7 j = J1 30 j := fun j hj => by rw [e2, wR_self]; exact if_pos hj
  obtain ⟨J3, e3⟩ : ∃ J, J = wR J2 8 (fun j => if j < 5 then J2 31 j else J2 8 j) := ⟨_, rfl⟩
  refine ws_aload_1 37 rfl rfl ?_
  refine ws_getfr 40 rfl rfl rfl rfl rfl ?_
  refine ws_iconst 41 rfl rfl kc_i0 ?_
  refine ws_aload_0 42 rfl rfl ?_
  refine ws_getfr 45 rfl rfl rfl rfl rfl ?_
  refine ws_iconst 46 rfl rfl kc_i0 ?_
  refine ws_aload_0 47 rfl rfl ?_
  refine ws_getfr 50 rfl rfl rfl rfl rfl ?_
  refine ws_alen 51 rfl rfl rfl rfl ?_
  refine ws_copy 54 5 rfl rfl rfl rfl rfl rfl rfl rfl (by omega) (by omega) (by omega) (by omega) (show xsum [] ≤ 8 by decide) ?_
  rw [← e3]
  have n3 : ∀ a, a ≠ 8 → J3 a = J2 a := fun a ha => by rw [e3]; exact wR_ne ha
  have v3 : ∀ j, j < 5 → J3 8 j = J2 31 j := fun j hj => by rw [e3, wR_self]; exact if_pos hj
  obtain ⟨J4, e4⟩ : ∃ J, J = wR J3 9 (fun j => if j < 24 then J3 32 j else J3 9 j) := ⟨_, rfl⟩
  refine ws_aload_1 55 rfl rfl ?_
  refine ws_getfr 58 rfl rfl rfl rfl rfl ?_
  refine ws_iconst 59 rfl rfl kc_i0 ?_
  refine ws_aload_0 60 rfl rfl ?_
  refine ws_getfr 63 rfl rfl rfl rfl rfl ?_
  refine ws_iconst 64 rfl rfl kc_i0 ?_
  refine ws_aload_0 65 rfl rfl ?_
  refine ws_getfr 68 rfl rfl rfl rfl rfl ?_
  refine ws_alen 69 rfl rfl rfl rfl ?_
  refine ws_copy 72 24 rfl rfl rfl rfl rfl rfl rfl rfl (by omega) (by omega) (by omega) (by omega) (show xsum [] ≤ 8 by decide) ?_
  rw [← e4]
  have n4 : ∀ a, a ≠ 9 → J4 a = J3 a := fun a ha => by rw [e4]; exact wR_ne ha
  have v4 : ∀ j, j < 24 → J4 9 j = J3 32 j := fun j hj => by rw [e4, wR_self]; exact if_pos hj
  obtain ⟨J5, e5⟩ : ∃ J, J = wR J4 10 (fun j => if j < 20 then J4 33 j else J4 10 j) := ⟨_, rfl⟩
  refine ws_aload_1 73 rfl rfl ?_
  refine ws_getfr 76 rfl rfl rfl rfl rfl ?_
  refine ws_iconst 77 rfl rfl kc_i0 ?_
  refine ws_aload_0 78 rfl rfl ?_
  refine ws_getfr 81 rfl rfl rfl rfl rfl ?_
  refine ws_iconst 82 rfl rfl kc_i0 ?_
  refine ws_aload_0 83 rfl rfl ?_
  refine ws_getfr 86 rfl rfl rfl rfl rfl ?_
  refine ws_alen 87 rfl rfl rfl rfl ?_
  refine ws_copy 90 20 rfl rfl rfl rfl rfl rfl rfl rfl (by omega) (by omega) (by omega) (by omega) (show xsum [] ≤ 8 by decide) ?_
  rw [← e5]
  have n5 : ∀ a, a ≠ 10 → J5 a = J4 a := fun a ha => by rw [e5]; exact wR_ne ha
  have v5 : ∀ j, j < 20 → J5 10 j = J4 33 j := fun j hj => by rw [e5, wR_self]; exact if_pos hj
  obtain ⟨J6, e6⟩ : ∃ J, J = wR J5 11 (fun j => if j < 11 then J5 34 j else J5 11 j) := ⟨_, rfl⟩
  refine ws_aload_1 91 rfl rfl ?_
  refine ws_getfr 94 rfl rfl rfl rfl rfl ?_
  refine ws_iconst 95 rfl rfl kc_i0 ?_
  refine ws_aload_0 96 rfl rfl ?_
  refine ws_getfr 99 rfl rfl rfl rfl rfl ?_
  refine ws_iconst 100 rfl rfl kc_i0 ?_
  refine ws_aload_0 101 rfl rfl ?_
  refine ws_getfr 104 rfl rfl rfl rfl rfl ?_
  refine ws_alen 105 rfl rfl rfl rfl ?_
  refine ws_copy 108 11 rfl rfl rfl rfl rfl rfl rfl rfl (by omega) (by omega) (by omega) (by omega) (show xsum [] ≤ 8 by decide) ?_
  rw [← e6]
  have n6 : ∀ a, a ≠ 11 → J6 a = J5 a := fun a ha => by rw [e6]; exact wR_ne ha
  have v6 : ∀ j, j < 11 → J6 11 j = J5 34 j := fun j hj => by rw [e6, wR_self]; exact if_pos hj
  have g7 : J6 28 6 = nI x.M := by rw [n6 28 (by omega), n5 28 (by omega), n4 28 (by omega), n3 28 (by omega), n2 28 (by omega), n1 28 (by omega)]; exact h7
  have g8 : wI J6 5 6 (nI x.M) 28 7 = nI (x.A 6 0) := by rw [wI_ne (by decide), n6 28 (by omega), n5 28 (by omega), n4 28 (by omega), n3 28 (by omega), n2 28 (by omega), n1 28 (by omega)]; exact h8
  refine ws_aload_0 109 rfl rfl ?_
  refine ws_aload_1 110 rfl rfl ?_
  refine ws_getfi 113 rfl rfl rfl rfl rfl g7 ?_
  refine ws_putfi 116 rfl rfl rfl rfl rfl rfl rfl rfl ?_
  refine ws_aload_0 117 rfl rfl ?_
  refine ws_aload_1 118 rfl rfl ?_
  refine ws_getfi 121 rfl rfl rfl rfl rfl g8 ?_
  refine ws_putfi 124 rfl rfl rfl rfl rfl rfl rfl rfl ?_
  refine ws_vret rfl rfl rfl (Nat.le_of_ble_eq_true rfl) ?_
  refine ⟨rfl, _, rfl, fun a ha => ?_, ?_⟩
  · rw [wI_ne (by omega), wI_ne (by omega), n6 a (by omega), n5 a (by omega), n4 a (by omega), n3 a (by omega), n2 a (by omega), n1 a (by omega)]
  · refine ⟨fun j hj => ?_, fun j hj => ?_, fun j hj => ?_, fun j hj => ?_, fun j hj => ?_, fun j hj => ?_, ?_, ?_⟩
    · rw [wI_ne (show (6 : Nat) ≠ 5 by decide), wI_ne (show (6 : Nat) ≠ 5 by decide), n6 6 (by omega), n5 6 (by omega), n4 6 (by omega), n3 6 (by omega), n2 6 (by omega), v1 j hj]; exact h1 j hj
    · rw [wI_ne (show (7 : Nat) ≠ 5 by decide), wI_ne (show (7 : Nat) ≠ 5 by decide), n6 7 (by omega), n5 7 (by omega), n4 7 (by omega), n3 7 (by omega), v2 j hj, n1 30 (by omega)]; exact h2 j hj
    · rw [wI_ne (show (8 : Nat) ≠ 5 by decide), wI_ne (show (8 : Nat) ≠ 5 by decide), n6 8 (by omega), n5 8 (by omega), n4 8 (by omega), v3 j hj, n2 31 (by omega), n1 31 (by omega)]; exact h3 j hj
    · rw [wI_ne (show (9 : Nat) ≠ 5 by decide), wI_ne (show (9 : Nat) ≠ 5 by decide), n6 9 (by omega), n5 9 (by omega), v4 j hj, n3 32 (by omega), n2 32 (by omega), n1 32 (by omega)]; exact h4 j hj
    · rw [wI_ne (show (10 : Nat) ≠ 5 by decide), wI_ne (show (10 : Nat) ≠ 5 by decide), n6 10 (by omega), v5 j hj, n4 33 (by omega), n3 33 (by omega), n2 33 (by omega), n1 33 (by omega)]; exact h5 j hj
    · rw [wI_ne (show (11 : Nat) ≠ 5 by decide), wI_ne (show (11 : Nat) ≠ 5 by decide), v6 j hj, n5 34 (by omega), n4 34 (by omega), n3 34 (by omega), n2 34 (by omega), n1 34 (by omega)]; exact h6 j hj
    · rw [wI_eq, pk_un (by decide), wI_eq, pk_us]
    · rw [wI_eq, pk_us]
theorem k_back1 (h : scn 35 x I) : xC E 1 25 [.ref 5, .ref 35] (xS, I, L) (fun r t => r = none ∧ ∃ I', t = (xS, I', L) ∧ (∀ a, a < 5 ∨ 11 < a → I' a = I a) ∧ scn 5 x I') := by
  refine xC.mk [some (.ref 5), some (.ref 35)] rfl ?_
  obtain ⟨h1, h2, h3, h4, h5, h6, h7, h8⟩ := h
  obtain ⟨J1, e1⟩ : ∃ J, J = wR I 6 (fun j => if j < 15 then I 36 j else I 6 j) := ⟨_, rfl⟩
  refine ws_aload_1 1 rfl rfl ?_
  refine ws_getfr 4 rfl rfl rfl rfl rfl ?_
  refine ws_iconst 5 rfl rfl kc_i0 ?_
  refine ws_aload_0 6 rfl rfl ?_
  refine ws_getfr 9 rfl rfl rfl rfl rfl ?_
  refine ws_iconst 10 rfl rfl kc_i0 ?_
  refine ws_aload_0 11 rfl rfl ?_
  refine ws_getfr 14 rfl rfl rfl rfl rfl ?_
  refine ws_alen 15 rfl rfl rfl rfl ?_
  refine ws_copy 18 15 rfl rfl rfl rfl rfl rfl rfl rfl (by omega) (by omega) (by omega) (by omega) (show xsum [] ≤ 8 by decide) ?_
  rw [← e1]
  have n1 : ∀ a, a ≠ 6 → J1 a = I a := fun a ha => by rw [e1]; exact wR_ne ha
  have v1 : ∀ j, j < 15 → J1 6 j = I 36 j := fun j hj => by rw [e1, wR_self]; exact if_pos hj
  obtain ⟨J2, e2⟩ : ∃ J, J = wR J1 7 (fun j => if j < 5 then J1 37 j else J1 7 j) := ⟨_, rfl⟩
  refine ws_aload_1 19 rfl rfl ?_
  refine ws_getfr 22 rfl rfl rfl rfl rfl ?_
  refine ws_iconst 23 rfl rfl kc_i0 ?_
  refine ws_aload_0 24 rfl rfl ?_
  refine ws_getfr 27 rfl rfl rfl rfl rfl ?_
  refine ws_iconst 28 rfl rfl kc_i0 ?_
  refine ws_aload_0 29 rfl rfl ?_
  refine ws_getfr 32 rfl rfl rfl rfl rfl ?_
  refine ws_alen 33 rfl rfl rfl rfl ?_
  refine ws_copy 36 5 rfl rfl rfl rfl rfl rfl rfl rfl (by omega) (by omega) (by omega) (by omega) (show xsum [] ≤ 8 by decide) ?_
  rw [← e2]
  have n2 : ∀ a, a ≠ 7 → J2 a = J1 a := fun a ha => by rw [e2]; exact wR_ne ha
  have v2 : ∀ j, j < 5 → J2 7 j = J1 37 j := fun j hj => by rw [e2, wR_self]; exact if_pos hj
  obtain ⟨J3, e3⟩ : ∃ J, J = wR J2 8 (fun j => if j < 5 then J2 38 j else J2 8 j) := ⟨_, rfl⟩
  refine ws_aload_1 37 rfl rfl ?_
  refine ws_getfr 40 rfl rfl rfl rfl rfl ?_
  refine ws_iconst 41 rfl rfl kc_i0 ?_
  refine ws_aload_0 42 rfl rfl ?_
  refine ws_getfr 45 rfl rfl rfl rfl rfl ?_
  refine ws_iconst 46 rfl rfl kc_i0 ?_
  refine ws_aload_0 47 rfl rfl ?_
  refine ws_getfr 50 rfl rfl rfl rfl rfl ?_
  refine ws_alen 51 rfl rfl rfl rfl ?_
  refine ws_copy 54 5 rfl rfl rfl rfl rfl rfl rfl rfl (by omega) (by omega) (by omega) (by omega) (show xsum [] ≤ 8 by decide) ?_
  rw [← e3]
  have n3 : ∀ a, a ≠ 8 → J3 a = J2 a := fun a ha => by rw [e3]; exact wR_ne ha
  have v3 : ∀ j, j < 5 → J3 8 j = J2 38 j := fun j hj => by rw [e3, wR_self]; exact if_pos hj
  obtain ⟨J4, e4⟩ : ∃ J, J = wR J3 9 (fun j => if j < 24 then J3 39 j else J3 9 j) := ⟨_, rfl⟩
  refine ws_aload_1 55 rfl rfl ?_
  refine ws_getfr 58 rfl rfl rfl rfl rfl ?_
  refine ws_iconst 59 rfl rfl kc_i0 ?_
  refine ws_aload_0 60 rfl rfl ?_
  refine ws_getfr 63 rfl rfl rfl rfl rfl ?_
  refine ws_iconst 64 rfl rfl kc_i0 ?_
  refine ws_aload_0 65 rfl rfl ?_
  refine ws_getfr 68 rfl rfl rfl rfl rfl ?_
  refine ws_alen 69 rfl rfl rfl rfl ?_
  refine ws_copy 72 24 rfl rfl rfl rfl rfl rfl rfl rfl (by omega) (by omega) (by omega) (by omega) (show xsum [] ≤ 8 by decide) ?_
  rw [← e4]
  have n4 : ∀ a, a ≠ 9 → J4 a = J3 a := fun a ha => by rw [e4]; exact wR_ne ha
  have v4 : ∀ j, j < 24 → J4 9 j = J3 39 j := fun j hj => by rw [e4, wR_self]; exact if_pos hj
  obtain ⟨J5, e5⟩ : ∃ J, J = wR J4 10 (fun j => if j < 20 then J4 40 j else J4 10 j) := ⟨_, rfl⟩
  refine ws_aload_1 73 rfl rfl ?_
  refine ws_getfr 76 rfl rfl rfl rfl rfl ?_
  refine ws_iconst 77 rfl rfl kc_i0 ?_
  refine ws_aload_0 78 rfl rfl ?_
  refine ws_getfr 81 rfl rfl rfl rfl rfl ?_
  refine ws_iconst 82 rfl rfl kc_i0 ?_
  refine ws_aload_0 83 rfl rfl ?_
  refine ws_getfr 86 rfl rfl rfl rfl rfl ?_
  refine ws_alen 87 rfl rfl rfl rfl ?_
  refine ws_copy 90 20 rfl rfl rfl rfl rfl rfl rfl rfl (by omega) (by omega) (by omega) (by omega) (show xsum [] ≤ 8 by decide) ?_
  rw [← e5]
  have n5 : ∀ a, a ≠ 10 → J5 a = J4 a := fun a ha => by rw [e5]; exact wR_ne ha
  have v5 : ∀ j, j < 20 → J5 10 j = J4 40 j := fun j hj => by rw [e5, wR_self]; exact if_pos hj
  obtain ⟨J6, e6⟩ : ∃ J, J = wR J5 11 (fun j => if j < 11 then J5 41 j else J5 11 j) := ⟨_, rfl⟩
  refine ws_aload_1 91 rfl rfl ?_
  refine ws_getfr 94 rfl rfl rfl rfl rfl ?_
  refine ws_iconst 95 rfl rfl kc_i0 ?_
  refine ws_aload_0 96 rfl rfl ?_
  refine ws_getfr 99 rfl rfl rfl rfl rfl ?_
  refine ws_iconst 100 rfl rfl kc_i0 ?_
  refine ws_aload_0 101 rfl rfl ?_
  refine ws_getfr 104 rfl rfl rfl rfl rfl ?_
  refine ws_alen 105 rfl rfl rfl rfl ?_
  refine ws_copy 108 11 rfl rfl rfl rfl rfl rfl rfl rfl (by omega) (by omega) (by omega) (by omega) (show xsum [] ≤ 8 by decide) ?_
  rw [← e6]
  have n6 : ∀ a, a ≠ 11 → J6 a = J5 a := fun a ha => by rw [e6]; exact wR_ne ha
  have v6 : ∀ j, j < 11 → J6 11 j = J5 41 j := fun j hj => by rw [e6, wR_self]; exact if_pos hj
  have g7 : J6 35 6 = nI x.M := by rw [n6 35 (by omega), n5 35 (by omega), n4 35 (by omega), n3 35 (by omega), n2 35 (by omega), n1 35 (by omega)]; exact h7
  have g8 : wI J6 5 6 (nI x.M) 35 7 = nI (x.A 6 0) := by rw [wI_ne (by decide), n6 35 (by omega), n5 35 (by omega), n4 35 (by omega), n3 35 (by omega), n2 35 (by omega), n1 35 (by omega)]; exact h8
  refine ws_aload_0 109 rfl rfl ?_
  refine ws_aload_1 110 rfl rfl ?_
  refine ws_getfi 113 rfl rfl rfl rfl rfl g7 ?_
  refine ws_putfi 116 rfl rfl rfl rfl rfl rfl rfl rfl ?_
  refine ws_aload_0 117 rfl rfl ?_
  refine ws_aload_1 118 rfl rfl ?_
  refine ws_getfi 121 rfl rfl rfl rfl rfl g8 ?_
  refine ws_putfi 124 rfl rfl rfl rfl rfl rfl rfl rfl ?_
  refine ws_vret rfl rfl rfl (Nat.le_of_ble_eq_true rfl) ?_
  refine ⟨rfl, _, rfl, fun a ha => ?_, ?_⟩
  · rw [wI_ne (by omega), wI_ne (by omega), n6 a (by omega), n5 a (by omega), n4 a (by omega), n3 a (by omega), n2 a (by omega), n1 a (by omega)]
  · refine ⟨fun j hj => ?_, fun j hj => ?_, fun j hj => ?_, fun j hj => ?_, fun j hj => ?_, fun j hj => ?_, ?_, ?_⟩
    · rw [wI_ne (show (6 : Nat) ≠ 5 by decide), wI_ne (show (6 : Nat) ≠ 5 by decide), n6 6 (by omega), n5 6 (by omega), n4 6 (by omega), n3 6 (by omega), n2 6 (by omega), v1 j hj]; exact h1 j hj
    · rw [wI_ne (show (7 : Nat) ≠ 5 by decide), wI_ne (show (7 : Nat) ≠ 5 by decide), n6 7 (by omega), n5 7 (by omega), n4 7 (by omega), n3 7 (by omega), v2 j hj, n1 37 (by omega)]; exact h2 j hj
    · rw [wI_ne (show (8 : Nat) ≠ 5 by decide), wI_ne (show (8 : Nat) ≠ 5 by decide), n6 8 (by omega), n5 8 (by omega), n4 8 (by omega), v3 j hj, n2 38 (by omega), n1 38 (by omega)]; exact h3 j hj
    · rw [wI_ne (show (9 : Nat) ≠ 5 by decide), wI_ne (show (9 : Nat) ≠ 5 by decide), n6 9 (by omega), n5 9 (by omega), v4 j hj, n3 39 (by omega), n2 39 (by omega), n1 39 (by omega)]; exact h4 j hj
    · rw [wI_ne (show (10 : Nat) ≠ 5 by decide), wI_ne (show (10 : Nat) ≠ 5 by decide), n6 10 (by omega), v5 j hj, n4 40 (by omega), n3 40 (by omega), n2 40 (by omega), n1 40 (by omega)]; exact h5 j hj
    · rw [wI_ne (show (11 : Nat) ≠ 5 by decide), wI_ne (show (11 : Nat) ≠ 5 by decide), v6 j hj, n5 41 (by omega), n4 41 (by omega), n3 41 (by omega), n2 41 (by omega), n1 41 (by omega)]; exact h6 j hj
    · rw [wI_eq, pk_un (by decide), wI_eq, pk_us]
    · rw [wI_eq, pk_us]
end TAKE
