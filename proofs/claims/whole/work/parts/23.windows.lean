/-! ===== Windows: the list, weeks, the greatest ===== -/
def holds (I : Nat → Nat → Int32) (acc : List (Nat × Nat)) : Prop := I 19 3 = nI acc.length ∧ ∀ i e, acc[i]? = some e → I 20 i = nI e.1 ∧ I 21 i = nI e.2
theorem or8 {a d : Nat} (h : d < 8) : a * 2 ^ 3 ||| d = a * 8 + d := by
  have := Nat.shiftLeft_add_eq_or_of_lt (b := d) (i := 3) h a
  rw [Nat.shiftLeft_eq] at this
  exact this.symm
theorem enT_pos (f : Nat → Nat → List (Nat × Nat)) (num s : Nat) : ∀ {a b : Nat}, a ≤ b → (enT f num s a).length ≤ (enT f num s b).length
  | a, 0, h => by
    have : a = 0 := by omega
    rw [this]; exact Nat.le_refl _
  | a, b + 1, h => by
    rcases Nat.lt_or_ge a (b + 1) with q | q
    · have := enT_pos f num s (show a ≤ b by omega)
      show _ ≤ (enT f num s b ++ _).length
      rw [List.length_append]; omega
    · have : a = b + 1 := by omega
      rw [this]; exact Nat.le_refl _
/-- the class's scene -/
def SC (A : Nat → Nat → Nat) (F : Nat → Nat) (I : Nat → Nat → Int32) : Prop := (∀ j, j < 15 → I 6 j = nI (A 0 j)) ∧ (∀ j, j < 5 → I 7 j = nI (A 1 j)) ∧ (∀ j, j < 24 → I 9 j = nI (A 3 j)) ∧ (∀ j, j < 20 → I 10 j = nI (F j)) ∧ I 5 7 = nI (A 6 0)
def okA (A : Nat → Nat → Nat) (F : Nat → Nat) : Prop := (∀ j, j < 5 → A 0 j ≤ 9) ∧ (∀ j, j < 5 → A 1 j ≤ 9) ∧ (∀ j, j < 15 → A 0 j ≤ 99) ∧ A 6 0 ≤ 99 ∧ okK A ∧ ∀ j, j < 20 → F j ≤ 1000
theorem SC.keep {A : Nat → Nat → Nat} {F : Nat → Nat} {I I' : Nat → Nat → Int32} (h : SC A F I) (hf : ∀ a, a < 14 → I' a = I a) : SC A F I' := by
  obtain ⟨h1, h2, h3, h4, h5⟩ := h
  exact ⟨fun j hj => by rw [hf 6 (by omega)]; exact h1 j hj, fun j hj => by rw [hf 7 (by omega)]; exact h2 j hj, fun j hj => by rw [hf 9 (by omega)]; exact h3 j hj, fun j hj => by rw [hf 10 (by omega)]; exact h4 j hj, by rw [hf 5 (by omega)]; exact h5⟩
/-- the week of a code -/
def wkc (A : Nat → Nat → Nat) (F : Nat → Nat) (c : Nat) : Nat := wkF A F (dg c) 0
theorem wkc_le {A : Nat → Nat → Nat} {F : Nat → Nat} (h : okA A F) (c : Nat) : wkc A F c ≤ 395604000 := wkF_le h.2.2.2.2.1 (fun p _ => dg_le c p) h.2.2.2.2.2 h.2.2.1 h.2.2.2.1
def cch (g : Nat → Nat) (I : Nat → Nat → Int32) : Prop := ∀ i, i < 1546 → I 22 i = -1 ∨ I 22 i = nI (g (vcn i))
/-- weeks are ready -/
def RD (g : Nat → Nat) (I : Nat → Nat → Int32) : Prop := holds I (en 5 0 0) ∧ I 19 5 = nI 1 ∧ cch g I
/-- before: perhaps not listed, perhaps forgotten -/
def PR (g : Nat → Nat) (I : Nat → Nat → Int32) : Prop := (I 19 3 = nI 0 ∨ holds I (en 5 0 0)) ∧ (I 19 5 = nI 0 ∨ (I 19 5 = nI 1 ∧ cch g I))
theorem RD.pr {g : Nat → Nat} {I : Nat → Nat → Int32} (h : RD g I) : PR g I := ⟨Or.inr h.1, Or.inr ⟨h.2.1, h.2.2⟩⟩
theorem RD.num {g : Nat → Nat} {I : Nat → Nat → Int32} (h : RD g I) {i : Nat} (hi : i < 1546) : I 20 i = nI (n8 (dg (vcn i))) ∧ I 21 i = nI (sC (vcn i)) := h.1.2 i _ (wl_get hi)
theorem nIm1 {a : Nat} (h : a < 2147483648) : ¬ nI a = -1 := by
  intro q
  have := congrArg Int32.toInt q
  rw [nI_toInt h] at this
  have e : (-1 : Int32).toInt = -1 := by decide
  rw [e] at this
  omega
theorem xokc_mk {mi cal n : Nat} {As rest : List Value} {d1 d k q : Nat} (h1 : Nat.blt cal 144 = true) (h2 : Nat.ble (xargs As).length (xML cal) = true) (h3 : Nat.beq n (xNP cal) = true) (h4 : d1 + 1 ≤ d) (h5 : Nat.ble (xsum rest) 8 = true) (h6 : Nat.ble (k + xBC cal) (xBC mi) = true) (h7 : Nat.ble (q + xBS cal) (xBS mi) = true) : xokc mi cal n As rest d1 d k q = true := by
  unfold xokc
  rw [h1, h2, h3, Nat.ble_eq_true_of_le h4, h5, h6, h7]
  rfl
set_option maxRecDepth 20000 in
theorem en_bd {num th k : Nat} (hk : k ≤ 4) (h : num * 8 ^ (k + 1) < 32768) (ht : th < 5) : (num * 8 + (th + 1)) * 8 ^ k < 32768 := by
  rcases (show k = 0 ∨ k = 1 ∨ k = 2 ∨ k = 3 ∨ k = 4 by omega) with rfl | rfl | rfl | rfl | rfl
  · have h7 : num * 8 < 32768 := h
    show (num * 8 + (th + 1)) * 1 < 32768
    omega
  · have h7 : num * 64 < 32768 := h
    show (num * 8 + (th + 1)) * 8 < 32768
    clear h
    omega
  · have h7 : num * 512 < 32768 := h
    show (num * 8 + (th + 1)) * 64 < 32768
    clear h
    omega
  · have h7 : num * 4096 < 32768 := h
    show (num * 8 + (th + 1)) * 512 < 32768
    clear h
    omega
  · have h7 : num * 32768 < 32768 := h
    show (num * 8 + (th + 1)) * 4096 < 32768
    clear h
    omega
section WIN
variable {E : xEx} {T : List xSh} {I : Nat → Nat → Int32} {L : Nat → Nat → Int64} {A : Nat → Nat → Nat} {F g : Nat → Nat}
theorem c_add4 (acc : List (Nat × Nat)) (num s : Nat) (hl : acc.length < 1546) (hh : holds I acc) : xC E 1 34 [.ref 19, .int (nI num), .int (nI s)] (xC0 ++ T, I, L) (fun r t => r = none ∧ ∃ I', t = (xC0 ++ T, I', L) ∧ ((∀ a, a ≠ 19 → a ≠ 20 → a ≠ 21 → I' a = I a) ∧ ∀ j, j ≠ 3 → I' 19 j = I 19 j) ∧ holds I' (acc ++ [(num, s)])) := by
  refine xC.mk [some (.ref 19), some (.int (nI num)), some (.int (nI s))] rfl ?_
  have h3 := hh.1
  have h3' : ∀ (x : Int32), wI I 20 acc.length x 19 3 = nI acc.length := fun x => by rw [wI_ne (by decide)]; exact h3
  have h3'' : ∀ (x y : Int32), wI (wI I 20 acc.length x) 21 acc.length y 19 3 = nI acc.length := fun x y => by rw [wI_ne (by decide), wI_ne (by decide)]; exact h3
  refine ws_aload_0 1 rfl rfl ?_
  refine ws_getfi 4 rfl rfl rfl rfl rfl h3 ?_
  refine ws_sipush 7 rfl rfl kc_s1546 ?_
  refine ws_icmp_gen 40 10 rfl rfl rfl (by omega) (by omega) (fun h9 => absurd h9 (by omega)) (fun h9 => ?_)
  refine ws_aload_0 11 rfl rfl ?_
  refine ws_getfr 14 rfl rfl rfl rfl rfl ?_
  refine ws_aload_0 15 rfl rfl ?_
  refine ws_getfi 18 rfl rfl rfl rfl rfl h3 ?_
  refine ws_iload_1 19 rfl rfl ?_
  refine ws_iastn 20 rfl rfl rfl (by omega) (by omega) ?_
  refine ws_aload_0 21 rfl rfl ?_
  refine ws_getfr 24 rfl rfl rfl rfl rfl ?_
  refine ws_aload_0 25 rfl rfl ?_
  refine ws_getfi 28 rfl rfl rfl rfl rfl (h3' _) ?_
  refine ws_iload_2 29 rfl rfl ?_
  refine ws_iastn 30 rfl rfl rfl (by omega) (by omega) ?_
  refine ws_aload_0 31 rfl rfl ?_
  refine ws_dup 32 rfl rfl rfl ?_
  refine ws_getfi 35 rfl rfl rfl rfl rfl (h3'' _ _) ?_
  refine ws_iconst 36 rfl rfl kc_i1 ?_
  refine ws_iadd 37 rfl rfl (nI_add _ _) ?_
  refine ws_putfi 40 rfl rfl rfl rfl rfl rfl rfl rfl ?_
  refine ws_vret rfl rfl rfl (Nat.le_of_ble_eq_true rfl) ?_
  refine ⟨rfl, _, rfl, ⟨fun a a1 a2 a3 => by rw [wI_ne a1, wI_ne a3, wI_ne a2], fun j hj => by rw [wI_eq, pk_un hj, wI_ne (by decide), wI_ne (by decide)]⟩, ?_, fun i e he => ?_⟩
  · rw [wI_eq, pk_us, List.length_append]; rfl
  · rw [wI_ne (show (20 : Nat) ≠ 19 by decide), wI_ne (show (20 : Nat) ≠ 21 by decide), wI_eq, wI_ne (show (21 : Nat) ≠ 19 by decide), wI_eq, wI_ne (show (21 : Nat) ≠ 20 by decide)]
    rcases Nat.lt_or_ge i acc.length with q | q
    · rw [List.getElem?_append_left q] at he
      rw [pk_un (by omega), pk_un (by omega)]
      exact hh.2 i e he
    · rw [List.getElem?_append_right q] at he
      have hz : i - acc.length < 1 := (List.getElem?_eq_some_iff.mp he).1
      have hi : i = acc.length := by omega
      rw [hi, Nat.sub_self] at he
      have : (num, s) = e := by simpa using he
      rw [hi, ← this, pk_us, pk_us]
      exact ⟨rfl, rfl⟩
theorem c_list : ∀ (k num s : Nat) (I : Nat → Nat → Int32) (acc : List (Nat × Nat)), k ≤ 5 → num * 8 ^ k < 32768 → s < 32 → acc.length + (en k num s).length ≤ 1546 → holds I acc → xC E (k + 2) 33 [.ref 19, .int (nI (5 - k)), .int (nI num), .int (nI s)] (xC0 ++ T, I, L) (fun r t => r = none ∧ ∃ I', t = (xC0 ++ T, I', L) ∧ ((∀ a, a ≠ 19 → a ≠ 20 → a ≠ 21 → I' a = I a) ∧ ∀ j, j ≠ 3 → I' 19 j = I 19 j) ∧ holds I' (acc ++ en k num s)) := by
  intro k
  induction k with
  | zero =>
    intro num s I acc hk hn hs hl hh
    refine xC.mk [some (.ref 19), some (.int (nI 5)), some (.int (nI num)), some (.int (nI s)), none] rfl ?_
    refine ws_iload_1 1 rfl rfl ?_
    refine ws_iconst 2 rfl rfl kc_i5 ?_
    refine ws_icmp_ltn 12 5 rfl rfl rfl (by omega) (by omega) (fun h9 => absurd h9 (by omega)) (fun h9 => ?_)
    refine ws_aload_0 6 rfl rfl ?_
    refine ws_iload_2 7 rfl rfl ?_
    refine ws_iload_3 8 rfl rfl ?_
    refine ws_invV2 11 rfl rfl rfl rfl (c_add4 acc num s (by have : (en 0 num s).length = 1 := rfl; omega) hh) rfl rfl rfl ?_
    rintro _ _ ⟨rfl, I', rfl, hf, hh'⟩
    refine ws_vret rfl rfl rfl (Nat.le_of_ble_eq_true rfl) ?_
    exact ⟨rfl, I', rfl, hf, hh'⟩
  | succ k ih =>
    intro num s I acc hk hn hs hl hh
    have e5 : 5 - (k + 1) + 1 = 5 - k := by omega
    have h8 : num * 8 ^ (k + 1) = num * 8 * 8 ^ k := by rw [Nat.pow_succ, Nat.mul_assoc, Nat.mul_comm (8 ^ k) 8]
    have hp8 : 1 ≤ 8 ^ k := Nat.pow_pos (by omega)
    rw [h8] at hn
    have hnum : num * 8 < 32768 := Nat.lt_of_le_of_lt (Nat.le_mul_of_pos_right _ hp8) hn
    have elen : (en (k + 1) num s).length = (en k (num * 8) s).length + (enT (en k) num s 5).length := by show (en k (num * 8) s ++ enT (en k) num s 5).length = _; rw [List.length_append]
    rw [elen] at hl
    refine xC.mk [some (.ref 19), some (.int (nI (5 - (k + 1)))), some (.int (nI num)), some (.int (nI s)), none] rfl ?_
    have e23 : num * 2 ^ 3 = num * 8 := rfl
    refine ws_iload_1 1 rfl rfl ?_
    refine ws_iconst 2 rfl rfl kc_i5 ?_
    refine ws_icmp_ltn 12 5 rfl rfl rfl (by omega) (by omega) (fun h9 => ?_) (fun h9 => absurd h9 (by omega))
    refine ws_aload_0 13 rfl rfl ?_
    refine ws_iload_1 14 rfl rfl ?_
    refine ws_iconst 15 rfl rfl kc_i1 ?_
    refine ws_iadd 16 rfl rfl (nI_add _ _) ?_
    refine ws_iload_2 17 rfl rfl ?_
    refine ws_iconst 18 rfl rfl kc_i3 ?_
    refine ws_ishl 19 rfl rfl (kn_shl (by omega) (by omega)) ?_
    refine ws_iload_3 20 rfl rfl ?_
    rw [e5, e23]
    refine ws_invS4 23 rfl rfl rfl (ih (num * 8) s I acc (by omega) hn hs (by omega) hh) (xokc_mk rfl rfl rfl (by omega) rfl rfl rfl) rfl rfl ?_
    rintro _ _ ⟨rfl, I1, rfl, hf1, hh1⟩
    have loop : ∀ (m th : Nat) (I' : Nat → Nat → Int32), th + m = 5 → ((∀ a, a ≠ 19 → a ≠ 20 → a ≠ 21 → I' a = I a) ∧ ∀ j, j ≠ 3 → I' 19 j = I 19 j) → holds I' (acc ++ en k (num * 8) s ++ enT (en k) num s th) → xW E (k + 1 + 2) 33 26 [some (.ref 19), some (.int (nI (5 - (k + 1)))), some (.int (nI num)), some (.int (nI s)), some (.int (nI th))] [] (xC0 ++ T, I', L) 0 0 (fun r t => r = none ∧ ∃ I', t = (xC0 ++ T, I', L) ∧ ((∀ a, a ≠ 19 → a ≠ 20 → a ≠ 21 → I' a = I a) ∧ ∀ j, j ≠ 3 → I' 19 j = I 19 j) ∧ holds I' (acc ++ en (k + 1) num s)) := by
      intro m
      induction m with
      | zero =>
        intro th I' hth hf hh
        obtain rfl : th = 5 := by omega
        refine ws_iload_4 28 rfl rfl ?_
        refine ws_iconst 29 rfl rfl kc_i5 ?_
        refine ws_icmp_gen 68 32 rfl rfl rfl (by omega) (by omega) (fun h9 => ?_) (fun h9 => absurd h9 (by omega))
        refine ws_vret rfl rfl rfl (Nat.le_of_ble_eq_true rfl) ?_
        exact ⟨rfl, I', rfl, hf, by rw [List.append_assoc] at hh; exact hh⟩
      | succ m ih2 =>
        intro th I' hth hf hh
        have e : s / 2 ^ th &&& 1 = s / 2 ^ th % 2 := Nat.and_one_is_mod _
        have eT : enT (en k) num s (th + 1) = enT (en k) num s th ++ (if s / 2 ^ th % 2 = 0 then en k (num * 8 + (th + 1)) (s ||| 2 ^ th) else []) := rfl
        refine ws_iload_4 28 rfl rfl ?_
        refine ws_iconst 29 rfl rfl kc_i5 ?_
        refine ws_icmp_gen 68 32 rfl rfl rfl (by omega) (by omega) (fun h9 => absurd h9 (by omega)) (fun h9 => ?_)
        refine ws_iload_3 33 rfl rfl ?_
        refine ws_iload_4 35 rfl rfl ?_
        refine ws_ishr 36 rfl rfl (kn_shr (by omega) (by omega)) ?_
        refine ws_iconst 37 rfl rfl kc_i1 ?_
        refine ws_iand 38 rfl rfl (kn_and _ _) ?_
        rw [e]
        refine ws_if_nen 62 41 rfl rfl rfl (by omega) (fun c1 => ?_) (fun c1 => ?_)
        · rw [if_neg (by omega), List.append_nil] at eT
          refine ws_iinc_4 65 rfl rfl (ki_1 _) rfl rfl ?_
          refine ws_goto 26 rfl rfl ?_
          exact ih2 (th + 1) I' (by omega) hf (by rw [eT]; exact hh)
        · rw [if_pos (by omega)] at eT
          have hle := enT_pos (en k) num s (show th + 1 ≤ 5 by omega)
          rw [eT, List.length_append] at hle
          obtain ⟨w1, w2⟩ := pw5 th (by omega)
          have eo : num * 2 ^ 3 ||| (th + 1) = num * 8 + (th + 1) := or8 (by omega)
          have e1 : 1 * 2 ^ th = 2 ^ th := Nat.one_mul _
          have hn2 : (num * 8 + (th + 1)) * 8 ^ k < 32768 := by
            have h7 : num * 8 ^ (k + 1) < 32768 := by rw [h8]; exact hn
            exact en_bd (by omega) h7 (by omega)
          refine ws_aload_0 42 rfl rfl ?_
          refine ws_iload_1 43 rfl rfl ?_
          refine ws_iconst 44 rfl rfl kc_i1 ?_
          refine ws_iadd 45 rfl rfl (nI_add _ _) ?_
          refine ws_iload_2 46 rfl rfl ?_
          refine ws_iconst 47 rfl rfl kc_i3 ?_
          refine ws_ishl 48 rfl rfl (kn_shl (by omega) (by omega)) ?_
          refine ws_iload_4 50 rfl rfl ?_
          refine ws_iconst 51 rfl rfl kc_i1 ?_
          refine ws_iadd 52 rfl rfl (nI_add _ _) ?_
          refine ws_ior 53 rfl rfl (kn_or _ _) ?_
          refine ws_iload_3 54 rfl rfl ?_
          refine ws_iconst 55 rfl rfl kc_i1 ?_
          refine ws_iload_4 57 rfl rfl ?_
          refine ws_ishl 58 rfl rfl (kn_shl (by omega) (by omega)) ?_
          refine ws_ior 59 rfl rfl (kn_or _ _) ?_
          rw [eo, e1, e5]
          refine ws_invS4 62 rfl rfl rfl (ih (num * 8 + (th + 1)) (s ||| 2 ^ th) I' (acc ++ en k (num * 8) s ++ enT (en k) num s th) (by omega) hn2 (or_lt32 s hs th (by omega)) (by rw [List.length_append, List.length_append]; omega) hh) (xokc_mk rfl rfl rfl (by omega) rfl rfl rfl) rfl rfl ?_
          rintro _ _ ⟨rfl, I2, rfl, hf2, hh2⟩
          refine ws_iinc_4 65 rfl rfl (ki_1 _) rfl rfl ?_
          refine ws_goto 26 rfl rfl ?_
          exact ih2 (th + 1) I2 (by omega) ⟨fun a a1 a2 a3 => by rw [hf2.1 a a1 a2 a3]; exact hf.1 a a1 a2 a3, fun j hj => by rw [hf2.2 j hj]; exact hf.2 j hj⟩ (by rw [eT, ← List.append_assoc]; exact hh2)
    refine ws_iconst 24 rfl rfl kc_i0 ?_
    refine ws_istore_4 26 rfl rfl rfl rfl ?_
    exact loop 5 0 I1 rfl hf1 (by rw [show enT (en k) num s 0 = [] from rfl, List.append_nil]; exact hh1)
theorem c_makeReady (h : PR g I) : xC E 8 32 [.ref 19] (xC0 ++ T, I, L) (fun r t => r = none ∧ ∃ I', t = (xC0 ++ T, I', L) ∧ ((∀ a, a < 19 ∨ 22 < a → I' a = I a) ∧ ∀ j, j ≠ 3 → j ≠ 5 → I' 19 j = I 19 j) ∧ RD g I') := by
  refine xC.mk [some (.ref 19)] rfl ?_
  have rest : ∀ (I' : Nat → Nat → Int32), ((∀ a, a < 19 ∨ 22 < a → I' a = I a) ∧ ∀ j, j ≠ 3 → I' 19 j = I 19 j) → I' 22 = I 22 → holds I' (en 5 0 0) → xW E 8 32 14 [some (.ref 19)] [] (xC0 ++ T, I', L) 0 0 (fun r t => r = none ∧ ∃ I', t = (xC0 ++ T, I', L) ∧ ((∀ a, a < 19 ∨ 22 < a → I' a = I a) ∧ ∀ j, j ≠ 3 → j ≠ 5 → I' 19 j = I 19 j) ∧ RD g I') := by
    intro I' hf h22 hh
    rcases h.2 with h5 | ⟨h5, hc⟩
    · have h5' : I' 19 5 = nI 0 := by rw [hf.2 5 (by decide)]; exact h5
      refine ws_aload_0 15 rfl rfl ?_
      refine ws_getfi 18 rfl rfl rfl rfl rfl h5' ?_
      refine ws_if_nen 34 21 rfl rfl rfl (by omega) (fun h9 => absurd h9 (by omega)) (fun h9 => ?_)
      refine ws_aload_0 22 rfl rfl ?_
      refine ws_getfr 25 rfl rfl rfl rfl rfl ?_
      refine ws_iconst 26 rfl rfl kc_im1 ?_
      refine ws_invS2 29 rfl rfl rfl (c_fill 22 1546 (-1) rfl (by omega)) rfl rfl rfl ?_
      rintro _ _ ⟨rfl, I2, rfl, hf2, h2⟩
      refine ws_aload_0 30 rfl rfl ?_
      refine ws_iconst 31 rfl rfl kc_i1 ?_
      refine ws_putfi 34 rfl rfl rfl rfl rfl rfl rfl rfl ?_
      refine ws_vret rfl rfl rfl (Nat.le_of_ble_eq_true rfl) ?_
      refine ⟨rfl, _, rfl, ⟨fun a ha => by rw [wI_ne (by omega), hf2 a (by omega)]; exact hf.1 a ha, fun j j3 j5 => by rw [wI_eq, pk_un j5, hf2 19 (by decide)]; exact hf.2 j j3⟩, ⟨?_, fun i e he => ?_⟩, rfl, fun i hi => Or.inl (h2 i hi)⟩
      · rw [wI_eq, pk_un (by decide), hf2 19 (by decide)]; exact hh.1
      · rw [wI_ne (by decide), wI_ne (by decide), hf2 20 (by decide), hf2 21 (by decide)]; exact hh.2 i e he
    · have h5' : I' 19 5 = nI 1 := by rw [hf.2 5 (by decide)]; exact h5
      refine ws_aload_0 15 rfl rfl ?_
      refine ws_getfi 18 rfl rfl rfl rfl rfl h5' ?_
      refine ws_if_nen 34 21 rfl rfl rfl (by omega) (fun h9 => ?_) (fun h9 => absurd h9 (by omega))
      refine ws_vret rfl rfl rfl (Nat.le_of_ble_eq_true rfl) ?_
      exact ⟨rfl, I', rfl, ⟨hf.1, fun j j3 _ => hf.2 j j3⟩, hh, h5', fun i hi => by rw [h22]; exact hc i hi⟩
  rcases h.1 with h3 | hh
  · refine ws_aload_0 1 rfl rfl ?_
    refine ws_getfi 4 rfl rfl rfl rfl rfl h3 ?_
    refine ws_if_nen 14 7 rfl rfl rfl (by omega) (fun h9 => absurd h9 (by omega)) (fun h9 => ?_)
    refine ws_aload_0 8 rfl rfl ?_
    refine ws_iconst 9 rfl rfl kc_i0 ?_
    refine ws_iconst 10 rfl rfl kc_i0 ?_
    refine ws_iconst 11 rfl rfl kc_i0 ?_
    refine ws_invS4 14 rfl rfl rfl (c_list 5 0 0 I [] (by omega) (by omega) (by omega) (by rw [wl_len]; exact Nat.le_refl _) ⟨h3, fun i e he => by simp at he⟩) rfl rfl rfl ?_
    rintro _ _ ⟨rfl, I2, rfl, hf2, h2⟩
    exact rest I2 ⟨fun a ha => hf2.1 a (by omega) (by omega) (by omega), hf2.2⟩ (hf2.1 22 (by decide) (by decide) (by decide)) h2
  · have h3 : I 19 3 = nI 1546 := by rw [hh.1, wl_len]
    refine ws_aload_0 1 rfl rfl ?_
    refine ws_getfi 4 rfl rfl rfl rfl rfl h3 ?_
    refine ws_if_nen 14 7 rfl rfl rfl (by omega) (fun h9 => ?_) (fun h9 => absurd h9 (by omega))
    exact rest I ⟨fun _ _ => rfl, fun _ _ => rfl⟩ rfl hh
theorem p_below1546t (i : Nat) (hi : i < 1546) : xP 1 80 [.int (nI i), .int (nI 1546)] (.int (xb true)) := by
  have h := p_below (nI i) 1546 1545 (by omega) rfl
  rwa [show rg 0 1545 (nI i) = true by rw [rg_nI (by omega)]; simp; omega] at h
theorem c_thingAt (i p : Nat) (hi : i < 1546) (hp : p < 5) (h20 : I 20 i = nI (n8 (dg (vcn i)))) : xC E 2 36 [.ref 19, .int (nI i), .int (nI p)] (xC0 ++ T, I, L) (rV (.int (rw6 (dg (vcn i) p))) (xC0 ++ T, I, L)) := by
  refine xC.mk [some (.ref 19), some (.int (nI i)), some (.int (nI p)), none] rfl ?_
  have hb : ∀ p, p < 5 → dg (vcn i) p ≤ 5 := fun p _ => dg_le _ p
  have hlt := n8_lt hb
  have hd := n8_dg hb p hp
  have e7 : n8 (dg (vcn i)) / 2 ^ (3 * (4 - p)) &&& 7 = dg (vcn i) p := by
    rw [← hd]
    exact Nat.and_two_pow_sub_one_eq_mod _ 3
  have hdl := hb p hp
  refine ws_iload_1 1 rfl rfl ?_
  refine ws_sipush 4 rfl rfl kc_s1546 ?_
  refine ws_invSN2p 7 rfl rfl rfl (p_below1546t i hi) rfl rfl rfl ?_
  refine ws_if_neb 13 10 rfl rfl rfl (fun h9 => ?_) (fun h9 => absurd h9 (by first | decide | simp_all))
  refine ws_aload_0 14 rfl rfl ?_
  refine ws_getfr 17 rfl rfl rfl rfl rfl ?_
  refine ws_iload_1 18 rfl rfl ?_
  refine ws_ialdn 19 rfl rfl rfl (by omega) (by omega) h20 ?_
  refine ws_iconst 20 rfl rfl kc_i3 ?_
  refine ws_iconst 21 rfl rfl kc_i4 ?_
  refine ws_iload_2 22 rfl rfl ?_
  refine ws_isub 23 rfl rfl (pk_sub (by omega)) ?_
  refine ws_imul 24 rfl rfl (pk_mul _ _) ?_
  refine ws_ishr 25 rfl rfl (kn_shr (by omega) (by omega)) ?_
  refine ws_bipush 27 rfl rfl kc_b7 ?_
  refine ws_iand 28 rfl rfl (kn_and _ _) ?_
  rw [e7]
  refine ws_istore_3 29 rfl rfl rfl rfl ?_
  refine ws_iload_3 30 rfl rfl ?_
  refine ws_if_nen 38 33 rfl rfl rfl (by omega) (fun c1 => ?_) (fun c1 => ?_)
  · refine ws_iload_3 39 rfl rfl ?_
    refine ws_iconst 40 rfl rfl kc_i1 ?_
    refine ws_isub 41 rfl rfl (pk_sub (by omega)) ?_
    refine ws_iret rfl rfl rfl (Nat.le_of_ble_eq_true rfl) ?_
    exact ⟨by rw [rw6_1 c1], rfl⟩
  · refine ws_bipush 35 rfl rfl kc_bm6 ?_
    refine ws_goto 41 rfl rfl ?_
    refine ws_iret rfl rfl rfl (Nat.le_of_ble_eq_true rfl) ?_
    exact ⟨by rw [rw6_0 c1], rfl⟩
theorem c_weekAt (i : Nat) (hi : i < 1546) (hok : okA A F) (hS : SC A F I) (hR : RD (wkc A F) I) : xC E 5 35 [.ref 19, .int (nI i)] (xC0 ++ T, I, L) (fun r t => r = some (.int (nI (wkc A F (vcn i)))) ∧ ∃ I', t = (xC0 ++ T, I', L) ∧ (∀ a, a < 14 ∨ (18 < a ∧ a ≠ 22 ∧ a ≠ 23) → I' a = I a) ∧ RD (wkc A F) I') := by
  refine xC.mk [some (.ref 19), some (.int (nI i)), none] rfl ?_
  have hwl := wkc_le hok (vcn i)
  rcases hR.2.2 i hi with hm | hw
  · have loop : ∀ (m p : Nat) (I' : Nat → Nat → Int32), p + m = 5 → (∀ a, a ≠ 23 → I' a = I a) → (∀ q, q < p → I' 23 q = rw6 (dg (vcn i) q)) → xW E 5 35 25 [some (.ref 19), some (.int (nI i)), some (.int (nI p))] [] (xC0 ++ T, I', L) 0 0 (fun r t => r = some (.int (nI (wkc A F (vcn i)))) ∧ ∃ I', t = (xC0 ++ T, I', L) ∧ (∀ a, a < 14 ∨ (18 < a ∧ a ≠ 22 ∧ a ≠ 23) → I' a = I a) ∧ RD (wkc A F) I') := by
      intro m
      induction m with
      | zero =>
        intro p I' hp hf h23
        obtain rfl : p = 5 := by omega
        obtain ⟨s1, s2, s3, s4, s5⟩ := hS.keep (I' := I') (fun a ha => hf a (by omega))
        refine ws_iload_2 26 rfl rfl ?_
        refine ws_iconst 27 rfl rfl kc_i5 ?_
        refine ws_icmp_gen 48 30 rfl rfl rfl (by omega) (by omega) (fun h9 => ?_) (fun h9 => absurd h9 (by omega))
        refine ws_aload_0 49 rfl rfl ?_
        refine ws_getfr 52 rfl rfl rfl rfl rfl ?_
        refine ws_iload_1 53 rfl rfl ?_
        refine ws_aload_0 54 rfl rfl ?_
        refine ws_getfr 57 rfl rfl rfl rfl rfl ?_
        refine ws_aload_0 58 rfl rfl ?_
        refine ws_getfr 61 rfl rfl rfl rfl rfl ?_
        refine ws_iconst 62 rfl rfl kc_i0 ?_
        refine ws_invV2 65 rfl rfl rfl rfl (c_weekOf (A := A) (F := F) (b := dg (vcn i)) 23 0 (by decide) (by decide) (by omega) (by omega) rfl s1 s2 s3 s4 s5 hok.1 hok.2.1 hok.2.2.1 hok.2.2.2.1 hok.2.2.2.2.1 hok.2.2.2.2.2 (fun p _ => dg_le _ p) h23) rfl rfl rfl ?_
        rintro _ _ ⟨rfl, I2, rfl, hf2⟩
        have hf3 : ∀ a, a < 14 ∨ (18 < a ∧ a ≠ 23) → I2 a = I a := fun a ha => by rw [hf2 a (by omega)]; exact hf a (by omega)
        have h22 : ∀ x : Int32, wI I2 22 i x 22 i = x := fun x => by rw [wI_eq, pk_us]
        refine ws_iastn 66 rfl rfl rfl (by omega) (by omega) ?_
        refine ws_aload_0 67 rfl rfl ?_
        refine ws_getfr 70 rfl rfl rfl rfl rfl ?_
        refine ws_iload_1 71 rfl rfl ?_
        refine ws_ialdn 72 rfl rfl rfl (by omega) (by omega) (h22 _) ?_
        refine ws_iret rfl rfl rfl (Nat.le_of_ble_eq_true rfl) ?_
        refine ⟨rfl, _, rfl, fun a ha => by rw [wI_ne (by omega)]; exact hf3 a (by omega), ⟨?_, fun j e he => ?_⟩, ?_, fun j hj => ?_⟩
        · rw [wI_ne (by decide), hf3 19 (by omega)]; exact hR.1.1
        · rw [wI_ne (by decide), wI_ne (by decide), hf3 20 (by omega), hf3 21 (by omega)]; exact hR.1.2 j e he
        · rw [wI_ne (by decide), hf3 19 (by omega)]; exact hR.2.1
        · rw [wI_eq]
          by_cases e : j = i
          · rw [e, pk_us]; exact Or.inr rfl
          · rw [pk_un e, hf3 22 (by omega)]; exact hR.2.2 j hj
      | succ m ih =>
        intro p I' hp hf h23
        have h20 : I' 20 i = nI (n8 (dg (vcn i))) := by rw [hf 20 (by decide)]; exact (hR.num hi).1
        refine ws_iload_2 26 rfl rfl ?_
        refine ws_iconst 27 rfl rfl kc_i5 ?_
        refine ws_icmp_gen 48 30 rfl rfl rfl (by omega) (by omega) (fun h9 => absurd h9 (by omega)) (fun h9 => ?_)
        refine ws_aload_0 31 rfl rfl ?_
        refine ws_getfr 34 rfl rfl rfl rfl rfl ?_
        refine ws_iload_2 35 rfl rfl ?_
        refine ws_aload_0 36 rfl rfl ?_
        refine ws_iload_1 37 rfl rfl ?_
        refine ws_iload_2 38 rfl rfl ?_
        refine ws_invV2p 41 rfl rfl rfl rfl (c_thingAt i p hi (by omega) h20) rfl rfl rfl ?_
        refine ws_iastn 42 rfl rfl rfl (by omega) (by omega) ?_
        refine ws_iinc_2 45 rfl rfl (ki_1 _) rfl rfl ?_
        refine ws_goto 25 rfl rfl ?_
        exact ih (p + 1) _ (by omega) (fun a ha => by rw [wI_ne ha]; exact hf a ha) (fl h23 rfl)
    refine ws_iload_1 1 rfl rfl ?_
    refine ws_sipush 4 rfl rfl kc_s1546 ?_
    refine ws_invSN2p 7 rfl rfl rfl (p_below1546t i hi) rfl rfl rfl ?_
    refine ws_if_neb 13 10 rfl rfl rfl (fun h9 => ?_) (fun h9 => absurd h9 (by first | decide | simp_all))
    refine ws_aload_0 14 rfl rfl ?_
    refine ws_getfr 17 rfl rfl rfl rfl rfl ?_
    refine ws_iload_1 18 rfl rfl ?_
    refine ws_ialdn 19 rfl rfl rfl (by omega) (by omega) hm ?_
    refine ws_iconst 20 rfl rfl kc_im1 ?_
    refine ws_icmp_ne 66 23 rfl rfl rfl (fun h9 => absurd h9 (by simp)) (fun h9 => ?_)
    refine ws_iconst 24 rfl rfl kc_i0 ?_
    refine ws_istore_2 25 rfl rfl rfl rfl ?_
    exact loop 5 0 I rfl (fun _ _ => rfl) (fun _ h => by omega)
  · refine ws_iload_1 1 rfl rfl ?_
    refine ws_sipush 4 rfl rfl kc_s1546 ?_
    refine ws_invSN2p 7 rfl rfl rfl (p_below1546t i hi) rfl rfl rfl ?_
    refine ws_if_neb 13 10 rfl rfl rfl (fun h9 => ?_) (fun h9 => absurd h9 (by first | decide | simp_all))
    refine ws_aload_0 14 rfl rfl ?_
    refine ws_getfr 17 rfl rfl rfl rfl rfl ?_
    refine ws_iload_1 18 rfl rfl ?_
    refine ws_ialdn 19 rfl rfl rfl (by omega) (by omega) hw ?_
    refine ws_iconst 20 rfl rfl kc_im1 ?_
    refine ws_icmp_ne 66 23 rfl rfl rfl (fun h9 => ?_) (fun h9 => absurd h9 (nIm1 (by omega)))
    refine ws_aload_0 67 rfl rfl ?_
    refine ws_getfr 70 rfl rfl rfl rfl rfl ?_
    refine ws_iload_1 71 rfl rfl ?_
    refine ws_ialdn 72 rfl rfl rfl (by omega) (by omega) hw ?_
    refine ws_iret rfl rfl rfl (Nat.le_of_ble_eq_true rfl) ?_
    exact ⟨rfl, I, rfl, fun _ _ => rfl, hR⟩
/-- which windows are asked for -/
def szI : Option Nat → Int32
  | none => -6
  | some n => nI n
def fitI (may must s : Nat) : Bool := decide (nI s &&& (nI may ^^^ (-1)) = 0) && decide (nI must &&& (nI s ^^^ (-1)) = 0)
def szB (o : Option Nat) (n : Nat) : Bool := match o with
  | none => true
  | some m => decide (m = n)
def ftC (may must : Nat) (o : Option Nat) (c : Nat) : Bool := fitI may must (sC c) && szB o (pop 5 (sC c))
def pqC (c : Nat) : Nat := pop 5 (sC c)
def gsel (A : Nat → Nat → Nat) (F : Nat → Nat) (may must : Nat) (o : Option Nat) : Option Nat := bst (ftC may must o) (wkc A F) pqC
theorem c_greatest (may must : Nat) (o : Option Nat) (ho : ∀ n, o = some n → n ≤ 5) (c0 : Nat) (hc0 : c0 < 7776) (hv0 : vB c0 = true) (hf0 : ftC may must o c0 = true) (hok : okA A F) (hS : SC A F I) (hP : PR (wkc A F) I) : xC E 9 37 [.ref 19, .int (nI may), .int (nI must), .int (szI o)] (xC0 ++ T, I, L) (fun r t => ∃ i c, i < 1546 ∧ vcn i = c ∧ gsel A F may must o = some c ∧ r = some (.int (nI i)) ∧ ∃ I', t = (xC0 ++ T, I', L) ∧ ((∀ a, a < 14 ∨ (18 < a ∧ a < 19) ∨ 23 < a → I' a = I a) ∧ ∀ j, j ≠ 3 → j ≠ 5 → I' 19 j = I 19 j) ∧ RD (wkc A F) I') := by
  refine xC.mk [some (.ref 19), some (.int (nI may)), some (.int (nI must)), some (.int (szI o)), none, none, none, none, none, none, none] rfl ?_
  refine ws_aload_0 1 rfl rfl ?_
  refine ws_invV0 4 rfl rfl rfl rfl (c_makeReady hP) rfl rfl rfl ?_
  rintro _ _ ⟨rfl, I1, rfl, hf1, hR1⟩
  have loop : ∀ (m k : Nat) (I' : Nat → Nat → Int32) (fd wv fe : Int32) (z8 z9 z10 : Option Value), k + m = 1546 → ((∀ a, a < 14 ∨ (18 < a ∧ a < 19) ∨ 23 < a → I' a = I a) ∧ ∀ j, j ≠ 3 → j ≠ 5 → I' 19 j = I 19 j) → RD (wkc A F) I' → (match (vc.take k).foldl (stp (ftC may must o) (wkc A F) pqC) none with | none => fd = -1 ∧ wv = -1 ∧ fe = nI 0 | some c => ∃ i, i < k ∧ vcn i = c ∧ fd = nI i ∧ wv = nI (wkc A F c) ∧ fe = nI (pqC c)) → xW E 9 37 16 [some (.ref 19), some (.int (nI may)), some (.int (nI must)), some (.int (szI o)), some (.int fd), some (.int wv), some (.int fe), some (.int (nI k)), z8, z9, z10] [] (xC0 ++ T, I', L) 0 0 (fun r t => ∃ i c, i < 1546 ∧ vcn i = c ∧ gsel A F may must o = some c ∧ r = some (.int (nI i)) ∧ ∃ I', t = (xC0 ++ T, I', L) ∧ ((∀ a, a < 14 ∨ (18 < a ∧ a < 19) ∨ 23 < a → I' a = I a) ∧ ∀ j, j ≠ 3 → j ≠ 5 → I' 19 j = I 19 j) ∧ RD (wkc A F) I') := by
    intro m
    induction m with
    | zero =>
      intro k I' fd wv fe z8 z9 z10 hk hf hR hq
      obtain rfl : k = 1546 := by omega
      rw [List.take_of_length_le (by rw [vc_len]; exact Nat.le_refl _)] at hq
      obtain ⟨b, hb⟩ := bst_some (ft := ftC may must o) (g := wkc A F) (pq := pqC) c0 hc0 hv0 hf0
      have hb2 : vc.foldl (stp (ftC may must o) (wkc A F) pqC) none = some b := by unfold bst at hb; exact hb
      rw [hb2] at hq
      obtain ⟨i, h1, h2, h3, -⟩ := hq
      refine ws_iload_7 18 rfl rfl ?_
      refine ws_sipush 21 rfl rfl kc_s1546 ?_
      refine ws_icmp_gen 138 24 rfl rfl rfl (by omega) (by omega) (fun h9 => ?_) (fun h9 => absurd h9 (by omega))
      refine ws_iload_4 140 rfl rfl ?_
      refine ws_iret rfl rfl rfl (Nat.le_of_ble_eq_true rfl) ?_
      exact ⟨i, b, h1, h2, hb, by rw [h3], I', rfl, hf, hR⟩
    | succ m ih =>
      intro k I' fd wv fe z8 z9 z10 hk hf hR hq
      have hk6 : k < 1546 := by omega
      have h21 := (hR.num hk6).2
      have hs32 := sC_lt (vcn k)
      have hpl := pop_le 5 (sC (vcn k))
      have etk : (vc.take (k + 1)).foldl (stp (ftC may must o) (wkc A F) pqC) none = stp (ftC may must o) (wkc A F) pqC ((vc.take k).foldl (stp (ftC may must o) (wkc A F) pqC) none) (vcn k) := by
        rw [List.take_succ, vcn_get hk6, List.foldl_append]
        rfl
      obtain ⟨b0, hb0⟩ : ∃ b0, b0 = (vc.take k).foldl (stp (ftC may must o) (wkc A F) pqC) none := ⟨_, rfl⟩
      rw [← hb0] at hq etk
      -- not asked for
      have skip : ftC may must o (vcn k) = false → ∀ (z8 z9 z10 : Option Value), xW E 9 37 132 [some (.ref 19), some (.int (nI may)), some (.int (nI must)), some (.int (szI o)), some (.int fd), some (.int wv), some (.int fe), some (.int (nI k)), z8, z9, z10] [] (xC0 ++ T, I', L) 0 0 (fun r t => ∃ i c, i < 1546 ∧ vcn i = c ∧ gsel A F may must o = some c ∧ r = some (.int (nI i)) ∧ ∃ I', t = (xC0 ++ T, I', L) ∧ ((∀ a, a < 14 ∨ (18 < a ∧ a < 19) ∨ 23 < a → I' a = I a) ∧ ∀ j, j ≠ 3 → j ≠ 5 → I' 19 j = I 19 j) ∧ RD (wkc A F) I') := by
        intro hft z8 z9 z10
        have e9 : stp (ftC may must o) (wkc A F) pqC b0 (vcn k) = b0 := by unfold stp; rw [hft]; rfl
        rw [e9] at etk
        refine ws_iinc_7 135 rfl rfl (ki_1 _) rfl rfl ?_
        refine ws_goto 16 rfl rfl ?_
        refine ih (k + 1) I' fd wv fe _ _ _ (by omega) hf hR ?_
        rw [etk]
        cases b0 with
        | none => exact hq
        | some c => obtain ⟨i, h1, h2⟩ := hq; exact ⟨i, by omega, h2⟩
      by_cases c1 : nI (sC (vcn k)) &&& (nI may ^^^ (-1)) = 0
      · by_cases c2 : nI must &&& (nI (sC (vcn k)) ^^^ (-1)) = 0
        · have hfit : fitI may must (sC (vcn k)) = true := by unfold fitI; rw [decide_eq_true c1, decide_eq_true c2]; rfl
          have go : szB o (pop 5 (sC (vcn k))) = true → ∀ (z10 : Option Value), xW E 9 37 91 [some (.ref 19), some (.int (nI may)), some (.int (nI must)), some (.int (szI o)), some (.int fd), some (.int wv), some (.int fe), some (.int (nI k)), some (.int (nI (pop 5 (sC (vcn k))))), some (.int (nI 1)), z10] [] (xC0 ++ T, I', L) 0 0 (fun r t => ∃ i c, i < 1546 ∧ vcn i = c ∧ gsel A F may must o = some c ∧ r = some (.int (nI i)) ∧ ∃ I', t = (xC0 ++ T, I', L) ∧ ((∀ a, a < 14 ∨ (18 < a ∧ a < 19) ∨ 23 < a → I' a = I a) ∧ ∀ j, j ≠ 3 → j ≠ 5 → I' 19 j = I 19 j) ∧ RD (wkc A F) I') := by
            intro hsz z10
            have hft : ftC may must o (vcn k) = true := by unfold ftC; rw [hfit, hsz]; rfl
            have hS' : SC A F I' := hS.keep (fun a ha => hf.1 a (by omega))
            refine ws_aload_0 92 rfl rfl ?_
            refine ws_iload_7 94 rfl rfl ?_
            refine ws_invV1 97 rfl rfl rfl rfl (c_weekAt k hk6 hok hS' hR) rfl rfl rfl ?_
            rintro _ _ ⟨rfl, I2, rfl, hf2, hR2⟩
            have hf3 : (∀ a, a < 14 ∨ (18 < a ∧ a < 19) ∨ 23 < a → I2 a = I a) ∧ ∀ j, j ≠ 3 → j ≠ 5 → I2 19 j = I 19 j := ⟨fun a ha => by rw [hf2 a (by omega)]; exact hf.1 a (by omega), fun j j3 j5 => by rw [hf2 19 (by omega)]; exact hf.2 j j3 j5⟩
            have hwl := wkc_le hok (vcn k)
            -- taken, or left
            have take : stp (ftC may must o) (wkc A F) pqC b0 (vcn k) = some (vcn k) → ∀ (z9 : Option Value), xW E 9 37 120 [some (.ref 19), some (.int (nI may)), some (.int (nI must)), some (.int (szI o)), some (.int fd), some (.int wv), some (.int fe), some (.int (nI k)), some (.int (nI (pop 5 (sC (vcn k))))), z9, some (.int (nI (wkc A F (vcn k))))] [] (xC0 ++ T, I2, L) 0 0 (fun r t => ∃ i c, i < 1546 ∧ vcn i = c ∧ gsel A F may must o = some c ∧ r = some (.int (nI i)) ∧ ∃ I', t = (xC0 ++ T, I', L) ∧ ((∀ a, a < 14 ∨ (18 < a ∧ a < 19) ∨ 23 < a → I' a = I a) ∧ ∀ j, j ≠ 3 → j ≠ 5 → I' 19 j = I 19 j) ∧ RD (wkc A F) I') := by
              intro hs z9
              rw [hs] at etk
              refine ws_iload_7 122 rfl rfl ?_
              refine ws_istore_4 124 rfl rfl rfl rfl ?_
              refine ws_iload_10 126 rfl rfl ?_
              refine ws_istore_5 128 rfl rfl rfl rfl ?_
              refine ws_iload_8 130 rfl rfl ?_
              refine ws_istore_6 132 rfl rfl rfl rfl ?_
              refine ws_iinc_7 135 rfl rfl (ki_1 _) rfl rfl ?_
              refine ws_goto 16 rfl rfl ?_
              refine ih (k + 1) I2 _ _ _ _ _ _ (by omega) hf3 hR2 ?_
              rw [etk]
              exact ⟨k, by omega, rfl, rfl, rfl, rfl⟩
            have leave : stp (ftC may must o) (wkc A F) pqC b0 (vcn k) = b0 → ∀ (z9 : Option Value), xW E 9 37 132 [some (.ref 19), some (.int (nI may)), some (.int (nI must)), some (.int (szI o)), some (.int fd), some (.int wv), some (.int fe), some (.int (nI k)), some (.int (nI (pop 5 (sC (vcn k))))), z9, some (.int (nI (wkc A F (vcn k))))] [] (xC0 ++ T, I2, L) 0 0 (fun r t => ∃ i c, i < 1546 ∧ vcn i = c ∧ gsel A F may must o = some c ∧ r = some (.int (nI i)) ∧ ∃ I', t = (xC0 ++ T, I', L) ∧ ((∀ a, a < 14 ∨ (18 < a ∧ a < 19) ∨ 23 < a → I' a = I a) ∧ ∀ j, j ≠ 3 → j ≠ 5 → I' 19 j = I 19 j) ∧ RD (wkc A F) I') := by
              intro hs z9
              rw [hs] at etk
              refine ws_iinc_7 135 rfl rfl (ki_1 _) rfl rfl ?_
              refine ws_goto 16 rfl rfl ?_
              refine ih (k + 1) I2 _ _ _ _ _ _ (by omega) hf3 hR2 ?_
              rw [etk]
              cases b0 with
              | none => exact hq
              | some c => obtain ⟨i, h1, h2⟩ := hq; exact ⟨i, by omega, h2⟩
            cases hb : b0 with
            | none =>
              rw [hb] at hq
              obtain ⟨-, q2, -⟩ := hq
              rw [hb] at take
              have hs : stp (ftC may must o) (wkc A F) pqC none (vcn k) = some (vcn k) := by unfold stp; rw [hft]; rfl
              have hgt : ¬ ¬ (wv < nI (wkc A F (vcn k))) := by
                rw [q2]
                refine not_not_intro ?_
                rw [i32_lt, nI_toInt (by omega), show (-1 : Int32).toInt = -1 by decide]
                omega
              refine ws_istore_10 99 rfl rfl rfl rfl ?_
              refine ws_iload_10 101 rfl rfl ?_
              refine ws_iload_5 103 rfl rfl ?_
              refine ws_icmp_gt 120 106 rfl rfl rfl (fun h9 => ?_) (fun h9 => absurd h9 hgt)
              exact take hs _
            | some c =>
              rw [hb] at hq
              obtain ⟨i, q1, q2, q3, q4, q5⟩ := hq
              rw [hb] at take leave
              have hwc := wkc_le hok c
              have hpc := pop_le 5 (sC c)
              have hpe : pqC c = pop 5 (sC c) := rfl
              have hpk : pqC (vcn k) = pop 5 (sC (vcn k)) := rfl
              have hs : stp (ftC may must o) (wkc A F) pqC (some c) (vcn k) = if wkc A F c < wkc A F (vcn k) ∨ (wkc A F (vcn k) = wkc A F c ∧ pqC (vcn k) < pqC c) then some (vcn k) else some c := by unfold stp; rw [hft]; rfl
              rw [q4, q5] at take leave ⊢
              refine ws_istore_10 99 rfl rfl rfl rfl ?_
              refine ws_iload_10 101 rfl rfl ?_
              refine ws_iload_5 103 rfl rfl ?_
              refine ws_icmp_gtn 120 106 rfl rfl rfl (by omega) (by omega) (fun d1 => ?_) (fun d1 => ?_)
              · exact take (by rw [hs, if_pos (Or.inl d1)]) _
              · refine ws_iload_10 108 rfl rfl ?_
                refine ws_iload_5 110 rfl rfl ?_
                refine ws_icmp_nen 132 113 rfl rfl rfl (by omega) (by omega) (fun d2 => ?_) (fun d2 => ?_)
                · exact leave (by rw [hs, if_neg (by omega)]) _
                · refine ws_iload_8 115 rfl rfl ?_
                  refine ws_iload_6 117 rfl rfl ?_
                  refine ws_icmp_gen 132 120 rfl rfl rfl (by omega) (by omega) (fun d3 => ?_) (fun d3 => ?_)
                  · exact leave (by rw [hs, if_neg (by omega)]) _
                  · exact take (by rw [hs, if_pos (Or.inr ⟨d2, by omega⟩)]) _
          refine ws_iload_7 18 rfl rfl ?_
          refine ws_sipush 21 rfl rfl kc_s1546 ?_
          refine ws_icmp_gen 138 24 rfl rfl rfl (by omega) (by omega) (fun h9 => absurd h9 (by omega)) (fun h9 => ?_)
          refine ws_aload_0 25 rfl rfl ?_
          refine ws_getfr 28 rfl rfl rfl rfl rfl ?_
          refine ws_iload_7 30 rfl rfl ?_
          refine ws_ialdn 31 rfl rfl rfl (by omega) (by omega) h21 ?_
          refine ws_invS1p 34 rfl rfl rfl (p_bitCount5 _ hs32) rfl rfl rfl ?_
          refine ws_istore_8 36 rfl rfl rfl rfl ?_
          refine ws_aload_0 37 rfl rfl ?_
          refine ws_getfr 40 rfl rfl rfl rfl rfl ?_
          refine ws_iload_7 42 rfl rfl ?_
          refine ws_ialdn 43 rfl rfl rfl (by omega) (by omega) h21 ?_
          refine ws_iload_1 44 rfl rfl ?_
          refine ws_iconst 45 rfl rfl kc_im1 ?_
          refine ws_ixor 46 rfl rfl rfl ?_
          refine ws_iand 47 rfl rfl rfl ?_
          refine ws_if_ne 68 50 rfl rfl rfl (fun h9 => absurd h9 (not_not_intro c1)) (fun h9 => ?_)
          refine ws_iload_2 51 rfl rfl ?_
          refine ws_aload_0 52 rfl rfl ?_
          refine ws_getfr 55 rfl rfl rfl rfl rfl ?_
          refine ws_iload_7 57 rfl rfl ?_
          refine ws_ialdn 58 rfl rfl rfl (by omega) (by omega) h21 ?_
          refine ws_iconst 59 rfl rfl kc_im1 ?_
          refine ws_ixor 60 rfl rfl rfl ?_
          refine ws_iand 61 rfl rfl rfl ?_
          refine ws_if_ne 68 64 rfl rfl rfl (fun h9 => absurd h9 (not_not_intro c2)) (fun h9 => ?_)
          refine ws_iconst 65 rfl rfl kc_i1 ?_
          refine ws_goto 69 rfl rfl ?_
          refine ws_istore_9 71 rfl rfl rfl rfl ?_
          refine ws_iload_9 73 rfl rfl ?_
          refine ws_if_eqn 132 76 rfl rfl rfl (by omega) (fun h9 => absurd h9 (by omega)) (fun h9 => ?_)
          refine ws_iload_3 77 rfl rfl ?_
          cases ho' : o with
          | none =>
            rw [ho'] at go
            refine ws_bipush 79 rfl rfl kc_bm6 ?_
            refine ws_icmp_eq 91 82 rfl rfl rfl (fun h9 => ?_) (fun h9 => absurd h9 (by decide))
            exact go rfl _
          | some n =>
            have hn5 := ho n ho'
            rw [ho'] at go skip
            have hne : ¬ szI (some n) = -6 := by
              intro q
              have := congrArg Int32.toInt q
              rw [show szI (some n) = nI n from rfl, nI_toInt (by omega), show (-6 : Int32).toInt = -6 by decide] at this
              omega
            refine ws_bipush 79 rfl rfl kc_bm6 ?_
            refine ws_icmp_eq 91 82 rfl rfl rfl (fun h9 => absurd h9 hne) (fun h9 => ?_)
            show xW E 9 37 82 [some (.ref 19), some (.int (nI may)), some (.int (nI must)), some (.int (nI n)), some (.int fd), some (.int wv), some (.int fe), some (.int (nI k)), some (.int (nI (pop 5 (sC (vcn k))))), some (.int (nI 1)), z10] [] (xC0 ++ T, I', L) 0 0 _
            refine ws_iload_3 83 rfl rfl ?_
            refine ws_iload_8 85 rfl rfl ?_
            refine ws_icmp_eqn 91 88 rfl rfl rfl (by omega) (by omega) (fun d1 => ?_) (fun d1 => ?_)
            · exact go (by simp [szB, d1]) _
            · refine ws_goto 132 rfl rfl ?_
              exact skip (by unfold ftC; simp [szB, d1]) _ _ _
        · refine ws_iload_7 18 rfl rfl ?_
          refine ws_sipush 21 rfl rfl kc_s1546 ?_
          refine ws_icmp_gen 138 24 rfl rfl rfl (by omega) (by omega) (fun h9 => absurd h9 (by omega)) (fun h9 => ?_)
          refine ws_aload_0 25 rfl rfl ?_
          refine ws_getfr 28 rfl rfl rfl rfl rfl ?_
          refine ws_iload_7 30 rfl rfl ?_
          refine ws_ialdn 31 rfl rfl rfl (by omega) (by omega) h21 ?_
          refine ws_invS1p 34 rfl rfl rfl (p_bitCount5 _ hs32) rfl rfl rfl ?_
          refine ws_istore_8 36 rfl rfl rfl rfl ?_
          refine ws_aload_0 37 rfl rfl ?_
          refine ws_getfr 40 rfl rfl rfl rfl rfl ?_
          refine ws_iload_7 42 rfl rfl ?_
          refine ws_ialdn 43 rfl rfl rfl (by omega) (by omega) h21 ?_
          refine ws_iload_1 44 rfl rfl ?_
          refine ws_iconst 45 rfl rfl kc_im1 ?_
          refine ws_ixor 46 rfl rfl rfl ?_
          refine ws_iand 47 rfl rfl rfl ?_
          refine ws_if_ne 68 50 rfl rfl rfl (fun h9 => absurd h9 (not_not_intro c1)) (fun h9 => ?_)
          refine ws_iload_2 51 rfl rfl ?_
          refine ws_aload_0 52 rfl rfl ?_
          refine ws_getfr 55 rfl rfl rfl rfl rfl ?_
          refine ws_iload_7 57 rfl rfl ?_
          refine ws_ialdn 58 rfl rfl rfl (by omega) (by omega) h21 ?_
          refine ws_iconst 59 rfl rfl kc_im1 ?_
          refine ws_ixor 60 rfl rfl rfl ?_
          refine ws_iand 61 rfl rfl rfl ?_
          refine ws_if_ne 68 64 rfl rfl rfl (fun h9 => ?_) (fun h9 => absurd h9 c2)
          refine ws_iconst 69 rfl rfl kc_i0 ?_
          refine ws_istore_9 71 rfl rfl rfl rfl ?_
          refine ws_iload_9 73 rfl rfl ?_
          refine ws_if_eqn 132 76 rfl rfl rfl (by omega) (fun h9 => ?_) (fun h9 => absurd h9 (by omega))
          exact skip (by unfold ftC fitI; rw [decide_eq_false c2, Bool.and_false]; rfl) _ _ _
      · refine ws_iload_7 18 rfl rfl ?_
        refine ws_sipush 21 rfl rfl kc_s1546 ?_
        refine ws_icmp_gen 138 24 rfl rfl rfl (by omega) (by omega) (fun h9 => absurd h9 (by omega)) (fun h9 => ?_)
        refine ws_aload_0 25 rfl rfl ?_
        refine ws_getfr 28 rfl rfl rfl rfl rfl ?_
        refine ws_iload_7 30 rfl rfl ?_
        refine ws_ialdn 31 rfl rfl rfl (by omega) (by omega) h21 ?_
        refine ws_invS1p 34 rfl rfl rfl (p_bitCount5 _ hs32) rfl rfl rfl ?_
        refine ws_istore_8 36 rfl rfl rfl rfl ?_
        refine ws_aload_0 37 rfl rfl ?_
        refine ws_getfr 40 rfl rfl rfl rfl rfl ?_
        refine ws_iload_7 42 rfl rfl ?_
        refine ws_ialdn 43 rfl rfl rfl (by omega) (by omega) h21 ?_
        refine ws_iload_1 44 rfl rfl ?_
        refine ws_iconst 45 rfl rfl kc_im1 ?_
        refine ws_ixor 46 rfl rfl rfl ?_
        refine ws_iand 47 rfl rfl rfl ?_
        refine ws_if_ne 68 50 rfl rfl rfl (fun h9 => ?_) (fun h9 => absurd h9 c1)
        refine ws_iconst 69 rfl rfl kc_i0 ?_
        refine ws_istore_9 71 rfl rfl rfl rfl ?_
        refine ws_iload_9 73 rfl rfl ?_
        refine ws_if_eqn 132 76 rfl rfl rfl (by omega) (fun h9 => ?_) (fun h9 => absurd h9 (by omega))
        exact skip (by unfold ftC fitI; rw [decide_eq_false c1]; rfl) _ _ _
  refine ws_iconst 5 rfl rfl kc_im1 ?_
  refine ws_istore_4 7 rfl rfl rfl rfl ?_
  refine ws_iconst 8 rfl rfl kc_im1 ?_
  refine ws_istore_5 10 rfl rfl rfl rfl ?_
  refine ws_iconst 11 rfl rfl kc_i0 ?_
  refine ws_istore_6 13 rfl rfl rfl rfl ?_
  refine ws_iconst 14 rfl rfl kc_i0 ?_
  refine ws_istore_7 16 rfl rfl rfl rfl ?_
  exact loop 1546 0 I1 _ _ _ _ _ _ rfl ⟨fun a ha => hf1.1 a (by omega), hf1.2⟩ hR1 ⟨rfl, rfl, rfl⟩
end WIN
