/-! ===== Windows: exchanges ===== -/
def nm8 (b : Nat → Nat) : Nat → Nat
  | 0 => 0
  | k + 1 => nm8 b k * 8 + b k
theorem nm8_5 (b : Nat → Nat) : nm8 b 5 = n8 b := by
  unfold n8
  show ((((0 * 8 + b 0) * 8 + b 1) * 8 + b 2) * 8 + b 3) * 8 + b 4 = _
  omega
theorem nm8_lt {b : Nat → Nat} (hb : ∀ p, p < 5 → b p ≤ 5) : ∀ k, k ≤ 5 → nm8 b k < 8 ^ k
  | 0, _ => by show 0 < 1; omega
  | k + 1, hk => by
    have ih := nm8_lt hb k (by omega)
    have h := hb k (by omega)
    show nm8 b k * 8 + b k < 8 ^ (k + 1)
    rw [Nat.pow_succ]
    omega
theorem rw6_ge {d : Nat} (h : ¬ d = 0) (hd : d ≤ 5) : ¬ ¬ ((0 : Int32) ≤ rw6 d) := by
  rw [rw6_1 h]
  refine not_not_intro ?_
  rw [i32_le, Int32.toInt_zero, nI_toInt (by omega)]
  omega
/-- the offers so far, as codes -/
def hOf (I : Nat → Nat → Int32) (ol : List Nat) : Prop := I 19 9 = nI ol.length ∧ ∀ j c, ol[j]? = some c → ∃ i, i < 1546 ∧ vcn i = c ∧ I 25 j = nI i
theorem RD.keep {g : Nat → Nat} {I I' : Nat → Nat → Int32} (h : RD g I) (hf : ∀ a, 20 ≤ a → a ≤ 22 → I' a = I a) (h3 : I' 19 3 = I 19 3) (h5 : I' 19 5 = I 19 5) : RD g I' := by
  refine ⟨⟨by rw [h3]; exact h.1.1, fun i e he => ?_⟩, by rw [h5]; exact h.2.1, fun i hi => ?_⟩
  · rw [hf 20 (by omega) (by omega), hf 21 (by omega) (by omega)]; exact h.1.2 i e he
  · rw [hf 22 (by omega) (by omega)]; exact h.2.2 i hi
section CLIMB
variable {E : xEx} {T : List xSh} {I : Nat → Nat → Int32} {L : Nat → Nat → Int64} {A : Nat → Nat → Nat} {F g : Nat → Nat} {b : Nat → Nat}
theorem c_whichClimbs (ix : Nat) (hix : ix < 1546) (hv : vcn ix = cd b) (hb : ∀ p, p < 5 → b p ≤ 5) (h20 : ∀ i, i < 1546 → I 20 i = nI (n8 (dg (vcn i)))) (h24 : ∀ p, p < 5 → I 24 p = rw6 (b p)) : xC E 1 45 [.ref 19] (xC0 ++ T, I, L) (rV (.int (nI ix)) (xC0 ++ T, I, L)) := by
  refine xC.mk [some (.ref 19), none, none, none, none, none] rfl ?_
  have en8 : n8 (dg (cd b)) = n8 b := n8_congr (dg_cd hb)
  have hnl := n8_lt hb
  -- the search
  have find : ∀ (m it low high : Nat) (z5 : Option Value), it + m = 11 → low ≤ ix → ix ≤ high → high ≤ 1545 → high - low < 2 ^ m → xW E 1 45 52 [some (.ref 19), some (.int (nI (n8 b))), some (.int (nI low)), some (.int (nI high)), some (.int (nI it)), z5] [] (xC0 ++ T, I, L) 0 0 (rV (.int (nI ix)) (xC0 ++ T, I, L)) := by
    intro m
    induction m with
    | zero =>
      intro it low high z5 hm h1 h2 h3 h4
      have hp : high - low < 1 := h4
      have e : low = ix := by omega
      rw [e]
      refine ws_iload_4 54 rfl rfl ?_
      refine ws_bipush 56 rfl rfl kc_b11 ?_
      refine ws_icmp_gen 99 59 rfl rfl rfl (by omega) (by omega) (fun h9 => ?_) (fun h9 => absurd h9 (by omega))
      refine ws_iload_2 100 rfl rfl ?_
      refine ws_iret rfl rfl rfl (Nat.le_of_ble_eq_true rfl) ?_
      exact ⟨rfl, rfl⟩
    | succ m ih =>
      intro it low high z5 hm h1 h2 h3 h4
      rw [Nat.pow_succ] at h4
      refine ws_iload_4 54 rfl rfl ?_
      refine ws_bipush 56 rfl rfl kc_b11 ?_
      refine ws_icmp_gen 99 59 rfl rfl rfl (by omega) (by omega) (fun h9 => absurd h9 (by omega)) (fun h9 => ?_)
      refine ws_iload_2 60 rfl rfl ?_
      refine ws_iload_3 61 rfl rfl ?_
      refine ws_icmp_gen 99 64 rfl rfl rfl (by omega) (by omega) (fun c1 => ?_) (fun c1 => ?_)
      · have e : low = ix := by omega
        rw [e]
        refine ws_iload_2 100 rfl rfl ?_
        refine ws_iret rfl rfl rfl (Nat.le_of_ble_eq_true rfl) ?_
        exact ⟨rfl, rfl⟩
      · have hmid : (low + high) / 2 < 1546 := by omega
        have h20m := h20 _ hmid
        have hml := n8_lt (b := dg (vcn ((low + high) / 2))) (fun p _ => dg_le _ p)
        have hiff : n8 (dg (vcn ((low + high) / 2))) < n8 b ↔ (low + high) / 2 < ix := by
          rw [← en8, ← hv]
          constructor
          · intro h
            rcases Nat.lt_or_ge ((low + high) / 2) ix with q | q
            · exact q
            · exfalso
              rcases Nat.lt_or_ge ix ((low + high) / 2) with q2 | q2
              · have := n8_mono (vcn_lt q2 hmid) (vcn_ok hmid).1
                omega
              · have : ix = (low + high) / 2 := by omega
                rw [this] at h; omega
          · intro h
            exact n8_mono (vcn_lt h hix) (vcn_ok hix).1
        refine ws_iload_2 65 rfl rfl ?_
        refine ws_iload_3 66 rfl rfl ?_
        refine ws_iadd 67 rfl rfl (nI_add _ _) ?_
        refine ws_iconst 68 rfl rfl kc_i2 ?_
        refine ws_idiv 69 rfl rfl (kn_ne0 (by omega) (by omega)) (pk_div (by omega) (by omega) (by omega)) ?_
        refine ws_istore_5 71 rfl rfl rfl rfl ?_
        refine ws_aload_0 72 rfl rfl ?_
        refine ws_getfr 75 rfl rfl rfl rfl rfl ?_
        refine ws_iload_5 77 rfl rfl ?_
        refine ws_ialdn 78 rfl rfl rfl (by omega) (by omega) h20m ?_
        refine ws_iload_1 79 rfl rfl ?_
        refine ws_icmp_gen 90 82 rfl rfl rfl (by omega) (by omega) (fun c2 => ?_) (fun c2 => ?_)
        · refine ws_iload_5 92 rfl rfl ?_
          refine ws_istore_3 93 rfl rfl rfl rfl ?_
          refine ws_iinc_4 96 rfl rfl (ki_1 _) rfl rfl ?_
          refine ws_goto 52 rfl rfl ?_
          exact ih (it + 1) low ((low + high) / 2) _ (by omega) h1 (by omega) (by omega) (by omega)
        · refine ws_iload_5 84 rfl rfl ?_
          refine ws_iconst 85 rfl rfl kc_i1 ?_
          refine ws_iadd 86 rfl rfl (nI_add _ _) ?_
          refine ws_istore_2 87 rfl rfl rfl rfl ?_
          refine ws_goto 93 rfl rfl ?_
          refine ws_iinc_4 96 rfl rfl (ki_1 _) rfl rfl ?_
          refine ws_goto 52 rfl rfl ?_
          exact ih (it + 1) ((low + high) / 2 + 1) high _ (by omega) (by omega) h2 h3 (by omega)
  have num : ∀ (m k : Nat) (z3 : Option Value), k + m = 5 → xW E 1 45 4 [some (.ref 19), some (.int (nI (nm8 b k))), some (.int (nI k)), z3, none, none] [] (xC0 ++ T, I, L) 0 0 (rV (.int (nI ix)) (xC0 ++ T, I, L)) := by
    intro m
    induction m with
    | zero =>
      intro k z3 hk
      obtain rfl : k = 5 := by omega
      rw [nm8_5]
      refine ws_iload_2 5 rfl rfl ?_
      refine ws_iconst 6 rfl rfl kc_i5 ?_
      refine ws_icmp_gen 43 9 rfl rfl rfl (by omega) (by omega) (fun h9 => ?_) (fun h9 => absurd h9 (by omega))
      refine ws_iconst 44 rfl rfl kc_i0 ?_
      refine ws_istore_2 45 rfl rfl rfl rfl ?_
      refine ws_sipush 48 rfl rfl kc_s1545 ?_
      refine ws_istore_3 49 rfl rfl rfl rfl ?_
      refine ws_iconst 50 rfl rfl kc_i0 ?_
      refine ws_istore_4 52 rfl rfl rfl rfl ?_
      exact find 11 0 0 1545 _ rfl (by omega) (by omega) (by omega) (by decide)
    | succ m ih =>
      intro k z3 hk
      have hk5 : k < 5 := by omega
      have h24k := h24 k hk5
      have hbk := hb k hk5
      have hnk : nm8 b k < 32768 := Nat.lt_of_lt_of_le (nm8_lt hb k (by omega)) (by
        calc 8 ^ k ≤ 8 ^ 5 := Nat.pow_le_pow_right (by omega) (by omega)
          _ = 32768 := by decide)
      have eo : nm8 b k * 2 ^ 3 ||| b k = nm8 b (k + 1) := or8 (by omega)
      by_cases h0 : b k = 0
      · rw [h0] at eo
        rw [rw6_0 h0] at h24k
        refine ws_iload_2 5 rfl rfl ?_
        refine ws_iconst 6 rfl rfl kc_i5 ?_
        refine ws_icmp_gen 43 9 rfl rfl rfl (by omega) (by omega) (fun h9 => absurd h9 (by omega)) (fun h9 => ?_)
        refine ws_aload_0 10 rfl rfl ?_
        refine ws_getfr 13 rfl rfl rfl rfl rfl ?_
        refine ws_iload_2 14 rfl rfl ?_
        refine ws_ialdn 15 rfl rfl rfl (by omega) (by omega) h24k ?_
        refine ws_if_ge 22 18 rfl rfl rfl (fun h9 => absurd h9 (by decide)) (fun h9 => ?_)
        refine ws_iconst 19 rfl rfl kc_i0 ?_
        refine ws_goto 30 rfl rfl ?_
        refine ws_istore_3 31 rfl rfl rfl rfl ?_
        refine ws_iload_1 32 rfl rfl ?_
        refine ws_iconst 33 rfl rfl kc_i3 ?_
        refine ws_ishl 34 rfl rfl (kn_shl (by omega) (by omega)) ?_
        refine ws_iload_3 35 rfl rfl ?_
        refine ws_ior 36 rfl rfl (kn_or _ _) ?_
        rw [eo]
        refine ws_istore_1 37 rfl rfl rfl rfl ?_
        refine ws_iinc_2 40 rfl rfl (ki_1 _) rfl rfl ?_
        refine ws_goto 4 rfl rfl ?_
        exact ih (k + 1) _ (by omega)
      · have e1 : b k - 1 + 1 = b k := by omega
        rw [rw6_1 h0] at h24k
        refine ws_iload_2 5 rfl rfl ?_
        refine ws_iconst 6 rfl rfl kc_i5 ?_
        refine ws_icmp_gen 43 9 rfl rfl rfl (by omega) (by omega) (fun h9 => absurd h9 (by omega)) (fun h9 => ?_)
        refine ws_aload_0 10 rfl rfl ?_
        refine ws_getfr 13 rfl rfl rfl rfl rfl ?_
        refine ws_iload_2 14 rfl rfl ?_
        refine ws_ialdn 15 rfl rfl rfl (by omega) (by omega) h24k ?_
        refine ws_if_gen 22 18 rfl rfl rfl (by omega) (fun h9 => ?_) (fun h9 => absurd h9 (by omega))
        refine ws_aload_0 23 rfl rfl ?_
        refine ws_getfr 26 rfl rfl rfl rfl rfl ?_
        refine ws_iload_2 27 rfl rfl ?_
        refine ws_ialdn 28 rfl rfl rfl (by omega) (by omega) h24k ?_
        refine ws_iconst 29 rfl rfl kc_i1 ?_
        refine ws_iadd 30 rfl rfl (nI_add _ _) ?_
        rw [e1]
        refine ws_istore_3 31 rfl rfl rfl rfl ?_
        refine ws_iload_1 32 rfl rfl ?_
        refine ws_iconst 33 rfl rfl kc_i3 ?_
        refine ws_ishl 34 rfl rfl (kn_shl (by omega) (by omega)) ?_
        refine ws_iload_3 35 rfl rfl ?_
        refine ws_ior 36 rfl rfl (kn_or _ _) ?_
        rw [eo]
        refine ws_istore_1 37 rfl rfl rfl rfl ?_
        refine ws_iinc_2 40 rfl rfl (ki_1 _) rfl rfl ?_
        refine ws_goto 4 rfl rfl ?_
        exact ih (k + 1) _ (by omega)
  refine ws_iconst 1 rfl rfl kc_i0 ?_
  refine ws_istore_1 2 rfl rfl rfl rfl ?_
  refine ws_iconst 3 rfl rfl kc_i0 ?_
  refine ws_istore_2 4 rfl rfl rfl rfl ?_
  exact num 5 0 _ rfl
theorem c_offer (ol : List Nat) (hb : ∀ p, p < 5 → b p ≤ 5) (hok : okC (cd b)) (hl : ol.length < 40) (hO : hOf I ol) (h20 : ∀ i, i < 1546 → I 20 i = nI (n8 (dg (vcn i)))) (h24 : ∀ p, p < 5 → I 24 p = rw6 (b p)) : xC E 2 44 [.ref 19] (xC0 ++ T, I, L) (fun r t => r = none ∧ ∃ I', t = (xC0 ++ T, I', L) ∧ ((∀ a, a ≠ 19 → a ≠ 25 → I' a = I a) ∧ ∀ j, j ≠ 9 → I' 19 j = I 19 j) ∧ hOf I' (ol ++ [cd b])) := by
  refine xC.mk [some (.ref 19)] rfl ?_
  obtain ⟨ix, hix, hv⟩ := vcn_ix hok.1 hok.2
  have h9o := hO.1
  have h9' : ∀ x : Int32, wI I 25 ol.length x 19 9 = nI ol.length := fun x => by rw [wI_ne (by decide)]; exact h9o
  refine ws_aload_0 1 rfl rfl ?_
  refine ws_getfi 4 rfl rfl rfl rfl rfl h9o ?_
  refine ws_bipush 6 rfl rfl kc_b40 ?_
  refine ws_icmp_gen 32 9 rfl rfl rfl (by omega) (by omega) (fun h9 => absurd h9 (by omega)) (fun h9 => ?_)
  refine ws_aload_0 10 rfl rfl ?_
  refine ws_getfr 13 rfl rfl rfl rfl rfl ?_
  refine ws_aload_0 14 rfl rfl ?_
  refine ws_getfi 17 rfl rfl rfl rfl rfl h9o ?_
  refine ws_aload_0 18 rfl rfl ?_
  refine ws_invV0p 21 rfl rfl rfl rfl (c_whichClimbs ix hix hv hb h20 h24) rfl rfl rfl ?_
  refine ws_iastn 22 rfl rfl rfl (by omega) (by omega) ?_
  refine ws_aload_0 23 rfl rfl ?_
  refine ws_dup 24 rfl rfl rfl ?_
  refine ws_getfi 27 rfl rfl rfl rfl rfl (h9' _) ?_
  refine ws_iconst 28 rfl rfl kc_i1 ?_
  refine ws_iadd 29 rfl rfl (nI_add _ _) ?_
  refine ws_putfi 32 rfl rfl rfl rfl rfl rfl rfl rfl ?_
  refine ws_vret rfl rfl rfl (Nat.le_of_ble_eq_true rfl) ?_
  refine ⟨rfl, _, rfl, ⟨fun a a1 a2 => by rw [wI_ne a1, wI_ne a2], fun j hj => by rw [wI_eq, pk_un hj, wI_ne (by decide)]⟩, ?_, fun j c hc => ?_⟩
  · rw [wI_eq, pk_us, List.length_append]; rfl
  · rw [wI_ne (show (25 : Nat) ≠ 19 by decide), wI_eq]
    rcases Nat.lt_or_ge j ol.length with q | q
    · rw [List.getElem?_append_left q] at hc
      rw [pk_un (by omega)]
      exact hO.2 j c hc
    · rw [List.getElem?_append_right q] at hc
      have hz : j - ol.length < 1 := (List.getElem?_eq_some_iff.mp hc).1
      have hj : j = ol.length := by omega
      rw [hj, Nat.sub_self] at hc
      have : cd b = c := by simpa using hc
      rw [hj, ← this, pk_us]
      exact ⟨ix, hix, hv, rfl⟩
theorem c_changeAbout (p q : Nat) (hp : p < 5) (hq : q < 5) (h24 : ∀ p, p < 5 → I 24 p = rw6 (b p)) : xC E 1 41 [.ref 19, .int (nI p), .int (nI q)] (xC0 ++ T, I, L) (fun r t => r = none ∧ ∃ I', t = (xC0 ++ T, I', L) ∧ (∀ a, a ≠ 24 → I' a = I a) ∧ ∀ r, r < 5 → I' 24 r = rw6 (sw b p q r)) := by
  refine xC.mk [some (.ref 19), some (.int (nI p)), some (.int (nI q)), none] rfl ?_
  have h1 := h24 p hp
  have h2 := h24 q hq
  refine ws_aload_0 1 rfl rfl ?_
  refine ws_getfr 4 rfl rfl rfl rfl rfl ?_
  refine ws_iload_1 5 rfl rfl ?_
  refine ws_ialdn 6 rfl rfl rfl (by omega) (by omega) h1 ?_
  refine ws_istore_3 7 rfl rfl rfl rfl ?_
  refine ws_aload_0 8 rfl rfl ?_
  refine ws_getfr 11 rfl rfl rfl rfl rfl ?_
  refine ws_iload_1 12 rfl rfl ?_
  refine ws_aload_0 13 rfl rfl ?_
  refine ws_getfr 16 rfl rfl rfl rfl rfl ?_
  refine ws_iload_2 17 rfl rfl ?_
  refine ws_ialdn 18 rfl rfl rfl (by omega) (by omega) h2 ?_
  refine ws_iastn 19 rfl rfl rfl (by omega) (by omega) ?_
  refine ws_aload_0 20 rfl rfl ?_
  refine ws_getfr 23 rfl rfl rfl rfl rfl ?_
  refine ws_iload_2 24 rfl rfl ?_
  refine ws_iload_3 25 rfl rfl ?_
  refine ws_iastn 26 rfl rfl rfl (by omega) (by omega) ?_
  refine ws_vret rfl rfl rfl (Nat.le_of_ble_eq_true rfl) ?_
  refine ⟨rfl, _, rfl, fun a ha => by rw [wI_ne ha, wI_ne ha], fun r hr => ?_⟩
  rw [wI_eq, wI_eq]
  unfold sw
  by_cases e1 : r = q
  · rw [e1, pk_us]
    by_cases e2 : q = p
    · rw [if_pos e2, e2]
    · rw [if_neg e2, if_pos rfl]
  · rw [pk_un e1]
    by_cases e2 : r = p
    · rw [e2, pk_us, if_pos rfl]
    · rw [pk_un e2, if_neg e2, if_neg e1]; exact h24 r hr
/-- what stays while offers are made -/
def fr5 (I I' : Nat → Nat → Int32) : Prop := (∀ a, a ≠ 19 → a ≠ 24 → a ≠ 25 → I' a = I a) ∧ ∀ j, j ≠ 9 → I' 19 j = I 19 j
theorem fr5.rf (I : Nat → Nat → Int32) : fr5 I I := ⟨fun _ _ _ _ => rfl, fun _ _ => rfl⟩
theorem fr5.tr {I I1 I2 : Nat → Nat → Int32} (h : fr5 I I1) (h2 : fr5 I1 I2) : fr5 I I2 := ⟨fun a a1 a2 a3 => by rw [h2.1 a a1 a2 a3]; exact h.1 a a1 a2 a3, fun j hj => by rw [h2.2 j hj]; exact h.2 j hj⟩
theorem fr5.c24 {I I' : Nat → Nat → Int32} (h : ∀ a, a ≠ 24 → I' a = I a) : fr5 I I' := ⟨fun a _ a2 _ => h a a2, fun j _ => by rw [h 19 (by decide)]⟩
theorem fr5.of {I I' : Nat → Nat → Int32} (h : (∀ a, a ≠ 19 → a ≠ 25 → I' a = I a) ∧ ∀ j, j ≠ 9 → I' 19 j = I 19 j) : fr5 I I' := ⟨fun a a1 _ a3 => h.1 a a1 a3, h.2⟩
theorem hOf.c24 {I I' : Nat → Nat → Int32} {ol : List Nat} (hO : hOf I ol) (h : ∀ a, a ≠ 24 → I' a = I a) : hOf I' ol := ⟨by rw [h 19 (by decide)]; exact hO.1, fun j c hc => by rw [h 25 (by decide)]; exact hO.2 j c hc⟩
theorem c_offerChangesAbout {c : Nat} (hc : okC c) (h20 : ∀ i, i < 1546 → I 20 i = nI (n8 (dg (vcn i)))) (hO : hOf I []) (h24 : ∀ p, p < 5 → I 24 p = rw6 (dg c p)) : xC E 3 40 [.ref 19] (xC0 ++ T, I, L) (fun r t => r = none ∧ ∃ I', t = (xC0 ++ T, I', L) ∧ fr5 I I' ∧ hOf I' (sw2 (dg c) 5) ∧ ∀ p, p < 5 → I' 24 p = rw6 (dg c p)) := by
  refine xC.mk [some (.ref 19), none, none] rfl ?_
  have hdg : ∀ p, p < 5 → dg c p ≤ 5 := fun p _ => dg_le c p
  have outer : ∀ (m p : Nat) (I' : Nat → Nat → Int32) (z2 : Option Value), p + m = 5 → fr5 I I' → hOf I' (sw2 (dg c) p) → (∀ p, p < 5 → I' 24 p = rw6 (dg c p)) → xW E 3 40 2 [some (.ref 19), some (.int (nI p)), z2] [] (xC0 ++ T, I', L) 0 0 (fun r t => r = none ∧ ∃ I', t = (xC0 ++ T, I', L) ∧ fr5 I I' ∧ hOf I' (sw2 (dg c) 5) ∧ ∀ p, p < 5 → I' 24 p = rw6 (dg c p)) := by
    intro m
    induction m with
    | zero =>
      intro p I' z2 hp hf hO h24
      obtain rfl : p = 5 := by omega
      refine ws_iload_1 3 rfl rfl ?_
      refine ws_iconst 4 rfl rfl kc_i5 ?_
      refine ws_icmp_gen 44 7 rfl rfl rfl (by omega) (by omega) (fun h9 => ?_) (fun h9 => absurd h9 (by omega))
      refine ws_vret rfl rfl rfl (Nat.le_of_ble_eq_true rfl) ?_
      exact ⟨rfl, I', rfl, hf, hO, h24⟩
    | succ m ih =>
      intro p I' z2 hp hf hO h24
      have hp5 : p < 5 := by omega
      have inner : ∀ (m n : Nat) (I' : Nat → Nat → Int32), n + m = 4 - p → fr5 I I' → hOf I' (sw2 (dg c) p ++ sw1 (dg c) p n) → (∀ p, p < 5 → I' 24 p = rw6 (dg c p)) → xW E 3 40 11 [some (.ref 19), some (.int (nI p)), some (.int (nI (p + 1 + n)))] [] (xC0 ++ T, I', L) 0 0 (fun r t => r = none ∧ ∃ I', t = (xC0 ++ T, I', L) ∧ fr5 I I' ∧ hOf I' (sw2 (dg c) 5) ∧ ∀ p, p < 5 → I' 24 p = rw6 (dg c p)) := by
        intro m
        induction m with
        | zero =>
          intro n I' hn hf hO h24
          have e : n = 4 - p := by omega
          rw [e] at hO
          refine ws_iload_2 12 rfl rfl ?_
          refine ws_iconst 13 rfl rfl kc_i5 ?_
          refine ws_icmp_gen 38 16 rfl rfl rfl (by omega) (by omega) (fun h9 => ?_) (fun h9 => absurd h9 (by omega))
          refine ws_iinc_1 41 rfl rfl (ki_1 _) rfl rfl ?_
          refine ws_goto 2 rfl rfl ?_
          exact ih (p + 1) I' _ (by omega) hf hO h24
        | succ m ih2 =>
          intro n I' hn hf hO h24
          have hq : p + 1 + n < 5 := by omega
          have hlen : (sw2 (dg c) p ++ sw1 (dg c) p n).length < 40 := by
            obtain ⟨l0, l1, l2, l3, l4, l5⟩ := sw2_len (dg c)
            rw [List.length_append, sw1_len]
            rcases (show p = 0 ∨ p = 1 ∨ p = 2 ∨ p = 3 ∨ p = 4 by omega) with rfl | rfl | rfl | rfl | rfl <;> omega
          refine ws_iload_2 12 rfl rfl ?_
          refine ws_iconst 13 rfl rfl kc_i5 ?_
          refine ws_icmp_gen 38 16 rfl rfl rfl (by omega) (by omega) (fun h9 => absurd h9 (by omega)) (fun h9 => ?_)
          refine ws_aload_0 17 rfl rfl ?_
          refine ws_iload_1 18 rfl rfl ?_
          refine ws_iload_2 19 rfl rfl ?_
          refine ws_invV2 22 rfl rfl rfl rfl (c_changeAbout p (p + 1 + n) hp5 hq h24) rfl rfl rfl ?_
          rintro _ _ ⟨rfl, I1, rfl, hf1, h241⟩
          have hok := okC_sw hc hp5 hq
          refine ws_aload_0 23 rfl rfl ?_
          refine ws_invV0 26 rfl rfl rfl rfl (c_offer (b := sw (dg c) p (p + 1 + n)) _ (sw_le hdg hp5 hq) hok hlen (hO.c24 hf1) (fun i hi => by rw [hf1 20 (by decide), hf.1 20 (by decide) (by decide) (by decide)]; exact h20 i hi) h241) rfl rfl rfl ?_
          rintro _ _ ⟨rfl, I2, rfl, hf2, hO2⟩
          refine ws_aload_0 27 rfl rfl ?_
          refine ws_iload_1 28 rfl rfl ?_
          refine ws_iload_2 29 rfl rfl ?_
          refine ws_invV2 32 rfl rfl rfl rfl (c_changeAbout (b := sw (dg c) p (p + 1 + n)) p (p + 1 + n) hp5 hq (fun r hr => by rw [hf2.1 24 (by decide) (by decide)]; exact h241 r hr)) rfl rfl rfl ?_
          rintro _ _ ⟨rfl, I3, rfl, hf3, h243⟩
          refine ws_iinc_2 35 rfl rfl (ki_1 _) rfl rfl ?_
          refine ws_goto 11 rfl rfl ?_
          exact ih2 (n + 1) I3 (by omega) (((hf.tr (fr5.c24 hf1)).tr (fr5.of hf2)).tr (fr5.c24 hf3)) (by have := hO2.c24 hf3; rw [List.append_assoc] at this; exact this) (fun r hr => by rw [h243 r hr, sw_sw])
      refine ws_iload_1 3 rfl rfl ?_
      refine ws_iconst 4 rfl rfl kc_i5 ?_
      refine ws_icmp_gen 44 7 rfl rfl rfl (by omega) (by omega) (fun h9 => absurd h9 (by omega)) (fun h9 => ?_)
      refine ws_iload_1 8 rfl rfl ?_
      refine ws_iconst 9 rfl rfl kc_i1 ?_
      refine ws_iadd 10 rfl rfl (nI_add _ _) ?_
      refine ws_istore_2 11 rfl rfl rfl rfl ?_
      exact inner (4 - p) 0 I' (by omega) hf (by rw [show sw1 (dg c) p 0 = [] from rfl, List.append_nil]; exact hO) h24
  refine ws_iconst 1 rfl rfl kc_i0 ?_
  refine ws_istore_1 2 rfl rfl rfl rfl ?_
  exact outer 5 0 I _ rfl (fr5.rf I) hO h24
theorem c_offerPuttings {c : Nat} (hc : okC c) (h20 : ∀ i, i < 1546 → I 20 i = nI (n8 (dg (vcn i)))) (h21 : ∀ i, i < 1546 → I 21 i = nI (sC (vcn i))) (hO : hOf I (sw2 (dg c) 5)) (h24 : ∀ p, p < 5 → I 24 p = rw6 (dg c p)) : xC E 3 42 [.ref 19] (xC0 ++ T, I, L) (fun r t => r = none ∧ ∃ I', t = (xC0 ++ T, I', L) ∧ fr5 I I' ∧ hOf I' (sw2 (dg c) 5 ++ pu2 (dg c) (sC c) 5) ∧ ∀ p, p < 5 → I' 24 p = rw6 (dg c p)) := by
  refine xC.mk [some (.ref 19), none, none, none, none] rfl ?_
  have hdg : ∀ p, p < 5 → dg c p ≤ 5 := fun p _ => dg_le c p
  have hs32 := sC_lt c
  obtain ⟨-, -, -, -, -, l5⟩ := sw2_len (dg c)
  have outer : ∀ (m p : Nat) (I' : Nat → Nat → Int32) (z3 z4 : Option Value), p + m = 5 → fr5 I I' → hOf I' (sw2 (dg c) 5 ++ pu2 (dg c) (sC c) p) → (∀ p, p < 5 → I' 24 p = rw6 (dg c p)) → xW E 3 42 12 [some (.ref 19), some (.int (nI (sC c))), some (.int (nI p)), z3, z4] [] (xC0 ++ T, I', L) 0 0 (fun r t => r = none ∧ ∃ I', t = (xC0 ++ T, I', L) ∧ fr5 I I' ∧ hOf I' (sw2 (dg c) 5 ++ pu2 (dg c) (sC c) 5) ∧ ∀ p, p < 5 → I' 24 p = rw6 (dg c p)) := by
    intro m
    induction m with
    | zero =>
      intro p I' z3 z4 hp hf hO h24
      obtain rfl : p = 5 := by omega
      refine ws_iload_2 13 rfl rfl ?_
      refine ws_iconst 14 rfl rfl kc_i5 ?_
      refine ws_icmp_gen 73 17 rfl rfl rfl (by omega) (by omega) (fun h9 => ?_) (fun h9 => absurd h9 (by omega))
      refine ws_vret rfl rfl rfl (Nat.le_of_ble_eq_true rfl) ?_
      exact ⟨rfl, I', rfl, hf, hO, h24⟩
    | succ m ih =>
      intro p I' z3 z4 hp hf hO h24
      have hp5 : p < 5 := by omega
      have h24p := h24 p hp5
      have hl2 := pu2_len (dg c) (sC c) p
      have inner : ∀ (m t : Nat) (I' : Nat → Nat → Int32), t + m = 5 → fr5 I I' → hOf I' (sw2 (dg c) 5 ++ (pu2 (dg c) (sC c) p ++ pu1 (dg c) (sC c) p t)) → (∀ r, r < 5 → r ≠ p → I' 24 r = rw6 (dg c r)) → xW E 3 42 27 [some (.ref 19), some (.int (nI (sC c))), some (.int (nI p)), some (.int (rw6 (dg c p))), some (.int (nI t))] [] (xC0 ++ T, I', L) 0 0 (fun r t => r = none ∧ ∃ I', t = (xC0 ++ T, I', L) ∧ fr5 I I' ∧ hOf I' (sw2 (dg c) 5 ++ pu2 (dg c) (sC c) 5) ∧ ∀ p, p < 5 → I' 24 p = rw6 (dg c p)) := by
        intro m
        induction m with
        | zero =>
          intro t I' ht hf hO h24
          obtain rfl : t = 5 := by omega
          have hf9 : ∀ a, a ≠ 24 → wI I' 24 p (rw6 (dg c p)) a = I' a := fun a ha => wI_ne ha
          refine ws_iload_4 29 rfl rfl ?_
          refine ws_iconst 30 rfl rfl kc_i5 ?_
          refine ws_icmp_gen 60 33 rfl rfl rfl (by omega) (by omega) (fun h9 => ?_) (fun h9 => absurd h9 (by omega))
          refine ws_aload_0 61 rfl rfl ?_
          refine ws_getfr 64 rfl rfl rfl rfl rfl ?_
          refine ws_iload_2 65 rfl rfl ?_
          refine ws_iload_3 66 rfl rfl ?_
          refine ws_iastn 67 rfl rfl rfl (by omega) (by omega) ?_
          refine ws_iinc_2 70 rfl rfl (ki_1 _) rfl rfl ?_
          refine ws_goto 12 rfl rfl ?_
          exact ih (p + 1) _ _ _ (by omega) (hf.tr (fr5.c24 hf9)) (hO.c24 hf9) (fun r hr => by rw [wI_eq]; by_cases e : r = p; { rw [e, pk_us] }; { rw [pk_un e]; exact h24 r hr e })
        | succ m ih2 =>
          intro t I' ht hf hO h24
          have e : sC c / 2 ^ t &&& 1 = sC c / 2 ^ t % 2 := Nat.and_one_is_mod _
          have eT : pu1 (dg c) (sC c) p (t + 1) = pu1 (dg c) (sC c) p t ++ (if sC c / 2 ^ t % 2 = 0 then [cd (pu (dg c) p (t + 1))] else []) := rfl
          have hl1 := pu1_len (dg c) (sC c) p t
          refine ws_iload_4 29 rfl rfl ?_
          refine ws_iconst 30 rfl rfl kc_i5 ?_
          refine ws_icmp_gen 60 33 rfl rfl rfl (by omega) (by omega) (fun h9 => absurd h9 (by omega)) (fun h9 => ?_)
          refine ws_iload_1 34 rfl rfl ?_
          refine ws_iload_4 36 rfl rfl ?_
          refine ws_ishr 37 rfl rfl (kn_shr (by omega) (by omega)) ?_
          refine ws_iconst 38 rfl rfl kc_i1 ?_
          refine ws_iand 39 rfl rfl (kn_and _ _) ?_
          rw [e]
          refine ws_if_nen 54 42 rfl rfl rfl (by omega) (fun c1 => ?_) (fun c1 => ?_)
          · rw [if_neg (by omega), List.append_nil] at eT
            refine ws_iinc_4 57 rfl rfl (ki_1 _) rfl rfl ?_
            refine ws_goto 27 rfl rfl ?_
            exact ih2 (t + 1) I' (by omega) hf (by rw [eT]; exact hO) h24
          · rw [if_pos (by omega)] at eT
            have hok := okC_pu (p := p) hc (show t < 5 by omega) (by omega)
            have hf9 : ∀ a, a ≠ 24 → wI I' 24 p (nI t) a = I' a := fun a ha => wI_ne ha
            have h249 : ∀ r, r < 5 → wI I' 24 p (nI t) 24 r = rw6 (pu (dg c) p (t + 1) r) := fun r hr => by
              rw [wI_eq]
              unfold pu
              by_cases e : r = p
              · rw [e, pk_us, if_pos rfl, rw6_1 (by omega), Nat.add_sub_cancel]
              · rw [pk_un e, if_neg e]; exact h24 r hr e
            refine ws_aload_0 43 rfl rfl ?_
            refine ws_getfr 46 rfl rfl rfl rfl rfl ?_
            refine ws_iload_2 47 rfl rfl ?_
            refine ws_iload_4 49 rfl rfl ?_
            refine ws_iastn 50 rfl rfl rfl (by omega) (by omega) ?_
            refine ws_aload_0 51 rfl rfl ?_
            refine ws_invV0 54 rfl rfl rfl rfl (c_offer (b := pu (dg c) p (t + 1)) _ (pu_le hdg (by omega)) hok (by rw [List.length_append, List.length_append]; omega) (hO.c24 hf9) (fun i hi => by rw [hf9 20 (by decide), hf.1 20 (by decide) (by decide) (by decide)]; exact h20 i hi) h249) rfl rfl rfl ?_
            rintro _ _ ⟨rfl, I2, rfl, hf2, hO2⟩
            refine ws_iinc_4 57 rfl rfl (ki_1 _) rfl rfl ?_
            refine ws_goto 27 rfl rfl ?_
            exact ih2 (t + 1) I2 (by omega) ((hf.tr (fr5.c24 hf9)).tr (fr5.of hf2)) (by rw [eT]; rw [List.append_assoc, List.append_assoc] at hO2; exact hO2) (fun r hr hne => by rw [hf2.1 24 (by decide) (by decide), h249 r hr]; unfold pu; rw [if_neg hne])
      refine ws_iload_2 13 rfl rfl ?_
      refine ws_iconst 14 rfl rfl kc_i5 ?_
      refine ws_icmp_gen 73 17 rfl rfl rfl (by omega) (by omega) (fun h9 => absurd h9 (by omega)) (fun h9 => ?_)
      refine ws_aload_0 18 rfl rfl ?_
      refine ws_getfr 21 rfl rfl rfl rfl rfl ?_
      refine ws_iload_2 22 rfl rfl ?_
      refine ws_ialdn 23 rfl rfl rfl (by omega) (by omega) h24p ?_
      refine ws_istore_3 24 rfl rfl rfl rfl ?_
      refine ws_iconst 25 rfl rfl kc_i0 ?_
      refine ws_istore_4 27 rfl rfl rfl rfl ?_
      exact inner 5 0 I' rfl hf (by rw [show pu1 (dg c) (sC c) p 0 = [] from rfl, List.append_nil]; exact hO) (fun r hr _ => h24 r hr)
  obtain ⟨ix, hix, hv⟩ := vcn_ix hc.1 hc.2
  have h21i := h21 ix hix
  rw [hv] at h21i
  refine ws_aload_0 1 rfl rfl ?_
  refine ws_getfr 4 rfl rfl rfl rfl rfl ?_
  refine ws_aload_0 5 rfl rfl ?_
  refine ws_invV0p 8 rfl rfl rfl rfl (c_whichClimbs ix hix (hv.trans (cd_dg hc.1).symm) hdg h20 h24) rfl rfl rfl ?_
  refine ws_ialdn 9 rfl rfl rfl (by omega) (by omega) h21i ?_
  refine ws_istore_1 10 rfl rfl rfl rfl ?_
  refine ws_iconst 11 rfl rfl kc_i0 ?_
  refine ws_istore_2 12 rfl rfl rfl rfl ?_
  exact outer 5 0 I _ _ rfl (fr5.rf I) (by rw [show pu2 (dg c) (sC c) 0 = [] from rfl, List.append_nil]; exact hO) h24
theorem c_offerTakings {c : Nat} (hc : okC c) (h20 : ∀ i, i < 1546 → I 20 i = nI (n8 (dg (vcn i)))) (hO : hOf I (sw2 (dg c) 5 ++ pu2 (dg c) (sC c) 5)) (h24 : ∀ p, p < 5 → I 24 p = rw6 (dg c p)) : xC E 3 43 [.ref 19] (xC0 ++ T, I, L) (fun r t => r = none ∧ ∃ I', t = (xC0 ++ T, I', L) ∧ fr5 I I' ∧ hOf I' (cands (dg c) (sC c)) ∧ ∀ p, p < 5 → I' 24 p = rw6 (dg c p)) := by
  refine xC.mk [some (.ref 19), none, none] rfl ?_
  have hdg : ∀ p, p < 5 → dg c p ≤ 5 := fun p _ => dg_le c p
  obtain ⟨-, -, -, -, -, l5⟩ := sw2_len (dg c)
  have hl2 := pu2_len (dg c) (sC c) 5
  have outer : ∀ (m p : Nat) (I' : Nat → Nat → Int32) (z2 : Option Value), p + m = 5 → fr5 I I' → hOf I' (sw2 (dg c) 5 ++ pu2 (dg c) (sC c) 5 ++ tk1 (dg c) p) → (∀ p, p < 5 → I' 24 p = rw6 (dg c p)) → xW E 3 43 2 [some (.ref 19), some (.int (nI p)), z2] [] (xC0 ++ T, I', L) 0 0 (fun r t => r = none ∧ ∃ I', t = (xC0 ++ T, I', L) ∧ fr5 I I' ∧ hOf I' (cands (dg c) (sC c)) ∧ ∀ p, p < 5 → I' 24 p = rw6 (dg c p)) := by
    intro m
    induction m with
    | zero =>
      intro p I' z2 hp hf hO h24
      obtain rfl : p = 5 := by omega
      refine ws_iload_1 3 rfl rfl ?_
      refine ws_iconst 4 rfl rfl kc_i5 ?_
      refine ws_icmp_gen 39 7 rfl rfl rfl (by omega) (by omega) (fun h9 => ?_) (fun h9 => absurd h9 (by omega))
      refine ws_vret rfl rfl rfl (Nat.le_of_ble_eq_true rfl) ?_
      exact ⟨rfl, I', rfl, hf, hO, h24⟩
    | succ m ih =>
      intro p I' z2 hp hf hO h24
      have hp5 : p < 5 := by omega
      have h24p := h24 p hp5
      have hf9 : ∀ a, a ≠ 24 → wI I' 24 p (-6) a = I' a := fun a ha => wI_ne ha
      have h249 : ∀ r, r < 5 → wI I' 24 p (-6) 24 r = rw6 (pu (dg c) p 0 r) := fun r hr => by
        rw [wI_eq]
        unfold pu
        by_cases e : r = p
        · rw [e, pk_us, if_pos rfl]; rfl
        · rw [pk_un e, if_neg e]; exact h24 r hr
      have hlt := tk1_len (dg c) p
      refine ws_iload_1 3 rfl rfl ?_
      refine ws_iconst 4 rfl rfl kc_i5 ?_
      refine ws_icmp_gen 39 7 rfl rfl rfl (by omega) (by omega) (fun h9 => absurd h9 (by omega)) (fun h9 => ?_)
      refine ws_aload_0 8 rfl rfl ?_
      refine ws_getfr 11 rfl rfl rfl rfl rfl ?_
      refine ws_iload_1 12 rfl rfl ?_
      refine ws_ialdn 13 rfl rfl rfl (by omega) (by omega) h24p ?_
      refine ws_istore_2 14 rfl rfl rfl rfl ?_
      refine ws_aload_0 15 rfl rfl ?_
      refine ws_getfr 18 rfl rfl rfl rfl rfl ?_
      refine ws_iload_1 19 rfl rfl ?_
      refine ws_bipush 21 rfl rfl kc_bm6 ?_
      refine ws_iastn 22 rfl rfl rfl (by omega) (by omega) ?_
      refine ws_aload_0 23 rfl rfl ?_
      refine ws_invV0 26 rfl rfl rfl rfl (c_offer (b := pu (dg c) p 0) _ (pu_le hdg (by omega)) (okC_tk hc) (by rw [List.length_append, List.length_append]; omega) (hO.c24 hf9) (fun i hi => by rw [hf9 20 (by decide), hf.1 20 (by decide) (by decide) (by decide)]; exact h20 i hi) h249) rfl rfl rfl ?_
      rintro _ _ ⟨rfl, I2, rfl, hf2, hO2⟩
      have hf3 : ∀ a, a ≠ 24 → wI I2 24 p (rw6 (dg c p)) a = I2 a := fun a ha => wI_ne ha
      refine ws_aload_0 27 rfl rfl ?_
      refine ws_getfr 30 rfl rfl rfl rfl rfl ?_
      refine ws_iload_1 31 rfl rfl ?_
      refine ws_iload_2 32 rfl rfl ?_
      refine ws_iastn 33 rfl rfl rfl (by omega) (by omega) ?_
      refine ws_iinc_1 36 rfl rfl (ki_1 _) rfl rfl ?_
      refine ws_goto 2 rfl rfl ?_
      exact ih (p + 1) _ _ (by omega) (((hf.tr (fr5.c24 hf9)).tr (fr5.of hf2)).tr (fr5.c24 hf3)) (by have := hO2.c24 hf3; rw [List.append_assoc] at this; exact this) (fun r hr => by rw [wI_eq]; by_cases e : r = p; { rw [e, pk_us] }; { rw [pk_un e, hf2.1 24 (by decide) (by decide), h249 r hr]; unfold pu; rw [if_neg e] })
  refine ws_iconst 1 rfl rfl kc_i0 ?_
  refine ws_istore_1 2 rfl rfl rfl rfl ?_
  exact outer 5 0 I _ rfl (fr5.rf I) (by rw [show tk1 (dg c) 0 = [] from rfl, List.append_nil]; exact hO) h24
theorem c_greatestOffer (c0 : Nat) (ol : List Nat) (hl : ol.length ≤ 40) (hO : hOf I ol) (hok : okA A F) (hS : SC A F I) (hR : RD (wkc A F) I) (h11 : I 19 11 = nI (wkc A F c0)) : xC E 6 39 [.ref 19] (xC0 ++ T, I, L) (fun r t => ∃ o, o = ol.foldl (ost (wkc A F) c0) none ∧ (match o with | none => r = some (.int (-1)) | some c => ∃ i, i < 1546 ∧ vcn i = c ∧ r = some (.int (nI i))) ∧ ∃ I', t = (xC0 ++ T, I', L) ∧ ((∀ a, a < 14 ∨ (18 < a ∧ a ≠ 19 ∧ a ≠ 22 ∧ a ≠ 23) → I' a = I a) ∧ ∀ j, j ≠ 11 → I' 19 j = I 19 j) ∧ I' 19 11 = nI (wkc A F (o.getD c0)) ∧ RD (wkc A F) I') := by
  refine xC.mk [some (.ref 19), none, none, none] rfl ?_
  have loop : ∀ (m k : Nat) (I' : Nat → Nat → Int32) (tk : Int32) (z3 : Option Value) (o : Option Nat), k + m = ol.length → o = (ol.take k).foldl (ost (wkc A F) c0) none → (match o with | none => tk = -1 | some c => ∃ i, i < 1546 ∧ vcn i = c ∧ tk = nI i) → ((∀ a, a < 14 ∨ (18 < a ∧ a ≠ 19 ∧ a ≠ 22 ∧ a ≠ 23) → I' a = I a) ∧ ∀ j, j ≠ 11 → I' 19 j = I 19 j) → I' 19 11 = nI (wkc A F (o.getD c0)) → RD (wkc A F) I' → xW E 6 39 4 [some (.ref 19), some (.int tk), some (.int (nI k)), z3] [] (xC0 ++ T, I', L) 0 0 (fun r t => ∃ o, o = ol.foldl (ost (wkc A F) c0) none ∧ (match o with | none => r = some (.int (-1)) | some c => ∃ i, i < 1546 ∧ vcn i = c ∧ r = some (.int (nI i))) ∧ ∃ I', t = (xC0 ++ T, I', L) ∧ ((∀ a, a < 14 ∨ (18 < a ∧ a ≠ 19 ∧ a ≠ 22 ∧ a ≠ 23) → I' a = I a) ∧ ∀ j, j ≠ 11 → I' 19 j = I 19 j) ∧ I' 19 11 = nI (wkc A F (o.getD c0)) ∧ RD (wkc A F) I') := by
    intro m
    induction m with
    | zero =>
      intro k I' tk z3 o hk ho hq hf h11 hR
      have e9 : I' 19 9 = nI ol.length := by rw [hf.2 9 (by decide)]; exact hO.1
      rw [List.take_of_length_le (by omega)] at ho
      refine ws_iload_2 5 rfl rfl ?_
      refine ws_aload_0 6 rfl rfl ?_
      refine ws_getfi 9 rfl rfl rfl rfl rfl e9 ?_
      refine ws_icmp_gen 49 12 rfl rfl rfl (by omega) (by omega) (fun h9 => ?_) (fun h9 => absurd h9 (by omega))
      refine ws_iload_1 50 rfl rfl ?_
      refine ws_iret rfl rfl rfl (Nat.le_of_ble_eq_true rfl) ?_
      refine ⟨o, ho, ?_, I', rfl, hf, h11, hR⟩
      cases o with
      | none => show some (Value.int tk) = _; rw [hq]
      | some c => obtain ⟨i, h1, h2, h3⟩ := hq; exact ⟨i, h1, h2, by rw [h3]⟩
    | succ m ih =>
      intro k I' tk z3 o hk ho hq hf h11 hR
      have e9 : I' 19 9 = nI ol.length := by rw [hf.2 9 (by decide)]; exact hO.1
      obtain ⟨c, hc⟩ : ∃ c, ol[k]? = some c := ⟨_, List.getElem?_eq_getElem (by omega)⟩
      obtain ⟨i, hi, hv, h25⟩ := hO.2 k c hc
      have h25' : I' 25 k = nI i := by rw [hf.1 25 (by omega)]; exact h25
      have hS' : SC A F I' := hS.keep (fun a ha => hf.1 a (by omega))
      have hwl := wkc_le hok c
      have hwo := wkc_le hok (o.getD c0)
      have etk : (ol.take (k + 1)).foldl (ost (wkc A F) c0) none = ost (wkc A F) c0 o c := by
        rw [List.take_succ, hc, List.foldl_append, ← ho]
        rfl
      refine ws_iload_2 5 rfl rfl ?_
      refine ws_aload_0 6 rfl rfl ?_
      refine ws_getfi 9 rfl rfl rfl rfl rfl e9 ?_
      refine ws_icmp_gen 49 12 rfl rfl rfl (by omega) (by omega) (fun h9 => absurd h9 (by omega)) (fun h9 => ?_)
      refine ws_aload_0 13 rfl rfl ?_
      refine ws_aload_0 14 rfl rfl ?_
      refine ws_getfr 17 rfl rfl rfl rfl rfl ?_
      refine ws_iload_2 18 rfl rfl ?_
      refine ws_ialdn 19 rfl rfl rfl (by omega) (by omega) h25' ?_
      refine ws_invV1 22 rfl rfl rfl rfl (c_weekAt i hi hok hS' hR) rfl rfl rfl ?_
      rintro _ _ ⟨rfl, I2, rfl, hf2, hR2⟩
      rw [hv]
      have h11' : I2 19 11 = nI (wkc A F (o.getD c0)) := by rw [hf2 19 (by omega)]; exact h11
      have hf3 : (∀ a, a < 14 ∨ (18 < a ∧ a ≠ 19 ∧ a ≠ 22 ∧ a ≠ 23) → I2 a = I a) ∧ ∀ j, j ≠ 11 → I2 19 j = I 19 j := ⟨fun a ha => by rw [hf2 a (by omega)]; exact hf.1 a ha, fun j hj => by rw [hf2 19 (by omega)]; exact hf.2 j hj⟩
      refine ws_istore_3 23 rfl rfl rfl rfl ?_
      refine ws_iload_3 24 rfl rfl ?_
      refine ws_aload_0 25 rfl rfl ?_
      refine ws_getfi 28 rfl rfl rfl rfl rfl h11' ?_
      refine ws_icmp_len 43 31 rfl rfl rfl (by omega) (by omega) (fun c1 => ?_) (fun c1 => ?_)
      · have e1 : ost (wkc A F) c0 o c = o := by unfold ost; rw [if_neg (by omega)]
        refine ws_iinc_2 46 rfl rfl (ki_1 _) rfl rfl ?_
        refine ws_goto 4 rfl rfl ?_
        exact ih (k + 1) I2 tk _ o (by omega) (by rw [etk, e1]) hq hf3 h11' hR2
      · have e1 : ost (wkc A F) c0 o c = some c := by unfold ost; rw [if_pos (by omega)]
        have h25'' : ∀ x : Int32, wI I2 19 11 x 25 k = nI i := fun x => by rw [wI_ne (by decide), hf2 25 (by omega)]; exact h25'
        refine ws_aload_0 32 rfl rfl ?_
        refine ws_iload_3 33 rfl rfl ?_
        refine ws_putfi 36 rfl rfl rfl rfl rfl rfl rfl rfl ?_
        refine ws_aload_0 37 rfl rfl ?_
        refine ws_getfr 40 rfl rfl rfl rfl rfl ?_
        refine ws_iload_2 41 rfl rfl ?_
        refine ws_ialdn 42 rfl rfl rfl (by omega) (by omega) (h25'' _) ?_
        refine ws_istore_1 43 rfl rfl rfl rfl ?_
        refine ws_iinc_2 46 rfl rfl (ki_1 _) rfl rfl ?_
        refine ws_goto 4 rfl rfl ?_
        exact ih (k + 1) _ _ _ (some c) (by omega) (by rw [etk, e1]) ⟨i, hi, hv, rfl⟩ ⟨fun a ha => by rw [wI_ne (by omega)]; exact hf3.1 a ha, fun j hj => by rw [wI_eq, pk_un hj]; exact hf3.2 j hj⟩ (by rw [wI_eq, pk_us]; rfl) (hR2.keep (fun a a1 a2 => wI_ne (by omega)) (by rw [wI_eq, pk_un (by decide)]) (by rw [wI_eq, pk_un (by decide)]))
  refine ws_iconst 1 rfl rfl kc_im1 ?_
  refine ws_istore_1 2 rfl rfl rfl rfl ?_
  refine ws_iconst 3 rfl rfl kc_i0 ?_
  refine ws_istore_2 4 rfl rfl rfl rfl ?_
  exact loop ol.length 0 I _ _ none (by omega) rfl rfl ⟨fun _ _ => rfl, fun _ _ => rfl⟩ h11 hR
theorem c_climb {c : Nat} (hc : okC c) (hok : okA A F) (hS : SC A F I) (hP : PR (wkc A F) I) (h8 : ∀ p, p < 5 → I 8 p = rw6 (dg c p)) : xC E 9 38 [.ref 19, .ref 8] (xC0 ++ T, I, L) (fun r t => r = none ∧ ∃ I', t = (xC0 ++ T, I', L) ∧ (∀ a, a < 14 ∨ 25 < a → I' a = I a) ∧ I' 19 10 = nI (clm (wkc A F) 20 c).1 ∧ I' 19 11 = nI (wkc A F (clm (wkc A F) 20 c).2) ∧ RD (wkc A F) I') := by
  refine xC.mk [some (.ref 19), some (.ref 8), none, none] rfl ?_
  refine ws_aload_0 1 rfl rfl ?_
  refine ws_invV0 4 rfl rfl rfl rfl (c_makeReady hP) rfl rfl rfl ?_
  rintro _ _ ⟨rfl, I1, rfl, hf1, hR1⟩
  have loop : ∀ (m k c' : Nat) (I' : Nat → Nat → Int32) (z2 z3 : Option Value), k + m = 20 → okC c' → ((clm (wkc A F) 20 c).1 = k + (clm (wkc A F) m c').1 ∧ (clm (wkc A F) 20 c).2 = (clm (wkc A F) m c').2) → (∀ a, a < 14 ∨ 25 < a → I' a = I a) → I' 19 10 = nI k → I' 19 11 = nI (wkc A F c') → RD (wkc A F) I' → (∀ p, p < 5 → I' 24 p = rw6 (dg c' p)) → xW E 9 38 32 [some (.ref 19), some (.ref 8), z2, z3] [] (xC0 ++ T, I', L) 0 0 (fun r t => r = none ∧ ∃ I', t = (xC0 ++ T, I', L) ∧ (∀ a, a < 14 ∨ 25 < a → I' a = I a) ∧ I' 19 10 = nI (clm (wkc A F) 20 c).1 ∧ I' 19 11 = nI (wkc A F (clm (wkc A F) 20 c).2) ∧ RD (wkc A F) I') := by
    intro m
    induction m with
    | zero =>
      intro k c' I' z2 z3 hk hc' hcl hf h10 h11 hR h24
      obtain rfl : k = 20 := by omega
      refine ws_aload_0 33 rfl rfl ?_
      refine ws_getfi 36 rfl rfl rfl rfl rfl h10 ?_
      refine ws_bipush 38 rfl rfl kc_b20 ?_
      refine ws_icmp_gen 106 41 rfl rfl rfl (by omega) (by omega) (fun h9 => ?_) (fun h9 => absurd h9 (by omega))
      refine ws_vret rfl rfl rfl (Nat.le_of_ble_eq_true rfl) ?_
      exact ⟨rfl, I', rfl, hf, by rw [h10, hcl.1]; rfl, by rw [h11, hcl.2]; rfl, hR⟩
    | succ m ih =>
      intro k c' I' z2 z3 hk hc' hcl hf h10 h11 hR h24
      have f0 : fr5 I' (wI I' 19 9 (nI 0)) := ⟨fun a a1 _ _ => wI_ne a1, fun j hj => by rw [wI_eq, pk_un hj]⟩
      have num : ∀ (I2 : Nat → Nat → Int32), fr5 I' I2 → (∀ i, i < 1546 → I2 20 i = nI (n8 (dg (vcn i)))) ∧ (∀ i, i < 1546 → I2 21 i = nI (sC (vcn i))) := fun I2 h => ⟨fun i hi => by rw [h.1 20 (by decide) (by decide) (by decide)]; exact (hR.num hi).1, fun i hi => by rw [h.1 21 (by decide) (by decide) (by decide)]; exact (hR.num hi).2⟩
      refine ws_aload_0 33 rfl rfl ?_
      refine ws_getfi 36 rfl rfl rfl rfl rfl h10 ?_
      refine ws_bipush 38 rfl rfl kc_b20 ?_
      refine ws_icmp_gen 106 41 rfl rfl rfl (by omega) (by omega) (fun h9 => absurd h9 (by omega)) (fun h9 => ?_)
      refine ws_aload_0 42 rfl rfl ?_
      refine ws_iconst 43 rfl rfl kc_i0 ?_
      refine ws_putfi 46 rfl rfl rfl rfl rfl rfl rfl rfl ?_
      refine ws_aload_0 47 rfl rfl ?_
      refine ws_invV0 50 rfl rfl rfl rfl (c_offerChangesAbout hc' (num _ f0).1 ⟨rfl, fun j c hc => by simp at hc⟩ h24) rfl rfl rfl ?_
      rintro _ _ ⟨rfl, I2, rfl, g2, hO2, h242⟩
      have f2 := f0.tr g2
      refine ws_aload_0 51 rfl rfl ?_
      refine ws_invV0 54 rfl rfl rfl rfl (c_offerPuttings hc' (num _ f2).1 (num _ f2).2 hO2 h242) rfl rfl rfl ?_
      rintro _ _ ⟨rfl, I3, rfl, g3, hO3, h243⟩
      have f3 := f2.tr g3
      refine ws_aload_0 55 rfl rfl ?_
      refine ws_invV0 58 rfl rfl rfl rfl (c_offerTakings hc' (num _ f3).1 hO3 h243) rfl rfl rfl ?_
      rintro _ _ ⟨rfl, I4, rfl, g4, hO4, h244⟩
      have f4 := f3.tr g4
      have hlen : (cands (dg c') (sC c')).length ≤ 40 := by
        obtain ⟨-, -, -, -, -, l5⟩ := sw2_len (dg c')
        have l6 := pu2_len (dg c') (sC c') 5
        unfold cands
        rw [List.length_append, List.length_append, tk1_len]
        omega
      have hS4 : SC A F I4 := hS.keep (fun a ha => by rw [f4.1 a (by omega) (by omega) (by omega)]; exact hf a (by omega))
      have hR4 : RD (wkc A F) I4 := hR.keep (fun a a1 a2 => f4.1 a (by omega) (by omega) (by omega)) (f4.2 3 (by decide)) (f4.2 5 (by decide))
      refine ws_aload_0 59 rfl rfl ?_
      refine ws_invV0 62 rfl rfl rfl rfl (c_greatestOffer c' _ hlen hO4 hok hS4 hR4 (by rw [f4.2 11 (by decide)]; exact h11)) rfl rfl rfl ?_
      rintro _ _ ⟨o, ho, hr, I5, rfl, g5, h115, hR5⟩
      have hf5 : ∀ a, a < 14 ∨ 25 < a → I5 a = I a := fun a ha => by rw [g5.1 a (by omega), f4.1 a (by omega) (by omega) (by omega)]; exact hf a ha
      have h105 : I5 19 10 = nI k := by rw [g5.2 10 (by decide), f4.2 10 (by decide)]; exact h10
      have ho2 : exq (wkc A F) c' = o := ho.symm
      cases o with
      | none =>
        have hr : _ = some (Value.int (-1)) := hr
        subst hr
        have e1 : clm (wkc A F) (m + 1) c' = (0, c') := by unfold clm; rw [ho2]
        rw [e1] at hcl
        refine ws_istore_2 63 rfl rfl rfl rfl ?_
        refine ws_iload_2 64 rfl rfl ?_
        refine ws_if_ge 68 67 rfl rfl rfl (fun h9 => absurd h9 (by decide)) (fun h9 => ?_)
        refine ws_vret rfl rfl rfl (Nat.le_of_ble_eq_true rfl) ?_
        exact ⟨rfl, I5, rfl, hf5, by rw [h105, hcl.1]; rfl, by rw [hcl.2]; exact h115, hR5⟩
      | some c2 =>
        obtain ⟨i, hi, hv, hr⟩ := hr
        subst hr
        have hc2 := exq_ok hc' ho2
        have e1 : clm (wkc A F) (m + 1) c' = ((clm (wkc A F) m c2).1 + 1, (clm (wkc A F) m c2).2) := by
          rw [clm, ho2]
        rw [e1] at hcl
        -- the window that was taken
        have put : ∀ (m2 p : Nat) (I' : Nat → Nat → Int32), p + m2 = 5 → (∀ a, a ≠ 24 → I' a = I5 a) → (∀ q, q < p → I' 24 q = rw6 (dg c2 q)) → xW E 9 38 70 [some (.ref 19), some (.ref 8), some (.int (nI i)), some (.int (nI p))] [] (xC0 ++ T, I', L) 0 0 (fun r t => r = none ∧ ∃ I', t = (xC0 ++ T, I', L) ∧ (∀ a, a < 14 ∨ 25 < a → I' a = I a) ∧ I' 19 10 = nI (clm (wkc A F) 20 c).1 ∧ I' 19 11 = nI (wkc A F (clm (wkc A F) 20 c).2) ∧ RD (wkc A F) I') := by
          intro m2
          induction m2 with
          | zero =>
            intro p I' hp hf6 h246
            obtain rfl : p = 5 := by omega
            have h106 : I' 19 10 = nI k := by rw [hf6 19 (by decide)]; exact h105
            refine ws_iload_3 71 rfl rfl ?_
            refine ws_iconst 72 rfl rfl kc_i5 ?_
            refine ws_icmp_gen 93 75 rfl rfl rfl (by omega) (by omega) (fun h9 => ?_) (fun h9 => absurd h9 (by omega))
            refine ws_aload_0 94 rfl rfl ?_
            refine ws_dup 95 rfl rfl rfl ?_
            refine ws_getfi 98 rfl rfl rfl rfl rfl h106 ?_
            refine ws_iconst 99 rfl rfl kc_i1 ?_
            refine ws_iadd 100 rfl rfl (nI_add _ _) ?_
            refine ws_putfi 103 rfl rfl rfl rfl rfl rfl rfl rfl ?_
            refine ws_goto 32 rfl rfl ?_
            exact ih (k + 1) c2 _ _ _ (by omega) hc2 ⟨by rw [hcl.1]; show k + (_ + 1) = _; omega, by rw [hcl.2]⟩ (fun a ha => by rw [wI_ne (by omega), hf6 a (by omega)]; exact hf5 a ha) (by rw [wI_eq, pk_us]) (by rw [wI_eq, pk_un (by decide), hf6 19 (by decide)]; exact h115) (hR5.keep (fun a a1 a2 => by rw [wI_ne (by omega), hf6 a (by omega)]) (by rw [wI_eq, pk_un (by decide), hf6 19 (by decide)]) (by rw [wI_eq, pk_un (by decide), hf6 19 (by decide)])) (fun p hp => by rw [wI_ne (by decide)]; exact h246 p hp)
          | succ m2 ih2 =>
            intro p I' hp hf6 h246
            have h206 : I' 20 i = nI (n8 (dg (vcn i))) := by rw [hf6 20 (by decide)]; exact (hR5.num hi).1
            have ct := c_thingAt (E := E) (T := T) (L := L) (I := I') i p hi (by omega) h206
            rw [hv] at ct
            refine ws_iload_3 71 rfl rfl ?_
            refine ws_iconst 72 rfl rfl kc_i5 ?_
            refine ws_icmp_gen 93 75 rfl rfl rfl (by omega) (by omega) (fun h9 => absurd h9 (by omega)) (fun h9 => ?_)
            refine ws_aload_0 76 rfl rfl ?_
            refine ws_getfr 79 rfl rfl rfl rfl rfl ?_
            refine ws_iload_3 80 rfl rfl ?_
            refine ws_aload_0 81 rfl rfl ?_
            refine ws_iload_2 82 rfl rfl ?_
            refine ws_iload_3 83 rfl rfl ?_
            refine ws_invV2p 86 rfl rfl rfl rfl (ct) rfl rfl rfl ?_
            refine ws_iastn 87 rfl rfl rfl (by omega) (by omega) ?_
            refine ws_iinc_3 90 rfl rfl (ki_1 _) rfl rfl ?_
            refine ws_goto 70 rfl rfl ?_
            exact ih2 (p + 1) _ (by omega) (fun a ha => by rw [wI_ne ha]; exact hf6 a ha) (fl h246 rfl)
        refine ws_istore_2 63 rfl rfl rfl rfl ?_
        refine ws_iload_2 64 rfl rfl ?_
        refine ws_if_gen 68 67 rfl rfl rfl (by omega) (fun h9 => ?_) (fun h9 => absurd h9 (by omega))
        refine ws_iconst 69 rfl rfl kc_i0 ?_
        refine ws_istore_3 70 rfl rfl rfl rfl ?_
        exact put 5 0 I5 rfl (fun _ _ => rfl) (fun _ h => by omega)
  have hf1' : ∀ a, a < 14 ∨ 25 < a → I1 a = I a := fun a ha => hf1.1 a (by omega)
  obtain ⟨I2, hI2⟩ : ∃ I2, I2 = wR I1 24 (fun j => if j < 5 then I1 8 j else I1 24 j) := ⟨_, rfl⟩
  have hf2 : ∀ a, a ≠ 24 → I2 a = I1 a := fun a ha => by rw [hI2]; exact wR_ne ha
  have h242 : ∀ p, p < 5 → I2 24 p = rw6 (dg c p) := fun p hp => by
    rw [hI2, wR_self]
    show (if p < 5 then I1 8 p else I1 24 p) = _
    rw [if_pos hp, hf1' 8 (by omega)]
    exact h8 p hp
  have hR2 : RD (wkc A F) I2 := hR1.keep (fun a a1 a2 => hf2 a (by omega)) (by rw [hf2 19 (by decide)]) (by rw [hf2 19 (by decide)])
  have hS2 : SC A F I2 := hS.keep (fun a ha => by rw [hf2 a (by omega)]; exact hf1' a (by omega))
  obtain ⟨ix, hix, hv⟩ := vcn_ix hc.1 hc.2
  refine ws_aload_1 5 rfl rfl ?_
  refine ws_iconst 6 rfl rfl kc_i0 ?_
  refine ws_aload_0 7 rfl rfl ?_
  refine ws_getfr 10 rfl rfl rfl rfl rfl ?_
  refine ws_iconst 11 rfl rfl kc_i0 ?_
  refine ws_iconst 12 rfl rfl kc_i5 ?_
  refine ws_copy 15 5 rfl rfl rfl rfl rfl rfl rfl rfl (by omega) (by omega) (by omega) (by omega) (show xsum [] ≤ 8 by decide) ?_
  refine ws_aload_0 16 rfl rfl ?_
  refine ws_aload_0 17 rfl rfl ?_
  refine ws_aload_0 18 rfl rfl ?_
  rw [← hI2]
  refine ws_invV0p 21 rfl rfl rfl rfl (c_whichClimbs ix hix (hv.trans (cd_dg hc.1).symm) (fun p _ => dg_le c p) (fun i hi => (hR2.num hi).1) h242) rfl rfl rfl ?_
  refine ws_invV1 24 rfl rfl rfl rfl (c_weekAt ix hix hok hS2 hR2) rfl rfl rfl ?_
  rintro _ _ ⟨rfl, I3, rfl, hf3, hR3⟩
  rw [hv]
  refine ws_putfi 27 rfl rfl rfl rfl rfl rfl rfl rfl ?_
  refine ws_aload_0 28 rfl rfl ?_
  refine ws_iconst 29 rfl rfl kc_i0 ?_
  refine ws_putfi 32 rfl rfl rfl rfl rfl rfl rfl rfl ?_
  exact loop 20 0 c _ _ _ rfl hc ⟨by omega, rfl⟩ (fun a ha => by rw [wI_ne (by omega), wI_ne (by omega), hf3 a (by omega), hf2 a (by omega)]; exact hf1' a ha) rfl rfl (hR3.keep (fun a a1 a2 => by rw [wI_ne (by omega), wI_ne (by omega)]) (by rw [wI_eq, pk_un (by decide), wI_eq, pk_un (by decide)]) (by rw [wI_eq, pk_un (by decide), wI_eq, pk_un (by decide)])) (fun p hp => by rw [wI_ne (by decide), wI_ne (by decide), hf3 24 (by omega)]; exact h242 p hp)
end CLIMB
