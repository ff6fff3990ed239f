/-! ===== Passers: glance, goBy ===== -/
/-- a counter that may be -1 -/
def lI (x : Nat) : Int32 := if x = 0 then -1 else nI (x - 1)
theorem lI_0 : lI 0 = -1 := rfl
theorem lI_s (m : Nat) : lI (m + 1) = nI m := by
  unfold lI
  rw [if_neg (by omega), Nat.add_sub_cancel]
theorem li_dec (m : Nat) : nI m + Int32.ofInt (-1) = lI m := by
  cases m with
  | zero => decide
  | succ m => rw [lI_s]; exact pk_m1 m
theorem mfb0 : ∀ d, d < 6 → ∀ s, s < 32 → ((nI (if d = 0 then 0 else 2 ^ (d - 1)) &&& (nI s ^^^ (-1)) = 0) ↔ (decide (¬ d = 0) && decide (s / 2 ^ (d - 1) % 2 = 0)) = false) := by decide +kernel
theorem mfb {b : Nat → Nat} {s p : Nat} (hb : b p ≤ 5) (hs : s < 32) : (nI (bt b p) &&& (nI s ^^^ (-1)) = 0) ↔ mf b s p = false := mfb0 (b p) (by omega) s hs
theorem csf_after {b w : Nat → Nat} {s f n v : Nat} (u : Nat) (h0 : 0 < laf b s f n) : ∀ m k, k + m = n → laf b s f n ≤ f + k → csf b w s f n v n u = csf b w s f n v k u := by
  intro m
  induction m with
  | zero => intro k hk _; rw [← hk]; rfl
  | succ m ih =>
    intro k hk hl
    have hm : mf b s (f + k) = false := by
      cases hm : mf b s (f + k) with
      | false => rfl
      | true => have := laf_ge hm (show k < n by omega); omega
    rw [ih (k + 1) (by omega) (by omega), csf_n hm]
theorem c_fill {E : xEx} {S : List xSh} {I : Nat → Nat → Int32} {L : Nat → Nat → Int64} (a n : Nat) (x : Int32) (hS : S[a]? = some (.inl (.int, n))) (hn : n < 100000) : xC E 1 143 [.ref a, .int x] (S, I, L) (fun r t => r = none ∧ ∃ I', t = (S, I', L) ∧ (∀ c, c ≠ a → I' c = I c) ∧ ∀ j, j < n → I' a j = x) := by
  refine xC.mk [some (.ref a), some (.int x), none, none] rfl ?_
  refine ws_iconst 1 rfl rfl kc_i0 ?_
  refine ws_istore_2 2 rfl rfl rfl rfl ?_
  refine ws_aload_0 3 rfl rfl ?_
  refine ws_alen 4 rfl rfl hS rfl ?_
  refine ws_istore_3 5 rfl rfl rfl rfl ?_
  have loop : ∀ (m k : Nat) (I' : Nat → Nat → Int32), k + m = n → (∀ c, c ≠ a → I' c = I c) → (∀ j, j < k → I' a j = x) → xW E 1 143 5 [some (.ref a), some (.int x), some (.int (nI k)), some (.int (nI n))] [] (S, I', L) 0 0 (fun r t => r = none ∧ ∃ I', t = (S, I', L) ∧ (∀ c, c ≠ a → I' c = I c) ∧ ∀ j, j < n → I' a j = x) := by
    intro m
    induction m with
    | zero =>
      intro k I' hk hf hp
      obtain rfl : k = n := by omega
      refine ws_iload_2 6 rfl rfl ?_
      refine ws_iload_3 7 rfl rfl ?_
      refine ws_icmp_gen 20 10 rfl rfl rfl (by omega) (by omega) (fun h9 => ?_) (fun h9 => absurd h9 (by omega))
      refine ws_vret rfl rfl rfl (Nat.le_of_ble_eq_true rfl) ?_
      exact ⟨rfl, I', rfl, hf, hp⟩
    | succ m ih =>
      intro k I' hk hf hp
      refine ws_iload_2 6 rfl rfl ?_
      refine ws_iload_3 7 rfl rfl ?_
      refine ws_icmp_gen 20 10 rfl rfl rfl (by omega) (by omega) (fun h9 => absurd h9 (by omega)) (fun h9 => ?_)
      refine ws_aload_0 11 rfl rfl ?_
      refine ws_iload_2 12 rfl rfl ?_
      refine ws_iload_1 13 rfl rfl ?_
      refine ws_iastn 14 rfl rfl hS (by omega) (by omega) ?_
      refine ws_iinc_2 17 rfl rfl (ki_1 _) rfl rfl ?_
      refine ws_goto 5 rfl rfl ?_
      exact ih (k + 1) _ (by omega) (fun c hc => by rw [wI_ne hc]; exact hf c hc) (fun j hj => by rw [wI_eq]; exact fl (g := fun _ => x) hp rfl j hj)
  exact loop n 0 I (by omega) (fun _ _ => rfl) (fun _ h => by omega)
section GLANCE
variable {E : xEx} {T : List xSh} {I : Nat → Nat → Int32} {L : Nat → Nat → Int64} {A : Nat → Nat → Nat} {b w D : Nat → Nat}
theorem c_glance (s f n to : Nat) (hs : s < 32) (hn : 1 ≤ n) (hfn : f + n ≤ 5) (hto : to + 1 = f + n) (hb : ∀ p, p < 5 → b p ≤ 5) (hw : ∀ p, p < 5 → w p ≤ 101) (hw1 : ∀ p, p < 5 → ¬ b p = 0 → 1 ≤ w p) (hD : D s ≤ 1000000) (h15 : ∀ p, p < 5 → I 15 p = nI (bt b p)) (h17 : ∀ p, p < 5 → I 17 p = nI (w p)) (h18 : ∀ u, u < 32 → I 18 u = nI (D u)) :
    xC E 2 20 [.ref 14, .int (nI s), .int (nI f), .int (nI to)] (xC0 ++ T, I, L) (fun r t => r = none ∧ ∃ I', t = (xC0 ++ T, I', L) ∧ (∀ a, a ≠ 18 → I' a = I a) ∧ ∀ u, u < 32 → I' 18 u = nI ((if u = s then 0 else D u) + ctf b w s f n (D s) u)) := by
  refine xC.mk [some (.ref 14), some (.int (nI s)), some (.int (nI f)), some (.int (nI to)), none, none, none, none, none, none] rfl ?_
  refine ws_iconst 1 rfl rfl kc_i0 ?_
  refine ws_istore_4 3 rfl rfl rfl rfl ?_
  refine ws_iconst 4 rfl rfl kc_im1 ?_
  refine ws_istore_5 6 rfl rfl rfl rfl ?_
  refine ws_iload_2 7 rfl rfl ?_
  refine ws_istore_6 9 rfl rfl rfl rfl ?_
  have hmt : ∀ p, p < 5 → mf b s p = true → ¬ (nI (bt b p) &&& (nI s ^^^ (-1)) = 0) := fun p hp hm q => by rw [mfb (hb p hp) hs, hm] at q; cases q
  have hmn : ∀ p, p < 5 → mf b s p = false → ¬ ¬ (nI (bt b p) &&& (nI s ^^^ (-1)) = 0) := fun p hp hm => not_not_intro ((mfb (hb p hp) hs).mpr hm)
  have hbm : ∀ p, mf b s p = true → ¬ b p = 0 := fun p hm => by unfold mf at hm; simp at hm; exact hm.1
  have hws : ∀ k, k < n → mf b s (f + k) = true → 0 < w (f + k) := fun k hk hm => hw1 _ (by omega) (hbm _ hm)
  have hall : ∀ k, k ≤ n → smf b w s f k ≤ 101 * k := by
    intro k
    induction k with
    | zero => intro _; exact Nat.le_refl 0
    | succ k ih =>
      intro hk
      have h1 := ih (by omega)
      have h2 := hw (f + k) (by omega)
      rw [smf_s]
      cases mf b s (f + k) with
      | true => show _ + w (f + k) ≤ _; omega
      | false => show _ + 0 ≤ _; omega
  have loop2 : ∀ (m k l : Nat) (I' : Nat → Nat → Int32) (z : Option Value), laf b s f n = l → f + k + 1 + m = l → 0 < smf b w s f n → (∀ a, a ≠ 18 → I' a = I a) → (∀ u, u < 32 → I' 18 u = nI ((if u = s then 0 else D u) + csf b w s f n (D s) k u)) → xW E 2 20 84 [some (.ref 14), some (.int (nI s)), some (.int (nI f)), some (.int (nI to)), some (.int (nI (smf b w s f n))), some (.int (nI (l - 1))), some (.int (nI (D s))), some (.int (nI (lff b w s f n (D s) k))), some (.int (nI (f + k))), z] [] (xC0 ++ T, I', L) 0 0 (fun r t => r = none ∧ ∃ I', t = (xC0 ++ T, I', L) ∧ (∀ a, a ≠ 18 → I' a = I a) ∧ ∀ u, u < 32 → I' 18 u = nI ((if u = s then 0 else D u) + ctf b w s f n (D s) u)) := by
    intro m
    induction m with
    | zero =>
      intro k l I' z hl hk hsp hf hp
      have hln := laf_le b s f n
      obtain ⟨i, i1, i2, i3⟩ := laf_mf (show 0 < laf b s f n by omega)
      obtain rfl : i = k := by omega
      have e5 : l - 1 = f + i := by omega
      rw [e5]
      have h15' : I' 15 (f + i) = nI (2 ^ (b (f + i) - 1)) := by rw [hf 15 (by decide), h15 _ (by omega), bt_1 (hbm _ i3)]
      have ho := or_lt32 s hs (b (f + i) - 1) (by have := hb (f + i) (by omega); omega)
      have hpo := hp _ ho
      refine ws_iload_8 86 rfl rfl ?_
      refine ws_iload_5 88 rfl rfl ?_
      refine ws_icmp_gen 152 91 rfl rfl rfl (by omega) (by omega) (fun h9 => ?_) (fun h9 => absurd h9 (by omega))
      refine ws_aload_0 153 rfl rfl ?_
      refine ws_getfr 156 rfl rfl rfl rfl rfl ?_
      refine ws_iload_1 157 rfl rfl ?_
      refine ws_aload_0 158 rfl rfl ?_
      refine ws_getfr 161 rfl rfl rfl rfl rfl ?_
      refine ws_iload_5 163 rfl rfl ?_
      refine ws_ialdn 164 rfl rfl rfl (by omega) (by omega) h15' ?_
      refine ws_ior 165 rfl rfl (kn_or _ _) ?_
      refine ws_dup2 166 rfl rfl rfl rfl ?_
      refine ws_ialdn 167 rfl rfl rfl (by omega) (by omega) hpo ?_
      refine ws_iload_7 169 rfl rfl ?_
      refine ws_iadd 170 rfl rfl (nI_add _ _) ?_
      refine ws_iastn 171 rfl rfl rfl (by omega) (by omega) ?_
      refine ws_vret rfl rfl rfl (Nat.le_of_ble_eq_true rfl) ?_
      refine ⟨rfl, _, rfl, fun a ha => by rw [wI_ne ha]; exact hf a ha, fun u hu => ?_⟩
      show upd (I' 18) _ _ u = _
      have e6 : owf b w s f n (D s) i = lff b w s f n (D s) i := by unfold owf; rw [if_pos (by omega)]
      have e7 : ctf b w s f n (D s) u = csf b w s f n (D s) (i + 1) u := by
        unfold ctf
        rw [lff_0 b w s f n (D s) n (Nat.le_refl n) (by omega) (by omega), csf_after u (by omega) (n - (i + 1)) (i + 1) (by omega) (by omega)]
        simp
      rw [e7, csf_s i3, e6]
      by_cases e : u = s ||| 2 ^ (b (f + i) - 1)
      · rw [if_pos e, e, pk_us, Nat.add_assoc]
      · rw [if_neg e, pk_un e, hp u hu, Nat.add_zero]
    | succ m ih =>
      intro k l I' z hl hk hsp hf hp
      have hln := laf_le b s f n
      have hk5 : f + k < 5 := by omega
      cases hm : mf b s (f + k) with
      | false =>
        have h15' : I' 15 (f + k) = nI (bt b (f + k)) := by rw [hf 15 (by decide), h15 _ hk5]
        refine ws_iload_8 86 rfl rfl ?_
        refine ws_iload_5 88 rfl rfl ?_
        refine ws_icmp_gen 152 91 rfl rfl rfl (by omega) (by omega) (fun h9 => absurd h9 (by omega)) (fun h9 => ?_)
        refine ws_aload_0 92 rfl rfl ?_
        refine ws_getfr 95 rfl rfl rfl rfl rfl ?_
        refine ws_iload_8 97 rfl rfl ?_
        refine ws_ialdn 98 rfl rfl rfl (by omega) (by omega) h15' ?_
        refine ws_iload_1 99 rfl rfl ?_
        refine ws_iconst 100 rfl rfl kc_im1 ?_
        refine ws_ixor 101 rfl rfl rfl ?_
        refine ws_iand 102 rfl rfl rfl ?_
        refine ws_if_eq 146 105 rfl rfl rfl (fun h9 => ?_) (fun h9 => absurd h9 (hmn _ hk5 hm))
        refine ws_iinc_8 149 rfl rfl (ki_1 _) rfl rfl ?_
        refine ws_goto 84 rfl rfl ?_
        rw [← lff_n (w := w) (n := n) (v := D s) hm]; exact ih (k + 1) l I' _ hl (by omega) hsp hf (fun u hu => by rw [csf_n hm]; exact hp u hu)
      | true =>
        have hb9 := hb (f + k) hk5
        have hw9 := hw (f + k) hk5
        have h15' : I' 15 (f + k) = nI (bt b (f + k)) := by rw [hf 15 (by decide), h15 _ hk5]
        have h15'' : I' 15 (f + k) = nI (2 ^ (b (f + k) - 1)) := by rw [h15', bt_1 (hbm _ hm)]
        have h17' : I' 17 (f + k) = nI (w (f + k)) := by rw [hf 17 (by decide), h17 _ hk5]
        have ho := or_lt32 s hs (b (f + k) - 1) (by omega)
        have hpo := hp _ ho
        have hmul : D s * w (f + k) ≤ 1000000 * 101 := Nat.mul_le_mul hD hw9
        have hsm := hall n (Nat.le_refl n)
        have hle := qf_le b w s f n (D s) k (by omega) hm (by omega) hsp
        have e6 : owf b w s f n (D s) k = D s * w (f + k) / smf b w s f n := by unfold owf qf; rw [if_neg (by omega)]
        rw [e6] at hle
        refine ws_iload_8 86 rfl rfl ?_
        refine ws_iload_5 88 rfl rfl ?_
        refine ws_icmp_gen 152 91 rfl rfl rfl (by omega) (by omega) (fun h9 => absurd h9 (by omega)) (fun h9 => ?_)
        refine ws_aload_0 92 rfl rfl ?_
        refine ws_getfr 95 rfl rfl rfl rfl rfl ?_
        refine ws_iload_8 97 rfl rfl ?_
        refine ws_ialdn 98 rfl rfl rfl (by omega) (by omega) h15' ?_
        refine ws_iload_1 99 rfl rfl ?_
        refine ws_iconst 100 rfl rfl kc_im1 ?_
        refine ws_ixor 101 rfl rfl rfl ?_
        refine ws_iand 102 rfl rfl rfl ?_
        refine ws_if_eq 146 105 rfl rfl rfl (fun h9 => absurd h9 (hmt _ hk5 hm)) (fun h9 => ?_)
        refine ws_iload_6 107 rfl rfl ?_
        refine ws_aload_0 108 rfl rfl ?_
        refine ws_getfr 111 rfl rfl rfl rfl rfl ?_
        refine ws_iload_8 113 rfl rfl ?_
        refine ws_ialdn 114 rfl rfl rfl (by omega) (by omega) h17' ?_
        refine ws_imul 115 rfl rfl (pk_mul _ _) ?_
        refine ws_iload_4 117 rfl rfl ?_
        refine ws_idiv 118 rfl rfl (kn_ne0 (by omega) (by omega)) (pk_div (by omega) (by omega) (by omega)) ?_
        refine ws_istore_9 120 rfl rfl rfl rfl ?_
        refine ws_aload_0 121 rfl rfl ?_
        refine ws_getfr 124 rfl rfl rfl rfl rfl ?_
        refine ws_iload_1 125 rfl rfl ?_
        refine ws_aload_0 126 rfl rfl ?_
        refine ws_getfr 129 rfl rfl rfl rfl rfl ?_
        refine ws_iload_8 131 rfl rfl ?_
        refine ws_ialdn 132 rfl rfl rfl (by omega) (by omega) h15'' ?_
        refine ws_ior 133 rfl rfl (kn_or _ _) ?_
        refine ws_dup2 134 rfl rfl rfl rfl ?_
        refine ws_ialdn 135 rfl rfl rfl (by omega) (by omega) hpo ?_
        refine ws_iload_9 137 rfl rfl ?_
        refine ws_iadd 138 rfl rfl (nI_add _ _) ?_
        refine ws_iastn 139 rfl rfl rfl (by omega) (by omega) ?_
        refine ws_iload_7 141 rfl rfl ?_
        refine ws_iload_9 143 rfl rfl ?_
        refine ws_isub 144 rfl rfl (pk_sub (by omega)) ?_
        refine ws_istore_7 146 rfl rfl rfl rfl ?_
        refine ws_iinc_8 149 rfl rfl (ki_1 _) rfl rfl ?_
        refine ws_goto 84 rfl rfl ?_
        rw [← e6, ← lff_s (w := w) (n := n) (v := D s) hm]; refine ih (k + 1) l _ _ hl (by omega) hsp (fun a ha => by rw [wI_ne ha]; exact hf a ha) (fun u hu => ?_)
        show upd (I' 18) _ _ u = _
        rw [csf_s hm]
        by_cases e : u = s ||| 2 ^ (b (f + k) - 1)
        · rw [if_pos e, e, pk_us, Nat.add_assoc]
        · rw [if_neg e, pk_un e, hp u hu, Nat.add_zero]
  have loop1 : ∀ (m k : Nat), k + m = n → xW E 2 20 9 [some (.ref 14), some (.int (nI s)), some (.int (nI f)), some (.int (nI to)), some (.int (nI (smf b w s f k))), some (.int (lI (laf b s f k))), some (.int (nI (f + k))), none, none, none] [] (xC0 ++ T, I, L) 0 0 (fun r t => r = none ∧ ∃ I', t = (xC0 ++ T, I', L) ∧ (∀ a, a ≠ 18 → I' a = I a) ∧ ∀ u, u < 32 → I' 18 u = nI ((if u = s then 0 else D u) + ctf b w s f n (D s) u)) := by
    intro m
    induction m with
    | zero =>
      intro k hk
      obtain rfl : k = n := by omega
      have hsm := hall k (Nat.le_refl k)
      rcases Nat.eq_zero_or_pos (laf b s f k) with h0 | h0
      · rw [h0, lI_0]
        refine ws_iload_6 11 rfl rfl ?_
        refine ws_iload_3 12 rfl rfl ?_
        refine ws_icmp_gtn 51 15 rfl rfl rfl (by omega) (by omega) (fun h9 => ?_) (fun h9 => absurd h9 (by omega))
        refine ws_iload_5 53 rfl rfl ?_
        refine ws_if_lt 61 56 rfl rfl rfl (fun h9 => ?_) (fun h9 => absurd h9 (by decide))
        refine ws_vret rfl rfl rfl (Nat.le_of_ble_eq_true rfl) ?_
        refine ⟨rfl, I, rfl, fun _ _ => rfl, fun u hu => ?_⟩
        obtain ⟨n1, n2⟩ := lff_none (w := w) (v := D s) h0 k (Nat.le_refl k)
        rw [h18 u hu]
        unfold ctf
        rw [n1, n2]
        congr 1
        by_cases e : u = s
        · rw [if_pos e, if_pos e, e]; omega
        · rw [if_neg e, if_neg e]; omega
      · obtain ⟨i, i1, i2, i3⟩ := laf_mf h0
        have hsp : 0 < smf b w s f k := by
          have h1 : smf b w s f (i + 1) = smf b w s f i + w (f + i) := by rw [smf_s, i3]; rfl
          have h2 := hws i i1 i3
          have h3 : smf b w s f (i + 1) ≤ smf b w s f k := smf_mono (by omega)
          omega
        obtain ⟨l, hl⟩ : ∃ l, l = laf b s f k := ⟨_, rfl⟩
        rw [← hl] at i2 ⊢
        rw [show lI l = nI (l - 1) by unfold lI; rw [if_neg (by omega)]]
        have hln := laf_le b s f k
        have h18s := h18 s hs
        refine ws_iload_6 11 rfl rfl ?_
        refine ws_iload_3 12 rfl rfl ?_
        refine ws_icmp_gtn 51 15 rfl rfl rfl (by omega) (by omega) (fun h9 => ?_) (fun h9 => absurd h9 (by omega))
        refine ws_iload_5 53 rfl rfl ?_
        refine ws_if_ltn 61 56 rfl rfl rfl (by omega) (fun h9 => absurd h9 (by omega)) (fun h9 => ?_)
        refine ws_iload_4 58 rfl rfl ?_
        refine ws_if_gtn 62 61 rfl rfl rfl (by omega) (fun h9 => ?_) (fun h9 => absurd h9 (by omega))
        refine ws_aload_0 63 rfl rfl ?_
        refine ws_getfr 66 rfl rfl rfl rfl rfl ?_
        refine ws_iload_1 67 rfl rfl ?_
        refine ws_ialdn 68 rfl rfl rfl (by omega) (by omega) h18s ?_
        refine ws_istore_6 70 rfl rfl rfl rfl ?_
        refine ws_iload_6 72 rfl rfl ?_
        refine ws_istore_7 74 rfl rfl rfl rfl ?_
        refine ws_aload_0 75 rfl rfl ?_
        refine ws_getfr 78 rfl rfl rfl rfl rfl ?_
        refine ws_iload_1 79 rfl rfl ?_
        refine ws_iconst 80 rfl rfl kc_i0 ?_
        refine ws_iastn 81 rfl rfl rfl (by omega) (by omega) ?_
        refine ws_iload_2 82 rfl rfl ?_
        refine ws_istore_8 84 rfl rfl rfl rfl ?_
        refine loop2 (l - (f + 1)) 0 l _ _ hl.symm (by omega) hsp (fun a ha => wI_ne ha) (fun u hu => ?_)
        show upd (I 18) s _ u = nI ((if u = s then 0 else D u) + 0)
        by_cases e : u = s
        · rw [if_pos e, e, pk_us]
        · rw [if_neg e, pk_un e, h18 u hu, Nat.add_zero]
    | succ m ih =>
      intro k hk
      have hk5 : f + k < 5 := by omega
      have h15' := h15 _ hk5
      have h17' := h17 _ hk5
      have hsm := hall k (by omega)
      have hw9 := hw (f + k) hk5
      cases hm : mf b s (f + k) with
      | false =>
        have e1 : smf b w s f (k + 1) = smf b w s f k := by rw [smf_s, hm]; rfl
        have e2 : laf b s f (k + 1) = laf b s f k := by show (bif mf b s (f + k) then _ else _) = _; rw [hm]; rfl
        refine ws_iload_6 11 rfl rfl ?_
        refine ws_iload_3 12 rfl rfl ?_
        refine ws_icmp_gtn 51 15 rfl rfl rfl (by omega) (by omega) (fun h9 => absurd h9 (by omega)) (fun h9 => ?_)
        refine ws_aload_0 16 rfl rfl ?_
        refine ws_getfr 19 rfl rfl rfl rfl rfl ?_
        refine ws_iload_6 21 rfl rfl ?_
        refine ws_ialdn 22 rfl rfl rfl (by omega) (by omega) h15' ?_
        refine ws_iload_1 23 rfl rfl ?_
        refine ws_iconst 24 rfl rfl kc_im1 ?_
        refine ws_ixor 25 rfl rfl rfl ?_
        refine ws_iand 26 rfl rfl rfl ?_
        refine ws_if_eq 45 29 rfl rfl rfl (fun h9 => ?_) (fun h9 => absurd h9 (hmn _ hk5 hm))
        refine ws_iinc_6 48 rfl rfl (ki_1 _) rfl rfl ?_
        refine ws_goto 9 rfl rfl ?_
        rw [← e1, ← e2]; exact ih (k + 1) (by omega)
      | true =>
        have e1 : smf b w s f (k + 1) = smf b w s f k + w (f + k) := by rw [smf_s, hm]; rfl
        have e2 : lI (laf b s f (k + 1)) = nI (f + k) := by rw [show laf b s f (k + 1) = f + k + 1 by show (bif mf b s (f + k) then _ else _) = _; rw [hm]; rfl]; exact lI_s _
        refine ws_iload_6 11 rfl rfl ?_
        refine ws_iload_3 12 rfl rfl ?_
        refine ws_icmp_gtn 51 15 rfl rfl rfl (by omega) (by omega) (fun h9 => absurd h9 (by omega)) (fun h9 => ?_)
        refine ws_aload_0 16 rfl rfl ?_
        refine ws_getfr 19 rfl rfl rfl rfl rfl ?_
        refine ws_iload_6 21 rfl rfl ?_
        refine ws_ialdn 22 rfl rfl rfl (by omega) (by omega) h15' ?_
        refine ws_iload_1 23 rfl rfl ?_
        refine ws_iconst 24 rfl rfl kc_im1 ?_
        refine ws_ixor 25 rfl rfl rfl ?_
        refine ws_iand 26 rfl rfl rfl ?_
        refine ws_if_eq 45 29 rfl rfl rfl (fun h9 => absurd h9 (hmt _ hk5 hm)) (fun h9 => ?_)
        refine ws_iload_4 31 rfl rfl ?_
        refine ws_aload_0 32 rfl rfl ?_
        refine ws_getfr 35 rfl rfl rfl rfl rfl ?_
        refine ws_iload_6 37 rfl rfl ?_
        refine ws_ialdn 38 rfl rfl rfl (by omega) (by omega) h17' ?_
        refine ws_iadd 39 rfl rfl (nI_add _ _) ?_
        refine ws_istore_4 41 rfl rfl rfl rfl ?_
        refine ws_iload_6 43 rfl rfl ?_
        refine ws_istore_5 45 rfl rfl rfl rfl ?_
        refine ws_iinc_6 48 rfl rfl (ki_1 _) rfl rfl ?_
        refine ws_goto 9 rfl rfl ?_
        rw [← e1, ← e2]; exact ih (k + 1) (by omega)
  exact loop1 n 0 (by omega)
/-- where glance g of a kind begins, and how many places it reaches -/
def gfr (A : Nat → Nat → Nat) (k g : Nat) : Nat := if A 3 (k * 6 + 0) = 0 then g else 5 - min 5 (g + A 3 (k * 6 + 2))
def gnn (A : Nat → Nat → Nat) (k g : Nat) : Nat := min 5 (g + A 3 (k * 6 + 2)) - g
/-- parts behind g glances -/
def pt (A : Nat → Nat → Nat) (b : Nat → Nat) (k more : Nat) : Nat → Nat → Nat
  | 0, u => if u = 0 then 1000000 else 0
  | g + 1, u => gla b (fun p => dw A b p (A 3 (k * 6 + 3) + more)) (gfr A k g) (gnn A k g) (pt A b k more g) u
theorem pt_sum {k more : Nat} (hb : ∀ p, p < 5 → b p ≤ 5) : ∀ g, g ≤ 5 → sg (pt A b k more g) 0 32 = 1000000
  | 0, _ => by
    have h := sg_one 1000000 0 32
    rw [if_pos (by omega)] at h
    exact h
  | g + 1, hg => by
    have ih : sg (pt A b k more g) 0 32 = 1000000 := pt_sum hb g (by omega)
    have hr : gfr A k g + gnn A k g ≤ 5 := by unfold gfr gnn; split <;> omega
    rw [← ih]
    exact gla_sum (fun i hi => hb _ (by omega)) (fun i _ h => dw_pos h)
theorem pt_le {k more g u : Nat} (hb : ∀ p, p < 5 → b p ≤ 5) (hg : g ≤ 5) (hu : u < 32) : pt A b k more g u ≤ 1000000 := by
  rw [← pt_sum (A := A) (k := k) (more := more) hb g hg]
  exact sg_term hu
theorem pt_pop {k more : Nat} (hb : ∀ p, p < 5 → b p ≤ 5) : ∀ g, g ≤ 5 → ∀ u, u < 32 → g < pop 5 u → pt A b k more g u = 0
  | 0, _ => by
    intro u hu h
    have : ¬ u = 0 := fun e => by rw [e] at h; exact absurd h (by decide)
    exact if_neg this
  | g + 1, hg => by
    have hr : gfr A k g + gnn A k g ≤ 5 := by unfold gfr gnn; split <;> omega
    exact gla_pop (fun i hi => hb _ (by omega)) (pt_pop hb g (by omega))
/-- what is known of kinds -/
def okK (A : Nat → Nat → Nat) : Prop := ∀ k, k < 4 → A 3 (k * 6 + 0) ≤ 1 ∧ (1 ≤ A 3 (k * 6 + 1) ∧ A 3 (k * 6 + 1) ≤ 4) ∧ (1 ≤ A 3 (k * 6 + 2) ∧ A 3 (k * 6 + 2) ≤ 5) ∧ A 3 (k * 6 + 3) ≤ 9 ∧ A 3 (k * 6 + 4) ≤ 5 ∧ A 3 (k * 6 + 5) ≤ 999
theorem c_goBy (k more : Nat) (hk : k < 4) (hm : more ≤ 9) (hKi : ∀ j, j < 24 → I 9 j = nI (A 3 j)) (hok : okK A) (h1 : ∀ j, j < 5 → A 0 j ≤ 9) (h2 : ∀ j, j < 5 → A 1 j ≤ 9) (hb : ∀ p, p < 5 → b p ≤ 5) (h15 : ∀ p, p < 5 → I 15 p = nI (bt b p)) (h16 : ∀ p, p < 5 → I 16 p = nI (dz A b p)) :
    xC E 3 19 [.ref 14, .int (nI k), .int (nI more)] (xC0 ++ T, I, L) (fun r t => r = none ∧ ∃ I', t = (xC0 ++ T, I', L) ∧ (∀ a, a ≠ 17 → a ≠ 18 → I' a = I a) ∧ ∀ u, u < 32 → I' 18 u = nI (pt A b k more (A 3 (k * 6 + 1)) u)) := by
  refine xC.mk [some (.ref 14), some (.int (nI k)), some (.int (nI more)), none, none, none, none, none, none, none, none] rfl ?_
  obtain ⟨k0, k1, k2, k3, k4, k5⟩ := hok k hk
  have hh : ∀ (I' : Nat → Nat → Int32), I' 9 = I 9 → ∀ w, w < 6 → xC E 1 27 [.ref 5, .int (nI k), .int (nI w)] (xC0 ++ T, I', L) (rV (.int (nI (A 3 (k * 6 + w)))) (xC0 ++ T, I', L)) := fun I' h w hw => c_habit (fun j hj => by rw [h]; exact hKi j hj) k w hk hw
  obtain ⟨nb, hnb⟩ : ∃ nb, nb = A 3 (k * 6 + 3) + more := ⟨_, rfl⟩
  refine ws_aload_0 1 rfl rfl ?_
  refine ws_getfr 4 rfl rfl rfl rfl rfl ?_
  refine ws_iload_1 5 rfl rfl ?_
  refine ws_iconst 6 rfl rfl kc_i3 ?_
  refine ws_invV2p 9 rfl rfl rfl rfl (hh I rfl 3 (by omega)) rfl rfl rfl ?_
  refine ws_iload_2 10 rfl rfl ?_
  refine ws_iadd 11 rfl rfl (nI_add _ _) ?_
  refine ws_istore_3 12 rfl rfl rfl rfl ?_
  refine ws_iconst 13 rfl rfl kc_i0 ?_
  refine ws_istore_4 15 rfl rfl rfl rfl ?_
  rw [← hnb]
  -- the inner loop over sets
  have inner : ∀ (x g m to : Nat) (P : Nat → Nat) (I' : Nat → Nat → Int32) (z4 : Int32), g ≤ 4 → 1 ≤ gnn A k g → gfr A k g + gnn A k g ≤ 5 → to + 1 = gfr A k g + gnn A k g → x ≤ 32 → (∀ u, u < 32 → P u ≤ 1000000) → (∀ a, a ≠ 17 → a ≠ 18 → I' a = I a) → (∀ p, p < 5 → I' 17 p = nI (dw A b p nb)) → (∀ u, u < 32 → I' 18 u = nI ((if u < x then P u else 0) + sg (fun s => ctf b (fun p => dw A b p nb) s (gfr A k g) (gnn A k g) (P s) u) x (32 - x))) → (∀ (I' : Nat → Nat → Int32), (∀ a, a ≠ 17 → a ≠ 18 → I' a = I a) → (∀ p, p < 5 → I' 17 p = nI (dw A b p nb)) → (∀ u, u < 32 → I' 18 u = nI (gla b (fun p => dw A b p nb) (gfr A k g) (gnn A k g) P u)) → xW E 3 19 189 [some (.ref 14), some (.int (nI k)), some (.int (nI more)), some (.int (nI nb)), some (.int z4), some (.int (nI (A 3 (k * 6 + 1)))), some (.int (nI g)), some (.int (nI m)), some (.int (nI (gfr A k g))), some (.int (nI to)), some (.int (-1))] [] (xC0 ++ T, I', L) 0 0 (fun r t => r = none ∧ ∃ I', t = (xC0 ++ T, I', L) ∧ (∀ a, a ≠ 17 → a ≠ 18 → I' a = I a) ∧ ∀ u, u < 32 → I' 18 u = nI (pt A b k more (A 3 (k * 6 + 1)) u))) →
      xW E 3 19 158 [some (.ref 14), some (.int (nI k)), some (.int (nI more)), some (.int (nI nb)), some (.int z4), some (.int (nI (A 3 (k * 6 + 1)))), some (.int (nI g)), some (.int (nI m)), some (.int (nI (gfr A k g))), some (.int (nI to)), some (.int (lI x))] [] (xC0 ++ T, I', L) 0 0 (fun r t => r = none ∧ ∃ I', t = (xC0 ++ T, I', L) ∧ (∀ a, a ≠ 17 → a ≠ 18 → I' a = I a) ∧ ∀ u, u < 32 → I' 18 u = nI (pt A b k more (A 3 (k * 6 + 1)) u)) := by
    intro x
    induction x with
    | zero =>
      intro g m to P I' z4 hg g1 g2 hto hx hP hf h17 h18 kk
      rw [lI_0]
      refine ws_iload_10 160 rfl rfl ?_
      refine ws_if_lt 189 163 rfl rfl rfl (fun h9 => ?_) (fun h9 => absurd h9 (by decide))
      exact kk I' hf h17 (fun u hu => by rw [h18 u hu, if_neg (by omega), Nat.zero_add]; rfl)
    | succ x ih =>
      intro g m to P I' z4 hg g1 g2 hto hx hP hf h17 h18 kk
      rw [lI_s]
      have hx32 : x < 32 := by omega
      have hd := fun u hu => gla_down (b := b) (w := fun p => dw A b p nb) (P := P) (f := gfr A k g) (n := gnn A k g) (k := x) (u := u) (D := fun u => (if u < x + 1 then P u else 0) + sg (fun s => ctf b (fun p => dw A b p nb) s (gfr A k g) (gnn A k g) (P s) u) (x + 1) (32 - (x + 1))) hx32 (fun _ _ => rfl) hu
      have h18x : I' 18 x = nI (P x) := by rw [h18 x hx32]; exact congrArg nI (hd x hx32).1
      have hPx := hP x hx32
      refine ws_iload_10 160 rfl rfl ?_
      refine ws_if_ltn 189 163 rfl rfl rfl (by omega) (fun h9 => absurd h9 (by omega)) (fun h9 => ?_)
      refine ws_aload_0 164 rfl rfl ?_
      refine ws_getfr 167 rfl rfl rfl rfl rfl ?_
      refine ws_iload_10 169 rfl rfl ?_
      refine ws_ialdn 170 rfl rfl rfl (by omega) (by omega) h18x ?_
      refine ws_if_len 183 173 rfl rfl rfl (by omega) (fun hz => ?_) (fun hz => ?_)
      · have hz0 : P x = 0 := by omega
        refine ws_iinc_10 186 rfl rfl (li_dec _) rfl rfl ?_
        refine ws_goto 158 rfl rfl ?_
        refine ih g m to P I' z4 hg g1 g2 hto (by omega) hP hf h17 (fun u hu => ?_) kk
        rw [← (hd u hu).2, hz0, ctf_0, h18 u hu]
        congr 1
        by_cases e : u = x
        · rw [if_pos e, e]
          exact (hd x hx32).1.trans hz0
        · rw [if_neg e]
          rfl
      · refine ws_aload_0 174 rfl rfl ?_
        refine ws_iload_10 176 rfl rfl ?_
        refine ws_iload_8 178 rfl rfl ?_
        refine ws_iload_9 180 rfl rfl ?_
        refine ws_invV3 183 rfl rfl rfl rfl (c_glance x (gfr A k g) (gnn A k g) to (D := fun u => (if u < x + 1 then P u else 0) + sg (fun s => ctf b (fun p => dw A b p nb) s (gfr A k g) (gnn A k g) (P s) u) (x + 1) (32 - (x + 1))) (w := fun p => dw A b p nb) hx32 g1 g2 hto hb (fun p hp => dw_le h1 h2 hp (hb p hp)) (fun p _ h => dw_pos h) (by rw [(hd x hx32).1]; exact hPx) (fun p hp => by rw [hf 15 (by decide) (by decide)]; exact h15 p hp) h17 h18) rfl rfl rfl ?_
        rintro _ _ ⟨rfl, I2, rfl, hf2, h18'⟩
        refine ws_iinc_10 186 rfl rfl (li_dec _) rfl rfl ?_
        refine ws_goto 158 rfl rfl ?_
        exact ih g m to P I2 z4 hg g1 g2 hto (by omega) hP (fun a ha ha2 => by rw [hf2 a ha2]; exact hf a ha ha2) (fun p hp => by rw [hf2 17 (by decide)]; exact h17 p hp) (fun u hu => by rw [h18' u hu, ← (hd u hu).2, (hd x hx32).1]) kk
  -- glances
  have outer : ∀ (m g : Nat) (I' : Nat → Nat → Int32) (z7 z8 z9 z10 : Option Value), g + m = A 3 (k * 6 + 1) → (∀ a, a ≠ 17 → a ≠ 18 → I' a = I a) → (∀ p, p < 5 → I' 17 p = nI (dw A b p nb)) → (∀ u, u < 32 → I' 18 u = nI (pt A b k more g u)) → xW E 3 19 95 [some (.ref 14), some (.int (nI k)), some (.int (nI more)), some (.int (nI nb)), some (.int (nI (A 3 (k * 6 + 0)))), some (.int (nI (A 3 (k * 6 + 1)))), some (.int (nI g)), z7, z8, z9, z10] [] (xC0 ++ T, I', L) 0 0 (fun r t => r = none ∧ ∃ I', t = (xC0 ++ T, I', L) ∧ (∀ a, a ≠ 17 → a ≠ 18 → I' a = I a) ∧ ∀ u, u < 32 → I' 18 u = nI (pt A b k more (A 3 (k * 6 + 1)) u)) := by
    intro m
    induction m with
    | zero =>
      intro g I' z7 z8 z9 z10 hg hf h17 h18
      obtain rfl : g = A 3 (k * 6 + 1) := by omega
      refine ws_iload_6 97 rfl rfl ?_
      refine ws_iload_5 99 rfl rfl ?_
      refine ws_icmp_gen 195 102 rfl rfl rfl (by omega) (by omega) (fun h9 => ?_) (fun h9 => absurd h9 (by omega))
      refine ws_vret rfl rfl rfl (Nat.le_of_ble_eq_true rfl) ?_
      exact ⟨rfl, I', rfl, hf, h18⟩
    | succ m ih =>
      intro g I' z7 z8 z9 z10 hg hf h17 h18
      have hab := hh I' (hf 9 (by decide) (by decide))
      have g1 : 1 ≤ gnn A k g := by unfold gnn; omega
      have g2 : gfr A k g + gnn A k g ≤ 5 := by unfold gfr gnn; split <;> omega
      have step : ∀ (I' : Nat → Nat → Int32) (z7 z8 z9 z10 : Option Value), (∀ a, a ≠ 17 → a ≠ 18 → I' a = I a) → (∀ p, p < 5 → I' 17 p = nI (dw A b p nb)) → (∀ u, u < 32 → I' 18 u = nI (gla b (fun p => dw A b p nb) (gfr A k g) (gnn A k g) (pt A b k more g) u)) → xW E 3 19 189 [some (.ref 14), some (.int (nI k)), some (.int (nI more)), some (.int (nI nb)), some (.int (nI (A 3 (k * 6 + 0)))), some (.int (nI (A 3 (k * 6 + 1)))), some (.int (nI g)), z7, z8, z9, z10] [] (xC0 ++ T, I', L) 0 0 (fun r t => r = none ∧ ∃ I', t = (xC0 ++ T, I', L) ∧ (∀ a, a ≠ 17 → a ≠ 18 → I' a = I a) ∧ ∀ u, u < 32 → I' 18 u = nI (pt A b k more (A 3 (k * 6 + 1)) u)) := by
        intro I' z7 z8 z9 z10 hf h17 h18
        refine ws_iinc_6 192 rfl rfl (ki_1 _) rfl rfl ?_
        refine ws_goto 95 rfl rfl ?_
        exact ih (g + 1) I' _ _ _ _ (by omega) hf h17 (fun u hu => by rw [h18 u hu, hnb]; rfl)
      have hPle : ∀ u, u < 32 → pt A b k more g u ≤ 1000000 := fun u hu => pt_le hb (by omega) hu
      have h18i : ∀ u, u < 32 → I' 18 u = nI ((if u < 32 then pt A b k more g u else 0) + sg (fun s => ctf b (fun p => dw A b p nb) s (gfr A k g) (gnn A k g) (pt A b k more g s) u) 32 (32 - 32)) := fun u hu => by rw [if_pos hu, h18 u hu]; rfl
      have e31 : nI 31 = lI 32 := (lI_s 31).symm
      refine ws_iload_6 97 rfl rfl ?_
      refine ws_iload_5 99 rfl rfl ?_
      refine ws_icmp_gen 195 102 rfl rfl rfl (by omega) (by omega) (fun h9 => absurd h9 (by omega)) (fun h9 => ?_)
      refine ws_iconst 103 rfl rfl kc_i5 ?_
      refine ws_iload_6 105 rfl rfl ?_
      refine ws_aload_0 106 rfl rfl ?_
      refine ws_getfr 109 rfl rfl rfl rfl rfl ?_
      refine ws_iload_1 110 rfl rfl ?_
      refine ws_iconst 111 rfl rfl kc_i2 ?_
      refine ws_invV2p 114 rfl rfl rfl rfl (hab 2 (by omega)) rfl rfl rfl ?_
      refine ws_iadd 115 rfl rfl (nI_add _ _) ?_
      refine ws_invS2p 118 rfl rfl rfl (p_minn _ _ (by omega) (by omega)) rfl rfl rfl ?_
      refine ws_iconst 119 rfl rfl kc_i1 ?_
      refine ws_isub 120 rfl rfl (pk_sub (by omega)) ?_
      refine ws_istore_7 122 rfl rfl rfl rfl ?_
      rcases Nat.eq_zero_or_pos (A 3 (k * 6 + 0)) with hs | hs
      · have e1 : gfr A k g = g := by unfold gfr; rw [if_pos hs]
        have e2 : min 5 (g + A 3 (k * 6 + 2)) - 1 + 1 = gfr A k g + gnn A k g := by rw [e1]; unfold gnn; omega
        refine ws_iload_4 124 rfl rfl ?_
        refine ws_if_eqn 134 127 rfl rfl rfl (by omega) (fun h9 => ?_) (fun h9 => absurd h9 (by omega))
        refine ws_iload_6 136 rfl rfl ?_
        refine ws_istore_8 138 rfl rfl rfl rfl ?_
        refine ws_iload_4 140 rfl rfl ?_
        refine ws_if_eqn 150 143 rfl rfl rfl (by omega) (fun h9 => ?_) (fun h9 => absurd h9 (by omega))
        refine ws_iload_7 152 rfl rfl ?_
        refine ws_istore_9 154 rfl rfl rfl rfl ?_
        refine ws_bipush 156 rfl rfl kc_b31 ?_
        refine ws_istore_10 158 rfl rfl rfl rfl ?_
        rw [e31]
        have := inner 32 g (min 5 (g + A 3 (k * 6 + 2)) - 1) (min 5 (g + A 3 (k * 6 + 2)) - 1) (pt A b k more g) I' (nI (A 3 (k * 6 + 0))) (by omega) g1 g2 e2 (Nat.le_refl 32) hPle hf h17 h18i (fun I2 a b c => step I2 _ _ _ _ a b c)
        rw [e1] at this
        exact this
      · have e1 : gfr A k g = 4 - (min 5 (g + A 3 (k * 6 + 2)) - 1) := by unfold gfr; rw [if_neg (by omega)]; omega
        have e2 : 4 - g + 1 = gfr A k g + gnn A k g := by rw [e1]; unfold gnn; omega
        refine ws_iload_4 124 rfl rfl ?_
        refine ws_if_eqn 134 127 rfl rfl rfl (by omega) (fun h9 => absurd h9 (by omega)) (fun h9 => ?_)
        refine ws_iconst 128 rfl rfl kc_i4 ?_
        refine ws_iload_7 130 rfl rfl ?_
        refine ws_isub 131 rfl rfl (pk_sub (by omega)) ?_
        refine ws_goto 136 rfl rfl ?_
        refine ws_istore_8 138 rfl rfl rfl rfl ?_
        refine ws_iload_4 140 rfl rfl ?_
        refine ws_if_eqn 150 143 rfl rfl rfl (by omega) (fun h9 => absurd h9 (by omega)) (fun h9 => ?_)
        refine ws_iconst 144 rfl rfl kc_i4 ?_
        refine ws_iload_6 146 rfl rfl ?_
        refine ws_isub 147 rfl rfl (pk_sub (by omega)) ?_
        refine ws_goto 152 rfl rfl ?_
        refine ws_istore_9 154 rfl rfl rfl rfl ?_
        refine ws_bipush 156 rfl rfl kc_b31 ?_
        refine ws_istore_10 158 rfl rfl rfl rfl ?_
        rw [e31]
        have := inner 32 g (min 5 (g + A 3 (k * 6 + 2)) - 1) (4 - g) (pt A b k more g) I' (nI (A 3 (k * 6 + 0))) (by omega) g1 g2 e2 (Nat.le_refl 32) hPle hf h17 h18i (fun I2 a b c => step I2 _ _ _ _ a b c)
        rw [e1] at this
        exact this
  -- what draws
  have draws : ∀ (m p : Nat) (I' : Nat → Nat → Int32), p + m = 5 → (∀ a, a ≠ 17 → a ≠ 18 → I' a = I a) → (∀ q, q < p → I' 17 q = nI (dw A b q nb)) → xW E 3 19 15 [some (.ref 14), some (.int (nI k)), some (.int (nI more)), some (.int (nI nb)), some (.int (nI p)), none, none, none, none, none, none] [] (xC0 ++ T, I', L) 0 0 (fun r t => r = none ∧ ∃ I', t = (xC0 ++ T, I', L) ∧ (∀ a, a ≠ 17 → a ≠ 18 → I' a = I a) ∧ ∀ u, u < 32 → I' 18 u = nI (pt A b k more (A 3 (k * 6 + 1)) u)) := by
    intro m
    induction m with
    | zero =>
      intro p I' hp hf h17
      obtain rfl : p = 5 := by omega
      refine ws_iload_4 17 rfl rfl ?_
      refine ws_iconst 18 rfl rfl kc_i5 ?_
      refine ws_icmp_gen 41 21 rfl rfl rfl (by omega) (by omega) (fun h9 => ?_) (fun h9 => absurd h9 (by omega))
      refine ws_aload_0 42 rfl rfl ?_
      refine ws_getfr 45 rfl rfl rfl rfl rfl ?_
      refine ws_iconst 46 rfl rfl kc_i0 ?_
      refine ws_invS2 49 rfl rfl rfl (c_fill 18 32 (nI 0) rfl (by omega)) rfl rfl rfl ?_
      rintro _ _ ⟨rfl, I2, rfl, hf2, h18⟩
      have hab := hh (wI I2 18 0 (nI 1000000)) (by rw [wI_ne (by decide), hf2 9 (by decide), hf 9 (by decide) (by decide)])
      have hm5 : min 5 (A 3 (k * 6 + 1)) = A 3 (k * 6 + 1) := by omega
      have fin := outer (A 3 (k * 6 + 1)) 0 (wI I2 18 0 (nI 1000000)) none none none none (by omega) (fun a ha ha2 => by rw [wI_ne ha2, hf2 a ha2]; exact hf a ha ha2) (fun p hp => by rw [wI_ne (by decide), hf2 17 (by decide)]; exact h17 p hp) (fun u hu => by
        rw [wI_eq]
        show _ = nI (if u = 0 then 1000000 else 0)
        by_cases e : u = 0
        · rw [if_pos e, e, pk_us]
        · rw [if_neg e, pk_un e]; exact h18 u hu)
      refine ws_aload_0 50 rfl rfl ?_
      refine ws_getfr 53 rfl rfl rfl rfl rfl ?_
      refine ws_iconst 54 rfl rfl kc_i0 ?_
      refine ws_ldc 56 rfl rfl rfl (show (1000000 : Int32) = nI 1000000 by decide) ?_
      refine ws_iastn 57 rfl rfl rfl (by omega) (by omega) ?_
      refine ws_aload_0 58 rfl rfl ?_
      refine ws_getfr 61 rfl rfl rfl rfl rfl ?_
      refine ws_iload_1 62 rfl rfl ?_
      refine ws_iconst 63 rfl rfl kc_i0 ?_
      refine ws_invV2p 66 rfl rfl rfl rfl (hab 0 (by omega)) rfl rfl rfl ?_
      refine ws_iconst 67 rfl rfl kc_i1 ?_
      rcases Nat.eq_zero_or_pos (A 3 (k * 6 + 0)) with hs | hs
      · rw [hs] at fin
        rw [hs]
        refine ws_icmp_nen 74 70 rfl rfl rfl (by omega) (by omega) (fun h9 => ?_) (fun h9 => absurd h9 (by omega))
        refine ws_iconst 75 rfl rfl kc_i0 ?_
        refine ws_istore_4 77 rfl rfl rfl rfl ?_
        refine ws_iconst 78 rfl rfl kc_i5 ?_
        refine ws_aload_0 79 rfl rfl ?_
        refine ws_getfr 82 rfl rfl rfl rfl rfl ?_
        refine ws_iload_1 83 rfl rfl ?_
        refine ws_iconst 84 rfl rfl kc_i1 ?_
        refine ws_invV2p 87 rfl rfl rfl rfl (hab 1 (by omega)) rfl rfl rfl ?_
        refine ws_invS2p 90 rfl rfl rfl (p_minn _ _ (by omega) (by omega)) rfl rfl rfl ?_
        rw [hm5]
        refine ws_istore_5 92 rfl rfl rfl rfl ?_
        refine ws_iconst 93 rfl rfl kc_i0 ?_
        refine ws_istore_6 95 rfl rfl rfl rfl ?_
        exact fin
      · have hs1 : A 3 (k * 6 + 0) = 1 := by omega
        rw [hs1] at fin
        rw [hs1]
        refine ws_icmp_nen 74 70 rfl rfl rfl (by omega) (by omega) (fun h9 => absurd h9 (by omega)) (fun h9 => ?_)
        refine ws_iconst 71 rfl rfl kc_i1 ?_
        refine ws_goto 75 rfl rfl ?_
        refine ws_istore_4 77 rfl rfl rfl rfl ?_
        refine ws_iconst 78 rfl rfl kc_i5 ?_
        refine ws_aload_0 79 rfl rfl ?_
        refine ws_getfr 82 rfl rfl rfl rfl rfl ?_
        refine ws_iload_1 83 rfl rfl ?_
        refine ws_iconst 84 rfl rfl kc_i1 ?_
        refine ws_invV2p 87 rfl rfl rfl rfl (hab 1 (by omega)) rfl rfl rfl ?_
        refine ws_invS2p 90 rfl rfl rfl (p_minn _ _ (by omega) (by omega)) rfl rfl rfl ?_
        rw [hm5]
        refine ws_istore_5 92 rfl rfl rfl rfl ?_
        refine ws_iconst 93 rfl rfl kc_i0 ?_
        refine ws_istore_6 95 rfl rfl rfl rfl ?_
        exact fin
    | succ m ih =>
      intro p I' hp hf h17
      have h16' : I' 16 p = nI (dz A b p) := by rw [hf 16 (by decide) (by decide)]; exact h16 p (by omega)
      refine ws_iload_4 17 rfl rfl ?_
      refine ws_iconst 18 rfl rfl kc_i5 ?_
      refine ws_icmp_gen 41 21 rfl rfl rfl (by omega) (by omega) (fun h9 => absurd h9 (by omega)) (fun h9 => ?_)
      refine ws_aload_0 22 rfl rfl ?_
      refine ws_getfr 25 rfl rfl rfl rfl rfl ?_
      refine ws_iload_4 27 rfl rfl ?_
      refine ws_aload_0 28 rfl rfl ?_
      refine ws_iload_4 30 rfl rfl ?_
      refine ws_iload_3 31 rfl rfl ?_
      refine ws_invV2p 34 rfl rfl rfl rfl (c_pullOn p nb (by omega) (by omega) h1 h2 (hb p (by omega)) h16') rfl rfl rfl ?_
      refine ws_iastn 35 rfl rfl rfl (by omega) (by omega) ?_
      refine ws_iinc_4 38 rfl rfl (ki_1 _) rfl rfl ?_
      refine ws_goto 15 rfl rfl ?_
      exact ih (p + 1) _ (by omega) (fun a ha ha2 => by rw [wI_ne ha]; exact hf a ha ha2) (fl h17 rfl)
  exact draws 5 0 I rfl (fun _ _ _ => rfl) (fun _ h => by omega)
end GLANCE
