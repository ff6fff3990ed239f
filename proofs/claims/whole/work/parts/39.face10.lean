/-! ===== law ===== -/
theorem due_congr {t t' : Nat → Nat} : ∀ {i : Nat}, (∀ j, j < i → t j = t' j) → due t i = due t' i
  | 0, _ => rfl
  | i + 1, h => by
    show (bif jn (t i) then due t i + 1 else due t i - 1) = (bif jn (t' i) then due t' i + 1 else due t' i - 1)
    rw [due_congr (i := i) (fun j hj => h j (by omega)), h i (by omega)]
theorem okL_congr {t t' : Nat → Nat} {n : Nat} (h : ∀ j, j < n → t j = t' j) (hk : okL t n) : okL t' n := by
  refine ⟨⟨hk.1.1, by rw [← due_congr h]; exact hk.1.2⟩, fun i hi => ?_⟩
  rw [← h i hi, ← due_congr (i := i) (fun j hj => h j (by omega))]
  exact hk.2 i hi
theorem evl_congr {t t' : Nat → Nat} {n s w : Nat} (h : ∀ j, j < n → t j = t' j) : ∀ k, k ≤ n → evl t n s w k = evl t' n s w k
  | 0, _ => rfl
  | k + 1, hk => by
    show ev1 (t (n - (k + 1))) s w (evl t n s w k) = ev1 (t' (n - (k + 1))) s w (evl t' n s w k)
    rw [evl_congr h k (by omega), h _ (by omega)]
theorem lwv_congr {t t' : Nat → Nat} {n s w : Nat} (h : ∀ j, j < n → t j = t' j) : lwv t n s w = lwv t' n s w := by
  unfold lwv
  rw [evl_congr h n (Nat.le_refl n)]
def tA (A : Nat → Nat → Nat) (w : Nat) (t : Nat → Nat) (n : Nat) : Nat → Nat → Nat := fun k j => if k = 4 ∧ 15 * w ≤ j ∧ j < 15 * w + n then t (j - 15 * w) else if k = 5 ∧ j = w then n else A k j
def tF (F : Nat → Nat) (w : Nat) (t : Nat → Nat) (n : Nat) : Nat → Nat := fun j => if 10 * w ≤ j ∧ j < 10 * w + 10 then lwv t n ((j - 10 * w) / 2) ((j - 10 * w) % 2) else F j
theorem tA_ne {A : Nat → Nat → Nat} {w n k : Nat} {t : Nat → Nat} (h4 : k ≠ 4) (h5 : k ≠ 5) : tA A w t n k = A k := by
  funext j
  unfold tA
  rw [if_neg (fun q => h4 q.1), if_neg (fun q => h5 q.1)]
theorem tA_4 {A : Nat → Nat → Nat} {w n j : Nat} {t : Nat → Nat} : tA A w t n 4 j = if 15 * w ≤ j ∧ j < 15 * w + n then t (j - 15 * w) else A 4 j := by
  unfold tA
  by_cases h : 15 * w ≤ j ∧ j < 15 * w + n
  · rw [if_pos ⟨rfl, h⟩, if_pos h]
  · rw [if_neg (fun q => h q.2), if_neg h, if_neg (fun q => absurd q.1 (by decide))]
theorem tA_5 {A : Nat → Nat → Nat} {w n j : Nat} {t : Nat → Nat} : tA A w t n 5 j = if j = w then n else A 5 j := by
  unfold tA
  rw [if_neg (fun q => absurd q.1 (by decide))]
  by_cases h : j = w
  · rw [if_pos ⟨rfl, h⟩, if_pos h]
  · rw [if_neg (fun q => h q.2), if_neg h]
theorem tA_ok {A : Nat → Nat → Nat} {F t : Nat → Nat} {w n : Nat} (hw : w < 2) (hA : okA A F) (hF : okF A F) (ht : okL t n) : okA (tA A w t n) (tF F w t n) ∧ okF (tA A w t n) (tF F w t n) := by
  obtain ⟨o1, o2, o3, o4, o5, o6⟩ := hA
  obtain ⟨f1, f2, f3, f4⟩ := hF
  have hn := ht.1.1
  have l1 := f1.1.1
  have l2 := f2.1.1
  refine ⟨⟨?_, ?_, ?_, ?_, ?_, fun j hj => ?_⟩, ?_⟩
  · rw [tA_ne (by decide) (by decide)]; exact o1
  · rw [tA_ne (by decide) (by decide)]; exact o2
  · rw [tA_ne (by decide) (by decide)]; exact o3
  · rw [tA_ne (by decide) (by decide)]; exact o4
  · unfold okK; rw [tA_ne (by decide) (by decide)]; exact o5
  · unfold tF
    split
    · exact clv_le _
    · exact o6 j hj
  · rcases (show w = 0 ∨ w = 1 by omega) with rfl | rfl
    · have e0 : ∀ j, j < n → t j = tA A 0 t n 4 j := fun j hj => by rw [tA_4, if_pos (by omega)]; rfl
      have e1 : ∀ j, j < A 5 1 → A 4 (15 + j) = tA A 0 t n 4 (15 + j) := fun j hj => by rw [tA_4, if_neg (by omega)]
      have g0 : tA A 0 t n 5 0 = n := by rw [tA_5, if_pos rfl]
      have g1 : tA A 0 t n 5 1 = A 5 1 := by rw [tA_5, if_neg (by decide)]
      refine ⟨by rw [g0]; exact okL_congr e0 ht, by rw [g1]; exact okL_congr e1 f2, fun j hj => ?_, fun j hj => ?_⟩
      · rw [g0, ← lwv_congr e0]
        unfold tF
        rw [if_pos (by omega)]
        rfl
      · rw [g1, ← lwv_congr (t := fun i => A 4 (15 + i)) e1, f4 j hj]
        unfold tF
        rw [if_neg (by omega)]
    · have e0 : ∀ j, j < A 5 0 → A 4 j = tA A 1 t n 4 j := fun j hj => by rw [tA_4, if_neg (by omega)]
      have e1 : ∀ j, j < n → t j = tA A 1 t n 4 (15 + j) := fun j hj => by rw [tA_4, if_pos (by omega)]; congr 1; omega
      have g0 : tA A 1 t n 5 0 = A 5 0 := by rw [tA_5, if_neg (by decide)]
      have g1 : tA A 1 t n 5 1 = n := by rw [tA_5, if_pos rfl]
      refine ⟨by rw [g0]; exact okL_congr e0 f1, by rw [g1]; exact okL_congr e1 ht, fun j hj => ?_, fun j hj => ?_⟩
      · rw [g0, ← lwv_congr (t := fun i => A 4 i) e0, f3 j hj]
        unfold tF
        rw [if_neg (by omega)]
      · rw [g1, ← lwv_congr (t' := fun i => tA A 1 t n 4 (15 + i)) e1]
        unfold tF
        rw [if_pos (by omega), show 10 + j - 10 * 1 = j by omega]
theorem lfa_lt {t : Nat → Nat} {n r : Nat} : ∀ {m i : Nat} {ds : List Nat}, i + m = n → lfa t n m i ds = some r → r ≤ n
  | 0, i, ds, hi, h => by
    unfold lfa at h
    cases ds with
    | nil => cases h
    | cons d l => have := Option.some.inj h; omega
  | m + 1, i, ds, hi, h => by
    unfold lfa at h
    split at h
    · have := Option.some.inj h; omega
    · cases ds with
      | nil => have := Option.some.inj h; omega
      | cons d l =>
        simp only at h
        cases hj : jn (t i) with
        | true =>
          rw [hj] at h
          simp only [cond_true] at h
          split at h
          · have := Option.some.inj h; omega
          · exact lfa_lt (by omega) h
        | false =>
          rw [hj] at h
          simp only [cond_false] at h
          cases ha : al (t i) with
          | true => rw [ha] at h; simp only [cond_true] at h; exact lfa_lt (by omega) h
          | false => rw [ha] at h; simp only [cond_false] at h; have := Option.some.inj h; omega
theorem f_law (x : Int32) : Fx 56 102 [.int x] := by
  intro E s hE hs
  have p1 := p_below x 2 1 (by omega) rfl
  have p2 := p_in x (nI 0) (nI 1) 0 1 rfl rfl
  have hn40 := hs.2.1.1
  have ht : ∀ i, i < s.n → s.t i < 128 := fun i hi => by have := hs.2.1.2 i hi; omega
  cases hr : rg 0 1 x with
  | false =>
    rw [hr] at p1 p2
    refine ⟨(-2), s, hs, fun I L hC => ?_, fun I L hR => ?_⟩
    · refine xC.mk [some (.ref 0), some (.int x), none] rfl ?_
      refine ws_iload_1 1 rfl rfl ?_
      refine ws_iconst 2 rfl rfl kc_i2 ?_
      refine ws_invS2p 5 rfl rfl rfl (p1) rfl rfl rfl ?_
      refine ws_if_neb 11 8 rfl rfl rfl (fun h9 => absurd h9 (by first | decide | simp_all)) (fun h9 => ?_)
      refine ws_bipush 10 rfl rfl kc_bm2 ?_
      refine ws_iret rfl rfl rfl (Nat.le_of_ble_eq_true rfl) ?_
      exact cQ.sm hC
    · refine xC.mk [some (.ref 42), some (.int x), none] rfl ?_
      refine ws_iload_1 1 rfl rfl ?_
      refine ws_iconst 2 rfl rfl kc_i0 ?_
      refine ws_iconst 3 rfl rfl kc_i1 ?_
      refine ws_invS3p 6 rfl rfl rfl (p2) rfl rfl rfl ?_
      refine ws_if_neb 12 9 rfl rfl rfl (fun h9 => absurd h9 (by first | decide | simp_all)) (fun h9 => ?_)
      refine ws_bipush 11 rfl rfl kc_bm2 ?_
      refine ws_iret rfl rfl rfl (Nat.le_of_ble_eq_true rfl) ?_
      exact mQ.sm hR
  | true =>
    rw [hr] at p1 p2
    obtain ⟨w, -, hw, rfl⟩ := rg_nat (a := 0) (b := 1) hr (by omega)
    cases hl : lfa s.t s.n s.n 0 [0] with
    | some r =>
      have hrl := lfa_lt (by omega) hl
      have hne := fo_ne (r := r) (by omega)
      refine ⟨(-5), s, hs, fun I L hC => ?_, fun I L hR => ?_⟩
      · refine xC.mk [some (.ref 0), some (.int (nI w)), none] rfl ?_
        refine ws_iload_1 1 rfl rfl ?_
        refine ws_iconst 2 rfl rfl kc_i2 ?_
        refine ws_invS2p 5 rfl rfl rfl (p1) rfl rfl rfl ?_
        refine ws_if_neb 11 8 rfl rfl rfl (fun h9 => ?_) (fun h9 => absurd h9 (by first | decide | simp_all))
        refine ws_aload_0 12 rfl rfl ?_
        refine ws_getfr 15 rfl rfl rfl rfl rfl ?_
        refine ws_invV0 18 rfl rfl rfl rfl (c_faultAsLaw (T := xM0) hn40 ht hC.2.2.1.1 hC.2.2.1.2) rfl rfl rfl ?_
        rintro _ _ ⟨rfl, I1, rfl, hf1⟩
        rw [hl]
        refine ws_bipush 20 rfl rfl kc_bm6 ?_
        refine ws_icmp_eq 26 23 rfl rfl rfl (fun h9 => absurd h9 hne) (fun h9 => ?_)
        refine ws_bipush 25 rfl rfl kc_bm5 ?_
        refine ws_iret rfl rfl rfl (Nat.le_of_ble_eq_true rfl) ?_
        exact ⟨rfl, I1, L, rfl, hC.scp (fun a ha => hf1 a (by omega)), fun a ha => hf1 a (by omega)⟩
      · refine xC.mk [some (.ref 42), some (.int (nI w)), none] rfl ?_
        refine ws_iload_1 1 rfl rfl ?_
        refine ws_iconst 2 rfl rfl kc_i0 ?_
        refine ws_iconst 3 rfl rfl kc_i1 ?_
        refine ws_invS3p 6 rfl rfl rfl (p2) rfl rfl rfl ?_
        refine ws_if_neb 12 9 rfl rfl rfl (fun h9 => ?_) (fun h9 => absurd h9 (by first | decide | simp_all))
        refine ws_aload_0 13 rfl rfl ?_
        refine ws_invV0 16 rfl rfl rfl rfl (m_lawFault hn40 ht hR.2.2.1.1 hR.2.2.1.2) rfl rfl rfl ?_
        rintro _ _ ⟨rfl, I1, rfl, hf1⟩
        rw [hl]
        show xW E 20 102 16 [some (.ref 42), some (.int (nI w)), none] [.int (nI r)] (xS, I1, L) 0 0 _
        refine ws_if_ltn 22 19 rfl rfl rfl (by omega) (fun h9 => absurd h9 (by omega)) (fun h9 => ?_)
        refine ws_bipush 21 rfl rfl kc_bm5 ?_
        refine ws_iret rfl rfl rfl (Nat.le_of_ble_eq_true rfl) ?_
        exact ⟨rfl, I1, L, rfl, hR.scp (fun a ha => hf1 a (by omega)), fun a ha => hf1 a (by omega)⟩
    | none =>
      have hok := lfa_okL ht hl
      have hn15 := hok.1.1
      obtain ⟨o1, o2, o3, o4, o5, o6⟩ := hs.1
      obtain ⟨q1, q2⟩ := tA_ok (w := w) (by omega) o1 o2 hok
      refine ⟨(nI s.n), mkS (mkC (tA s.c.A w s.t s.n) (tF s.c.F w s.t s.n) s.c.b s.c.C s.c.M) s.i s.K s.t 0, ⟨⟨q1, q2, o3, o4, o5, o6⟩, ⟨by show 0 ≤ 40; omega, fun i hi => absurd hi (by show ¬ i < 0; omega)⟩, hs.2.2⟩, fun I L hC => ?_, fun I L hR => ?_⟩
      · refine xC.mk [some (.ref 0), some (.int (nI w)), none] rfl ?_
        refine ws_iload_1 1 rfl rfl ?_
        refine ws_iconst 2 rfl rfl kc_i2 ?_
        refine ws_invS2p 5 rfl rfl rfl (p1) rfl rfl rfl ?_
        refine ws_if_neb 11 8 rfl rfl rfl (fun h9 => ?_) (fun h9 => absurd h9 (by first | decide | simp_all))
        refine ws_aload_0 12 rfl rfl ?_
        refine ws_getfr 15 rfl rfl rfl rfl rfl ?_
        refine ws_invV0 18 rfl rfl rfl rfl (c_faultAsLaw (T := xM0) hn40 ht hC.2.2.1.1 hC.2.2.1.2) rfl rfl rfl ?_
        rintro _ _ ⟨rfl, I1, rfl, hf1⟩
        rw [hl]
        have hC1 : CR s I1 := hC.scp (fun a ha => hf1 a (by omega))
        have h13 := hC1.2.2.1.1
        refine ws_bipush 20 rfl rfl kc_bm6 ?_
        refine ws_icmp_eq 26 23 rfl rfl rfl (fun h9 => ?_) (fun h9 => absurd h9 (not_not_intro rfl))
        refine ws_aload_0 27 rfl rfl ?_
        refine ws_getfr 30 rfl rfl rfl rfl rfl ?_
        refine ws_getfi 33 rfl rfl rfl rfl rfl h13 ?_
        refine ws_istore_2 34 rfl rfl rfl rfl ?_
        refine ws_aload_0 35 rfl rfl ?_
        refine ws_getfr 38 rfl rfl rfl rfl rfl ?_
        refine ws_aload_0 39 rfl rfl ?_
        refine ws_getfr 42 rfl rfl rfl rfl rfl ?_
        refine ws_iload_1 43 rfl rfl ?_
        refine ws_invV2 46 rfl rfl rfl rfl (c_becomeLaw (T := xM0) w (by omega) hok hC1.2.2.1.1 hC1.2.2.1.2) rfl rfl rfl ?_
        rintro _ _ ⟨rfl, I2, L2, rfl, hf2, h132, ha2, hb2, -⟩
        refine ws_aload_0 47 rfl rfl ?_
        refine ws_getfr 50 rfl rfl rfl rfl rfl ?_
        refine ws_invV0 53 rfl rfl rfl rfl (c_forget) rfl rfl rfl ?_
        rintro _ _ ⟨rfl, rfl⟩
        refine ws_iload_2 54 rfl rfl ?_
        refine ws_iret rfl rfl rfl (Nat.le_of_ble_eq_true rfl) ?_
        refine ⟨rfl, _, _, rfl, ⟨?_, hC1.2.1.no (fun a a1 a2 => by rw [wI_ne (by omega)]; exact hf2 a (by omega) (by omega)) (by rw [wI_eq, pk_un (by decide), hf2 19 (by decide) (by decide)]) rfl, ⟨by rw [wI_ne (by decide)]; exact h132, fun i hi => absurd hi (by show ¬ i < 0; omega)⟩, fun n hn => ?_⟩, fun a ha => by rw [wI_ne (by omega), hf2 a (by omega) (by omega)]; exact hf1 a (by omega)⟩
        · obtain ⟨h1, h2, h3, h4, h5, h6, h7, h8⟩ := hC1.1
          have key : ∀ k', k' ≠ 4 → k' ≠ 5 → (mkC (tA s.c.A w s.t s.n) (tF s.c.F w s.t s.n) s.c.b s.c.C s.c.M).A k' = s.c.A k' := fun k' a1 a2 => tA_ne a1 a2
          have hf : ∀ a, 4 < a → a < 12 → a ≠ 10 → wI I2 19 5 (nI 0) a = I1 a := fun a a1 a2 a3 => by rw [wI_ne (by omega)]; exact hf2 a (by omega) (by omega)
          show scn 5 (mkC (tA s.c.A w s.t s.n) (tF s.c.F w s.t s.n) s.c.b s.c.C s.c.M) _
          unfold scn
          rw [key 0 (by decide) (by decide), key 1 (by decide) (by decide), key 3 (by decide) (by decide), key 6 (by decide) (by decide), hf 6 (by omega) (by omega) (by omega), hf 7 (by omega) (by omega) (by omega), hf 8 (by omega) (by omega) (by omega), hf 9 (by omega) (by omega) (by omega), hf 11 (by omega) (by omega) (by omega), hf 5 (by omega) (by omega) (by omega)]
          refine ⟨h1, h2, h3, h4, fun j hj => ?_, h6, h7, h8⟩
          rw [wI_ne (by decide)]
          show I2 10 j = nI (if 10 * w ≤ j ∧ j < 10 * w + 10 then lwv s.t s.n ((j - 10 * w) / 2) ((j - 10 * w) % 2) else s.c.F j)
          split
          · rename_i h
            have := ha2 (j - 10 * w) (by omega)
            rw [show w * 10 + (j - 10 * w) = j by omega] at this
            exact this
          · rename_i h
            rw [hb2 j (by omega)]
            exact h5 j hj
        · rw [wI_ne (by decide), hf2 13 (by decide) (by decide)]
          exact ⟨(hC1.2.2.2 n hn).1, fun hk => ((hC1.2.2.2 n hn).2 hk).keep (fun a a1 a2 => by rw [wI_ne (by omega)]; exact hf2 a (by omega) (by omega))⟩
      · refine xC.mk [some (.ref 42), some (.int (nI w)), none] rfl ?_
        refine ws_iload_1 1 rfl rfl ?_
        refine ws_iconst 2 rfl rfl kc_i0 ?_
        refine ws_iconst 3 rfl rfl kc_i1 ?_
        refine ws_invS3p 6 rfl rfl rfl (p2) rfl rfl rfl ?_
        refine ws_if_neb 12 9 rfl rfl rfl (fun h9 => ?_) (fun h9 => absurd h9 (by first | decide | simp_all))
        refine ws_aload_0 13 rfl rfl ?_
        refine ws_invV0 16 rfl rfl rfl rfl (m_lawFault hn40 ht hR.2.2.1.1 hR.2.2.1.2) rfl rfl rfl ?_
        rintro _ _ ⟨rfl, I1, rfl, hf1⟩
        rw [hl]
        have hR1 : RR s I1 := hR.scp (fun a ha => hf1 a (by omega))
        have h422 := hR1.2.2.1.1
        have loop : ∀ (m k : Nat) (I' : Nat → Nat → Int32), k + m = s.n → (∀ a, a ≠ 48 → a ≠ 49 → I' a = I1 a) → I' 48 = upd (I1 48) w (nI s.n) → (∀ j, I' 49 j = if 15 * w ≤ j ∧ j < 15 * w + k then nI (s.t (j - 15 * w)) else I1 49 j) → xW E 20 102 34 [some (.ref 42), some (.int (nI w)), some (.int (nI k))] [] (xS, I', L) 0 0 (mQ I (mkS (mkC (tA s.c.A w s.t s.n) (tF s.c.F w s.t s.n) s.c.b s.c.C s.c.M) s.i s.K s.t 0) (.int (nI s.n))) := by
          intro m
          induction m with
          | zero =>
            intro k I' hk hf h48 h49
            obtain rfl : k = s.n := by omega
            have h2' : I' 42 2 = nI s.n := by rw [hf 42 (by decide) (by decide)]; exact h422
            have h48w : wI (wI I' 42 2 (nI 0)) 42 11 (nI 0) 48 w = nI s.n := by rw [wI_ne (by decide), wI_ne (by decide), h48, pk_us]
            have hf9 : ∀ a, a ≠ 42 → a ≠ 48 → a ≠ 49 → wI (wI I' 42 2 (nI 0)) 42 11 (nI 0) a = I1 a := fun a a1 a2 a3 => by rw [wI_ne a1, wI_ne a1]; exact hf a a2 a3
            refine ws_iload_2 35 rfl rfl ?_
            refine ws_aload_0 36 rfl rfl ?_
            refine ws_getfi 39 rfl rfl rfl rfl rfl h2' ?_
            refine ws_icmp_gen 65 42 rfl rfl rfl (by omega) (by omega) (fun h9 => ?_) (fun h9 => absurd h9 (by omega))
            refine ws_aload_0 66 rfl rfl ?_
            refine ws_iconst 67 rfl rfl kc_i0 ?_
            refine ws_putfi 70 rfl rfl rfl rfl rfl rfl rfl rfl ?_
            refine ws_aload_0 71 rfl rfl ?_
            refine ws_iconst 72 rfl rfl kc_i0 ?_
            refine ws_putfi 75 rfl rfl rfl rfl rfl rfl rfl rfl ?_
            refine ws_aload_0 76 rfl rfl ?_
            refine ws_getfr 79 rfl rfl rfl rfl rfl ?_
            refine ws_iload_1 80 rfl rfl ?_
            refine ws_ialdn 81 rfl rfl rfl (by omega) (by omega) h48w ?_
            refine ws_iret rfl rfl rfl (Nat.le_of_ble_eq_true rfl) ?_
            refine ⟨rfl, _, _, rfl, ⟨?_, Or.inl rfl, ⟨by rw [wI_eq, pk_un (by decide), wI_eq, pk_us]; rfl, fun i hi => absurd hi (by show ¬ i < 0; omega)⟩, fun n hn => by rw [hf9 61 (by decide) (by decide) (by decide), hf9 62 (by decide) (by decide) (by decide)]; exact hR1.2.2.2 n hn⟩, fun a ha => by rw [hf9 a (by omega) (by omega) (by omega)]; exact hf1 a (by omega)⟩
            obtain ⟨h1, h2, h3, h4, h5, ⟨h6, h6'⟩, h7, h8, h9'⟩ := hR1.1
            have key : ∀ k', k' ≠ 4 → k' ≠ 5 → (mkC (tA s.c.A w s.t s.n) (tF s.c.F w s.t s.n) s.c.b s.c.C s.c.M).A k' = s.c.A k' := fun k' a1 a2 => tA_ne a1 a2
            show rsn (mkC (tA s.c.A w s.t s.n) (tF s.c.F w s.t s.n) s.c.b s.c.C s.c.M) _
            unfold rsn
            rw [key 0 (by decide) (by decide), key 1 (by decide) (by decide), key 3 (by decide) (by decide), key 6 (by decide) (by decide), hf9 43 (by decide) (by decide) (by decide), hf9 44 (by decide) (by decide) (by decide), hf9 46 (by decide) (by decide) (by decide), hf9 47 (by decide) (by decide) (by decide), hf9 50 (by decide) (by decide) (by decide), hf9 51 (by decide) (by decide) (by decide)]
            have g48 : ∀ j, j < 2 → wI (wI I' 42 2 (nI 0)) 42 11 (nI 0) 48 j = nI (tA s.c.A w s.t s.n 5 j) := fun j hj => by
              rw [wI_ne (by decide), wI_ne (by decide), h48, tA_5]
              by_cases e : j = w
              · rw [e, pk_us, if_pos rfl]
              · rw [pk_un e, if_neg e]
                rcases (show j = 0 ∨ j = 1 by omega) with rfl | rfl
                · exact h6
                · exact h6'
            refine ⟨h1, h2, h3, h4, fun j hj => ?_, ⟨g48 0 (by omega), g48 1 (by omega)⟩, ?_, h8, h9'⟩
            · show _ = nI (tA s.c.A w s.t s.n 4 j)
              rw [wI_ne (by decide), wI_ne (by decide), h49, tA_4]
              split
              · rfl
              · exact h5 j hj
            · rw [wI_eq, pk_un (by decide), wI_eq, pk_un (by decide), hf 42 (by decide) (by decide)]; exact h7
          | succ m ih =>
            intro k I' hk hf h48 h49
            have h2' : I' 42 2 = nI s.n := by rw [hf 42 (by decide) (by decide)]; exact h422
            have h45 : I' 45 k = nI (s.t k) := by rw [hf 45 (by decide) (by decide)]; exact hR1.2.2.1.2 k (by omega)
            refine ws_iload_2 35 rfl rfl ?_
            refine ws_aload_0 36 rfl rfl ?_
            refine ws_getfi 39 rfl rfl rfl rfl rfl h2' ?_
            refine ws_icmp_gen 65 42 rfl rfl rfl (by omega) (by omega) (fun h9 => absurd h9 (by omega)) (fun h9 => ?_)
            refine ws_aload_0 43 rfl rfl ?_
            refine ws_getfr 46 rfl rfl rfl rfl rfl ?_
            refine ws_bipush 48 rfl rfl kc_b15 ?_
            refine ws_iload_1 49 rfl rfl ?_
            refine ws_imul 50 rfl rfl (pk_mul _ _) ?_
            refine ws_iload_2 51 rfl rfl ?_
            refine ws_iadd 52 rfl rfl (nI_add _ _) ?_
            refine ws_aload_0 53 rfl rfl ?_
            refine ws_getfr 56 rfl rfl rfl rfl rfl ?_
            refine ws_iload_2 57 rfl rfl ?_
            refine ws_ialdn 58 rfl rfl rfl (by omega) (by omega) h45 ?_
            refine ws_iastn 59 rfl rfl rfl (by omega) (by omega) ?_
            refine ws_iinc_2 62 rfl rfl (ki_1 _) rfl rfl ?_
            refine ws_goto 34 rfl rfl ?_
            refine ih (k + 1) _ (by omega) (fun a a1 a2 => by rw [wI_ne a2]; exact hf a a1 a2) (by rw [wI_ne (by decide)]; exact h48) (fun j => ?_)
            rw [wI_eq]
            by_cases e : j = 15 * w + k
            · rw [e, pk_us, if_pos (by omega)]
              congr 2
              omega
            · rw [pk_un e, h49]
              by_cases h : 15 * w ≤ j ∧ j < 15 * w + k
              · rw [if_pos h, if_pos (by omega)]
              · rw [if_neg h, if_neg (by omega)]
        refine ws_if_lt 22 19 rfl rfl rfl (fun h9 => ?_) (fun h9 => absurd h9 (by decide))
        refine ws_aload_0 23 rfl rfl ?_
        refine ws_getfr 26 rfl rfl rfl rfl rfl ?_
        refine ws_iload_1 27 rfl rfl ?_
        refine ws_aload_0 28 rfl rfl ?_
        refine ws_getfi 31 rfl rfl rfl rfl rfl h422 ?_
        refine ws_iastn 32 rfl rfl rfl (by omega) (by omega) ?_
        refine ws_iconst 33 rfl rfl kc_i0 ?_
        refine ws_istore_2 34 rfl rfl rfl rfl ?_
        exact loop s.n 0 _ (by omega) (fun a a1 a2 => wI_ne a1) wI_eq (fun j => by rw [wI_ne (by decide), if_neg (by omega)])
