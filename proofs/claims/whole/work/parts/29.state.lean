/-! ===== the state that both sides keep ===== -/
def xSc : Type := (Nat → Nat → Nat) × (Nat → Nat) × (Nat → Nat) × (Nat → Nat) × Nat
def xSc.A (x : xSc) : Nat → Nat → Nat := x.1
def xSc.F (x : xSc) : Nat → Nat := x.2.1
def xSc.b (x : xSc) : Nat → Nat := x.2.2.1
def xSc.C (x : xSc) : Nat → Nat := x.2.2.2.1
def xSc.M (x : xSc) : Nat := x.2.2.2.2
def xSt : Type := xSc × (Nat → xSc) × (Nat → Bool) × (Nat → Nat) × Nat
def xSt.c (s : xSt) : xSc := s.1
def xSt.i (s : xSt) : Nat → xSc := s.2.1
def xSt.K (s : xSt) : Nat → Bool := s.2.2.1
def xSt.t (s : xSt) : Nat → Nat := s.2.2.2.1
def xSt.n (s : xSt) : Nat := s.2.2.2.2
def mkC (A : Nat → Nat → Nat) (F b C : Nat → Nat) (M : Nat) : xSc := (A, F, b, C, M)
def mkS (c : xSc) (i : Nat → xSc) (K : Nat → Bool) (t : Nat → Nat) (n : Nat) : xSt := (c, i, K, t, n)
/-- a scene of the class, its object at o -/
def scn (o : Nat) (x : xSc) (I : Nat → Nat → Int32) : Prop := (∀ j, j < 15 → I (o + 1) j = nI (x.A 0 j)) ∧ (∀ j, j < 5 → I (o + 2) j = nI (x.A 1 j)) ∧ (∀ p, p < 5 → I (o + 3) p = rw6 (x.b p)) ∧ (∀ j, j < 24 → I (o + 4) j = nI (x.A 3 j)) ∧ (∀ j, j < 20 → I (o + 5) j = nI (x.F j)) ∧ (∀ j, j < 11 → I (o + 6) j = nI (x.C j)) ∧ I o 6 = nI x.M ∧ I o 7 = nI (x.A 6 0)
/-- the scene of the reference -/
def rsn (x : xSc) (I : Nat → Nat → Int32) : Prop := (∀ j, j < 15 → I 43 j = nI (x.A 0 j)) ∧ (∀ j, j < 5 → I 44 j = nI (x.A 1 j)) ∧ (∀ p, p < 5 → I 46 p = nI (x.b p)) ∧ (∀ j, j < 24 → I 47 j = nI (x.A 3 j)) ∧ (∀ j, j < 30 → I 49 j = nI (x.A 4 j)) ∧ (I 48 0 = nI (x.A 5 0) ∧ I 48 1 = nI (x.A 5 1)) ∧ I 42 8 = nI (x.A 6 0) ∧ (∀ j, j < 11 → I 50 j = nI (x.C j)) ∧ ∀ j, j < 11 → I 51 j = nI (x.M / 2 ^ j % 2)
/-- its image n -/
def rim (n : Nat) (x : xSc) (V : Nat → Int32) : Prop := (∀ j, j < 15 → V (130 * n + j) = nI (x.A 0 j)) ∧ (∀ j, j < 5 → V (130 * n + 15 + j) = nI (x.A 1 j)) ∧ (∀ j, j < 5 → V (130 * n + 20 + j) = nI (x.b j)) ∧ (∀ j, j < 24 → V (130 * n + 25 + j) = nI (x.A 3 j)) ∧ (∀ j, j < 30 → V (130 * n + 49 + j) = nI (x.A 4 j)) ∧ (V (130 * n + 79) = nI (x.A 5 0) ∧ V (130 * n + 80) = nI (x.A 5 1) ∧ V (130 * n + 81) = nI (x.A 6 0)) ∧ (∀ j, j < 11 → V (130 * n + 82 + j) = nI (x.C j)) ∧ ∀ j, j < 11 → V (130 * n + 93 + j) = nI (x.M / 2 ^ j % 2)
def okS (x : xSc) : Prop := okA x.A x.F ∧ okF x.A x.F ∧ (∀ p, p < 5 → x.b p ≤ 5) ∧ dst x.b 5 ∧ (∀ j, j < 11 → x.C j ≤ 999) ∧ x.M < 2048
def OK (s : xSt) : Prop := okS s.c ∧ (s.n ≤ 40 ∧ ∀ i, i < s.n → 33 ≤ s.t i ∧ s.t i ≤ 126) ∧ ∀ n, n < 2 → s.K n = true → okS (s.i n)
def CR (s : xSt) (I : Nat → Nat → Int32) : Prop := scn 5 s.c I ∧ PR (wkc s.c.A s.c.F) I ∧ (I 1 3 = nI s.n ∧ ∀ i, i < s.n → I 2 i = nI (s.t i)) ∧ ∀ n, n < 2 → I 13 n = xb (s.K n) ∧ (s.K n = true → scn (28 + 7 * n) (s.i n) I)
def RR (s : xSt) (I : Nat → Nat → Int32) : Prop := rsn s.c I ∧ PL (wkc s.c.A s.c.F) I ∧ (I 42 2 = nI s.n ∧ ∀ i, i < s.n → I 45 i = nI (s.t i)) ∧ ∀ n, n < 2 → I 62 n = xb (s.K n) ∧ (s.K n = true → rim n (s.i n) (I 61))
theorem scn.keep {o : Nat} {x : xSc} {I I' : Nat → Nat → Int32} (h : scn o x I) (hf : ∀ a, o ≤ a → a ≤ o + 6 → I' a = I a) : scn o x I' := by
  unfold scn at h ⊢
  rw [hf (o + 1) (by omega) (by omega), hf (o + 2) (by omega) (by omega), hf (o + 3) (by omega) (by omega), hf (o + 4) (by omega) (by omega), hf (o + 5) (by omega) (by omega), hf (o + 6) (by omega) (by omega), hf o (by omega) (by omega)]
  exact h
theorem PR.keep {g : Nat → Nat} {I I' : Nat → Nat → Int32} (h : PR g I) (hf : ∀ a, 20 ≤ a → a ≤ 22 → I' a = I a) (h3 : I' 19 3 = I 19 3) (h5 : I' 19 5 = I 19 5) : PR g I' := by
  unfold PR holds cch at h ⊢
  rw [h3, h5, hf 20 (by omega) (by omega), hf 21 (by omega) (by omega), hf 22 (by omega) (by omega)]
  exact h
/-- weeks forgotten -/
theorem PR.no {g g' : Nat → Nat} {I I' : Nat → Nat → Int32} (h : PR g I) (hf : ∀ a, 20 ≤ a → a ≤ 21 → I' a = I a) (h3 : I' 19 3 = I 19 3) (h5 : I' 19 5 = nI 0) : PR g' I' := by
  refine ⟨?_, Or.inl h5⟩
  have h1 := h.1
  unfold holds at h1 ⊢
  rw [h3, hf 20 (by omega) (by omega), hf 21 (by omega) (by omega)]
  exact h1
theorem CR.scr {s : xSt} {I I' : Nat → Nat → Int32} (h : CR s I) (hf : ∀ a, a ≤ 2 ∨ (4 < a ∧ a < 14) ∨ (28 ≤ a ∧ a < 42) → I' a = I a) (hp : PR (wkc s.c.A s.c.F) I') : CR s I' := by
  obtain ⟨h1, h2, h3, h4⟩ := h
  refine ⟨h1.keep (fun a a1 a2 => hf a (by omega)), hp, ?_, fun n hn => ?_⟩
  · rw [hf 1 (by omega), hf 2 (by omega)]; exact h3
  · rw [hf 13 (by omega)]
    exact ⟨(h4 n hn).1, fun hk => ((h4 n hn).2 hk).keep (fun a a1 a2 => hf a (by omega))⟩
theorem CR.scp {s : xSt} {I I' : Nat → Nat → Int32} (h : CR s I) (hf : ∀ a, a ≤ 2 ∨ (4 < a ∧ a < 14) ∨ (18 < a ∧ a < 23) ∨ (28 ≤ a ∧ a < 42) → I' a = I a) : CR s I' := h.scr (fun a ha => hf a (by omega)) (h.2.1.keep (fun a a1 a2 => hf a (by omega)) (by rw [hf 19 (by omega)]) (by rw [hf 19 (by omega)]))
theorem rsn.keep {x : xSc} {I I' : Nat → Nat → Int32} (h : rsn x I) (hf : ∀ a, 42 < a → a < 52 → I' a = I a) (h8 : I' 42 8 = I 42 8) : rsn x I' := by
  unfold rsn at h ⊢
  rw [hf 43 (by omega) (by omega), hf 44 (by omega) (by omega), hf 46 (by omega) (by omega), hf 47 (by omega) (by omega), hf 48 (by omega) (by omega), hf 49 (by omega) (by omega), hf 50 (by omega) (by omega), hf 51 (by omega) (by omega), h8]
  exact h
theorem RR.scr {s : xSt} {I I' : Nat → Nat → Int32} (h : RR s I) (hf : ∀ a, (42 < a ∧ a < 52) ∨ 60 < a → I' a = I a) (h2 : I' 42 2 = I 42 2) (h8 : I' 42 8 = I 42 8) (hp : PL (wkc s.c.A s.c.F) I') : RR s I' := by
  obtain ⟨h1, -, h3, h4⟩ := h
  refine ⟨h1.keep (fun a a1 a2 => hf a (by omega)) h8, hp, ?_, fun n hn => ?_⟩
  · rw [h2, hf 45 (by omega)]; exact h3
  · rw [hf 62 (by omega), hf 61 (by omega)]; exact h4 n hn
theorem RR.scp {s : xSt} {I I' : Nat → Nat → Int32} (h : RR s I) (hf : ∀ a, (42 ≤ a ∧ a < 52) ∨ 59 < a → I' a = I a) : RR s I' := by
  have h42 := hf 42 (by omega)
  refine h.scr (fun a ha => hf a (by omega)) (by rw [h42]) (by rw [h42]) ?_
  have hp := h.2.1
  unfold PL LD at hp ⊢
  rw [h42, hf 60 (by omega)]
  exact hp
theorem CR.far {s : xSt} {I I' : Nat → Nat → Int32} (h : CR s I) (hf : ∀ a, a < 42 → I' a = I a) : CR s I' := h.scp (fun a ha => hf a (by omega))
theorem RR.far {s : xSt} {I I' : Nat → Nat → Int32} (h : RR s I) (hf : ∀ a, 42 ≤ a → I' a = I a) : RR s I' := h.scp (fun a ha => hf a (by omega))
theorem rsn.ms {x : xSc} {I : Nat → Nat → Int32} (h : rsn x I) (hk : okS x) : MS x.A I := by
  obtain ⟨h1, h2, h3, h4, h5, h6, h7, h8, h9⟩ := h
  obtain ⟨-, ⟨f1, f2, -⟩, -⟩ := hk
  have l1 := f1.1.1
  have l2 := f2.1.1
  exact ⟨h1, h2, h4, h7, h6, fun i hi => by rw [show 15 * 0 + i = i by omega]; exact h5 i (by omega), fun i hi => h5 (15 * 1 + i) (by omega)⟩
theorem scn.sc {x : xSc} {I : Nat → Nat → Int32} (h : scn 5 x I) : SC x.A x.F I := ⟨h.1, h.2.1, h.2.2.2.1, h.2.2.2.2.1, h.2.2.2.2.2.2.2⟩
/-- the outer arrays of the class -/
def stf (l : List Nat) : Nat → Int32 := fun j => nI (l.getD j 0)
def xEok (E : xEx) : Prop := E 1 = some (3, stf [5, 10, 0]) ∧ E 2 = some (6, stf [0, 2, 3, 0, 5, 0]) ∧ E 3 = some (3, stf [9, 99, 2]) ∧ E 4 = some (6, stf [0, 1, 1, 0, 0, 0]) ∧ E 5 = some (6, stf [1, 4, 5, 9, 5, 999])
def cQ (I : Nat → Nat → Int32) (s : xSt) (v : Value) : Option Value → xMem → Prop := fun r u => r = some v ∧ ∃ I' L', u = (xS, I', L') ∧ CR s I' ∧ ∀ a, 42 ≤ a → I' a = I a
def mQ (I : Nat → Nat → Int32) (s : xSt) (v : Value) : Option Value → xMem → Prop := fun r u => r = some v ∧ ∃ I' L', u = (xS, I', L') ∧ RR s I' ∧ ∀ a, a < 42 → I' a = I a
/-- both answer alike, and keep the state -/
def Fx (cal cam : Nat) (As : List Value) : Prop := ∀ (E : xEx) (s : xSt), xEok E → OK s → ∃ (v : Int32) (s' : xSt), OK s' ∧ (∀ I L, CR s I → xC E 20 cal (.ref 0 :: As) (xS, I, L) (cQ I s' (.int v))) ∧ ∀ I L, RR s I → xC E 20 cam (.ref 42 :: As) (xS, I, L) (mQ I s' (.int v))
def Fl (cal cam : Nat) (As : List Value) : Prop := ∀ (E : xEx) (s : xSt), xEok E → OK s → ∃ (v : Int64) (s' : xSt), OK s' ∧ (∀ I L, CR s I → xC E 20 cal (.ref 0 :: As) (xS, I, L) (cQ I s' (.long v))) ∧ ∀ I L, RR s I → xC E 20 cam (.ref 42 :: As) (xS, I, L) (mQ I s' (.long v))
theorem cQ.sm {I : Nat → Nat → Int32} {L : Nat → Nat → Int64} {s : xSt} {v : Value} (h : CR s I) : cQ I s v (some v) (xS, I, L) := ⟨rfl, I, L, rfl, h, fun _ _ => rfl⟩
theorem mQ.sm {I : Nat → Nat → Int32} {L : Nat → Nat → Int64} {s : xSt} {v : Value} (h : RR s I) : mQ I s v (some v) (xS, I, L) := ⟨rfl, I, L, rfl, h, fun _ _ => rfl⟩
section FACE
theorem c_forget {E : xEx} {T : List xSh} {I : Nat → Nat → Int32} {L : Nat → Nat → Int64} : xC E 1 31 [.ref 19] (xC0 ++ T, I, L) (fun r t => r = none ∧ t = (xC0 ++ T, wI I 19 5 (nI 0), L)) := by
  refine xC.mk [some (.ref 19)] rfl ?_
  refine ws_aload_0 1 rfl rfl ?_
  refine ws_iconst 2 rfl rfl kc_i0 ?_
  refine ws_putfi 5 rfl rfl rfl rfl rfl rfl rfl rfl ?_
  refine ws_vret rfl rfl rfl (Nat.le_of_ble_eq_true rfl) ?_
  exact ⟨rfl, rfl⟩
theorem p_below5 (x : Int32) : xP 1 80 [.int x, .int (nI 5)] (.int (xb (rg 0 4 x))) := p_below x 5 4 (by omega) rfl
theorem f_wipe : Fx 50 88 [] := by
  intro E s hE hs
  refine ⟨(nI s.n), mkS s.c s.i s.K s.t 0, ⟨hs.1, ⟨by show 0 ≤ 40; omega, fun i hi => absurd hi (by show ¬ i < 0; omega)⟩, hs.2.2⟩, fun I L hC => ?_, fun I L hR => ?_⟩
  · refine xC.mk [some (.ref 0), none] rfl ?_
    obtain ⟨h1, h2, ⟨h3, h3'⟩, h4⟩ := hC
    refine ws_aload_0 1 rfl rfl ?_
    refine ws_getfr 4 rfl rfl rfl rfl rfl ?_
    refine ws_getfi 7 rfl rfl rfl rfl rfl h3 ?_
    refine ws_istore_1 8 rfl rfl rfl rfl ?_
    refine ws_aload_0 9 rfl rfl ?_
    refine ws_getfr 12 rfl rfl rfl rfl rfl ?_
    refine ws_iconst 13 rfl rfl kc_i0 ?_
    refine ws_putfi 16 rfl rfl rfl rfl rfl rfl rfl rfl ?_
    refine ws_iload_1 17 rfl rfl ?_
    refine ws_iret rfl rfl rfl (Nat.le_of_ble_eq_true rfl) ?_
    refine ⟨rfl, _, _, rfl, ⟨h1.keep (fun a a1 a2 => wI_ne (by omega)), h2.keep (fun a a1 a2 => wI_ne (by omega)) (by rw [wI_ne (by decide)]) (by rw [wI_ne (by decide)]), ⟨rfl, fun i hi => absurd hi (by show ¬ i < 0; omega)⟩, fun n hn => ?_⟩, fun a ha => wI_ne (by omega)⟩
    rw [wI_ne (by decide)]
    exact ⟨(h4 n hn).1, fun hk => ((h4 n hn).2 hk).keep (fun a a1 a2 => wI_ne (by omega))⟩
  · refine xC.mk [some (.ref 42), none] rfl ?_
    obtain ⟨h1, h2, ⟨h3, h3'⟩, h4⟩ := hR
    refine ws_aload_0 1 rfl rfl ?_
    refine ws_getfi 4 rfl rfl rfl rfl rfl h3 ?_
    refine ws_istore_1 5 rfl rfl rfl rfl ?_
    refine ws_aload_0 6 rfl rfl ?_
    refine ws_iconst 7 rfl rfl kc_i0 ?_
    refine ws_putfi 10 rfl rfl rfl rfl rfl rfl rfl rfl ?_
    refine ws_iload_1 11 rfl rfl ?_
    refine ws_iret rfl rfl rfl (Nat.le_of_ble_eq_true rfl) ?_
    refine ⟨rfl, _, _, rfl, ⟨h1.keep (fun a a1 a2 => wI_ne (by omega)) (by rw [wI_eq, pk_un (by decide)]), ?_, ⟨rfl, fun i hi => absurd hi (by show ¬ i < 0; omega)⟩, fun n hn => ?_⟩, fun a ha => wI_ne (by omega)⟩
    · unfold PL LD at h2 ⊢
      rw [wI_eq, pk_un (by decide), wI_ne (by decide)]
      exact h2
    · rw [wI_ne (by decide), wI_ne (by decide)]; exact h4 n hn
theorem f_stands (x : Int32) : Fx 53 94 [.int x] := by
  intro E s hE hs
  have p1 := p_below5 x
  have p2 := p_isFive x
  cases hr : rg 0 4 x with
  | false =>
    rw [hr] at p1 p2
    refine ⟨(-1), s, hs, fun I L hC => ?_, fun I L hR => ?_⟩
    · refine xC.mk [some (.ref 0), some (.int x)] rfl ?_
      refine ws_iload_1 1 rfl rfl ?_
      refine ws_iconst 2 rfl rfl kc_i5 ?_
      refine ws_invS2p 5 rfl rfl rfl (p1) rfl rfl rfl ?_
      refine ws_if_eqb 20 8 rfl rfl rfl (fun h9 => ?_) (fun h9 => absurd h9 (by first | decide | simp_all))
      refine ws_iconst 21 rfl rfl kc_im1 ?_
      refine ws_iret rfl rfl rfl (Nat.le_of_ble_eq_true rfl) ?_
      exact cQ.sm hC
    · refine xC.mk [some (.ref 42), some (.int x)] rfl ?_
      refine ws_iload_1 1 rfl rfl ?_
      refine ws_invS1p 4 rfl rfl rfl (p2) rfl rfl rfl ?_
      refine ws_if_neb 11 7 rfl rfl rfl (fun h9 => absurd h9 (by first | decide | simp_all)) (fun h9 => ?_)
      refine ws_iconst 8 rfl rfl kc_im1 ?_
      refine ws_goto 33 rfl rfl ?_
      refine ws_iret rfl rfl rfl (Nat.le_of_ble_eq_true rfl) ?_
      exact mQ.sm hR
  | true =>
    rw [hr] at p1 p2
    obtain ⟨p, -, hp4, rfl⟩ := rg_nat (a := 0) (b := 4) hr (by omega)
    have hb5 := hs.1.2.2.1 p (by omega)
    refine ⟨(rw6 (s.c.b p)), s, hs, fun I L hC => ?_, fun I L hR => ?_⟩
    · refine xC.mk [some (.ref 0), some (.int (nI p))] rfl ?_
      have h8 : I 8 p = rw6 (s.c.b p) := hC.1.2.2.1 p (by omega)
      refine ws_iload_1 1 rfl rfl ?_
      refine ws_iconst 2 rfl rfl kc_i5 ?_
      refine ws_invS2p 5 rfl rfl rfl (p1) rfl rfl rfl ?_
      refine ws_if_eqb 20 8 rfl rfl rfl (fun h9 => absurd h9 (by first | decide | simp_all)) (fun h9 => ?_)
      refine ws_aload_0 9 rfl rfl ?_
      refine ws_getfr 12 rfl rfl rfl rfl rfl ?_
      refine ws_getfr 15 rfl rfl rfl rfl rfl ?_
      refine ws_iload_1 16 rfl rfl ?_
      refine ws_ialdn 17 rfl rfl rfl (by omega) (by omega) h8 ?_
      refine ws_goto 21 rfl rfl ?_
      refine ws_iret rfl rfl rfl (Nat.le_of_ble_eq_true rfl) ?_
      exact cQ.sm hC
    · refine xC.mk [some (.ref 42), some (.int (nI p))] rfl ?_
      have h46 : I 46 p = nI (s.c.b p) := hR.1.2.2.1 p (by omega)
      by_cases h0 : s.c.b p = 0
      · rw [rw6_0 h0]
        rw [h0] at h46
        refine ws_iload_1 1 rfl rfl ?_
        refine ws_invS1p 4 rfl rfl rfl (p2) rfl rfl rfl ?_
        refine ws_if_neb 11 7 rfl rfl rfl (fun h9 => ?_) (fun h9 => absurd h9 (by first | decide | simp_all))
        refine ws_aload_0 12 rfl rfl ?_
        refine ws_getfr 15 rfl rfl rfl rfl rfl ?_
        refine ws_iload_1 16 rfl rfl ?_
        refine ws_ialdn 17 rfl rfl rfl (by omega) (by omega) h46 ?_
        refine ws_if_nen 25 20 rfl rfl rfl (by omega) (fun h9 => absurd h9 (by omega)) (fun h9 => ?_)
        refine ws_bipush 22 rfl rfl kc_bm6 ?_
        refine ws_goto 33 rfl rfl ?_
        refine ws_iret rfl rfl rfl (Nat.le_of_ble_eq_true rfl) ?_
        exact mQ.sm hR
      · rw [rw6_1 h0]
        refine ws_iload_1 1 rfl rfl ?_
        refine ws_invS1p 4 rfl rfl rfl (p2) rfl rfl rfl ?_
        refine ws_if_neb 11 7 rfl rfl rfl (fun h9 => ?_) (fun h9 => absurd h9 (by first | decide | simp_all))
        refine ws_aload_0 12 rfl rfl ?_
        refine ws_getfr 15 rfl rfl rfl rfl rfl ?_
        refine ws_iload_1 16 rfl rfl ?_
        refine ws_ialdn 17 rfl rfl rfl (by omega) (by omega) h46 ?_
        refine ws_if_nen 25 20 rfl rfl rfl (by omega) (fun h9 => ?_) (fun h9 => absurd h9 (by omega))
        refine ws_aload_0 26 rfl rfl ?_
        refine ws_getfr 29 rfl rfl rfl rfl rfl ?_
        refine ws_iload_1 30 rfl rfl ?_
        refine ws_ialdn 31 rfl rfl rfl (by omega) (by omega) h46 ?_
        refine ws_iconst 32 rfl rfl kc_i1 ?_
        refine ws_isub 33 rfl rfl (pk_sub (by omega)) ?_
        refine ws_iret rfl rfl rfl (Nat.le_of_ble_eq_true rfl) ?_
        exact mQ.sm hR
end FACE
