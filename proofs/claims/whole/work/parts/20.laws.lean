/-! ===== laws: what they come to ===== -/
theorem ws_tswn {E : xEx} {d mi pc : Nat} {lv : xLv} {st : List Value} {σ : xMem} {k q : Nat} {Q : Option Value → xMem → Prop} {dflt lo hi off : Int} {offs : Array Int} {len : Nat} (c j dt t : Nat) (hc : c < 2147483648) (hf : xft mi pc = some (.tableswitch dflt lo hi offs, len)) (hD : (pc : Int) + dflt = (dt : Int)) (hj : (c : Int) = lo + j) (hh : (c : Int) ≤ hi) (ho : offs[j]? = some off) (ht : (pc : Int) + off = (t : Int)) (kk : xW E d mi t lv st σ k q Q) : xW E d mi pc lv (.int (nI c) :: st) σ k q Q := by
  refine ws_tsw dt hf hD (fun h => ?_) (fun i hi1 hi2 => ?_)
  · exfalso
    rw [nI_toInt hc] at h
    omega
  · rw [nI_toInt hc] at hi1
    have : i = j := by omega
    subst this
    exact ⟨off, t, ho, ht, kk⟩
theorem ws_tswd {E : xEx} {d mi pc : Nat} {lv : xLv} {st : List Value} {σ : xMem} {k q : Nat} {Q : Option Value → xMem → Prop} {x : Int32} {dflt lo hi : Int} {offs : Array Int} {len : Nat} (dt : Nat) (hf : xft mi pc = some (.tableswitch dflt lo hi offs, len)) (hD : (pc : Int) + dflt = (dt : Int)) (hx : x.toInt < lo ∨ hi < x.toInt) (kk : xW E d mi dt lv st σ k q Q) : xW E d mi pc lv (.int x :: st) σ k q Q := by
  refine ws_tsw dt hf hD (fun _ => kk) (fun i hi1 hi2 => ?_)
  exfalso
  omega
theorem al_13 {c : Nat} (h : al c = true) : c = 115 ∨ c = 119 ∨ c = 104 ∨ (48 ≤ c ∧ c ≤ 57) := by
  simp only [al, Bool.or_eq_true, Bool.and_eq_true, decide_eq_true_eq] at h
  omega
theorem jn_4 {c : Nat} (h : jn c = true) : c = 43 ∨ c = 45 ∨ c = 42 ∨ c = 109 := by
  simp only [jn, Bool.or_eq_true, decide_eq_true_eq] at h
  omega
theorem p_alone (c s w : Nat) (hc : al c = true) (hs : s < 1000) (hw : w < 1000) : xP 1 13 [.int (nI c), .int (nI s), .int (nI w)] (.long (lN (av c s w))) := by
  intro E σ
  refine xC.mk [some (.int (nI c)), some (.int (nI s)), some (.int (nI w))] rfl ?_
  refine ws_iload_0 1 rfl rfl ?_
  rcases al_13 hc with rfl | rfl | rfl | ⟨h1, h2⟩
  · refine ws_lsw (off := 35) 36 rfl (by decide) (by decide) rfl ?_
    refine ws_iload_1 37 rfl rfl ?_
    refine ws_i2l 38 rfl rfl (nI_l (by omega)) ?_
    refine ws_lret rfl rfl rfl (Nat.le_of_ble_eq_true rfl) ?_
    exact ⟨rfl, rfl⟩
  · refine ws_lsw (off := 38) 39 rfl (by decide) (by decide) rfl ?_
    refine ws_iload_2 40 rfl rfl ?_
    refine ws_i2l 41 rfl rfl (nI_l (by omega)) ?_
    refine ws_lret rfl rfl rfl (Nat.le_of_ble_eq_true rfl) ?_
    exact ⟨rfl, rfl⟩
  · refine ws_lsw (off := 41) 42 rfl (by decide) (by decide) rfl ?_
    refine ws_ldc2 45 rfl rfl rfl (show (100 : Int64) = lN 100 from rfl) ?_
    refine ws_lret rfl rfl rfl (Nat.le_of_ble_eq_true rfl) ?_
    exact ⟨rfl, rfl⟩
  · have e : av c s w = c - 48 := by unfold av; rw [if_neg (by omega), if_neg (by omega), if_neg (by omega)]
    rw [e]
    have hd : c = 48 ∨ c = 49 ∨ c = 50 ∨ c = 51 ∨ c = 52 ∨ c = 53 ∨ c = 54 ∨ c = 55 ∨ c = 56 ∨ c = 57 := by omega
    refine ws_lsw (off := 45) 46 rfl (by decide) ?_ rfl ?_
    · rcases hd with rfl | rfl | rfl | rfl | rfl | rfl | rfl | rfl | rfl | rfl <;> decide
    · refine ws_iload_0 47 rfl rfl ?_
      refine ws_bipush 49 rfl rfl kc_b48 ?_
      refine ws_isub 50 rfl rfl (pk_sub (by omega)) ?_
      refine ws_i2l 51 rfl rfl (nI_l (by omega)) ?_
      refine ws_lret rfl rfl rfl (Nat.le_of_ble_eq_true rfl) ?_
      exact ⟨rfl, rfl⟩
def jv (c : Nat) (x y : Int64) : Int64 := if c = 43 then x + y else if c = 45 then x - y else if c = 42 then x * y else mnL x y
theorem p_joined (c : Nat) (x y : Int64) (hc : jn c = true) : xP 2 14 [.int (nI c), .long x, .long y] (.long (jv c x y)) := by
  intro E σ
  refine xC.mk [some (.int (nI c)), some (.long x), none, some (.long y), none] rfl ?_
  refine ws_iload_0 1 rfl rfl ?_
  rcases jn_4 hc with rfl | rfl | rfl | rfl
  · refine ws_tswn 43 1 44 32 (by omega) rfl rfl rfl (by decide) rfl rfl ?_
    refine ws_lload_1 33 rfl rfl ?_
    refine ws_lload_3 34 rfl rfl ?_
    refine ws_ladd 35 rfl rfl rfl ?_
    refine ws_lret rfl rfl rfl (Nat.le_of_ble_eq_true rfl) ?_
    exact ⟨rfl, rfl⟩
  · refine ws_tswn 45 3 44 36 (by omega) rfl rfl rfl (by decide) rfl rfl ?_
    refine ws_lload_1 37 rfl rfl ?_
    refine ws_lload_3 38 rfl rfl ?_
    refine ws_lsub 39 rfl rfl rfl ?_
    refine ws_lret rfl rfl rfl (Nat.le_of_ble_eq_true rfl) ?_
    exact ⟨rfl, rfl⟩
  · refine ws_tswn 42 0 44 40 (by omega) rfl rfl rfl (by decide) rfl rfl ?_
    refine ws_lload_1 41 rfl rfl ?_
    refine ws_lload_3 42 rfl rfl ?_
    refine ws_lmul 43 rfl rfl rfl ?_
    refine ws_lret rfl rfl rfl (Nat.le_of_ble_eq_true rfl) ?_
    exact ⟨rfl, rfl⟩
  · refine ws_tswd 44 rfl rfl (by decide) ?_
    refine ws_lload_1 45 rfl rfl ?_
    refine ws_lload_3 46 rfl rfl ?_
    refine ws_invS2p 49 rfl rfl rfl (p_minL x y) rfl rfl rfl ?_
    refine ws_lret rfl rfl rfl (Nat.le_of_ble_eq_true rfl) ?_
    exact ⟨rfl, rfl⟩
/-- how many texts must still come -/
def due (t : Nat → Nat) : Nat → Nat
  | 0 => 1
  | i + 1 => bif jn (t i) then due t i + 1 else due t i - 1
/-- a text that stands as a law -/
def okL (t : Nat → Nat) (n : Nat) : Prop := (n ≤ 15 ∧ due t n = 0) ∧ ∀ i, i < n → (t i < 128 ∧ (al (t i) = true ∨ jn (t i) = true)) ∧ 0 < due t i
theorem okL_jn {t : Nat → Nat} {n i : Nat} (h : okL t n) (hi : i < n) (hj : jn (t i) = false) : al (t i) = true := by
  rcases (h.2 i hi).1.2 with q | q
  · exact q
  · rw [hj] at q; cases q
def ev1 (c s w : Nat) (l : List Int64) : List Int64 := bif jn c then (match l with | x :: y :: r => jv c x y :: r | l => l) else lN (av c s w) :: l
/-- the stack behind the last k signs -/
def evl (t : Nat → Nat) (n s w : Nat) : Nat → List Int64
  | 0 => []
  | k + 1 => ev1 (t (n - (k + 1))) s w (evl t n s w k)
theorem evl_len {t : Nat → Nat} {n : Nat} (s w : Nat) (h : okL t n) : ∀ k, k ≤ n → (evl t n s w k).length = due t (n - k)
  | 0, _ => by rw [Nat.sub_zero, h.1.2]; rfl
  | k + 1, hk => by
    have ih := evl_len s w h k (by omega)
    have hi : n - (k + 1) < n := by omega
    have e : n - k = n - (k + 1) + 1 := by omega
    have hd := (h.2 _ hi).2
    rw [e] at ih
    have e2 : due t (n - (k + 1) + 1) = (bif jn (t (n - (k + 1))) then due t (n - (k + 1)) + 1 else due t (n - (k + 1)) - 1) := rfl
    show (ev1 (t (n - (k + 1))) s w (evl t n s w k)).length = _
    unfold ev1
    cases hj : jn (t (n - (k + 1))) with
    | true =>
      rw [e2, hj] at ih
      show (match evl t n s w k with | x :: y :: r => jv _ x y :: r | l => l).length = _
      match hl : evl t n s w k with
      | [] => rw [hl] at ih; simp at ih
      | [x] => rw [hl] at ih; simp at ih; omega
      | x :: y :: r => rw [hl] at ih; simp at ih ⊢; omega
    | false =>
      rw [e2, hj] at ih
      show (_ :: evl t n s w k).length = _
      rw [List.length_cons, ih]
      show due t (n - (k + 1)) - 1 + 1 = _
      omega
theorem due_le (t : Nat → Nat) : ∀ i, due t i ≤ i + 1
  | 0 => Nat.le_refl 1
  | i + 1 => by
    have := due_le t i
    show (bif jn (t i) then due t i + 1 else due t i - 1) ≤ _
    cases jn (t i) with
    | true => show due t i + 1 ≤ _; omega
    | false => show due t i - 1 ≤ _; omega
theorem evl_le (t : Nat → Nat) (n s w : Nat) : ∀ k, (evl t n s w k).length ≤ k
  | 0 => Nat.le_refl 0
  | k + 1 => by
    have ih := evl_le t n s w k
    show (ev1 _ s w (evl t n s w k)).length ≤ _
    unfold ev1
    cases jn (t (n - (k + 1))) with
    | true =>
      show (match evl t n s w k with | x :: y :: r => jv _ x y :: r | l => l).length ≤ _
      match hl : evl t n s w k with
      | [] => rw [hl] at ih; simp at ih ⊢
      | [x] => rw [hl] at ih; simp at ih ⊢
      | x :: y :: r => rw [hl] at ih; simp at ih ⊢; omega
    | false => show (_ :: _).length ≤ _; rw [List.length_cons]; omega
/-- a row of longs holds a stack -/
def rel (V : Nat → Int64) (l : List Int64) : Prop := ∀ j x, l[j]? = some x → V (l.length - 1 - j) = x
theorem rel_nil (V : Nat → Int64) : rel V [] := fun j x h => by simp at h
theorem rel_push {V : Nat → Int64} {l : List Int64} {x : Int64} (h : rel V l) : rel (vp_updL V l.length x) (x :: l) := by
  intro j y hj
  cases j with
  | zero =>
    have : x = y := by simpa using hj
    rw [← this, List.length_cons, Nat.add_sub_cancel, Nat.sub_zero]
    exact pk_uLs
  | succ j =>
    have hj : l[j]? = some y := by simpa using hj
    have hl : j < l.length := (List.getElem?_eq_some_iff.mp hj).1
    have e : (x :: l).length - 1 - (j + 1) = l.length - 1 - j := by rw [List.length_cons]; omega
    rw [e, pk_uLn (by omega)]
    exact h j y hj
theorem rel_tail {V : Nat → Int64} {l : List Int64} {x : Int64} (h : rel V (x :: l)) : rel V l := by
  intro j y hj
  have hl : j < l.length := (List.getElem?_eq_some_iff.mp hj).1
  have := h (j + 1) y (by simpa using hj)
  rwa [show (x :: l).length - 1 - (j + 1) = l.length - 1 - j by rw [List.length_cons]; omega] at this
theorem rel_top {V : Nat → Int64} {l : List Int64} {x : Int64} (h : rel V (x :: l)) : V l.length = x := by
  have := h 0 x rfl
  rwa [List.length_cons, Nat.add_sub_cancel, Nat.sub_zero] at this
/-- what a law comes to, in thousandths -/
def clv (x : Int64) : Nat := if x < 0 then 0 else if 1000 < x then 1000 else x.toInt.toNat
theorem clv_le (x : Int64) : clv x ≤ 1000 := by
  unfold clv
  split
  · omega
  · split
    · omega
    · rename_i h
      have h2 : x.toInt ≤ 1000 := by
        have := Int64.not_lt.mp h
        rw [Int64.le_iff_toInt_le] at this
        exact this
      omega
theorem clv_in {x : Int64} (h1 : ¬ x < 0) (h2 : ¬ 1000 < x) : x.toInt32 = nI (clv x) := by
  obtain ⟨m, hm, rfl⟩ := pk_lOf h1
  have e : clv (lN m) = m := by
    unfold clv
    rw [if_neg h1, if_neg h2, pk_lT hm]
    rfl
  rw [e]
  exact lN_i m
theorem clv_lo {x : Int64} (h1 : x < 0) : clv x = 0 := if_pos h1
theorem clv_hi {x : Int64} (h1 : ¬ x < 0) (h2 : 1000 < x) : clv x = 1000 := by
  unfold clv
  rw [if_neg h1, if_pos h2]
theorem clv_mm (x : Int64) : (mxL (lN 0) (mnL (lN 1000) x)).toInt32 = nI (clv x) := by
  by_cases h1 : x < 0
  · rw [clv_lo h1]
    have h2 : x < lN 1000 := Int64.lt_trans h1 (by decide)
    unfold mnL
    rw [if_pos h2]
    unfold mxL
    rw [if_neg (fun q => absurd (Int64.lt_trans q h1) (by decide))]
    exact lN_i 0
  · by_cases h2 : (1000 : Int64) < x
    · rw [clv_hi h1 h2]
      unfold mnL
      rw [if_neg (show ¬ x < lN 1000 from fun q => absurd (Int64.lt_trans (show x < 1000 from q) h2) Int64.lt_irrefl)]
      decide
    · by_cases h3 : x = 1000
      · subst h3
        decide
      · have h4 : x < lN 1000 := by
          show x < 1000
          rw [Int64.lt_iff_toInt_lt] at h2 ⊢
          have : ¬ x.toInt = (1000 : Int64).toInt := fun q => h3 (Int64.toInt_inj.mp q)
          omega
        unfold mnL
        rw [if_pos h4]
        unfold mxL
        by_cases h5 : lN 0 < x
        · rw [if_pos h5]
          exact clv_in h1 h2
        · rw [if_neg h5]
          have h6 : x = 0 := by
            apply Int64.toInt_inj.mp
            rw [Int64.lt_iff_toInt_lt] at h1 h5
            have e0 : (lN 0).toInt = (0 : Int64).toInt := rfl
            rw [e0] at h5
            omega
          rw [h6]
          decide
def lwv (t : Nat → Nat) (n s w : Nat) : Nat := clv ((evl t n s w n).headD 0)
theorem mn_lt (x y : Int64) : (if x < y then x else y) = mnL x y := by
  unfold mnL
  by_cases h : x < y
  · rw [if_pos h, if_neg (fun q => absurd (Int64.lt_trans h q) (Int64.lt_irrefl))]
  · rw [if_neg h]
    by_cases h2 : y < x
    · rw [if_pos h2]
    · rw [if_neg h2]
      apply Int64.toInt_inj.mp
      rw [Int64.lt_iff_toInt_lt] at h h2
      omega
theorem evl_1 {t : Nat → Nat} {n k s w : Nat} (hj : jn (t (n - (k + 1))) = false) : evl t n s w (k + 1) = lN (av (t (n - (k + 1))) s w) :: evl t n s w k := by
  show ev1 _ s w _ = _
  unfold ev1
  rw [hj]
  rfl
theorem evl_2 {t : Nat → Nat} {n k s w : Nat} (h : okL t n) (hk : k < n) (hj : jn (t (n - (k + 1))) = true) : ∃ x y r, evl t n s w k = x :: y :: r ∧ evl t n s w (k + 1) = jv (t (n - (k + 1))) x y :: r := by
  have hl := evl_len s w h k (by omega)
  have e : n - k = n - (k + 1) + 1 := by omega
  rw [e] at hl
  have e2 : due t (n - (k + 1) + 1) = due t (n - (k + 1)) + 1 := by show (bif jn (t (n - (k + 1))) then _ else _) = _; rw [hj]; rfl
  have hd := (h.2 (n - (k + 1)) (by omega)).2
  rw [e2] at hl
  match hq : evl t n s w k with
  | [] => rw [hq] at hl; simp at hl
  | [x] => rw [hq] at hl; simp at hl; omega
  | x :: y :: r =>
    refine ⟨x, y, r, rfl, ?_⟩
    show ev1 _ s w _ = _
    unfold ev1
    rw [hj, hq]
    rfl
section LAWS
variable {E : xEx} {T : List xSh} {I : Nat → Nat → Int32} {L : Nat → Nat → Int64} {t : Nat → Nat} {n : Nat}
theorem c_comesTo (s w : Nat) (hs : s < 1000) (hw : w < 1000) (hok : okL t n) (hn : I 1 3 = nI n) (ht : ∀ i, i < n → I 2 i = nI (t i)) : xC E 3 10 [.ref 1, .int (nI s), .int (nI w)] (xC0 ++ T, I, L) (fun r u => r = some (.long ((evl t n s w n).headD 0)) ∧ ∃ L', u = (xC0 ++ T, I, L') ∧ ∀ a, a ≠ 4 → L' a = L a) := by
  refine xC.mk [some (.ref 1), some (.int (nI s)), some (.int (nI w)), none, none] rfl ?_
  have hn15 := hok.1.1
  have loop : ∀ (x k : Nat) (L' : Nat → Nat → Int64), x + k = n → (∀ a, a ≠ 4 → L' a = L a) → rel (L' 4) (evl t n s w k) → xW E 3 10 10 [some (.ref 1), some (.int (nI s)), some (.int (nI w)), some (.int (nI (evl t n s w k).length)), some (.int (lI x))] [] (xC0 ++ T, I, L') 0 0 (fun r u => r = some (.long ((evl t n s w n).headD 0)) ∧ ∃ L', u = (xC0 ++ T, I, L') ∧ ∀ a, a ≠ 4 → L' a = L a) := by
    intro x
    induction x with
    | zero =>
      intro k L' hk hf hr
      obtain rfl : k = n := by omega
      rw [lI_0]
      have hl := evl_len s w hok k (Nat.le_refl k)
      rw [Nat.sub_self] at hl
      have hl1 : (evl t k s w k).length = 1 := hl
      have hv : L' 4 0 = (evl t k s w k).headD 0 := by
        match hq : evl t k s w k with
        | [] => rw [hq] at hl1; simp at hl1
        | [x] => rw [hq] at hr; exact rel_top hr
        | x :: y :: r => rw [hq] at hl1; simp at hl1
      refine ws_iload_4 12 rfl rfl ?_
      refine ws_if_lt 98 15 rfl rfl rfl (fun h9 => ?_) (fun h9 => absurd h9 (by decide))
      refine ws_aload_0 99 rfl rfl ?_
      refine ws_getfr 102 rfl rfl rfl rfl rfl ?_
      refine ws_iconst 103 rfl rfl kc_i0 ?_
      refine ws_laldn 104 rfl rfl rfl (by omega) (by omega) hv ?_
      refine ws_lret rfl rfl rfl (Nat.le_of_ble_eq_true rfl) ?_
      exact ⟨rfl, L', rfl, hf⟩
    | succ x ih =>
      intro k L' hk hf hr
      rw [lI_s]
      have hx : n - (k + 1) = x := by omega
      have hxn : x < n := by omega
      have htx := ht x hxn
      have hc := (hok.2 x hxn).1.1
      have hlk := evl_le t n s w k
      cases hj : jn (t x) with
      | false =>
        have ha := okL_jn hok hxn hj
        have pj := p_joinsTwo (t x) (by omega)
        rw [hj] at pj
        have e1 := evl_1 (s := s) (w := w) (n := n) (k := k) (t := t) (by rw [hx]; exact hj)
        rw [hx] at e1
        have e2 : (evl t n s w (k + 1)).length = (evl t n s w k).length + 1 := by rw [e1]; rfl
        refine ws_iload_4 12 rfl rfl ?_
        refine ws_if_ltn 98 15 rfl rfl rfl (by omega) (fun h9 => absurd h9 (by omega)) (fun h9 => ?_)
        refine ws_aload_0 16 rfl rfl ?_
        refine ws_getfr 19 rfl rfl rfl rfl rfl ?_
        refine ws_iload_4 21 rfl rfl ?_
        refine ws_ialdn 22 rfl rfl rfl (by omega) (by omega) htx ?_
        refine ws_invS1p 25 rfl rfl rfl (pj) rfl rfl rfl ?_
        refine ws_if_neb 52 28 rfl rfl rfl (fun h9 => absurd h9 (by first | decide | simp_all)) (fun h9 => ?_)
        refine ws_aload_0 29 rfl rfl ?_
        refine ws_getfr 32 rfl rfl rfl rfl rfl ?_
        refine ws_iload_3 33 rfl rfl ?_
        refine ws_aload_0 34 rfl rfl ?_
        refine ws_getfr 37 rfl rfl rfl rfl rfl ?_
        refine ws_iload_4 39 rfl rfl ?_
        refine ws_ialdn 40 rfl rfl rfl (by omega) (by omega) htx ?_
        refine ws_iload_1 41 rfl rfl ?_
        refine ws_iload_2 42 rfl rfl ?_
        refine ws_invS3p 45 rfl rfl rfl (p_alone (t x) s w ha hs hw) rfl rfl rfl ?_
        refine ws_lastn 46 rfl rfl rfl (by omega) (by omega) ?_
        refine ws_iinc_3 49 rfl rfl (ki_1 _) rfl rfl ?_
        refine ws_goto 92 rfl rfl ?_
        refine ws_iinc_4 95 rfl rfl (li_dec _) rfl rfl ?_
        refine ws_goto 10 rfl rfl ?_
        rw [← e2]; refine ih (k + 1) _ (by omega) (fun a ha => by rw [wL_ne ha]; exact hf a ha) ?_
        rw [e1]
        exact rel_push hr
      | true =>
        have pj := p_joinsTwo (t x) (by omega)
        rw [hj] at pj
        obtain ⟨a, b, r, e1, e2⟩ := evl_2 (s := s) (w := w) hok (show k < n by omega) (by rw [hx]; exact hj)
        rw [hx] at e2
        have e3 : (evl t n s w k).length = r.length + 2 := by rw [e1]; rfl
        have e4 : (evl t n s w (k + 1)).length = r.length + 1 := by rw [e2]; rfl
        rw [e1] at hr
        have v1 : L' 4 (r.length + 1) = a := rel_top hr
        have v2 : L' 4 r.length = b := rel_top (rel_tail hr)
        rw [e3]
        rw [e3] at hlk
        have e5 : r.length + 2 - 1 = r.length + 1 := by omega
        have e6 : r.length + 1 - 1 = r.length := by omega
        refine ws_iload_4 12 rfl rfl ?_
        refine ws_if_ltn 98 15 rfl rfl rfl (by omega) (fun h9 => absurd h9 (by omega)) (fun h9 => ?_)
        refine ws_aload_0 16 rfl rfl ?_
        refine ws_getfr 19 rfl rfl rfl rfl rfl ?_
        refine ws_iload_4 21 rfl rfl ?_
        refine ws_ialdn 22 rfl rfl rfl (by omega) (by omega) htx ?_
        refine ws_invS1p 25 rfl rfl rfl (pj) rfl rfl rfl ?_
        refine ws_if_neb 52 28 rfl rfl rfl (fun h9 => ?_) (fun h9 => absurd h9 (by first | decide | simp_all))
        refine ws_iload_3 53 rfl rfl ?_
        refine ws_iconst 54 rfl rfl kc_i2 ?_
        refine ws_icmp_ltn 92 57 rfl rfl rfl (by omega) (by omega) (fun h9 => absurd h9 (by omega)) (fun h9 => ?_)
        refine ws_iinc_3 60 rfl rfl (ki_m1 (by omega)) rfl rfl ?_
        rw [e5]
        refine ws_aload_0 61 rfl rfl ?_
        refine ws_getfr 64 rfl rfl rfl rfl rfl ?_
        refine ws_iload_3 65 rfl rfl ?_
        refine ws_iconst 66 rfl rfl kc_i1 ?_
        refine ws_isub 67 rfl rfl (pk_sub (by omega)) ?_
        rw [e6]
        refine ws_aload_0 68 rfl rfl ?_
        refine ws_getfr 71 rfl rfl rfl rfl rfl ?_
        refine ws_iload_4 73 rfl rfl ?_
        refine ws_ialdn 74 rfl rfl rfl (by omega) (by omega) htx ?_
        refine ws_aload_0 75 rfl rfl ?_
        refine ws_getfr 78 rfl rfl rfl rfl rfl ?_
        refine ws_iload_3 79 rfl rfl ?_
        refine ws_laldn 80 rfl rfl rfl (by omega) (by omega) v1 ?_
        refine ws_aload_0 81 rfl rfl ?_
        refine ws_getfr 84 rfl rfl rfl rfl rfl ?_
        refine ws_iload_3 85 rfl rfl ?_
        refine ws_iconst 86 rfl rfl kc_i1 ?_
        refine ws_isub 87 rfl rfl (pk_sub (by omega)) ?_
        rw [e6]
        refine ws_laldn 88 rfl rfl rfl (by omega) (by omega) v2 ?_
        refine ws_invS3p 91 rfl rfl rfl (p_joined (t x) a b hj) rfl rfl rfl ?_
        refine ws_lastn 92 rfl rfl rfl (by omega) (by omega) ?_
        refine ws_iinc_4 95 rfl rfl (li_dec _) rfl rfl ?_
        refine ws_goto 10 rfl rfl ?_
        rw [← e4]; refine ih (k + 1) _ (by omega) (fun a ha => by rw [wL_ne ha]; exact hf a ha) ?_
        rw [e2]
        exact rel_push (rel_tail (rel_tail hr))
  have e0 := li_sub n
  refine ws_iconst 1 rfl rfl kc_i0 ?_
  refine ws_istore_3 2 rfl rfl rfl rfl ?_
  refine ws_aload_0 3 rfl rfl ?_
  refine ws_getfi 6 rfl rfl rfl rfl rfl hn ?_
  refine ws_iconst 7 rfl rfl kc_i1 ?_
  refine ws_isub 8 rfl rfl e0 ?_
  refine ws_istore_4 10 rfl rfl rfl rfl ?_
  exact loop n 0 L (by omega) (fun _ _ => rfl) (rel_nil _)
theorem c_becomeLaw (wh : Nat) (hwh : wh < 2) (hok : okL t n) (hn : I 1 3 = nI n) (ht : ∀ i, i < n → I 2 i = nI (t i)) : xC E 4 9 [.ref 1, .ref 5, .int (nI wh)] (xC0 ++ T, I, L) (fun r u => r = none ∧ ∃ I' L', u = (xC0 ++ T, I', L') ∧ (∀ a, a ≠ 1 → a ≠ 10 → I' a = I a) ∧ I' 1 3 = nI 0 ∧ (∀ j, j < 10 → I' 10 (wh * 10 + j) = nI (lwv t n (j / 2) (j % 2))) ∧ (∀ j, ¬ (wh * 10 ≤ j ∧ j < wh * 10 + 10) → I' 10 j = I 10 j) ∧ ∀ a, a ≠ 4 → L' a = L a) := by
  refine xC.mk [some (.ref 1), some (.ref 5), some (.int (nI wh)), none, none, none] rfl ?_
  refine ws_iconst 1 rfl rfl kc_i0 ?_
  refine ws_istore_3 2 rfl rfl rfl rfl ?_
  have loop : ∀ (m k : Nat) (I' : Nat → Nat → Int32) (L' : Nat → Nat → Int64) (z : Option Value), k + m = 10 → (∀ a, a ≠ 10 → I' a = I a) → (∀ j, j < k → I' 10 (wh * 10 + j) = nI (lwv t n (j / 2) (j % 2))) → (∀ j, ¬ (wh * 10 ≤ j ∧ j < wh * 10 + 10) → I' 10 j = I 10 j) → (∀ a, a ≠ 4 → L' a = L a) → xW E 4 9 2 [some (.ref 1), some (.ref 5), some (.int (nI wh)), some (.int (nI k)), z, none] [] (xC0 ++ T, I', L') 0 0 (fun r u => r = none ∧ ∃ I' L', u = (xC0 ++ T, I', L') ∧ (∀ a, a ≠ 1 → a ≠ 10 → I' a = I a) ∧ I' 1 3 = nI 0 ∧ (∀ j, j < 10 → I' 10 (wh * 10 + j) = nI (lwv t n (j / 2) (j % 2))) ∧ (∀ j, ¬ (wh * 10 ≤ j ∧ j < wh * 10 + 10) → I' 10 j = I 10 j) ∧ ∀ a, a ≠ 4 → L' a = L a) := by
    intro m
    induction m with
    | zero =>
      intro k I' L' z hk hf hp hq hl
      obtain rfl : k = 10 := by omega
      refine ws_iload_3 3 rfl rfl ?_
      refine ws_bipush 5 rfl rfl kc_b10 ?_
      refine ws_icmp_gen 50 8 rfl rfl rfl (by omega) (by omega) (fun h9 => ?_) (fun h9 => absurd h9 (by omega))
      refine ws_aload_0 51 rfl rfl ?_
      refine ws_iconst 52 rfl rfl kc_i0 ?_
      refine ws_putfi 55 rfl rfl rfl rfl rfl rfl rfl rfl ?_
      refine ws_vret rfl rfl rfl (Nat.le_of_ble_eq_true rfl) ?_
      exact ⟨rfl, _, L', rfl, fun a a1 a2 => by rw [wI_ne a1]; exact hf a a2, rfl, hp, hq, hl⟩
    | succ m ih =>
      intro k I' L' z hk hf hp hq hl
      refine ws_iload_3 3 rfl rfl ?_
      refine ws_bipush 5 rfl rfl kc_b10 ?_
      refine ws_icmp_gen 50 8 rfl rfl rfl (by omega) (by omega) (fun h9 => absurd h9 (by omega)) (fun h9 => ?_)
      refine ws_aload_0 9 rfl rfl ?_
      refine ws_iload_3 10 rfl rfl ?_
      refine ws_iconst 11 rfl rfl kc_i2 ?_
      refine ws_idiv 12 rfl rfl (kn_ne0 (by omega) (by omega)) (pk_div (by omega) (by omega) (by omega)) ?_
      refine ws_iload_3 13 rfl rfl ?_
      refine ws_iconst 14 rfl rfl kc_i2 ?_
      refine ws_irem 15 rfl rfl (kn_ne0 (by omega) (by omega)) (pk_rem (by omega) (by omega) (by omega)) ?_
      refine ws_invV2 18 rfl rfl rfl rfl (c_comesTo (k / 2) (k % 2) (by omega) (by omega) hok (by rw [hf 1 (by decide)]; exact hn) (fun i hi => by rw [hf 2 (by decide)]; exact ht i hi)) rfl rfl rfl ?_
      rintro _ _ ⟨rfl, L2, rfl, hl2⟩
      refine ws_lstore_4 20 rfl rfl rfl rfl ?_
      refine ws_aload_1 21 rfl rfl ?_
      refine ws_getfr 24 rfl rfl rfl rfl rfl ?_
      refine ws_iload_2 25 rfl rfl ?_
      refine ws_bipush 27 rfl rfl kc_b10 ?_
      refine ws_imul 28 rfl rfl (pk_mul _ _) ?_
      refine ws_iload_3 29 rfl rfl ?_
      refine ws_iadd 30 rfl rfl (nI_add _ _) ?_
      refine ws_lconst (v := lN 0) 31 rfl rfl rfl ?_
      refine ws_ldc2 34 rfl rfl rfl (show (1000 : Int64) = lN 1000 from rfl) ?_
      refine ws_lload_4 36 rfl rfl ?_
      refine ws_invS2p 39 rfl rfl rfl (p_minL _ _) rfl rfl rfl ?_
      refine ws_invS2p 42 rfl rfl rfl (p_maxL _ _) rfl rfl rfl ?_
      refine ws_l2i 43 rfl rfl (clv_mm _) ?_
      refine ws_iastn 44 rfl rfl rfl (by omega) (by omega) ?_
      refine ws_iinc_3 47 rfl rfl (ki_1 _) rfl rfl ?_
      refine ws_goto 2 rfl rfl ?_
      refine ih (k + 1) _ _ _ (by omega) (fun a ha => by rw [wI_ne ha]; exact hf a ha) (fun j hj => ?_) (fun j hj => ?_) (fun a ha => by rw [hl2 a ha]; exact hl a ha)
      · show upd (I' 10) (wh * 10 + k) _ (wh * 10 + j) = _
        by_cases e : j = k
        · rw [e, pk_us]; rfl
        · rw [pk_un (by omega)]; exact hp j (by omega)
      · show upd (I' 10) (wh * 10 + k) _ j = _
        rw [pk_un (by omega)]
        exact hq j hj
  exact loop 10 0 I L _ rfl (fun _ _ => rfl) (fun _ h => by omega) (fun _ _ => rfl) (fun _ _ => rfl)
theorem m_saysOf (wh s w : Nat) (hwh : wh < 2) (hs : s < 1000) (hw : w < 1000) (hok : okL t n) (hn : I 48 wh = nI n) (ht : ∀ i, i < n → I 49 (15 * wh + i) = nI (t i)) : xC E 3 103 [.ref 42, .int (nI wh), .int (nI s), .int (nI w)] (xS, I, L) (fun r u => r = some (.int (nI (lwv t n s w))) ∧ ∃ L', u = (xS, I, L') ∧ ∀ a, a ≠ 55 → L' a = L a) := by
  refine xC.mk [some (.ref 42), some (.int (nI wh)), some (.int (nI s)), some (.int (nI w)), none, none, none, none, none, none, none] rfl ?_
  have hn15 := hok.1.1
  have loop : ∀ (x k : Nat) (L' : Nat → Nat → Int64), x + k = n → (∀ a, a ≠ 55 → L' a = L a) → rel (L' 55) (evl t n s w k) → xW E 3 103 18 [some (.ref 42), some (.int (nI wh)), some (.int (nI s)), some (.int (nI w)), some (.int (nI (evl t n s w k).length)), some (.int (lI (15 * wh + x))), none, none, none, none, none] [] (xS, I, L') 0 0 (fun r u => r = some (.int (nI (lwv t n s w))) ∧ ∃ L', u = (xS, I, L') ∧ ∀ a, a ≠ 55 → L' a = L a) := by
    intro x
    induction x with
    | zero =>
      intro k L' hk hf hr
      obtain rfl : k = n := by omega
      have hl := evl_len s w hok k (Nat.le_refl k)
      rw [Nat.sub_self] at hl
      have hl1 : (evl t k s w k).length = 1 := hl
      have hv : L' 55 0 = (evl t k s w k).headD 0 := by
        match hq : evl t k s w k with
        | [] => rw [hq] at hl1; simp at hl1
        | [x] => rw [hq] at hr; exact rel_top hr
        | x :: y :: r => rw [hq] at hl1; simp at hl1
      have hlt : lI (15 * wh + 0) < nI (15 * wh) := by
        rcases (show wh = 0 ∨ wh = 1 by omega) with rfl | rfl <;> decide
      obtain ⟨X, hX⟩ : ∃ X, X = (evl t k s w k).headD 0 := ⟨_, rfl⟩
      rw [← hX] at hv
      have hlw : lwv t k s w = clv X := by rw [hX]; rfl
      rw [hlw]
      refine ws_iload_5 20 rfl rfl ?_
      refine ws_bipush 22 rfl rfl kc_b15 ?_
      refine ws_iload_1 23 rfl rfl ?_
      refine ws_imul 24 rfl rfl (pk_mul _ _) ?_
      refine ws_icmp_lt 200 27 rfl rfl rfl (fun h9 => ?_) (fun h9 => absurd h9 (fun q => q hlt))
      refine ws_aload_0 201 rfl rfl ?_
      refine ws_getfr 204 rfl rfl rfl rfl rfl ?_
      refine ws_iconst 205 rfl rfl kc_i0 ?_
      refine ws_laldn 206 rfl rfl rfl (by omega) (by omega) hv ?_
      refine ws_lconst (v := lN 0) 207 rfl rfl rfl ?_
      refine ws_lcmp 208 rfl rfl ?_
      refine ws_lc_ge 215 211 rfl rfl rfl (fun c1 => ?_) (fun c1 => ?_)
      · refine ws_aload_0 216 rfl rfl ?_
        refine ws_getfr 219 rfl rfl rfl rfl rfl ?_
        refine ws_iconst 220 rfl rfl kc_i0 ?_
        refine ws_laldn 221 rfl rfl rfl (by omega) (by omega) hv ?_
        refine ws_ldc2 224 rfl rfl rfl (show (1000 : Int64) = lN 1000 from rfl) ?_
        refine ws_lcmp 225 rfl rfl ?_
        refine ws_lc_le 234 228 rfl rfl rfl (fun c2 => ?_) (fun c2 => ?_)
        · have d1 : ¬ X < 0 := Int64.not_lt.mpr c1
          have d2 : ¬ (1000 : Int64) < X := Int64.not_lt.mpr c2
          refine ws_aload_0 235 rfl rfl ?_
          refine ws_getfr 238 rfl rfl rfl rfl rfl ?_
          refine ws_iconst 239 rfl rfl kc_i0 ?_
          refine ws_laldn 240 rfl rfl rfl (by omega) (by omega) hv ?_
          refine ws_l2i 241 rfl rfl (clv_in d1 d2) ?_
          refine ws_iret rfl rfl rfl (Nat.le_of_ble_eq_true rfl) ?_
          exact ⟨rfl, L', rfl, hf⟩
        · have d1 : ¬ X < 0 := Int64.not_lt.mpr c1
          have d2 : (1000 : Int64) < X := Int64.not_le.mp c2
          rw [clv_hi d1 d2]
          refine ws_sipush 231 rfl rfl kc_s1000 ?_
          refine ws_goto 241 rfl rfl ?_
          refine ws_iret rfl rfl rfl (Nat.le_of_ble_eq_true rfl) ?_
          exact ⟨rfl, L', rfl, hf⟩
      · have d1 : X < 0 := Int64.not_le.mp c1
        rw [clv_lo d1]
        refine ws_iconst 212 rfl rfl kc_i0 ?_
        refine ws_goto 241 rfl rfl ?_
        refine ws_iret rfl rfl rfl (Nat.le_of_ble_eq_true rfl) ?_
        exact ⟨rfl, L', rfl, hf⟩
    | succ x ih =>
      intro k L' hk hf hr
      rw [show 15 * wh + (x + 1) = 15 * wh + x + 1 from rfl, lI_s]
      have hx : n - (k + 1) = x := by omega
      have hxn : x < n := by omega
      have htx := ht x hxn
      have hc := (hok.2 x hxn).1.1
      have hlk := evl_le t n s w k
      have pp := p_partsOf (t x) (by omega)
      cases hj : jn (t x) with
      | false =>
        have ha := okL_jn hok hxn hj
        rw [ha] at pp
        have e1 := evl_1 (s := s) (w := w) (n := n) (k := k) (t := t) (by rw [hx]; exact hj)
        rw [hx] at e1
        have e2 : (evl t n s w (k + 1)).length = (evl t n s w k).length + 1 := by rw [e1]; rfl
        have fin : ∀ y : Nat, y = av (t x) s w → xW E 3 103 93 [some (.ref 42), some (.int (nI wh)), some (.int (nI s)), some (.int (nI w)), some (.int (nI (evl t n s w k).length)), some (.int (nI (15 * wh + x))), some (.int (nI (t x))), none, none, none, none] [.long (lN y), .int (nI (evl t n s w k).length), .ref 55] (xS, I, L') 0 0 (fun r u => r = some (.int (nI (lwv t n s w))) ∧ ∃ L', u = (xS, I, L') ∧ ∀ a, a ≠ 55 → L' a = L a) := by
          intro y hy
          refine ws_lastn 94 rfl rfl rfl (by omega) (by omega) ?_
          refine ws_iinc_4 97 rfl rfl (ki_1 _) rfl rfl ?_
          refine ws_goto 194 rfl rfl ?_
          refine ws_forget 6 _ rfl ?_
          refine ws_iinc_5 197 rfl rfl (li_dec _) rfl rfl ?_
          refine ws_goto 18 rfl rfl ?_
          rw [← e2]; refine ih (k + 1) _ (by omega) (fun a ha => by rw [wL_ne ha]; exact hf a ha) ?_
          rw [e1, ← hy]
          exact rel_push hr
        rcases al_13 ha with q | q | q | ⟨q1, q2⟩
        · refine ws_iload_5 20 rfl rfl ?_
          refine ws_bipush 22 rfl rfl kc_b15 ?_
          refine ws_iload_1 23 rfl rfl ?_
          refine ws_imul 24 rfl rfl (pk_mul _ _) ?_
          refine ws_icmp_ltn 200 27 rfl rfl rfl (by omega) (by omega) (fun h9 => absurd h9 (by omega)) (fun h9 => ?_)
          refine ws_aload_0 28 rfl rfl ?_
          refine ws_getfr 31 rfl rfl rfl rfl rfl ?_
          refine ws_iload_5 33 rfl rfl ?_
          refine ws_ialdn 34 rfl rfl rfl (by omega) (by omega) htx ?_
          refine ws_istore_6 36 rfl rfl rfl rfl ?_
          refine ws_iload_6 38 rfl rfl ?_
          refine ws_invS1p 41 rfl rfl rfl (pp) rfl rfl rfl ?_
          refine ws_if_nen 100 44 rfl rfl rfl (by omega) (fun h9 => absurd h9 (by omega)) (fun h9 => ?_)
          refine ws_aload_0 45 rfl rfl ?_
          refine ws_getfr 48 rfl rfl rfl rfl rfl ?_
          refine ws_iload_4 50 rfl rfl ?_
          refine ws_iload_6 52 rfl rfl ?_
          refine ws_bipush 54 rfl rfl kc_b115 ?_
          refine ws_icmp_nen 62 57 rfl rfl rfl (by omega) (by omega) (fun h9 => absurd h9 (by omega)) (fun h9 => ?_)
          refine ws_iload_2 58 rfl rfl ?_
          refine ws_i2l 59 rfl rfl (nI_l (by omega)) ?_
          refine ws_goto 93 rfl rfl ?_
          exact fin _ (by rw [q]; rfl)
        · refine ws_iload_5 20 rfl rfl ?_
          refine ws_bipush 22 rfl rfl kc_b15 ?_
          refine ws_iload_1 23 rfl rfl ?_
          refine ws_imul 24 rfl rfl (pk_mul _ _) ?_
          refine ws_icmp_ltn 200 27 rfl rfl rfl (by omega) (by omega) (fun h9 => absurd h9 (by omega)) (fun h9 => ?_)
          refine ws_aload_0 28 rfl rfl ?_
          refine ws_getfr 31 rfl rfl rfl rfl rfl ?_
          refine ws_iload_5 33 rfl rfl ?_
          refine ws_ialdn 34 rfl rfl rfl (by omega) (by omega) htx ?_
          refine ws_istore_6 36 rfl rfl rfl rfl ?_
          refine ws_iload_6 38 rfl rfl ?_
          refine ws_invS1p 41 rfl rfl rfl (pp) rfl rfl rfl ?_
          refine ws_if_nen 100 44 rfl rfl rfl (by omega) (fun h9 => absurd h9 (by omega)) (fun h9 => ?_)
          refine ws_aload_0 45 rfl rfl ?_
          refine ws_getfr 48 rfl rfl rfl rfl rfl ?_
          refine ws_iload_4 50 rfl rfl ?_
          refine ws_iload_6 52 rfl rfl ?_
          refine ws_bipush 54 rfl rfl kc_b115 ?_
          refine ws_icmp_nen 62 57 rfl rfl rfl (by omega) (by omega) (fun h9 => ?_) (fun h9 => absurd h9 (by omega))
          refine ws_iload_6 64 rfl rfl ?_
          refine ws_bipush 66 rfl rfl kc_b119 ?_
          refine ws_icmp_nen 74 69 rfl rfl rfl (by omega) (by omega) (fun h9 => absurd h9 (by omega)) (fun h9 => ?_)
          refine ws_iload_3 70 rfl rfl ?_
          refine ws_i2l 71 rfl rfl (nI_l (by omega)) ?_
          refine ws_goto 93 rfl rfl ?_
          exact fin _ (by rw [q]; rfl)
        · refine ws_iload_5 20 rfl rfl ?_
          refine ws_bipush 22 rfl rfl kc_b15 ?_
          refine ws_iload_1 23 rfl rfl ?_
          refine ws_imul 24 rfl rfl (pk_mul _ _) ?_
          refine ws_icmp_ltn 200 27 rfl rfl rfl (by omega) (by omega) (fun h9 => absurd h9 (by omega)) (fun h9 => ?_)
          refine ws_aload_0 28 rfl rfl ?_
          refine ws_getfr 31 rfl rfl rfl rfl rfl ?_
          refine ws_iload_5 33 rfl rfl ?_
          refine ws_ialdn 34 rfl rfl rfl (by omega) (by omega) htx ?_
          refine ws_istore_6 36 rfl rfl rfl rfl ?_
          refine ws_iload_6 38 rfl rfl ?_
          refine ws_invS1p 41 rfl rfl rfl (pp) rfl rfl rfl ?_
          refine ws_if_nen 100 44 rfl rfl rfl (by omega) (fun h9 => absurd h9 (by omega)) (fun h9 => ?_)
          refine ws_aload_0 45 rfl rfl ?_
          refine ws_getfr 48 rfl rfl rfl rfl rfl ?_
          refine ws_iload_4 50 rfl rfl ?_
          refine ws_iload_6 52 rfl rfl ?_
          refine ws_bipush 54 rfl rfl kc_b115 ?_
          refine ws_icmp_nen 62 57 rfl rfl rfl (by omega) (by omega) (fun h9 => ?_) (fun h9 => absurd h9 (by omega))
          refine ws_iload_6 64 rfl rfl ?_
          refine ws_bipush 66 rfl rfl kc_b119 ?_
          refine ws_icmp_nen 74 69 rfl rfl rfl (by omega) (by omega) (fun h9 => ?_) (fun h9 => absurd h9 (by omega))
          refine ws_iload_6 76 rfl rfl ?_
          refine ws_bipush 78 rfl rfl kc_b104 ?_
          refine ws_icmp_nen 87 81 rfl rfl rfl (by omega) (by omega) (fun h9 => absurd h9 (by omega)) (fun h9 => ?_)
          refine ws_ldc2 84 rfl rfl rfl (show (100 : Int64) = lN 100 from rfl) ?_
          refine ws_goto 93 rfl rfl ?_
          exact fin _ (by rw [q]; rfl)
        · refine ws_iload_5 20 rfl rfl ?_
          refine ws_bipush 22 rfl rfl kc_b15 ?_
          refine ws_iload_1 23 rfl rfl ?_
          refine ws_imul 24 rfl rfl (pk_mul _ _) ?_
          refine ws_icmp_ltn 200 27 rfl rfl rfl (by omega) (by omega) (fun h9 => absurd h9 (by omega)) (fun h9 => ?_)
          refine ws_aload_0 28 rfl rfl ?_
          refine ws_getfr 31 rfl rfl rfl rfl rfl ?_
          refine ws_iload_5 33 rfl rfl ?_
          refine ws_ialdn 34 rfl rfl rfl (by omega) (by omega) htx ?_
          refine ws_istore_6 36 rfl rfl rfl rfl ?_
          refine ws_iload_6 38 rfl rfl ?_
          refine ws_invS1p 41 rfl rfl rfl (pp) rfl rfl rfl ?_
          refine ws_if_nen 100 44 rfl rfl rfl (by omega) (fun h9 => absurd h9 (by omega)) (fun h9 => ?_)
          refine ws_aload_0 45 rfl rfl ?_
          refine ws_getfr 48 rfl rfl rfl rfl rfl ?_
          refine ws_iload_4 50 rfl rfl ?_
          refine ws_iload_6 52 rfl rfl ?_
          refine ws_bipush 54 rfl rfl kc_b115 ?_
          refine ws_icmp_nen 62 57 rfl rfl rfl (by omega) (by omega) (fun h9 => ?_) (fun h9 => absurd h9 (by omega))
          refine ws_iload_6 64 rfl rfl ?_
          refine ws_bipush 66 rfl rfl kc_b119 ?_
          refine ws_icmp_nen 74 69 rfl rfl rfl (by omega) (by omega) (fun h9 => ?_) (fun h9 => absurd h9 (by omega))
          refine ws_iload_6 76 rfl rfl ?_
          refine ws_bipush 78 rfl rfl kc_b104 ?_
          refine ws_icmp_nen 87 81 rfl rfl rfl (by omega) (by omega) (fun h9 => ?_) (fun h9 => absurd h9 (by omega))
          refine ws_iload_6 89 rfl rfl ?_
          refine ws_bipush 91 rfl rfl kc_b48 ?_
          refine ws_isub 92 rfl rfl (pk_sub (by omega)) ?_
          refine ws_i2l 93 rfl rfl (nI_l (by omega)) ?_
          exact fin _ (by unfold av; rw [if_neg (by omega), if_neg (by omega), if_neg (by omega)])
      | true =>
        rw [hj, jn_al hj] at pp
        obtain ⟨a, b, r, e1, e2⟩ := evl_2 (s := s) (w := w) hok (show k < n by omega) (by rw [hx]; exact hj)
        rw [hx] at e2
        have e3 : (evl t n s w k).length = r.length + 2 := by rw [e1]; rfl
        have e4 : (evl t n s w (k + 1)).length = r.length + 2 - 1 := by rw [e2]; rfl
        rw [e1] at hr
        have v1 : L' 55 (r.length + 2 - 1) = a := rel_top hr
        have v2 : L' 55 (r.length + 2 - 2) = b := rel_top (rel_tail hr)
        rw [e3]
        rw [e3] at hlk
        have fin : ∀ y : Int64, y = jv (t x) a b → xW E 3 103 190 [some (.ref 42), some (.int (nI wh)), some (.int (nI s)), some (.int (nI w)), some (.int (nI (r.length + 2))), some (.int (nI (15 * wh + x))), some (.int (nI (t x))), some (.long a), none, some (.long b), none] [.long y, .int (nI (r.length + 2 - 2)), .ref 55] (xS, I, L') 0 0 (fun r u => r = some (.int (nI (lwv t n s w))) ∧ ∃ L', u = (xS, I, L') ∧ ∀ a, a ≠ 55 → L' a = L a) := by
          intro y hy
          refine ws_lastn 191 rfl rfl rfl (by omega) (by omega) ?_
          refine ws_iinc_4 194 rfl rfl (ki_m1 (by omega)) rfl rfl ?_
          refine ws_forget 6 _ rfl ?_
          refine ws_forget 7 _ rfl ?_
          refine ws_forget 9 _ rfl ?_
          refine ws_iinc_5 197 rfl rfl (li_dec _) rfl rfl ?_
          refine ws_goto 18 rfl rfl ?_
          rw [← e4]; refine ih (k + 1) _ (by omega) (fun a ha => by rw [wL_ne ha]; exact hf a ha) ?_
          rw [e2, ← hy]
          exact rel_push (rel_tail (rel_tail hr))
        rcases jn_4 hj with q | q | q | q
        · refine ws_iload_5 20 rfl rfl ?_
          refine ws_bipush 22 rfl rfl kc_b15 ?_
          refine ws_iload_1 23 rfl rfl ?_
          refine ws_imul 24 rfl rfl (pk_mul _ _) ?_
          refine ws_icmp_ltn 200 27 rfl rfl rfl (by omega) (by omega) (fun h9 => absurd h9 (by omega)) (fun h9 => ?_)
          refine ws_aload_0 28 rfl rfl ?_
          refine ws_getfr 31 rfl rfl rfl rfl rfl ?_
          refine ws_iload_5 33 rfl rfl ?_
          refine ws_ialdn 34 rfl rfl rfl (by omega) (by omega) htx ?_
          refine ws_istore_6 36 rfl rfl rfl rfl ?_
          refine ws_iload_6 38 rfl rfl ?_
          refine ws_invS1p 41 rfl rfl rfl (pp) rfl rfl rfl ?_
          refine ws_if_nen 100 44 rfl rfl rfl (by omega) (fun h9 => ?_) (fun h9 => absurd h9 (by omega))
          refine ws_aload_0 101 rfl rfl ?_
          refine ws_getfr 104 rfl rfl rfl rfl rfl ?_
          refine ws_iload_4 106 rfl rfl ?_
          refine ws_iconst 107 rfl rfl kc_i1 ?_
          refine ws_isub 108 rfl rfl (pk_sub (by omega)) ?_
          refine ws_laldn 109 rfl rfl rfl (by omega) (by omega) v1 ?_
          refine ws_lstore_7 111 rfl rfl rfl rfl ?_
          refine ws_aload_0 112 rfl rfl ?_
          refine ws_getfr 115 rfl rfl rfl rfl rfl ?_
          refine ws_iload_4 117 rfl rfl ?_
          refine ws_iconst 118 rfl rfl kc_i2 ?_
          refine ws_isub 119 rfl rfl (pk_sub (by omega)) ?_
          refine ws_laldn 120 rfl rfl rfl (by omega) (by omega) v2 ?_
          refine ws_lstore_9 122 rfl rfl rfl rfl ?_
          refine ws_aload_0 123 rfl rfl ?_
          refine ws_getfr 126 rfl rfl rfl rfl rfl ?_
          refine ws_iload_4 128 rfl rfl ?_
          refine ws_iconst 129 rfl rfl kc_i2 ?_
          refine ws_isub 130 rfl rfl (pk_sub (by omega)) ?_
          refine ws_iload_6 132 rfl rfl ?_
          refine ws_bipush 134 rfl rfl kc_b43 ?_
          refine ws_icmp_nen 145 137 rfl rfl rfl (by omega) (by omega) (fun h9 => absurd h9 (by omega)) (fun h9 => ?_)
          refine ws_lload_7 139 rfl rfl ?_
          refine ws_lload_9 141 rfl rfl ?_
          refine ws_ladd 142 rfl rfl rfl ?_
          refine ws_goto 190 rfl rfl ?_
          exact fin _ (by rw [q]; rfl)
        · refine ws_iload_5 20 rfl rfl ?_
          refine ws_bipush 22 rfl rfl kc_b15 ?_
          refine ws_iload_1 23 rfl rfl ?_
          refine ws_imul 24 rfl rfl (pk_mul _ _) ?_
          refine ws_icmp_ltn 200 27 rfl rfl rfl (by omega) (by omega) (fun h9 => absurd h9 (by omega)) (fun h9 => ?_)
          refine ws_aload_0 28 rfl rfl ?_
          refine ws_getfr 31 rfl rfl rfl rfl rfl ?_
          refine ws_iload_5 33 rfl rfl ?_
          refine ws_ialdn 34 rfl rfl rfl (by omega) (by omega) htx ?_
          refine ws_istore_6 36 rfl rfl rfl rfl ?_
          refine ws_iload_6 38 rfl rfl ?_
          refine ws_invS1p 41 rfl rfl rfl (pp) rfl rfl rfl ?_
          refine ws_if_nen 100 44 rfl rfl rfl (by omega) (fun h9 => ?_) (fun h9 => absurd h9 (by omega))
          refine ws_aload_0 101 rfl rfl ?_
          refine ws_getfr 104 rfl rfl rfl rfl rfl ?_
          refine ws_iload_4 106 rfl rfl ?_
          refine ws_iconst 107 rfl rfl kc_i1 ?_
          refine ws_isub 108 rfl rfl (pk_sub (by omega)) ?_
          refine ws_laldn 109 rfl rfl rfl (by omega) (by omega) v1 ?_
          refine ws_lstore_7 111 rfl rfl rfl rfl ?_
          refine ws_aload_0 112 rfl rfl ?_
          refine ws_getfr 115 rfl rfl rfl rfl rfl ?_
          refine ws_iload_4 117 rfl rfl ?_
          refine ws_iconst 118 rfl rfl kc_i2 ?_
          refine ws_isub 119 rfl rfl (pk_sub (by omega)) ?_
          refine ws_laldn 120 rfl rfl rfl (by omega) (by omega) v2 ?_
          refine ws_lstore_9 122 rfl rfl rfl rfl ?_
          refine ws_aload_0 123 rfl rfl ?_
          refine ws_getfr 126 rfl rfl rfl rfl rfl ?_
          refine ws_iload_4 128 rfl rfl ?_
          refine ws_iconst 129 rfl rfl kc_i2 ?_
          refine ws_isub 130 rfl rfl (pk_sub (by omega)) ?_
          refine ws_iload_6 132 rfl rfl ?_
          refine ws_bipush 134 rfl rfl kc_b43 ?_
          refine ws_icmp_nen 145 137 rfl rfl rfl (by omega) (by omega) (fun h9 => ?_) (fun h9 => absurd h9 (by omega))
          refine ws_iload_6 147 rfl rfl ?_
          refine ws_bipush 149 rfl rfl kc_b45 ?_
          refine ws_icmp_nen 160 152 rfl rfl rfl (by omega) (by omega) (fun h9 => absurd h9 (by omega)) (fun h9 => ?_)
          refine ws_lload_7 154 rfl rfl ?_
          refine ws_lload_9 156 rfl rfl ?_
          refine ws_lsub 157 rfl rfl rfl ?_
          refine ws_goto 190 rfl rfl ?_
          exact fin _ (by rw [q]; rfl)
        · refine ws_iload_5 20 rfl rfl ?_
          refine ws_bipush 22 rfl rfl kc_b15 ?_
          refine ws_iload_1 23 rfl rfl ?_
          refine ws_imul 24 rfl rfl (pk_mul _ _) ?_
          refine ws_icmp_ltn 200 27 rfl rfl rfl (by omega) (by omega) (fun h9 => absurd h9 (by omega)) (fun h9 => ?_)
          refine ws_aload_0 28 rfl rfl ?_
          refine ws_getfr 31 rfl rfl rfl rfl rfl ?_
          refine ws_iload_5 33 rfl rfl ?_
          refine ws_ialdn 34 rfl rfl rfl (by omega) (by omega) htx ?_
          refine ws_istore_6 36 rfl rfl rfl rfl ?_
          refine ws_iload_6 38 rfl rfl ?_
          refine ws_invS1p 41 rfl rfl rfl (pp) rfl rfl rfl ?_
          refine ws_if_nen 100 44 rfl rfl rfl (by omega) (fun h9 => ?_) (fun h9 => absurd h9 (by omega))
          refine ws_aload_0 101 rfl rfl ?_
          refine ws_getfr 104 rfl rfl rfl rfl rfl ?_
          refine ws_iload_4 106 rfl rfl ?_
          refine ws_iconst 107 rfl rfl kc_i1 ?_
          refine ws_isub 108 rfl rfl (pk_sub (by omega)) ?_
          refine ws_laldn 109 rfl rfl rfl (by omega) (by omega) v1 ?_
          refine ws_lstore_7 111 rfl rfl rfl rfl ?_
          refine ws_aload_0 112 rfl rfl ?_
          refine ws_getfr 115 rfl rfl rfl rfl rfl ?_
          refine ws_iload_4 117 rfl rfl ?_
          refine ws_iconst 118 rfl rfl kc_i2 ?_
          refine ws_isub 119 rfl rfl (pk_sub (by omega)) ?_
          refine ws_laldn 120 rfl rfl rfl (by omega) (by omega) v2 ?_
          refine ws_lstore_9 122 rfl rfl rfl rfl ?_
          refine ws_aload_0 123 rfl rfl ?_
          refine ws_getfr 126 rfl rfl rfl rfl rfl ?_
          refine ws_iload_4 128 rfl rfl ?_
          refine ws_iconst 129 rfl rfl kc_i2 ?_
          refine ws_isub 130 rfl rfl (pk_sub (by omega)) ?_
          refine ws_iload_6 132 rfl rfl ?_
          refine ws_bipush 134 rfl rfl kc_b43 ?_
          refine ws_icmp_nen 145 137 rfl rfl rfl (by omega) (by omega) (fun h9 => ?_) (fun h9 => absurd h9 (by omega))
          refine ws_iload_6 147 rfl rfl ?_
          refine ws_bipush 149 rfl rfl kc_b45 ?_
          refine ws_icmp_nen 160 152 rfl rfl rfl (by omega) (by omega) (fun h9 => ?_) (fun h9 => absurd h9 (by omega))
          refine ws_iload_6 162 rfl rfl ?_
          refine ws_bipush 164 rfl rfl kc_b42 ?_
          refine ws_icmp_nen 175 167 rfl rfl rfl (by omega) (by omega) (fun h9 => absurd h9 (by omega)) (fun h9 => ?_)
          refine ws_lload_7 169 rfl rfl ?_
          refine ws_lload_9 171 rfl rfl ?_
          refine ws_lmul 172 rfl rfl rfl ?_
          refine ws_goto 190 rfl rfl ?_
          exact fin _ (by rw [q]; rfl)
        · have ej : jv (t x) a b = if a < b then a else b := by rw [mn_lt, q]; rfl
          refine ws_iload_5 20 rfl rfl ?_
          refine ws_bipush 22 rfl rfl kc_b15 ?_
          refine ws_iload_1 23 rfl rfl ?_
          refine ws_imul 24 rfl rfl (pk_mul _ _) ?_
          refine ws_icmp_ltn 200 27 rfl rfl rfl (by omega) (by omega) (fun h9 => absurd h9 (by omega)) (fun h9 => ?_)
          refine ws_aload_0 28 rfl rfl ?_
          refine ws_getfr 31 rfl rfl rfl rfl rfl ?_
          refine ws_iload_5 33 rfl rfl ?_
          refine ws_ialdn 34 rfl rfl rfl (by omega) (by omega) htx ?_
          refine ws_istore_6 36 rfl rfl rfl rfl ?_
          refine ws_iload_6 38 rfl rfl ?_
          refine ws_invS1p 41 rfl rfl rfl (pp) rfl rfl rfl ?_
          refine ws_if_nen 100 44 rfl rfl rfl (by omega) (fun h9 => ?_) (fun h9 => absurd h9 (by omega))
          refine ws_aload_0 101 rfl rfl ?_
          refine ws_getfr 104 rfl rfl rfl rfl rfl ?_
          refine ws_iload_4 106 rfl rfl ?_
          refine ws_iconst 107 rfl rfl kc_i1 ?_
          refine ws_isub 108 rfl rfl (pk_sub (by omega)) ?_
          refine ws_laldn 109 rfl rfl rfl (by omega) (by omega) v1 ?_
          refine ws_lstore_7 111 rfl rfl rfl rfl ?_
          refine ws_aload_0 112 rfl rfl ?_
          refine ws_getfr 115 rfl rfl rfl rfl rfl ?_
          refine ws_iload_4 117 rfl rfl ?_
          refine ws_iconst 118 rfl rfl kc_i2 ?_
          refine ws_isub 119 rfl rfl (pk_sub (by omega)) ?_
          refine ws_laldn 120 rfl rfl rfl (by omega) (by omega) v2 ?_
          refine ws_lstore_9 122 rfl rfl rfl rfl ?_
          refine ws_aload_0 123 rfl rfl ?_
          refine ws_getfr 126 rfl rfl rfl rfl rfl ?_
          refine ws_iload_4 128 rfl rfl ?_
          refine ws_iconst 129 rfl rfl kc_i2 ?_
          refine ws_isub 130 rfl rfl (pk_sub (by omega)) ?_
          refine ws_iload_6 132 rfl rfl ?_
          refine ws_bipush 134 rfl rfl kc_b43 ?_
          refine ws_icmp_nen 145 137 rfl rfl rfl (by omega) (by omega) (fun h9 => ?_) (fun h9 => absurd h9 (by omega))
          refine ws_iload_6 147 rfl rfl ?_
          refine ws_bipush 149 rfl rfl kc_b45 ?_
          refine ws_icmp_nen 160 152 rfl rfl rfl (by omega) (by omega) (fun h9 => ?_) (fun h9 => absurd h9 (by omega))
          refine ws_iload_6 162 rfl rfl ?_
          refine ws_bipush 164 rfl rfl kc_b42 ?_
          refine ws_icmp_nen 175 167 rfl rfl rfl (by omega) (by omega) (fun h9 => ?_) (fun h9 => absurd h9 (by omega))
          refine ws_lload_7 177 rfl rfl ?_
          refine ws_lload_9 179 rfl rfl ?_
          refine ws_lcmp 180 rfl rfl ?_
          refine ws_lc_ge 188 183 rfl rfl rfl (fun c1 => ?_) (fun c1 => ?_)
          · refine ws_lload_9 190 rfl rfl ?_
            exact fin _ (by rw [ej, if_neg (Int64.not_lt.mpr c1)])
          · refine ws_lload_7 185 rfl rfl ?_
            refine ws_goto 190 rfl rfl ?_
            exact fin _ (by rw [ej, if_pos (Int64.not_le.mp c1)])
  have e0 := li_sub (15 * wh + n)
  refine ws_iconst 1 rfl rfl kc_i0 ?_
  refine ws_istore_4 3 rfl rfl rfl rfl ?_
  refine ws_bipush 5 rfl rfl kc_b15 ?_
  refine ws_iload_1 6 rfl rfl ?_
  refine ws_imul 7 rfl rfl (pk_mul _ _) ?_
  refine ws_aload_0 8 rfl rfl ?_
  refine ws_getfr 11 rfl rfl rfl rfl rfl ?_
  refine ws_iload_1 12 rfl rfl ?_
  refine ws_ialdn 13 rfl rfl rfl (by omega) (by omega) hn ?_
  refine ws_iadd 14 rfl rfl (nI_add _ _) ?_
  refine ws_iconst 15 rfl rfl kc_i1 ?_
  refine ws_isub 16 rfl rfl e0 ?_
  refine ws_istore_5 18 rfl rfl rfl rfl ?_
  exact loop n 0 L (by omega) (fun _ _ => rfl) (rel_nil _)
theorem m_layLaws {t0 t1 : Nat → Nat} {n0 n1 : Nat} (ok0 : okL t0 n0) (ok1 : okL t1 n1) (hn0 : I 48 0 = nI n0) (hn1 : I 48 1 = nI n1) (ht0 : ∀ i, i < n0 → I 49 (15 * 0 + i) = nI (t0 i)) (ht1 : ∀ i, i < n1 → I 49 (15 * 1 + i) = nI (t1 i)) : xC E 4 111 [.ref 42] (xS, I, L) (fun r u => r = none ∧ ∃ I' L', u = (xS, I', L') ∧ (∀ a, a ≠ 58 → a ≠ 59 → I' a = I a) ∧ (∀ a, a ≠ 55 → L' a = L a) ∧ (∀ j, j < 12 → I' 58 j = nI (lwv t0 n0 (j / 2) (j % 2))) ∧ ∀ j, j < 12 → I' 59 j = nI (lwv t1 n1 (j / 2) (j % 2))) := by
  refine xC.mk [some (.ref 42), none, none] rfl ?_
  have loop : ∀ (m k : Nat) (I' : Nat → Nat → Int32) (L' : Nat → Nat → Int64), k + m = 12 → (∀ a, a ≠ 58 → a ≠ 59 → I' a = I a) → (∀ a, a ≠ 55 → L' a = L a) → (∀ j, j < k → I' 58 j = nI (lwv t0 n0 (j / 2) (j % 2))) → (∀ j, j < k → I' 59 j = nI (lwv t1 n1 (j / 2) (j % 2))) → (k % 2 = 0 → ∀ z : Option Value, xW E 4 111 2 [some (.ref 42), some (.int (nI (k / 2))), z] [] (xS, I', L') 0 0 (fun r u => r = none ∧ ∃ I' L', u = (xS, I', L') ∧ (∀ a, a ≠ 58 → a ≠ 59 → I' a = I a) ∧ (∀ a, a ≠ 55 → L' a = L a) ∧ (∀ j, j < 12 → I' 58 j = nI (lwv t0 n0 (j / 2) (j % 2))) ∧ ∀ j, j < 12 → I' 59 j = nI (lwv t1 n1 (j / 2) (j % 2)))) ∧ (k % 2 = 1 → xW E 4 111 10 [some (.ref 42), some (.int (nI (k / 2))), some (.int (nI 1))] [] (xS, I', L') 0 0 (fun r u => r = none ∧ ∃ I' L', u = (xS, I', L') ∧ (∀ a, a ≠ 58 → a ≠ 59 → I' a = I a) ∧ (∀ a, a ≠ 55 → L' a = L a) ∧ (∀ j, j < 12 → I' 58 j = nI (lwv t0 n0 (j / 2) (j % 2))) ∧ ∀ j, j < 12 → I' 59 j = nI (lwv t1 n1 (j / 2) (j % 2)))) := by
    intro m
    induction m with
    | zero =>
      intro k I' L' hk hf hl h58 h59
      obtain rfl : k = 12 := by omega
      refine ⟨fun _ z => ?_, fun h => by omega⟩
      show xW E 4 111 2 [some (.ref 42), some (.int (nI 6)), z] [] (xS, I', L') 0 0 _
      refine ws_iload_1 3 rfl rfl ?_
      refine ws_bipush 5 rfl rfl kc_b6 ?_
      refine ws_icmp_gen 61 8 rfl rfl rfl (by omega) (by omega) (fun h9 => ?_) (fun h9 => absurd h9 (by omega))
      refine ws_vret rfl rfl rfl (Nat.le_of_ble_eq_true rfl) ?_
      exact ⟨rfl, I', L', rfl, hf, hl, h58, h59⟩
    | succ m ih =>
      intro k I' L' hk hf hl h58 h59
      have body : ∀ v : Nat, v = k % 2 → xW E 4 111 10 [some (.ref 42), some (.int (nI (k / 2))), some (.int (nI v))] [] (xS, I', L') 0 0 (fun r u => r = none ∧ ∃ I' L', u = (xS, I', L') ∧ (∀ a, a ≠ 58 → a ≠ 59 → I' a = I a) ∧ (∀ a, a ≠ 55 → L' a = L a) ∧ (∀ j, j < 12 → I' 58 j = nI (lwv t0 n0 (j / 2) (j % 2))) ∧ ∀ j, j < 12 → I' 59 j = nI (lwv t1 n1 (j / 2) (j % 2))) := by
        intro v hv
        have ek : 2 * (k / 2) + v = k := by omega
        refine ws_iload_2 11 rfl rfl ?_
        refine ws_iconst 12 rfl rfl kc_i2 ?_
        refine ws_icmp_gen 55 15 rfl rfl rfl (by omega) (by omega) (fun h9 => absurd h9 (by omega)) (fun h9 => ?_)
        refine ws_aload_0 16 rfl rfl ?_
        refine ws_getfr 19 rfl rfl rfl rfl rfl ?_
        refine ws_iconst 20 rfl rfl kc_i2 ?_
        refine ws_iload_1 21 rfl rfl ?_
        refine ws_imul 22 rfl rfl (pk_mul _ _) ?_
        refine ws_iload_2 23 rfl rfl ?_
        refine ws_iadd 24 rfl rfl (nI_add _ _) ?_
        refine ws_aload_0 25 rfl rfl ?_
        refine ws_iconst 26 rfl rfl kc_i0 ?_
        refine ws_iload_1 27 rfl rfl ?_
        refine ws_iload_2 28 rfl rfl ?_
        rw [ek]
        refine ws_invV3 31 rfl rfl rfl rfl (m_saysOf (t := t0) (n := n0) 0 (k / 2) v (by omega) (by omega) (by omega) ok0 (by rw [hf 48 (by decide) (by decide)]; exact hn0) (fun i hi => by rw [hf 49 (by decide) (by decide)]; exact ht0 i hi)) rfl rfl rfl ?_
        rintro _ _ ⟨rfl, L2, rfl, hl2⟩
        refine ws_iastn 32 rfl rfl rfl (by omega) (by omega) ?_
        refine ws_aload_0 33 rfl rfl ?_
        refine ws_getfr 36 rfl rfl rfl rfl rfl ?_
        refine ws_iconst 37 rfl rfl kc_i2 ?_
        refine ws_iload_1 38 rfl rfl ?_
        refine ws_imul 39 rfl rfl (pk_mul _ _) ?_
        refine ws_iload_2 40 rfl rfl ?_
        refine ws_iadd 41 rfl rfl (nI_add _ _) ?_
        refine ws_aload_0 42 rfl rfl ?_
        refine ws_iconst 43 rfl rfl kc_i1 ?_
        refine ws_iload_1 44 rfl rfl ?_
        refine ws_iload_2 45 rfl rfl ?_
        rw [ek]
        refine ws_invV3 48 rfl rfl rfl rfl (m_saysOf (t := t1) (n := n1) 1 (k / 2) v (by omega) (by omega) (by omega) ok1 (by rw [wI_ne (by decide), hf 48 (by decide) (by decide)]; exact hn1) (fun i hi => by rw [wI_ne (by decide), hf 49 (by decide) (by decide)]; exact ht1 i hi)) rfl rfl rfl ?_
        rintro _ _ ⟨rfl, L3, rfl, hl3⟩
        have nx := ih (k + 1) (wI (wI I' 58 k (nI (lwv t0 n0 (k / 2) v))) 59 k (nI (lwv t1 n1 (k / 2) v))) L3 (by omega) (fun a a1 a2 => by rw [wI_ne a2, wI_ne a1]; exact hf a a1 a2) (fun a ha => by rw [hl3 a ha, hl2 a ha]; exact hl a ha) (fl (g := fun j => nI (lwv t0 n0 (j / 2) (j % 2))) h58 (by rw [hv])) (fl (g := fun j => nI (lwv t1 n1 (j / 2) (j % 2))) h59 (by rw [hv]))
        rcases (show v = 0 ∨ v = 1 by omega) with rfl | rfl
        · have nx2 := nx.2 (by omega)
          rw [show (k + 1) / 2 = k / 2 by omega] at nx2
          refine ws_iastn 49 rfl rfl rfl (by omega) (by omega) ?_
          refine ws_iinc_2 52 rfl rfl (ki_1 _) rfl rfl ?_
          refine ws_goto 10 rfl rfl ?_
          exact nx2
        · have nx1 := nx.1 (by omega) (some (.int (nI 2)))
          rw [show (k + 1) / 2 = k / 2 + 1 by omega] at nx1
          refine ws_iastn 49 rfl rfl rfl (by omega) (by omega) ?_
          refine ws_iinc_2 52 rfl rfl (ki_1 _) rfl rfl ?_
          refine ws_goto 10 rfl rfl ?_
          refine ws_iload_2 11 rfl rfl ?_
          refine ws_iconst 12 rfl rfl kc_i2 ?_
          refine ws_icmp_gen 55 15 rfl rfl rfl (by omega) (by omega) (fun h9 => ?_) (fun h9 => absurd h9 (by omega))
          refine ws_iinc_1 58 rfl rfl (ki_1 _) rfl rfl ?_
          refine ws_goto 2 rfl rfl ?_
          exact nx1
      refine ⟨fun h z => ?_, fun h => body 1 h.symm⟩
      refine ws_iload_1 3 rfl rfl ?_
      refine ws_bipush 5 rfl rfl kc_b6 ?_
      refine ws_icmp_gen 61 8 rfl rfl rfl (by omega) (by omega) (fun h9 => absurd h9 (by omega)) (fun h9 => ?_)
      refine ws_iconst 9 rfl rfl kc_i0 ?_
      refine ws_istore_2 10 rfl rfl rfl rfl ?_
      exact body 0 h.symm
  refine ws_iconst 1 rfl rfl kc_i0 ?_
  refine ws_istore_1 2 rfl rfl rfl rfl ?_
  exact (loop 12 0 I L rfl (fun _ _ _ => rfl) (fun _ _ => rfl) (fun _ h => by omega) (fun _ h => by omega)).1 rfl none
end LAWS
