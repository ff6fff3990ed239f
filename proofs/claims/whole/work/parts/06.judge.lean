/-! ===== the judgement: a method of the small machine, anywhere, comes to its end with Q ===== -/
def xnst : Cond → Bool
  | .methodLinkNest _ _ _ _ => true
  | .fieldLinkNest _ _ _ _ _ _ => true
  | _ => false
def xNst : List Cond := lw_tbl.filter xnst
theorem xNst_at {i : Nat} {w : Cond} (h : lw_tbl[i]? = some w) (hg : xnst w = true) : w ∈ xNst := List.mem_filter.mpr ⟨List.mem_of_getElem? h, hg⟩
/-- what lies outside: the script and the static arrays, as they were; the nest's links -/
def xExt (E : xEx) (base : Nat) (ad : Nat → Nat) (U : State) (H : Heap) : Prop :=
  (∀ (i N : Nat) (f : Nat → Int32), E i = some (N, f) → va_T .int (ad (1000 + i)) N (fun j => .int (f j)) (fun q => base ≤ q) U H) ∧
  (∀ e, e < 5 → va_Z "ShopWindow" (xsn e) "[I" (.ref (ad (1001 + e))) (fun q => base ≤ q) U H) ∧
  (∀ w ∈ xNst, va_Nw w U) ∧ va_AO "ShopWindow$Scene" U
def xCtx (E : xEx) (d mi base : Nat) (ad : Nat → Nat) (cA : FieldType → ClassId) (D : va_G) (p : Program) (R : Room) (s : State) (m : MethodId) (args : Array Value) (meth : Method) (c : Code) : Prop :=
  (mi < 145 ∧ p.tables.exec = Jvm.exec ∧ c.code = xCC mi ∧ c.maxLocals = xML mi ∧ s.vm.findClass (xRo (xOW mi)) = some m.cls) ∧
  ((∀ w ∈ xTbl, w.before args s = true) ∧ va_K D vwCl (xtys cA) s ∧ xExt E base ad s s.heap) ∧
  ((xIN mi = true → meth.name = "<init>") ∧ R.cells = xBC mi ∧ R.slots = xBS mi ∧ d ≤ R.frames ∧ 60 * d ≤ R.locals) ∧
  (base ≤ s.heap.size ∧ ∀ k, k < 1000 → ad k = base + k)
def xInv (base : Nat) (ad : Nat → Nat) (cA : FieldType → ClassId) (D : va_G) (s : State) (σ : xMem) (k : Nat) (H : Heap) (locs : List Loc) : Prop :=
  (s.heap.size + k = base + σ.1.length ∧ σ.1.length ≤ 1000) ∧ va_P D vwCl (xconc ad cA σ) H ∧ va_S (fun q => base ≤ q) s.heap H locs
/-- locals: by place; none: not known -/
abbrev xLv : Type := List (Option Value)
def xlv (ad : Nat → Nat) : Nat → xLv → List (Nat × Value)
  | _, [] => []
  | i, none :: r => xlv ad (i + 1) r
  | i, some v :: r => (i, xtr ad v) :: xlv ad (i + 1) r
theorem xlv_mem {ad : Nat → Nat} : ∀ {l : xLv} {i : Nat} {z : Nat × Value}, z ∈ xlv ad i l → ∃ (j : Nat) (v : Value), l[j]? = some (some v) ∧ z = (i + j, xtr ad v)
  | [], _, _, h => by cases h
  | none :: r, i, z, h => by
    obtain ⟨j, v, h1, h2⟩ := xlv_mem (l := r) (i := i + 1) h
    exact ⟨j + 1, v, h1, by rw [h2, show i + 1 + j = i + (j + 1) by omega]⟩
  | some w :: r, i, z, h => by
    rcases List.mem_cons.mp h with h | h
    · exact ⟨0, w, rfl, h⟩
    · obtain ⟨j, v, h1, h2⟩ := xlv_mem (l := r) (i := i + 1) h
      exact ⟨j + 1, v, h1, by rw [h2, show i + 1 + j = i + (j + 1) by omega]⟩
theorem xlv_of {ad : Nat → Nat} : ∀ {l : xLv} {i j : Nat} {v : Value}, l[j]? = some (some v) → (i + j, xtr ad v) ∈ xlv ad i l
  | [], _, _, _, h => by cases h
  | none :: r, i, 0, v, h => by cases h
  | none :: r, i, j + 1, v, h => by
    have := xlv_of (ad := ad) (l := r) (i := i + 1) (j := j) (v := v) h
    rw [show i + (j + 1) = i + 1 + j by omega]
    exact this
  | some w :: r, i, 0, v, h => by
    have e : w = v := by injection h with h; injection h
    rw [e]
    exact List.mem_cons_self
  | some w :: r, i, j + 1, v, h => by
    have := xlv_of (ad := ad) (l := r) (i := i + 1) (j := j) (v := v) h
    rw [show i + (j + 1) = i + 1 + j by omega]
    exact List.mem_cons_of_mem _ this
theorem xlv_at {ad : Nat → Nat} {l : xLv} {j : Nat} {v : Value} (h : l[j]? = some (some v)) : (j, xtr ad v) ∈ xlv ad 0 l := by
  have := xlv_of (ad := ad) (i := 0) h
  rwa [Nat.zero_add] at this
def xcat (v : Value) : Bool := match v with
  | .long _ => true
  | .double _ => true
  | _ => false
theorem xcat_of {v : Value} : (v.category == 2) = xcat v := by cases v <;> rfl
theorem xcat_tr (ad : Nat → Nat) (v : Value) : xcat (xtr ad v) = xcat v := by cases v <;> rfl
theorem xtr_cat (ad : Nat → Nat) (v : Value) : (xtr ad v).category = v.category := by cases v <;> rfl
/-- the place before: does a long lie there? -/
def xbef (l : xLv) (i : Nat) : Bool := match i with
  | 0 => false
  | j + 1 => match l[j]? with
    | some (some w) => xcat w
    | _ => false
theorem xlv_set {ad : Nat → Nat} {ls : Array Slot} {n i : Nat} {v : Value} {lv : xLv} (h : lv_has ls n ((i, xtr ad v) :: (xlv ad 0 lv).filter (fun z => !(z.1 == i) && !(z.1 + 1 == i && z.2.category == 2)))) (hb : xbef lv i = false) : lv_has ls n (xlv ad 0 (lv.set i (some v))) := by
  refine ⟨h.1, h.2.1, fun z hz => h.2.2 z ?_⟩
  obtain ⟨j, w, h1, rfl⟩ := xlv_mem hz
  rw [Nat.zero_add]
  by_cases hj : i = j
  · subst hj
    have hl : i < (lv.set i (some v)).length := (List.getElem?_eq_some_iff.mp h1).1
    rw [List.length_set] at hl
    rw [List.getElem?_set_self hl] at h1
    have e : v = w := by injection h1 with h1; injection h1
    rw [e]
    exact List.mem_cons_self
  · rw [List.getElem?_set_ne hj] at h1
    refine List.mem_cons_of_mem _ (List.mem_filter.mpr ⟨xlv_at h1, ?_⟩)
    rw [xcat_of, xcat_tr]
    have e1 : (j == i) = false := by simp; exact fun e => hj e.symm
    by_cases hk : j + 1 = i
    · subst hk
      unfold xbef at hb
      simp only [h1] at hb
      simp [hb]
    · simp [hk]
      exact fun e => hj e.symm
theorem xlv_set2 {ad : Nat → Nat} {ls : Array Slot} {n i : Nat} {v : Value} {lv : xLv} (h : lv_has ls n ((i, xtr ad v) :: (xlv ad 0 lv).filter (fun z => !(z.1 == i) && (!(z.1 == i + 1) && !(z.1 + 1 == i && z.2.category == 2))))) (hb : xbef lv i = false) : lv_has ls n (xlv ad 0 ((lv.set i (some v)).set (i + 1) none)) := by
  refine ⟨h.1, h.2.1, fun z hz => h.2.2 z ?_⟩
  obtain ⟨j, w, h1, rfl⟩ := xlv_mem hz
  rw [Nat.zero_add]
  have hj1 : ¬ i + 1 = j := by
    intro e
    subst e
    have hl : i + 1 < ((lv.set i (some v)).set (i + 1) none).length := (List.getElem?_eq_some_iff.mp h1).1
    rw [List.length_set] at hl
    rw [List.getElem?_set_self hl] at h1
    cases h1
  rw [List.getElem?_set_ne hj1] at h1
  by_cases hj : i = j
  · subst hj
    have hl : i < (lv.set i (some v)).length := (List.getElem?_eq_some_iff.mp h1).1
    rw [List.length_set] at hl
    rw [List.getElem?_set_self hl] at h1
    have e : v = w := by injection h1 with h1; injection h1
    rw [e]
    exact List.mem_cons_self
  · rw [List.getElem?_set_ne hj] at h1
    refine List.mem_cons_of_mem _ (List.mem_filter.mpr ⟨xlv_at h1, ?_⟩)
    rw [xcat_of, xcat_tr]
    by_cases hk : j + 1 = i
    · subst hk
      unfold xbef at hb
      simp only [h1] at hb
      simp [hb]
      omega
    · simp [hk]
      exact ⟨fun e => hj e.symm, fun e => hj1 e.symm⟩
def xargs : List Value → xLv
  | [] => []
  | v :: vs => bif xcat v then some v :: none :: xargs vs else some v :: xargs vs
def xpad : Nat → xLv → xLv
  | 0, l => l
  | n + 1, [] => none :: xpad n []
  | n + 1, a :: l => a :: xpad n l
theorem xpad_nil (ad : Nat → Nat) : ∀ (n i : Nat), xlv ad i (xpad n []) = []
  | 0, _ => rfl
  | n + 1, i => xpad_nil ad n (i + 1)
theorem xpad_lv (ad : Nat → Nat) : ∀ (n i : Nat) (l : xLv), xlv ad i (xpad n l) = xlv ad i l
  | 0, _, _ => rfl
  | n + 1, i, [] => xpad_nil ad n (i + 1)
  | n + 1, i, none :: l => xpad_lv ad n (i + 1) l
  | n + 1, i, some v :: l => by
    show (i, xtr ad v) :: xlv ad (i + 1) (xpad n l) = (i, xtr ad v) :: xlv ad (i + 1) l
    rw [xpad_lv ad n (i + 1) l]
theorem xargs_lv (ad : Nat → Nat) : ∀ (As : List Value) (i : Nat), lv_args i (As.map (xtr ad)) = xlv ad i (xargs As)
  | [], _ => rfl
  | v :: vs, i => by
    have e : (xtr ad v).category = v.category := xtr_cat ad v
    show (i, xtr ad v) :: lv_args (if (xtr ad v).category = 2 then i + 2 else i + 1) (vs.map (xtr ad)) = xlv ad i (bif xcat v then some v :: none :: xargs vs else some v :: xargs vs)
    rw [e]
    cases hc : xcat v with
    | true =>
      have h2 : v.category = 2 := by have := xcat_of (v := v); rw [hc] at this; exact beq_iff_eq.mp this
      rw [if_pos h2, xargs_lv ad vs (i + 2)]
      rfl
    | false =>
      have h2 : ¬ v.category = 2 := by have := xcat_of (v := v); rw [hc] at this; exact fun e => by rw [e] at this; cases this
      rw [if_neg h2, xargs_lv ad vs (i + 1)]
      rfl
theorem xargs_len (ad : Nat → Nat) : ∀ (As : List Value), (lg_sl (As.map (xtr ad))).length = (xargs As).length
  | [] => rfl
  | v :: vs => by
    have e : (xtr ad v).category = v.category := xtr_cat ad v
    have ih := xargs_len ad vs
    unfold lg_sl at ih ⊢
    rw [List.map_cons, List.flatMap_cons, List.length_append, ih, e]
    show _ = (bif xcat v then some v :: none :: xargs vs else some v :: xargs vs).length
    cases hc : xcat v with
    | true =>
      have h2 : v.category = 2 := by have := xcat_of (v := v); rw [hc] at this; exact beq_iff_eq.mp this
      rw [if_pos h2]
      simp; omega
    | false =>
      have h2 : ¬ v.category = 2 := by have := xcat_of (v := v); rw [hc] at this; exact fun e => by rw [e] at this; cases this
      rw [if_neg h2]
      simp; omega
def xRetAt (mi pc : Nat) (r : Option Value) : Prop := match r with
  | none => decode (xCC mi) pc = .ok (.return_, 1) ∧ xRT mi = none
  | some (.int v) => decode (xCC mi) pc = .ok (.ireturn, 1) ∧ (xRT mi = some .int ∨ (xRT mi = some .boolean ∧ (v = 0 ∨ v = 1)))
  | some (.long _) => decode (xCC mi) pc = .ok (.lreturn, 1) ∧ xRT mi = some .long
  | _ => False
def xEnd (mi base : Nat) (ad : Nat → Nat) (cA : FieldType → ClassId) (D : va_G) (p : Program) (l : Launch) (e : Env) (R : Room) (s : State) (m : MethodId) (args : Array Value) (below : List Frame) (meth : Method) (c : Code) (Qf : State → Prop) (Q : Option Value → xMem → Prop) : Prop :=
  ∀ (r : Option Value) (σ : xMem) (H : Heap) (locs : List Loc) (pc : Nat) (ls : Array Slot), Q r σ → xInv base ad cA D s σ (xBC mi) H locs → xRetAt mi pc r → W p l e R s m args below meth c H locs (xBC mi) (xBS mi) Qf (F0 m pc ls ((r.map (xtr ad)).toList))
def xW (E : xEx) (d mi pc : Nat) (lv : xLv) (st : List Value) (σ : xMem) (k q : Nat) (Q : Option Value → xMem → Prop) : Prop :=
  ∀ (base : Nat) (ad : Nat → Nat) (cA : FieldType → ClassId) (D : va_G) (l : Launch) (p : Program) (e : Env) (R : Room) (s : State) (m : MethodId) (args : Array Value) (below : List Frame) (meth : Method) (c : Code) (Qf : State → Prop) (H : Heap) (locs : List Loc) (ls : Array Slot),
    xCtx E d mi base ad cA D p R s m args meth c → xEnd mi base ad cA D p l e R s m args below meth c Qf Q → xInv base ad cA D s σ k H locs → lv_has ls (xML mi) (xlv ad 0 lv) →
    W p l e R s m args below meth c H locs k q Qf (F0 m pc ls (st.map (xtr ad)))
/-- a call of a method -/
def xC (E : xEx) (d mi : Nat) (As : List Value) (σ : xMem) (Q : Option Value → xMem → Prop) : Prop := xW E d mi 0 (xpad (xML mi) (xargs As)) [] σ 0 0 Q
theorem xC.mk {E : xEx} {d mi : Nat} {As : List Value} {σ : xMem} {Q : Option Value → xMem → Prop} (lv : xLv) (h : xpad (xML mi) (xargs As) = lv) (kk : xW E d mi 0 lv [] σ 0 0 Q) : xC E d mi As σ Q := by
  unfold xC
  rw [h]
  exact kk
theorem xdec {mi pc : Nat} {i : Instr × Nat} (h : xft mi pc = some i) : decode (xCC mi) pc = .ok i := by
  unfold xft at h
  cases hx : (xTB.getD mi [])[pc]? with
  | none => rw [hx] at h; cases h
  | some x =>
    rw [hx] at h
    exact xAt mi pc i (by rw [hx, show x = some i from h])
theorem xW.mono {E : xEx} {d mi pc : Nat} {lv : xLv} {st : List Value} {σ : xMem} {k q : Nat} {Q Q' : Option Value → xMem → Prop} (h : xW E d mi pc lv st σ k q Q) (hq : ∀ r t, Q r t → Q' r t) : xW E d mi pc lv st σ k q Q' :=
  fun base ad cA D l p e R s m args below meth c Qf H locs ls C hE hI hl => h base ad cA D l p e R s m args below meth c Qf H locs ls C (fun r σ H locs pc ls hr => hE r σ H locs pc ls (hq r σ hr)) hI hl
theorem xC.mono {E : xEx} {d mi : Nat} {As : List Value} {σ : xMem} {Q Q' : Option Value → xMem → Prop} (h : xC E d mi As σ Q) (hq : ∀ r t, Q r t → Q' r t) : xC E d mi As σ Q' := xW.mono h hq
theorem xW.deep {E : xEx} {d d' mi pc : Nat} {lv : xLv} {st : List Value} {σ : xMem} {k q : Nat} {Q : Option Value → xMem → Prop} (h : xW E d mi pc lv st σ k q Q) (hd : d ≤ d') : xW E d' mi pc lv st σ k q Q :=
  fun base ad cA D l p e R s m args below meth c Qf H locs ls C hE hI hl => h base ad cA D l p e R s m args below meth c Qf H locs ls ⟨C.1, C.2.1, ⟨C.2.2.1.1, C.2.2.1.2.1, C.2.2.1.2.2.1, Nat.le_trans hd C.2.2.1.2.2.2.1, Nat.le_trans (Nat.mul_le_mul_left 60 hd) C.2.2.1.2.2.2.2⟩, C.2.2.2⟩ hE hI hl
theorem xloc {ad : Nat → Nat} {lv : xLv} {ls : Array Slot} {n i : Nat} {v : Value} (hl : lv_has ls n (xlv ad 0 lv)) (h : lv[i]? = some (some v)) : ls[i]? = some (.val (xtr ad v)) := hl.2.2 (i, xtr ad v) (xlv_at h)
theorem ws_forget {E : xEx} {d mi pc : Nat} {lv : xLv} {st : List Value} {σ : xMem} {k q : Nat} {Q : Option Value → xMem → Prop} (i : Nat) (lv' : xLv) (h : lv.set i none = lv') (kk : xW E d mi pc lv' st σ k q Q) : xW E d mi pc lv st σ k q Q :=
  fun base ad cA D l p e R s m args below meth c Qf H locs ls C hE hI hl => kk base ad cA D l p e R s m args below meth c Qf H locs ls C hE hI ⟨hl.1, hl.2.1, fun z hz => hl.2.2 z (by
    obtain ⟨j, v, h1, rfl⟩ := xlv_mem hz
    rw [Nat.zero_add]
    refine xlv_at ?_
    rw [← h] at h1
    by_cases hj : i = j
    · subst hj
      have hl : i < (lv.set i none).length := (List.getElem?_eq_some_iff.mp h1).1
      rw [List.length_set] at hl
      rw [List.getElem?_set_self hl] at h1
      cases h1
    · rwa [List.getElem?_set_ne hj] at h1)⟩
/-- the memory: writing -/
def wI (I : Nat → Nat → Int32) (c j : Nat) (x : Int32) : Nat → Nat → Int32 := fun a => if a = c then upd (I a) j x else I a
def wL (L : Nat → Nat → Int64) (c j : Nat) (x : Int64) : Nat → Nat → Int64 := fun a => if a = c then vp_updL (L a) j x else L a
/-- a cell's row of numbers anew -/
def wR (I : Nat → Nat → Int32) (c : Nat) (f : Nat → Int32) : Nat → Nat → Int32 := fun a => if a = c then f else I a
def wRL (L : Nat → Nat → Int64) (c : Nat) (f : Nat → Int64) : Nat → Nat → Int64 := fun a => if a = c then f else L a
theorem xconc_at {ad : Nat → Nat} {cA : FieldType → ClassId} {S : List xSh} {I : Nat → Nat → Int32} {L : Nat → Nat → Int64} {c : Nat} {s : xSh} (h : S[c]? = some s) : (xconc ad cA (S, I, L))[c]? = some (ad c, xcell ad cA I L c s) := by
  simp [xconc, List.getElem?_mapIdx, h]
theorem xconc_len (ad : Nat → Nat) (cA : FieldType → ClassId) (σ : xMem) : (xconc ad cA σ).length = σ.1.length := by simp [xconc]
theorem xconc_wR {ad : Nat → Nat} {cA : FieldType → ClassId} {S : List xSh} {I : Nat → Nat → Int32} {L : Nat → Nat → Int64} {c : Nat} {s : xSh} (h : S[c]? = some s) (f : Nat → Int32) : xconc ad cA (S, wR I c f, L) = (xconc ad cA (S, I, L)).set c (ad c, xcell ad cA (wR I c f) L c s) := by
  apply List.ext_getElem?
  intro j
  by_cases hj : c = j
  · subst hj
    rw [List.getElem?_set_self (by rw [xconc_len]; exact (List.getElem?_eq_some_iff.mp h).1), xconc_at h]
  · rw [List.getElem?_set_ne hj]
    have e : ∀ (t : xSh), xcell ad cA (wR I c f) L j t = xcell ad cA I L j t := by
      intro t
      have e1 : wR I c f j = I j := by unfold wR; rw [if_neg (fun e => hj e.symm)]
      have e2 : (fun (k : Nat) (v : Value) => xtr ad (xfv (wR I c f) L j k v)) = (fun k v => xtr ad (xfv I L j k v)) := by
        funext k v
        cases v <;> simp [xfv, e1]
      rcases t with ⟨ty, n⟩ | ⟨ci, fs⟩ | vs
      · cases ty <;> simp [xcell, e1]
      · simp only [xcell, e2]
      · rfl
    simp only [xconc, List.getElem?_mapIdx, e]
theorem xconc_wRL {ad : Nat → Nat} {cA : FieldType → ClassId} {S : List xSh} {I : Nat → Nat → Int32} {L : Nat → Nat → Int64} {c : Nat} {s : xSh} (h : S[c]? = some s) (f : Nat → Int64) : xconc ad cA (S, I, wRL L c f) = (xconc ad cA (S, I, L)).set c (ad c, xcell ad cA I (wRL L c f) c s) := by
  apply List.ext_getElem?
  intro j
  by_cases hj : c = j
  · subst hj
    rw [List.getElem?_set_self (by rw [xconc_len]; exact (List.getElem?_eq_some_iff.mp h).1), xconc_at h]
  · rw [List.getElem?_set_ne hj]
    have e : ∀ (t : xSh), xcell ad cA I (wRL L c f) j t = xcell ad cA I L j t := by
      intro t
      have e1 : wRL L c f j = L j := by unfold wRL; rw [if_neg (fun e => hj e.symm)]
      have e2 : (fun (k : Nat) (v : Value) => xtr ad (xfv I (wRL L c f) j k v)) = (fun k v => xtr ad (xfv I L j k v)) := by
        funext k v
        cases v <;> simp [xfv, e1]
      rcases t with ⟨ty, n⟩ | ⟨ci, fs⟩ | vs
      · cases ty <;> simp [xcell, e1]
      · simp only [xcell, e2]
      · rfl
    simp only [xconc, List.getElem?_mapIdx, e]
theorem xconc_S {ad : Nat → Nat} {cA : FieldType → ClassId} {S : List xSh} {I : Nat → Nat → Int32} {L : Nat → Nat → Int64} {c : Nat} {s t : xSh} (h : S[c]? = some s) : xconc ad cA (S.set c t, I, L) = (xconc ad cA (S, I, L)).set c (ad c, xcell ad cA I L c t) := by
  apply List.ext_getElem?
  intro j
  have hc : c < S.length := (List.getElem?_eq_some_iff.mp h).1
  by_cases hj : c = j
  · subst hj
    rw [List.getElem?_set_self (by rw [xconc_len]; exact hc), xconc_at (by rw [List.getElem?_set_self hc])]
  · rw [List.getElem?_set_ne hj]
    simp only [xconc, List.getElem?_mapIdx, List.getElem?_set_ne hj]
theorem wI_R (I : Nat → Nat → Int32) (c j : Nat) (x : Int32) : wI I c j x = wR I c (upd (I c) j x) := by
  funext a
  unfold wI wR
  by_cases h : a = c
  · rw [if_pos h, if_pos h, h]
  · rw [if_neg h, if_neg h]
theorem wL_R (L : Nat → Nat → Int64) (c j : Nat) (x : Int64) : wL L c j x = wRL L c (vp_updL (L c) j x) := by
  funext a
  unfold wL wRL
  by_cases h : a = c
  · rw [if_pos h, if_pos h, h]
  · rw [if_neg h, if_neg h]
theorem wR_self (I : Nat → Nat → Int32) (c : Nat) (f : Nat → Int32) : wR I c f c = f := by unfold wR; rw [if_pos rfl]
theorem wRL_self (L : Nat → Nat → Int64) (c : Nat) (f : Nat → Int64) : wRL L c f c = f := by unfold wRL; rw [if_pos rfl]
theorem xD {base : Nat} {ad : Nat → Nat} {cA : FieldType → ClassId} {σ : xMem} (h : ∀ k, k < 1000 → ad k = base + k) (hl : σ.1.length ≤ 1000) : va_D (fun q => base ≤ q) (xconc ad cA σ) := by
  have e : ∀ (i : Nat) (z : Nat × va_E), (xconc ad cA σ)[i]? = some z → i < 1000 ∧ z.1 = base + i := by
    intro i z hz
    have hi : i < σ.1.length := by rw [← xconc_len ad cA σ]; exact (List.getElem?_eq_some_iff.mp hz).1
    have h9 : i < 1000 := Nat.lt_of_lt_of_le hi hl
    refine ⟨h9, ?_⟩
    simp only [xconc, List.getElem?_mapIdx, Option.map_eq_some_iff] at hz
    obtain ⟨s, -, rfl⟩ := hz
    exact h i h9
  refine ⟨fun i j x y hx hy he => ?_, fun k z hz => ?_⟩
  · have h1 := e i x hx
    have h2 := e j y hy
    omega
  · have h1 := e k z hz
    show base ≤ z.1
    omega
/-- how large the heap is: the machine's own book says it -/
theorem xsize {base : Nat} {ad : Nat → Nat} {cA : FieldType → ClassId} {D : va_G} {σ : xMem} {k q : Nat} {H : Heap} {locs locs' : List Loc} {p : Program} {l : Launch} {e : Env} {R : Room} {s : State} {m : MethodId} {args : Array Value} {below : List Frame} {meth : Method} {c : Code} {T : State} (hI : xInv base ad cA D s σ k H locs) (hb : base ≤ s.heap.size) (had : ∀ k, k < 1000 → ad k = base + k) (hT : T.heap = H) (X : Stand p l e R s m args below meth c T locs' k q) : H.size = base + σ.1.length := by
  have h1 : T.heap.size ≤ s.heap.size + k := X.same.2.2.1
  rw [hT] at h1
  have h2 := hI.2.2.1
  have h3 := hI.1.1
  have h4 := hI.1.2
  rcases Nat.eq_zero_or_pos σ.1.length with h0 | h0
  · omega
  · obtain ⟨x, hx⟩ : ∃ x, σ.1[σ.1.length - 1]? = some x := ⟨_, List.getElem?_eq_getElem (by omega)⟩
    have h5 := (hI.2.1 (σ.1.length - 1) _ (xconc_at (I := σ.2.1) (L := σ.2.2) hx)).lt
    have h6 := had (σ.1.length - 1) (by omega)
    have h7 : ad (σ.1.length - 1) < H.size := h5
    omega
