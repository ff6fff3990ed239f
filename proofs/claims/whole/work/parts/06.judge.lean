/-! ===== the judgement: a method of the small machine, anywhere, comes to its end with Q ===== -/
def xnst : Cond → Bool
  | .methodLinkNest _ _ _ _ => true
  | .fieldLinkNest _ _ _ _ _ _ => true
  | _ => false
def xNst : List Cond := lw_tbl.filter xnst
theorem xNst_at {i : Nat} {w : Cond} (h : lw_tbl[i]? = some w) (hg : xnst w = true) : w ∈ xNst := List.mem_filter.mpr ⟨List.mem_of_getElem? h, hg⟩
/-- what lies outside: the script and the static arrays, as they were; the nest's links -/
def xExt (E : xEx) (base : Nat) (ad : Nat → Nat) (U : State) (H : Heap) : Prop :=
  (∀ (i N : Nat) (f : Nat → Int32), E i = some (N, f) → va_T .int (ad (1000 + i)) N (fun j => .int (f j)) (fun q => base ≤ q) U H) ∧
  (∀ e, e < 5 → va_Z "ShopWindow" (xsn e) "[I" (.ref (ad (1001 + e))) (fun q => base ≤ q) U H) ∧
  (∀ w ∈ xNst, va_Nw w U) ∧ va_AO "ShopWindow$Scene" U
def xCtx (E : xEx) (d mi base : Nat) (ad : Nat → Nat) (cA : FieldType → ClassId) (D : va_G) (p : Program) (R : Room) (s : State) (m : MethodId) (args : Array Value) (meth : Method) (c : Code) : Prop :=
  (mi < 145 ∧ p.tables.exec = Jvm.exec ∧ c.code = xCC mi ∧ c.maxLocals = xML mi ∧ s.vm.findClass (xRo (xOW mi)) = some m.cls) ∧
  ((∀ w ∈ xTbl, w.before args s = true) ∧ va_K D vwCl (xtys cA) s ∧ xExt E base ad s s.heap) ∧
  ((xIN mi = true → meth.name = "<init>") ∧ R.cells = xBC mi ∧ R.slots = xBS mi ∧ d ≤ R.frames ∧ 60 * d ≤ R.locals) ∧
  (base ≤ s.heap.size ∧ ∀ k, k < 1000 → ad k = base + k)
def xInv (base : Nat) (ad : Nat → Nat) (cA : FieldType → ClassId) (D : va_G) (s : State) (σ : xMem) (H : Heap) (locs : List Loc) : Prop :=
  (H.size = base + σ.1.length ∧ σ.1.length ≤ 1000) ∧ va_P D vwCl (xconc ad cA σ) H ∧ va_S (fun q => base ≤ q) s.heap H locs
def xtl (ad : Nat → Nat) (lv : List (Nat × Value)) : List (Nat × Value) := lv.map (fun q => (q.1, xtr ad q.2))
def xRetAt (mi pc : Nat) (r : Option Value) : Prop := match r with
  | none => decode (xCC mi) pc = .ok (.return_, 1) ∧ xRT mi = none
  | some (.int v) => decode (xCC mi) pc = .ok (.ireturn, 1) ∧ (xRT mi = some .int ∨ (xRT mi = some .boolean ∧ (v = 0 ∨ v = 1)))
  | some (.long _) => decode (xCC mi) pc = .ok (.lreturn, 1) ∧ xRT mi = some .long
  | _ => False
def xEnd (mi base : Nat) (ad : Nat → Nat) (cA : FieldType → ClassId) (D : va_G) (p : Program) (l : Launch) (e : Env) (R : Room) (s : State) (m : MethodId) (args : Array Value) (below : List Frame) (meth : Method) (c : Code) (Qf : State → Prop) (Q : Option Value → xMem → Prop) : Prop :=
  ∀ (r : Option Value) (σ : xMem) (H : Heap) (locs : List Loc) (pc : Nat) (ls : Array Slot), Q r σ → xInv base ad cA D s σ H locs → xRetAt mi pc r → W p l e R s m args below meth c H locs (xBC mi) (xBS mi) Qf (F0 m pc ls ((r.map (xtr ad)).toList))
def xW (E : xEx) (d mi pc : Nat) (lv : List (Nat × Value)) (st : List Value) (σ : xMem) (k q : Nat) (Q : Option Value → xMem → Prop) : Prop :=
  ∀ (base : Nat) (ad : Nat → Nat) (cA : FieldType → ClassId) (D : va_G) (l : Launch) (p : Program) (e : Env) (R : Room) (s : State) (m : MethodId) (args : Array Value) (below : List Frame) (meth : Method) (c : Code) (Qf : State → Prop) (H : Heap) (locs : List Loc) (ls : Array Slot),
    xCtx E d mi base ad cA D p R s m args meth c → xEnd mi base ad cA D p l e R s m args below meth c Qf Q → xInv base ad cA D s σ H locs → lv_has ls (xML mi) (xtl ad lv) →
    W p l e R s m args below meth c H locs k q Qf (F0 m pc ls (st.map (xtr ad)))
/-- a call of a method -/
def xC (E : xEx) (d mi : Nat) (As : List Value) (σ : xMem) (Q : Option Value → xMem → Prop) : Prop := xW E d mi 0 (lv_args 0 As) [] σ 0 0 Q
theorem xdec {mi pc : Nat} {i : Instr × Nat} (h : xft mi pc = some i) : decode (xCC mi) pc = .ok i := by
  unfold xft at h
  cases hx : (xTB.getD mi [])[pc]? with
  | none => rw [hx] at h; cases h
  | some x =>
    rw [hx] at h
    exact xAt mi pc i (by rw [hx, show x = some i from h])
theorem xW.mono {E : xEx} {d mi pc : Nat} {lv : List (Nat × Value)} {st : List Value} {σ : xMem} {k q : Nat} {Q Q' : Option Value → xMem → Prop} (h : xW E d mi pc lv st σ k q Q) (hq : ∀ r t, Q r t → Q' r t) : xW E d mi pc lv st σ k q Q' :=
  fun base ad cA D l p e R s m args below meth c Qf H locs ls C hE hI hl => h base ad cA D l p e R s m args below meth c Qf H locs ls C (fun r σ H locs pc ls hr => hE r σ H locs pc ls (hq r σ hr)) hI hl
theorem xW.deep {E : xEx} {d d' mi pc : Nat} {lv : List (Nat × Value)} {st : List Value} {σ : xMem} {k q : Nat} {Q : Option Value → xMem → Prop} (h : xW E d mi pc lv st σ k q Q) (hd : d ≤ d') : xW E d' mi pc lv st σ k q Q :=
  fun base ad cA D l p e R s m args below meth c Qf H locs ls C hE hI hl => h base ad cA D l p e R s m args below meth c Qf H locs ls ⟨C.1, C.2.1, ⟨C.2.2.1.1, C.2.2.1.2.1, C.2.2.1.2.2.1, Nat.le_trans hd C.2.2.1.2.2.2.1, Nat.le_trans (Nat.mul_le_mul_left 60 hd) C.2.2.1.2.2.2.2⟩, C.2.2.2⟩ hE hI hl
/-- locals: reading, writing in order, forgetting -/
def xlk (i : Nat) : List (Nat × Value) → Option Value
  | [] => none
  | x :: l => bif Nat.beq x.1 i then some x.2 else xlk i l
theorem xlk_mem {i : Nat} {v : Value} : ∀ {lv : List (Nat × Value)}, xlk i lv = some v → (i, v) ∈ lv
  | [], h => by cases h
  | x :: l, h => by
    unfold xlk at h
    cases hb : Nat.beq x.1 i with
    | true =>
      rw [hb] at h
      have e1 : x.1 = i := Nat.eq_of_beq_eq_true hb
      have e2 : x.2 = v := Option.some.inj h
      have : x = (i, v) := by rw [← e1, ← e2]
      rw [this]
      exact List.mem_cons_self
    | false =>
      rw [hb] at h
      exact List.mem_cons_of_mem _ (xlk_mem h)
theorem xloc {ad : Nat → Nat} {lv : List (Nat × Value)} {ls : Array Slot} {n i : Nat} {v : Value} (hl : lv_has ls n (xtl ad lv)) (h : xlk i lv = some v) : ls[i]? = some (.val (xtr ad v)) :=
  hl.2.2 (i, xtr ad v) (List.mem_map.mpr ⟨(i, v), xlk_mem h, rfl⟩)
def xsrt (x : Nat × Value) : List (Nat × Value) → List (Nat × Value)
  | [] => [x]
  | a :: l => bif Nat.blt x.1 a.1 then x :: a :: l else a :: xsrt x l
theorem xsrt_mem {x z : Nat × Value} : ∀ {l : List (Nat × Value)}, z ∈ xsrt x l → z = x ∨ z ∈ l
  | [], h => Or.inl (List.mem_singleton.mp h)
  | a :: l, h => by
    unfold xsrt at h
    cases hb : Nat.blt x.1 a.1 with
    | true =>
      rw [hb] at h
      exact List.mem_cons.mp h
    | false =>
      rw [hb] at h
      rcases List.mem_cons.mp h with h | h
      · exact Or.inr (List.mem_cons.mpr (Or.inl h))
      · rcases xsrt_mem h with h | h
        · exact Or.inl h
        · exact Or.inr (List.mem_cons_of_mem _ h)
def xcat (v : Value) : Bool := match v with
  | .long _ => true
  | .double _ => true
  | _ => false
theorem xcat_of {v : Value} : (v.category == 2) = xcat v := by cases v <;> rfl
theorem xcat_tr (ad : Nat → Nat) (v : Value) : xcat (xtr ad v) = xcat v := by cases v <;> rfl
def xput (i : Nat) (v : Value) (lv : List (Nat × Value)) : List (Nat × Value) := xsrt (i, v) (lv.filter (fun z => !(Nat.beq z.1 i) && !(Nat.beq (z.1 + 1) i && xcat z.2)))
def xput2 (i : Nat) (v : Value) (lv : List (Nat × Value)) : List (Nat × Value) := xsrt (i, v) (lv.filter (fun z => !(Nat.beq z.1 i) && (!(Nat.beq z.1 (i + 1)) && !(Nat.beq (z.1 + 1) i && xcat z.2))))
theorem xbeq (a b : Nat) : (a == b) = Nat.beq a b := rfl
theorem xput_has {ad : Nat → Nat} {ls : Array Slot} {n i : Nat} {v : Value} {lv : List (Nat × Value)} (h : lv_has ls n ((i, xtr ad v) :: (xtl ad lv).filter (fun z => !(z.1 == i) && !(z.1 + 1 == i && z.2.category == 2)))) : lv_has ls n (xtl ad (xput i v lv)) := by
  refine ⟨h.1, h.2.1, fun z hz => h.2.2 z ?_⟩
  obtain ⟨w, hw, rfl⟩ := List.mem_map.mp hz
  rcases xsrt_mem hw with rfl | hw
  · exact List.mem_cons_self
  · refine List.mem_cons_of_mem _ (List.mem_filter.mpr ⟨List.mem_map.mpr ⟨w, (List.mem_filter.mp hw).1, rfl⟩, ?_⟩)
    have h2 := (List.mem_filter.mp hw).2
    rw [xcat_of, xcat_tr]
    exact h2
theorem xput2_has {ad : Nat → Nat} {ls : Array Slot} {n i : Nat} {v : Value} {lv : List (Nat × Value)} (h : lv_has ls n ((i, xtr ad v) :: (xtl ad lv).filter (fun z => !(z.1 == i) && (!(z.1 == i + 1) && !(z.1 + 1 == i && z.2.category == 2))))) : lv_has ls n (xtl ad (xput2 i v lv)) := by
  refine ⟨h.1, h.2.1, fun z hz => h.2.2 z ?_⟩
  obtain ⟨w, hw, rfl⟩ := List.mem_map.mp hz
  rcases xsrt_mem hw with rfl | hw
  · exact List.mem_cons_self
  · refine List.mem_cons_of_mem _ (List.mem_filter.mpr ⟨List.mem_map.mpr ⟨w, (List.mem_filter.mp hw).1, rfl⟩, ?_⟩)
    have h2 := (List.mem_filter.mp hw).2
    rw [xcat_of, xcat_tr]
    exact h2
def xsubl : List (Nat × Value) → List Nat → List (Nat × Value) := fun lv is => lv.filter (fun z => is.any (fun i => Nat.beq i z.1))
theorem ws_keep {E : xEx} {d mi pc : Nat} {lv lv' : List (Nat × Value)} {st : List Value} {σ : xMem} {k q : Nat} {Q : Option Value → xMem → Prop} (is : List Nat) (h : xsubl lv is = lv') (kk : xW E d mi pc lv' st σ k q Q) : xW E d mi pc lv st σ k q Q :=
  fun base ad cA D l p e R s m args below meth c Qf H locs ls C hE hI hl => kk base ad cA D l p e R s m args below meth c Qf H locs ls C hE hI ⟨hl.1, hl.2.1, fun z hz => hl.2.2 z (by
    obtain ⟨w, hw, rfl⟩ := List.mem_map.mp hz
    rw [← h] at hw
    exact List.mem_map.mpr ⟨w, (List.mem_filter.mp hw).1, rfl⟩)⟩
/-- the memory: writing -/
def wI (I : Nat → Nat → Int32) (c j : Nat) (x : Int32) : Nat → Nat → Int32 := fun a => if a = c then upd (I a) j x else I a
def wL (L : Nat → Nat → Int64) (c j : Nat) (x : Int64) : Nat → Nat → Int64 := fun a => if a = c then vp_updL (L a) j x else L a
/-- a cell's row of numbers anew -/
def wR (I : Nat → Nat → Int32) (c : Nat) (f : Nat → Int32) : Nat → Nat → Int32 := fun a => if a = c then f else I a
def wRL (L : Nat → Nat → Int64) (c : Nat) (f : Nat → Int64) : Nat → Nat → Int64 := fun a => if a = c then f else L a
theorem xconc_at {ad : Nat → Nat} {cA : FieldType → ClassId} {S : List xSh} {I : Nat → Nat → Int32} {L : Nat → Nat → Int64} {c : Nat} {s : xSh} (h : S[c]? = some s) : (xconc ad cA (S, I, L))[c]? = some (ad c, xcell ad cA I L c s) := by
  simp [xconc, List.getElem?_mapIdx, h]
theorem xconc_len (ad : Nat → Nat) (cA : FieldType → ClassId) (σ : xMem) : (xconc ad cA σ).length = σ.1.length := by simp [xconc]
theorem xconc_wR {ad : Nat → Nat} {cA : FieldType → ClassId} {S : List xSh} {I : Nat → Nat → Int32} {L : Nat → Nat → Int64} {c : Nat} {s : xSh} (h : S[c]? = some s) (f : Nat → Int32) : xconc ad cA (S, wR I c f, L) = (xconc ad cA (S, I, L)).set c (ad c, xcell ad cA (wR I c f) L c s) := by
  apply List.ext_getElem?
  intro j
  by_cases hj : c = j
  · subst hj
    rw [List.getElem?_set_self (by rw [xconc_len]; exact (List.getElem?_eq_some_iff.mp h).1), xconc_at h]
  · rw [List.getElem?_set_ne hj]
    have e : ∀ (t : xSh), xcell ad cA (wR I c f) L j t = xcell ad cA I L j t := by
      intro t
      have e1 : wR I c f j = I j := by unfold wR; rw [if_neg (fun e => hj e.symm)]
      have e2 : (fun (k : Nat) (v : Value) => xtr ad (xfv (wR I c f) L j k v)) = (fun k v => xtr ad (xfv I L j k v)) := by
        funext k v
        cases v <;> simp [xfv, e1]
      rcases t with ⟨ty, n⟩ | ⟨ci, fs⟩ | vs
      · cases ty <;> simp [xcell, e1]
      · simp only [xcell, e2]
      · rfl
    simp only [xconc, List.getElem?_mapIdx, e]
theorem xconc_wRL {ad : Nat → Nat} {cA : FieldType → ClassId} {S : List xSh} {I : Nat → Nat → Int32} {L : Nat → Nat → Int64} {c : Nat} {s : xSh} (h : S[c]? = some s) (f : Nat → Int64) : xconc ad cA (S, I, wRL L c f) = (xconc ad cA (S, I, L)).set c (ad c, xcell ad cA I (wRL L c f) c s) := by
  apply List.ext_getElem?
  intro j
  by_cases hj : c = j
  · subst hj
    rw [List.getElem?_set_self (by rw [xconc_len]; exact (List.getElem?_eq_some_iff.mp h).1), xconc_at h]
  · rw [List.getElem?_set_ne hj]
    have e : ∀ (t : xSh), xcell ad cA I (wRL L c f) j t = xcell ad cA I L j t := by
      intro t
      have e1 : wRL L c f j = L j := by unfold wRL; rw [if_neg (fun e => hj e.symm)]
      have e2 : (fun (k : Nat) (v : Value) => xtr ad (xfv I (wRL L c f) j k v)) = (fun k v => xtr ad (xfv I L j k v)) := by
        funext k v
        cases v <;> simp [xfv, e1]
      rcases t with ⟨ty, n⟩ | ⟨ci, fs⟩ | vs
      · cases ty <;> simp [xcell, e1]
      · simp only [xcell, e2]
      · rfl
    simp only [xconc, List.getElem?_mapIdx, e]
theorem xconc_S {ad : Nat → Nat} {cA : FieldType → ClassId} {S : List xSh} {I : Nat → Nat → Int32} {L : Nat → Nat → Int64} {c : Nat} {s t : xSh} (h : S[c]? = some s) : xconc ad cA (S.set c t, I, L) = (xconc ad cA (S, I, L)).set c (ad c, xcell ad cA I L c t) := by
  apply List.ext_getElem?
  intro j
  have hc : c < S.length := (List.getElem?_eq_some_iff.mp h).1
  by_cases hj : c = j
  · subst hj
    rw [List.getElem?_set_self (by rw [xconc_len]; exact hc), xconc_at (by rw [List.getElem?_set_self hc])]
  · rw [List.getElem?_set_ne hj]
    simp only [xconc, List.getElem?_mapIdx, List.getElem?_set_ne hj]
theorem wI_R (I : Nat → Nat → Int32) (c j : Nat) (x : Int32) : wI I c j x = wR I c (upd (I c) j x) := by
  funext a
  unfold wI wR
  by_cases h : a = c
  · rw [if_pos h, if_pos h, h]
  · rw [if_neg h, if_neg h]
theorem wL_R (L : Nat → Nat → Int64) (c j : Nat) (x : Int64) : wL L c j x = wRL L c (vp_updL (L c) j x) := by
  funext a
  unfold wL wRL
  by_cases h : a = c
  · rw [if_pos h, if_pos h, h]
  · rw [if_neg h, if_neg h]
theorem wR_self (I : Nat → Nat → Int32) (c : Nat) (f : Nat → Int32) : wR I c f c = f := by unfold wR; rw [if_pos rfl]
theorem wRL_self (L : Nat → Nat → Int64) (c : Nat) (f : Nat → Int64) : wRL L c f c = f := by unfold wRL; rw [if_pos rfl]
theorem xD {base : Nat} {ad : Nat → Nat} {cA : FieldType → ClassId} {σ : xMem} (h : ∀ k, k < 1000 → ad k = base + k) (hl : σ.1.length ≤ 1000) : va_D (fun q => base ≤ q) (xconc ad cA σ) := by
  have e : ∀ (i : Nat) (z : Nat × va_E), (xconc ad cA σ)[i]? = some z → i < 1000 ∧ z.1 = base + i := by
    intro i z hz
    have hi : i < σ.1.length := by rw [← xconc_len ad cA σ]; exact (List.getElem?_eq_some_iff.mp hz).1
    have h9 : i < 1000 := Nat.lt_of_lt_of_le hi hl
    refine ⟨h9, ?_⟩
    simp only [xconc, List.getElem?_mapIdx, Option.map_eq_some_iff] at hz
    obtain ⟨s, -, rfl⟩ := hz
    exact h i h9
  refine ⟨fun i j x y hx hy he => ?_, fun k z hz => ?_⟩
  · have h1 := e i x hx
    have h2 := e j y hy
    omega
  · have h1 := e k z hz
    show base ≤ z.1
    omega
