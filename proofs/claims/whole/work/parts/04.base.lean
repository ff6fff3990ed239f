/-! ===== the small machine: shapes, memory, the judgement xW ===== -/
/-- a cell's shape: an array of numbers (type, length); an object (class, fields: references as they are, .int 0 and .long 0 for numbers that the memory holds); the array of Scenes -/
abbrev xSh : Type := (FieldType × Nat) ⊕ ((Nat × List Value) ⊕ List Value)
abbrev xMem : Type := List xSh × (Nat → Nat → Int32) × (Nat → Nat → Int64)
abbrev xEx : Type := Nat → Option (Nat × (Nat → Int32))
def xfv (I : Nat → Nat → Int32) (L : Nat → Nat → Int64) (c k : Nat) (v : Value) : Value := match v with
  | .int _ => .int (I c k)
  | .long _ => .long (L c k)
  | w => w
def xtr (ad : Nat → Nat) (v : Value) : Value := match v with
  | .ref k => .ref (ad k)
  | w => w
def xro (ad : Nat → Nat) (v : Value) : Option Nat := match v with
  | .ref k => some (ad k)
  | _ => none
abbrev xScn : FieldType := .object "ShopWindow$Scene"
def xcell (ad : Nat → Nat) (cA : FieldType → ClassId) (I : Nat → Nat → Int32) (L : Nat → Nat → Int64) (c : Nat) (s : xSh) : va_E := match s with
  | .inl (.long, n) => .inl (cA .long, n, .inr (.inl (L c)))
  | .inl (ty, n) => .inl (cA ty, n, .inl (I c))
  | .inr (.inl (ci, fs)) => .inr (ci, fs.mapIdx (fun k v => xtr ad (xfv I L c k v)))
  | .inr (.inr vs) => .inl (cA xScn, vs.length, .inr (.inr (.inr (.inr (fun j => xro ad (vs.getD j .null))))))
def xconc (ad : Nat → Nat) (cA : FieldType → ClassId) (σ : xMem) : va_W := σ.1.mapIdx (fun c s => (ad c, xcell ad cA σ.2.1 σ.2.2 c s))
abbrev xtys (cA : FieldType → ClassId) : List (ClassId × FieldType) := [(cA .int, .int), (cA .long, .long), (cA .boolean, .boolean), (cA xScn, xScn)]
/-- the words that every method has: those of the tables that go over to callees -/
def xTbl : List Cond := lw_tbl.filter goodWord
theorem xTbl_at {i : Nat} {w : Cond} (h : lw_tbl[i]? = some w) (hg : goodWord w = true) : w ∈ xTbl := List.mem_filter.mpr ⟨List.mem_of_getElem? h, hg⟩
theorem xTbl_good : GoodIn xTbl xTbl := fun _ hw => ⟨hw, good_of_word (List.mem_filter.mp hw).2⟩
/-- a method's row -/
def xg (mi : Nat) : xMT := xM.getD mi xm0
def xY (mi : Nat) : MethodName := (xg mi).1
def xCC (mi : Nat) : ByteArray := (xg mi).2.1
def xML (mi : Nat) : Nat := (xg mi).2.2.1
def xRT (mi : Nat) : Option FieldType := (xg mi).2.2.2.1
def xOW (mi : Nat) : Nat := (xg mi).2.2.2.2.1
def xBC (mi : Nat) : Nat := (xg mi).2.2.2.2.2.1
def xBS (mi : Nat) : Nat := (xg mi).2.2.2.2.2.2.1
def xIN (mi : Nat) : Bool := (xg mi).2.2.2.2.2.2.2.1
def xNP (mi : Nat) : Nat := (xg mi).2.2.2.2.2.2.2.2.1
def xWI (mi : Nat) : Nat := (xg mi).2.2.2.2.2.2.2.2.2
def xRo (o : Nat) : String := xRO.getD o ""
def xft (mi pc : Nat) : Option (Instr × Nat) := match (xTB.getD mi [])[pc]? with
  | some x => x
  | none => none
/-- the classes' tables by number -/
def xTT (ci : Nat) : u_T := match ci with
  | 0 => TX0
  | 1 => TX1
  | 2 => TX2
  | 3 => TX3
  | 4 => TX4
  | 5 => TX5
  | _ => TX6
def xNN (ci : Nat) : Nat := match ci with
  | 0 => 2
  | 1 => 4
  | 2 => 8
  | 3 => 8
  | 4 => 12
  | 5 => 8
  | _ => 26
def xTy (ci : Nat) : Nat → FieldType := match ci with
  | 0 => tyX0
  | 1 => tyX1
  | 2 => tyX2
  | 3 => tyX3
  | 4 => tyX4
  | 5 => tyX5
  | _ => tyX6
theorem xvw : ∀ ci, ci < 7 → vwCl[ci]? = some (xRo ci, xTT ci, xNN ci)
  | 0, _ => rfl
  | 1, _ => rfl
  | 2, _ => rfl
  | 3, _ => rfl
  | 4, _ => rfl
  | 5, _ => rfl
  | 6, _ => rfl
  | (n + 7), h => absurd h (by omega)
theorem xnm : ∀ ci, ci < 7 → ∀ a, a < xNN ci → ∀ b, b < xNN ci → a ≠ b → (xTT ci a).2.1 ≠ (xTT ci b).2.1
  | 0, _ => nmX0
  | 1, _ => nmX1
  | 2, _ => nmX2
  | 3, _ => nmX3
  | 4, _ => nmX4
  | 5, _ => nmX5
  | 6, _ => nmX6
  | (n + 7), h => absurd h (by omega)
theorem xty_ok : ∀ ci, ci < 7 → ∀ k, k < xNN ci → parseFieldDescriptor (xTT ci k).2.2.1 = some (xTy ci k)
  | 0, _ => tyX0_ok
  | 1, _ => tyX1_ok
  | 2, _ => tyX2_ok
  | 3, _ => tyX3_ok
  | 4, _ => tyX4_ok
  | 5, _ => tyX5_ok
  | 6, _ => tyX6_ok
  | (n + 7), h => absurd h (by omega)
/-- the links -/
def xfd (ow idx : Nat) : Option (Nat × Nat) := ((xfL.getD ow []).find? (fun e => e.1 == idx)).map (fun e => (e.2.1, e.2.2.1))
def xmt (ow idx : Nat) : Option (Nat × Nat) := ((xmL.getD ow []).find? (fun e => e.1 == idx)).map (fun e => (e.2.1, e.2.2.1))
def xcl (ow idx : Nat) : Option Nat := ((xcL.getD ow []).find? (fun e => e.1 == idx)).map (fun e => e.2.1)
def xk1 (ow idx : Nat) : Option Int32 := ((xkL.getD ow []).find? (fun e => e.1 == idx)).map (fun e => e.2.1)
def xk2 (ow idx : Nat) : Option Int64 := ((xqL.getD ow []).find? (fun e => e.1 == idx)).map (fun e => e.2.1)
def xss (ow idx : Nat) : Option (Nat × Nat) := ((xsL.getD ow []).find? (fun e => e.1 == idx)).map (fun e => (e.2.1, e.2.2.2))
def xsn (e : Nat) : String := match e with
  | 0 => "TRAIT_AT_FIRST"
  | 1 => "HABIT_AT_FIRST"
  | 2 => "TRAIT_MOST"
  | 3 => "HABIT_LEAST"
  | _ => "HABIT_MOST"
/-- a word of the tables at a place, one that goes over -/
def xwd (i : Nat) (w : Cond) : Bool := goodWord w && decide (lw_tbl[i]? = some w)
theorem xwd_in {i : Nat} {w : Cond} (h : xwd i w = true) : w ∈ xTbl := by
  unfold xwd at h
  rw [Bool.and_eq_true] at h
  exact xTbl_at (of_decide_eq_true h.2) h.1
theorem xfL_ok : ∀ ow, ow < 11 → ∀ e ∈ xfL.getD ow [], (e.2.1 < 7 ∧ e.2.2.1 < xNN e.2.1) ∧ xwd e.2.2.2 (.fieldLink (xRo ow) e.1 (xTT e.2.1 e.2.2.1).1 (xTT e.2.1 e.2.2.1).2.1 (xTT e.2.1 e.2.2.1).2.2.1) = true := by decide +kernel
theorem xcL_ok : ∀ ow, ow < 11 → ∀ e ∈ xcL.getD ow [], e.2.1 < 7 ∧ xwd e.2.2.1 (.classLink (xRo ow) e.1 (xRo e.2.1)) = true ∧ xwd e.2.2.2.1 (.instantiable (xRo e.2.1) (xNN e.2.1)) = true ∧ xwd e.2.2.2.2 (.initialized (xRo e.2.1)) = true := by decide +kernel
theorem xkL_ok : ∀ ow, ow < 11 → ∀ e ∈ xkL.getD ow [], xwd e.2.2 (.constant (xRo ow) e.1 e.2.1) = true := by decide +kernel
theorem xqL_ok : ∀ ow, ow < 11 → ∀ e ∈ xqL.getD ow [], xwd e.2.2 (.constantLong (xRo ow) e.1 e.2.1) = true := by decide +kernel
theorem xsL_ok : ∀ ow, ow < 11 → ∀ e ∈ xsL.getD ow [], e.2.1 < 5 ∧ ((e.2.2.2 = 0 ∧ xwd e.2.2.1 (.fieldLink (xRo ow) e.1 "ShopWindow" (xsn e.2.1) "[I") = true) ∨ (e.2.2.2 = 1 ∧ lw_tbl[e.2.2.1]? = some (.fieldLinkNest (xRo ow) e.1 "ShopWindow" (xsn e.2.1) "[I" "ShopWindow"))) := by decide +kernel
/-- a method link's words, by kind -/
def xmOk (ow : Nat) (e : Nat × Nat × Nat × Nat × Nat × Nat × Nat) : Bool :=
  let y := xY e.2.2.1
  match e.2.1 with
  | 0 => xwd e.2.2.2.1 (.methodLink (xRo ow) e.1 y) && xwd e.2.2.2.2.1 (.static y) && xwd e.2.2.2.2.2.2 (.initialized y.cls)
  | 10 => decide (lw_tbl[e.2.2.2.1]? = some (.methodLinkNest (xRo ow) e.1 y "ShopWindow")) && xwd e.2.2.2.2.1 (.static y) && xwd e.2.2.2.2.2.2 (.initialized y.cls)
  | 1 => xwd e.2.2.2.1 (.methodLink (xRo ow) e.1 y) && xwd e.2.2.2.2.1 (.instanceMethod y) && xwd e.2.2.2.2.2.1 (.selects y.cls y y) && xwd e.2.2.2.2.2.2 (.initialized y.cls)
  | 2 => xwd e.2.2.2.1 (.methodLink (xRo ow) e.1 y) && xwd e.2.2.2.2.1 (.instanceMethod y) && xwd e.2.2.2.2.2.2 (.initialized y.cls) && decide (y.name = "<init>") && decide (xRT e.2.2.1 = none)
  | 12 => decide (lw_tbl[e.2.2.2.1]? = some (.methodLinkNest (xRo ow) e.1 y "ShopWindow")) && xwd e.2.2.2.2.1 (.instanceMethod y) && xwd e.2.2.2.2.2.2 (.initialized y.cls) && decide (y.name = "<init>") && decide (xRT e.2.2.1 = none)
  | 3 => xwd e.2.2.2.1 (.methodLink (xRo ow) e.1 Lib.objectInit)
  | 4 => xwd e.2.2.2.1 (.methodLink (xRo ow) e.1 arraycopyName)
  | _ => false
theorem xmL_ok0 : ∀ e ∈ xmL.getD 0 [], xmOk 0 e = true := by decide +kernel
theorem xmL_ok1 : ∀ e ∈ xmL.getD 1 [], xmOk 1 e = true := by decide +kernel
theorem xmL_ok2 : ∀ e ∈ xmL.getD 2 [], xmOk 2 e = true := by decide +kernel
theorem xmL_ok3 : ∀ e ∈ xmL.getD 3 [], xmOk 3 e = true := by decide +kernel
theorem xmL_ok4 : ∀ e ∈ xmL.getD 4 [], xmOk 4 e = true := by decide +kernel
theorem xmL_ok5 : ∀ e ∈ xmL.getD 5 [], xmOk 5 e = true := by decide +kernel
theorem xmL_ok6 : ∀ e ∈ xmL.getD 6 [], xmOk 6 e = true := by decide +kernel
theorem xmL_ok7 : ∀ e ∈ xmL.getD 7 [], xmOk 7 e = true := by decide +kernel
theorem xmL_ok8 : ∀ e ∈ xmL.getD 8 [], xmOk 8 e = true := by decide +kernel
theorem xmL_ok9 : ∀ e ∈ xmL.getD 9 [], xmOk 9 e = true := by decide +kernel
theorem xmL_ok10 : ∀ e ∈ xmL.getD 10 [], xmOk 10 e = true := by decide +kernel
theorem xmL_ok : ∀ ow, ow < 11 → ∀ e ∈ xmL.getD ow [], xmOk ow e = true
  | 0, _ => xmL_ok0
  | 1, _ => xmL_ok1
  | 2, _ => xmL_ok2
  | 3, _ => xmL_ok3
  | 4, _ => xmL_ok4
  | 5, _ => xmL_ok5
  | 6, _ => xmL_ok6
  | 7, _ => xmL_ok7
  | 8, _ => xmL_ok8
  | 9, _ => xmL_ok9
  | 10, _ => xmL_ok10
  | (n + 11), h => absurd h (by omega)
theorem xw_objInit : Cond.instanceMethod Lib.objectInit ∈ xTbl ∧ Cond.code Lib.objectInit ⟨#[0xb1]⟩ 1 none ∈ xTbl := ⟨xwd_in (i := 51) (by decide +kernel), xwd_in (i := 52) (by decide +kernel)⟩
theorem xw_copy : Cond.native arraycopyName ∈ xTbl ∧ Cond.static arraycopyName ∈ xTbl ∧ Cond.initialized "java/lang/System" ∈ xTbl := ⟨xwd_in (i := 492) (by decide +kernel), xwd_in (i := 491) (by decide +kernel), xwd_in (i := 44) (by decide +kernel)⟩
theorem xw_arr : Cond.arrayClass .int ∈ xTbl ∧ Cond.arrayClass .long ∈ xTbl ∧ Cond.arrayClass .boolean ∈ xTbl := ⟨xwd_in (i := 73) (by decide +kernel), xwd_in (i := 74) (by decide +kernel), xwd_in (i := 160) (by decide +kernel)⟩
