/-! THE CLAIM OUT OF ONE WALK OF THE LAW'S BODY. Your part is whole_start (and what it stands on); all else here is the same for every law, but numbers. -/
def R_law : String := "ShopWindowLaw"
def lw_P (b : Addr) (xs : List Int32) (args : Array Value) (s : State) : Prop := args = #[.ref b] ∧ s.IntsAt b xs ∧ xs.length ≤ 2560 ∧ (Jvm.Cond.and given_1 narrow_1).before args s = true
def lw_Q (_ : Array Value) (s : State) (o : Outcome) (t : State) : Prop := o = .returned (some (.int 1)) ∧ Framed s o t [] 600000 7302250
def lw_Z (below : List Frame) (a : Array Value) (s : State) : State → Prop := fun t => ∃ o, t.status = .running ∧ Ended t below o ∧ lw_Q a s o t
/-- the law's own end, with 1 on the stack, nothing written that was there before, its room as the claim has it -/
theorem lw_ret {p : Program} {l : Launch} {e : Env} {s : State} {m : MethodId} {below : List Frame} {meth : Method} {c : Code} {b : Nat} (hx : p.tables.exec = Jvm.exec) (hb : c.code = code) (hr : meth.sig.returnType = ret) (hlocks : meth.locks = false) {pc : Nat} {H : Heap} {ls : Array Slot} (hdg : decode code pc = .ok (.ireturn, 1)) : W p l e room_1 s m #[Value.ref b] below meth c H [] 600000 7302250 (lw_Z below #[Value.ref b] s) (F0 m pc ls [.int 1]) := by
  intro T hT X
  obtain ⟨fs, hret, hrun, hended, hW, hframe⟩ := X.leave (v := some (.int 1)) (hlocks := hlocks) (fun h => by rw [hr] at h; cases h)
  have hmeth' : T.vm.method? m = some meth := X.method'
  refine ⟨T.setFrames fs, ?_, .returned (some (.int 1)), hrun, hended, rfl, ⟨_, rfl⟩, hW, hframe⟩
  jvm_step X.here [X.here.top, hx, hb, hdg, hmeth', hr, ret, narrow_b1]
  (try refine ⟨rfl, ?_⟩); (try refine ⟨rfl, ?_⟩)
  first | (intro acts; rw [hret _ acts rfl rfl rfl]) | rw [hret _ _ rfl rfl rfl]
  exact Steps.refl _
/-- what holds at the law's entry: the machine, the code, the tables' words (any of lw_tbl by 'hts w (by decide +kernel)'), the script of L ints xs at the cell b, what the Statement gives of the start (any of its parts by flat_of_before) -/
def lw_At (p : Program) (s : State) (m : MethodId) (meth : Method) (c : Code) (b L : Nat) (xs : Nat → Int32) : Prop :=
  p.tables.exec = Jvm.exec ∧ c.code = code ∧ meth.sig.returnType = ret ∧ c.maxLocals = 4 ∧ s.vm.findClass R_law = some m.cls ∧ (∀ w ∈ lw_tbl, w.before #[Value.ref b] s = true) ∧ va_X b L xs s s.heap ∧ b < s.heap.size ∧ meth.locks = false ∧ (Jvm.Cond.and given_1 narrow_1).before #[Value.ref b] s = true
/-- the law's own end, in any room -/
theorem lw_retR {p : Program} {l : Launch} {e : Env} {R : Room} {s : State} {m : MethodId} {below : List Frame} {meth : Method} {c : Code} {b : Nat} (hx : p.tables.exec = Jvm.exec) (hb : c.code = code) (hr : meth.sig.returnType = ret) (hlocks : meth.locks = false) {pc : Nat} {H : Heap} {ls : Array Slot} (hdg : decode code pc = .ok (.ireturn, 1)) : W p l e R s m #[Value.ref b] below meth c H [] 600000 7302250 (lw_Z below #[Value.ref b] s) (F0 m pc ls [.int 1]) := by
  intro T hT X
  obtain ⟨fs, hret, hrun, hended, hW, hframe⟩ := X.leave (v := some (.int 1)) (hlocks := hlocks) (fun h => by rw [hr] at h; cases h)
  have hmeth' : T.vm.method? m = some meth := X.method'
  refine ⟨T.setFrames fs, ?_, .returned (some (.int 1)), hrun, hended, rfl, ⟨_, rfl⟩, hW, hframe⟩
  jvm_step X.here [X.here.top, hx, hb, hdg, hmeth', hr, ret, narrow_b1]
  (try refine ⟨rfl, ?_⟩); (try refine ⟨rfl, ?_⟩)
  first | (intro acts; rw [hret _ acts rfl rfl rfl]) | rw [hret _ _ rfl rfl rfl]
  exact Steps.refl _
/-- what goes in a small room goes in a large one -/
theorem W_room {p : Program} {l : Launch} {e : Env} {r r' : Room} {s : State} {m : MethodId} {args : Array Value} {below : List Frame} {meth : Method} {c : Code} {H : Heap} {locs : List Loc} {k q : Nat} {Q : State → Prop} {g : JFrame} (hf : r.frames ≤ r'.frames) (hl : r.locals ≤ r'.locals) (hc : r.cells ≤ r'.cells) (hs : r.slots ≤ r'.slots) (kk : W p l e r s m args below meth c H locs k q Q g) : W p l e r' s m args below meth c H locs k q Q g := by
  intro T hT X
  refine kk T hT ⟨X.admits, X.cas, X.clock, X.frames, ?_, X.hears, X.method, X.code, X.here, X.tail, X.warmed, X.limits, X.bytes, X.same⟩
  have h := X.room
  simp only [State.hasRoom, Bool.and_eq_true, decide_eq_true_eq] at h ⊢
  obtain ⟨⟨⟨⟨y, a, b, c, d, e⟩, f⟩, g⟩, i⟩ := h
  exact ⟨⟨⟨⟨by omega, by omega, by omega, by omega, by omega, e⟩, by omega⟩, by omega⟩, i⟩
/-- a static array that the Statement gives -/
theorem e_stat {args : Array Value} {s : State} {n : String} {N : Nat} {l : List Nat} (hN : N < 2 ^ 31) (hl : (Cond.laysStatic "ShopWindow" n "[I").before args s = true) (hi : (Cond.initialized "ShopWindow").before args s = true) (ha : (Cond.arrayOf (.static "ShopWindow" n "[I") .int).before args s = true) (hn : (Cond.eq (.length (.static "ShopWindow" n "[I")) (.int (Int32.ofNat N))).before args s = true)
    (he : ∀ j : Nat, j < N → (Cond.eq (.elem (.static "ShopWindow" n "[I") (.int (Int32.ofNat j))) (.int (stf l j))).before args s = true) : ∃ t : Nat, va_Z "ShopWindow" n "[I" (.ref t) (fun q => s.heap.size ≤ q) s s.heap ∧ va_T .int t N (fun j => .int (stf l j)) (fun q => s.heap.size ≤ q) s s.heap := by
  have hA : ∀ a : Nat, a < s.heap.size → ¬ s.heap.size ≤ a := fun a h => Nat.not_le.mpr h
  obtain ⟨t, h1, h2⟩ := va_Tof (A := fun q => s.heap.size ≤ q) (f := fun j => .int (stf l j)) hN ha (va_eqt hn) (fun j hj => va_eqt (he j hj)) hA
  exact ⟨t, va_Zref hl hi h1 hA, h2⟩
/-- what lies outside -/
def eE (L : Nat) (xs : Nat → Int32) : xEx := fun i => match i with
  | 0 => some (L, xs)
  | 1 => some (3, stf [5, 10, 0])
  | 2 => some (6, stf [0, 2, 3, 0, 5, 0])
  | 3 => some (3, stf [9, 99, 2])
  | 4 => some (6, stf [0, 1, 1, 0, 0, 0])
  | 5 => some (6, stf [1, 4, 5, 9, 5, 999])
  | _ => none
theorem eE_ok (L : Nat) (xs : Nat → Int32) : xEok (eE L xs) := ⟨rfl, rfl, rfl, rfl, rfl⟩
def eA (base b t0 t1 t2 t3 t4 : Nat) : Nat → Nat := fun k => if k < 1000 then base + k else [b, t0, t1, t2, t3, t4].getD (k - 1000) 0
theorem eA_in {base b t0 t1 t2 t3 t4 : Nat} : ∀ k, k < 1000 → eA base b t0 t1 t2 t3 t4 k = base + k := fun k h => by unfold eA; rw [if_pos h]
theorem eA_out {base b t0 t1 t2 t3 t4 i : Nat} : eA base b t0 t1 t2 t3 t4 (1000 + i) = [b, t0, t1, t2, t3, t4].getD i 0 := by
  unfold eA
  rw [if_neg (by omega), Nat.add_sub_cancel_left]
def eC (ci cl cb cs : ClassId) : FieldType → ClassId := fun ty => match ty with
  | .long => cl
  | .boolean => cb
  | .object _ => cs
  | _ => ci
theorem e_inst : ∀ ci, ci < 7 → Cond.instantiable (xRo ci) (xNN ci) ∈ xTbl
  | 0, _ => xwd_in (i := 207) (by decide +kernel)
  | 1, _ => xwd_in (i := 54) (by decide +kernel)
  | 2, _ => xwd_in (i := 126) (by decide +kernel)
  | 3, _ => xwd_in (i := 76) (by decide +kernel)
  | 4, _ => xwd_in (i := 162) (by decide +kernel)
  | 5, _ => xwd_in (i := 46) (by decide +kernel)
  | 6, _ => xwd_in (i := 598) (by decide +kernel)
  | (n + 7), h => absurd h (by omega)
theorem e_K {s : State} {args : Array Value} (hts : ∀ w ∈ lw_tbl, w.before args s = true) : ∃ (D : va_G) (cA : FieldType → ClassId), va_K D vwCl (xtys cA) s := by
  have htx : ∀ w ∈ xTbl, w.before args s = true := fun w hw => hts w (List.mem_filter.mp hw).1
  have h : ∀ ci, ∃ (cC : ClassId) (iS : Nat → Nat), ci < 7 → u_Kn s (xRo ci) (xTT ci) (xNN ci) cC iS := by
    intro ci
    by_cases hc : ci < 7
    · obtain ⟨cC, iS, hk⟩ := u_known (n := xNN ci) htx (xlI ci hc) (htx _ (e_inst ci hc))
      exact ⟨cC, iS, fun _ => hk⟩
    · exact ⟨0, fun _ => 0, fun h => absurd h hc⟩
  obtain ⟨ai, ki, mi, f1, f2, f3⟩ := Cond.arrayClass_spec (htx _ xw_arr.1)
  obtain ⟨al, kl, ml, g1, g2, g3⟩ := Cond.arrayClass_spec (htx _ xw_arr.2.1)
  obtain ⟨ab, kb, mb, b1, b2, b3⟩ := Cond.arrayClass_spec (htx _ xw_arr.2.2)
  obtain ⟨mp, ap, kp, p1, -, p2, p3, p4⟩ := Cond.arrayOver_spec (n := "ShopWindow$Scene") (hts (.arrayOver (.object "ShopWindow$Scene")) (List.mem_of_getElem? (i := 124) (by decide +kernel)))
  refine ⟨(fun ci => Classical.choose (h ci), fun ci => Classical.choose (Classical.choose_spec (h ci))), eC ai al ab ap, fun ci q hq => ?_, fun k q hq => ?_⟩
  · have hc : ci < 7 := (List.getElem?_eq_some_iff.mp hq).1
    rw [xvw ci hc] at hq
    have e : (xRo ci, xTT ci, xNN ci) = q := by injection hq
    subst e
    exact Classical.choose_spec (Classical.choose_spec (h ci)) hc
  · have hk : k < 4 := (List.getElem?_eq_some_iff.mp hq).1
    rcases (show k = 0 ∨ k = 1 ∨ k = 2 ∨ k = 3 by omega) with rfl | rfl | rfl | rfl
    · cases hq
      exact ⟨fun n z => ⟨fun k h => (by cases h), ki, f2, mi, f3⟩, f1⟩
    · cases hq
      exact ⟨fun n z => ⟨fun k h => (by cases h), kl, g2, ml, g3⟩, g1⟩
    · cases hq
      exact ⟨fun n z => ⟨fun k h => (by cases h), kb, b2, mb, b3⟩, b1⟩
    · cases hq
      exact ⟨fun n z => ⟨fun k h => (by cases h), kp, p2, mp, p3⟩, kp, mp, p2, p3, p1, p4⟩
set_option maxRecDepth 20000 in
theorem whole_start {p : Program} {e : Env} {s : State} {m : MethodId} {below : List Frame} {meth : Method} {c : Code} (l : Launch) (hflags : l.flags = flags0) {b L : Nat} {xs : Nat → Int32} (hL : L ≤ 2560) (C0 : lw_At p s m meth c b L xs) : W p l e room_1 s m #[Value.ref b] below meth c s.heap [] 0 0 (lw_Z below #[Value.ref b] s) (entryFrame m ([Value.ref b] : List Value).toArray 4) := by
  obtain ⟨hx, hb, hr, hml, hown, hts, hX, hbl, hlocks, hgv⟩ := id C0
  have hs := flat_of_before _ hgv
  obtain ⟨D, cA, hK⟩ := e_K hts
  have hi : (Cond.initialized "ShopWindow").before #[Value.ref b] s = true := hts _ (List.mem_of_getElem? (i := 34) (by decide +kernel))
  obtain ⟨t0, z0, T0⟩ := e_stat (n := "TRAIT_AT_FIRST") (N := 3) (l := [5, 10, 0]) (by decide) (hts _ (List.mem_of_getElem? (i := 82) (by decide +kernel))) hi (hs (.arrayOf (.static "ShopWindow" "TRAIT_AT_FIRST" "[I") .int) (by decide +kernel)) (hs (.eq (.length (.static "ShopWindow" "TRAIT_AT_FIRST" "[I")) (.int 3)) (by decide +kernel)) (fun j hj => by
    rcases (show j = 0 ∨ j = 1 ∨ j = 2 by omega) with rfl | rfl | rfl
    · exact hs (.eq (.elem (.static "ShopWindow" "TRAIT_AT_FIRST" "[I") (.int 0)) (.int 5)) (by decide +kernel)
    · exact hs (.eq (.elem (.static "ShopWindow" "TRAIT_AT_FIRST" "[I") (.int 1)) (.int 10)) (by decide +kernel)
    · exact hs (.eq (.elem (.static "ShopWindow" "TRAIT_AT_FIRST" "[I") (.int 2)) (.int 0)) (by decide +kernel))
  obtain ⟨t1, z1, T1⟩ := e_stat (n := "HABIT_AT_FIRST") (N := 6) (l := [0, 2, 3, 0, 5, 0]) (by decide) (hts _ (List.mem_of_getElem? (i := 84) (by decide +kernel))) hi (hs (.arrayOf (.static "ShopWindow" "HABIT_AT_FIRST" "[I") .int) (by decide +kernel)) (hs (.eq (.length (.static "ShopWindow" "HABIT_AT_FIRST" "[I")) (.int 6)) (by decide +kernel)) (fun j hj => by
    rcases (show j = 0 ∨ j = 1 ∨ j = 2 ∨ j = 3 ∨ j = 4 ∨ j = 5 by omega) with rfl | rfl | rfl | rfl | rfl | rfl
    · exact hs (.eq (.elem (.static "ShopWindow" "HABIT_AT_FIRST" "[I") (.int 0)) (.int 0)) (by decide +kernel)
    · exact hs (.eq (.elem (.static "ShopWindow" "HABIT_AT_FIRST" "[I") (.int 1)) (.int 2)) (by decide +kernel)
    · exact hs (.eq (.elem (.static "ShopWindow" "HABIT_AT_FIRST" "[I") (.int 2)) (.int 3)) (by decide +kernel)
    · exact hs (.eq (.elem (.static "ShopWindow" "HABIT_AT_FIRST" "[I") (.int 3)) (.int 0)) (by decide +kernel)
    · exact hs (.eq (.elem (.static "ShopWindow" "HABIT_AT_FIRST" "[I") (.int 4)) (.int 5)) (by decide +kernel)
    · exact hs (.eq (.elem (.static "ShopWindow" "HABIT_AT_FIRST" "[I") (.int 5)) (.int 0)) (by decide +kernel))
  obtain ⟨t2, z2, T2⟩ := e_stat (n := "TRAIT_MOST") (N := 3) (l := [9, 99, 2]) (by decide) (hts _ (List.mem_of_getElem? (i := 283) (by decide +kernel))) hi (hs (.arrayOf (.static "ShopWindow" "TRAIT_MOST" "[I") .int) (by decide +kernel)) (hs (.eq (.length (.static "ShopWindow" "TRAIT_MOST" "[I")) (.int 3)) (by decide +kernel)) (fun j hj => by
    rcases (show j = 0 ∨ j = 1 ∨ j = 2 by omega) with rfl | rfl | rfl
    · exact hs (.eq (.elem (.static "ShopWindow" "TRAIT_MOST" "[I") (.int 0)) (.int 9)) (by decide +kernel)
    · exact hs (.eq (.elem (.static "ShopWindow" "TRAIT_MOST" "[I") (.int 1)) (.int 99)) (by decide +kernel)
    · exact hs (.eq (.elem (.static "ShopWindow" "TRAIT_MOST" "[I") (.int 2)) (.int 2)) (by decide +kernel))
  obtain ⟨t3, z3, T3⟩ := e_stat (n := "HABIT_LEAST") (N := 6) (l := [0, 1, 1, 0, 0, 0]) (by decide) (hts _ (List.mem_of_getElem? (i := 373) (by decide +kernel))) hi (hs (.arrayOf (.static "ShopWindow" "HABIT_LEAST" "[I") .int) (by decide +kernel)) (hs (.eq (.length (.static "ShopWindow" "HABIT_LEAST" "[I")) (.int 6)) (by decide +kernel)) (fun j hj => by
    rcases (show j = 0 ∨ j = 1 ∨ j = 2 ∨ j = 3 ∨ j = 4 ∨ j = 5 by omega) with rfl | rfl | rfl | rfl | rfl | rfl
    · exact hs (.eq (.elem (.static "ShopWindow" "HABIT_LEAST" "[I") (.int 0)) (.int 0)) (by decide +kernel)
    · exact hs (.eq (.elem (.static "ShopWindow" "HABIT_LEAST" "[I") (.int 1)) (.int 1)) (by decide +kernel)
    · exact hs (.eq (.elem (.static "ShopWindow" "HABIT_LEAST" "[I") (.int 2)) (.int 1)) (by decide +kernel)
    · exact hs (.eq (.elem (.static "ShopWindow" "HABIT_LEAST" "[I") (.int 3)) (.int 0)) (by decide +kernel)
    · exact hs (.eq (.elem (.static "ShopWindow" "HABIT_LEAST" "[I") (.int 4)) (.int 0)) (by decide +kernel)
    · exact hs (.eq (.elem (.static "ShopWindow" "HABIT_LEAST" "[I") (.int 5)) (.int 0)) (by decide +kernel))
  obtain ⟨t4, z4, T4⟩ := e_stat (n := "HABIT_MOST") (N := 6) (l := [1, 4, 5, 9, 5, 999]) (by decide) (hts _ (List.mem_of_getElem? (i := 375) (by decide +kernel))) hi (hs (.arrayOf (.static "ShopWindow" "HABIT_MOST" "[I") .int) (by decide +kernel)) (hs (.eq (.length (.static "ShopWindow" "HABIT_MOST" "[I")) (.int 6)) (by decide +kernel)) (fun j hj => by
    rcases (show j = 0 ∨ j = 1 ∨ j = 2 ∨ j = 3 ∨ j = 4 ∨ j = 5 by omega) with rfl | rfl | rfl | rfl | rfl | rfl
    · exact hs (.eq (.elem (.static "ShopWindow" "HABIT_MOST" "[I") (.int 0)) (.int 1)) (by decide +kernel)
    · exact hs (.eq (.elem (.static "ShopWindow" "HABIT_MOST" "[I") (.int 1)) (.int 4)) (by decide +kernel)
    · exact hs (.eq (.elem (.static "ShopWindow" "HABIT_MOST" "[I") (.int 2)) (.int 5)) (by decide +kernel)
    · exact hs (.eq (.elem (.static "ShopWindow" "HABIT_MOST" "[I") (.int 3)) (.int 9)) (by decide +kernel)
    · exact hs (.eq (.elem (.static "ShopWindow" "HABIT_MOST" "[I") (.int 4)) (.int 5)) (by decide +kernel)
    · exact hs (.eq (.elem (.static "ShopWindow" "HABIT_MOST" "[I") (.int 5)) (.int 999)) (by decide +kernel))
  have had : ∀ k, k < 1000 → eA s.heap.size b t0 t1 t2 t3 t4 k = s.heap.size + k := eA_in
  obtain ⟨scr, x1, x2, x3, x4, x5⟩ := hX
  have hE : xExt (eE L xs) s.heap.size (eA s.heap.size b t0 t1 t2 t3 t4) s s.heap := by
    refine ⟨fun i N f he => ?_, fun e he => ?_, fun w hw => va_Nw.of (xNst_ok hw).1 (hts w (List.mem_filter.mp hw).1), va_AO.of (hts _ (List.mem_of_getElem? (i := 124) (by decide +kernel)))⟩
    · rw [eA_out]
      match i, he with
      | 0, he =>
        obtain ⟨rfl, rfl⟩ : L = N ∧ xs = f := by injection he with he; exact ⟨congrArg Prod.fst he, congrArg Prod.snd he⟩
        exact ⟨scr, x1, x2, x3, by omega, by rw [x4], x5, Nat.not_le.mpr hbl⟩
      | 1, he => cases he; exact T0
      | 2, he => cases he; exact T1
      | 3, he => cases he; exact T2
      | 4, he => cases he; exact T3
      | 5, he => cases he; exact T4
      | (i + 6), he => cases he
    · rw [show 1001 + e = 1000 + (1 + e) by omega, eA_out]
      rcases (show e = 0 ∨ e = 1 ∨ e = 2 ∨ e = 3 ∨ e = 4 by omega) with rfl | rfl | rfl | rfl | rfl
      · exact z0
      · exact z1
      · exact z2
      · exact z3
      · exact z4
  have hl := lv_entry ([.ref b]) (n := 4) (Nat.le_of_ble_eq_true rfl)
  rw [lg_entry_eq]
  generalize (lg_sl ([.ref b]) ++ List.replicate (4 - (lg_sl ([.ref b])).length) Slot.unset).toArray = ls at hl ⊢
  have hl : lv_has ls 4 [(0, .ref b)] := hl
  refine W_room (r := ({ frames := 2048, cells := 63, slots := 13466, locals := 84000 } : Room)) (Nat.le_of_ble_eq_true rfl) (Nat.le_of_ble_eq_true rfl) (Nat.le_of_ble_eq_true rfl) (Nat.le_of_ble_eq_true rfl) ?_
  refine L_law (E := eE L xs) (n := L) (xs := xs) (I := fun _ _ => 0) (L := fun _ _ => 0) (Q := fun r _ => r = some (.int (nI 1))) (eE_ok L xs) rfl hL (fun _ _ _ => ⟨rfl, rfl⟩) (fun i I9 L9 => ws_zret rfl rfl (Or.inr rfl) rfl (Nat.le_refl _) rfl) s.heap.size (eA s.heap.size b t0 t1 t2 t3 t4) cA D l p e _ s m #[Value.ref b] below meth c _ s.heap [] ls ⟨⟨by decide, hx, hb, hml, hown⟩, ⟨fun w hw => hts w (List.mem_filter.mp hw).1, hK, hE⟩, ⟨fun h => (by cases h), rfl, rfl, Nat.le_of_ble_eq_true rfl, Nat.le_of_ble_eq_true rfl⟩, Nat.le_refl _, had⟩ ?_ ⟨⟨rfl, Nat.zero_le _⟩, fun k q h => (by cases h), va_S.rf⟩ hl
  intro r σ H locs pc ls hr2 hI hret
  subst hr2
  refine va_forget hI.2.2.2.2 ?_
  exact W.widen (Nat.le_of_ble_eq_true rfl) (Nat.le_of_ble_eq_true rfl) (lw_retR hx hb hr hlocks hret.1)
