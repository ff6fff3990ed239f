/-! ===== calls ===== -/
theorem xNst_ok {w : Cond} (h : w ∈ xNst) : w.onTables = true ∧ ∀ {s U : State}, s.WarmedH U.vm → va_Nw w s → va_Nw w U := by
  have h1 : xnst w = true := (List.mem_filter.mp h).2
  cases w with
  | methodLinkNest a i x h => exact ⟨rfl, fun hW hZ => va_Nw.warmM hW hZ⟩
  | fieldLinkNest a i b n d h => exact ⟨rfl, fun hW hZ => va_Nw.warmF hW hZ⟩
  | _ => cases h1
theorem xExt.call {E : xEx} {base : Nat} {ad : Nat → Nat} {U : State} {g : JFrame} {mk : MethodId} {a : Array Value} (h : xExt E base ad U U.heap) : xExt E base ad (U.calling g mk a) (U.calling g mk a).heap :=
  ⟨fun i N f he => va_T.moved (u := U) (U := U.calling g mk a) (Vm.Alike.refl U.vm) (h.1 i N f he), fun e he => va_Z.moved (u := U) (U := U.calling g mk a) (Vm.Alike.refl U.vm) (h.2.1 e he), fun w hw => va_Nw.same (xNst_ok hw).1 (u := U) (U := U.calling g mk a) rfl (h.2.2.1 w hw), va_AO.moved (u := U) (U := U.calling g mk a) (Vm.Alike.refl U.vm) h.2.2.2⟩
theorem xExt.warm {E : xEx} {base : Nat} {ad : Nat → Nat} {s U : State} {H : Heap} {locs : List Loc} (h : xExt E base ad s s.heap) (hS : va_S (fun q => base ≤ q) s.heap H locs) (hU : U.heap = H) (hW : s.WarmedH U.vm) : xExt E base ad U U.heap := by
  rw [hU]
  exact ⟨fun i N f he => va_T.moved hW.alike ((h.1 i N f he).kept hS.2.1), fun e he => va_Z.moved hW.alike ((h.2.1 e he).kept hS.2.1), fun w hw => (xNst_ok hw).2 hW (h.2.2.1 w hw), va_AO.moved hW.alike h.2.2.2⟩
def xPc (E : xEx) (base : Nat) (ad : Nat → Nat) (cA : FieldType → ClassId) (D : va_G) (σ : xMem) (As : List Value) : Array Value → State → Prop := fun a U => a = (As.map (xtr ad)).toArray ∧ U.heap.size = base + σ.1.length ∧ va_K D vwCl (xtys cA) U ∧ xExt E base ad U U.heap ∧ va_P D vwCl (xconc ad cA σ) U.heap
def xQc (mi base : Nat) (ad : Nat → Nat) (cA : FieldType → ClassId) (D : va_G) (Q : Option Value → xMem → Prop) : Array Value → State → Outcome → State → Prop := fun _ st o t => ∃ (r : Option Value) (σ : xMem), o = .returned (r.map (xtr ad)) ∧ Q r σ ∧ (st.heap.size + xBC mi = base + σ.1.length ∧ σ.1.length ≤ 1000) ∧ va_P D vwCl (xconc ad cA σ) t.heap ∧ ∀ q, q < base → t.heap[q]? = st.heap[q]?
abbrev xws (mi : Nat) : List Cond := Cond.code (xY mi) (xCC mi) (xML mi) (xRT mi) :: xTbl
abbrev xrm (d mi : Nat) : Room := { frames := d, cells := xBC mi, slots := xBS mi, locals := 60 * d }
theorem xMet {E : xEx} {d mi : Nat} {As : List Value} {σ : xMem} {Q : Option Value → xMem → Prop} (hC : xC E d mi As σ Q) (hmi : mi < 144) (hA : (xargs As).length ≤ xML mi) (hlen : σ.1.length ≤ 1000) (base : Nat) (ad : Nat → Nat) (cA : FieldType → ClassId) (D : va_G) (had : ∀ k, k < 1000 → ad k = base + k) (l : Launch) : Met l (xY mi) (xws mi) (xrm d mi) (xPc E base ad cA D σ As) (xQc mi base ad cA D Q) (xBC mi) (xBS mi) (fun q => base ≤ q) := by
  refine va_MetF (cc := xCC mi) (maxL := xML mi) (ret := xRT mi) (xpl mi (by omega)) rfl ?_
  intro p e s m args below meth c s₁ B hml hv
  obtain ⟨rfl, hsz, hK, hX, hP⟩ := hv
  have hts := atoms_spec (ws := xws mi) B.pre
  have hl := lv_entry (As.map (xtr ad)) (n := xML mi) (by rw [xargs_len]; exact hA)
  have hlocks := B.notSynchronized
  rw [lg_entry_eq]
  generalize (lg_sl (As.map (xtr ad)) ++ List.replicate (xML mi - (lg_sl (As.map (xtr ad))).length) Slot.unset).toArray = ls at hl ⊢
  rw [xargs_lv ad As 0] at hl
  have hbase : base ≤ s.heap.size := by omega
  refine hC base ad cA D l p e _ s m _ below meth c _ s.heap [] ls ⟨⟨by omega, B.exec, B.bytes, hml, ?_⟩, ⟨fun w hw => hts w (List.mem_cons_of_mem _ hw), hK, hX⟩, ⟨fun hin => ?_, rfl, rfl, Nat.le_refl _, Nat.le_refl _⟩, hbase, had⟩ ?_ ⟨⟨hsz, hlen⟩, hP, va_S.rf⟩ (by rw [xpad_lv]; exact hl)
  · rw [(xow mi (by omega)).1]
    exact findClass_of_methodNamed B.named
  · rw [(name_of_methodNamed B.named B.method).1]
    exact xin mi (by omega) hin
  · intro r σ' H locs pc ls' hQ hI' hRet
    have hq : ∀ t : State, t.heap = H → s.WarmedH t.vm → xQc mi base ad cA D Q (As.map (xtr ad)).toArray s (.returned (r.map (xtr ad))) t := by
      intro t ht _
      refine ⟨r, σ', rfl, hQ, ⟨hI'.1.1, hI'.1.2⟩, by rw [ht]; exact hI'.2.1, fun q hq => ?_⟩
      rw [ht]
      exact hI'.2.2.2.1 q (by omega) (by omega)
    have hf : ∀ q ∈ locs, base ≤ q.base := hI'.2.2.2.2
    have hret := B.returns
    cases r with
    | none => exact W.vret B.exec B.bytes (hret.trans hRet.2) hq hf hRet.1
    | some v =>
      cases v with
      | int v =>
        obtain ⟨h1, h2 | ⟨h2, h3⟩⟩ := hRet
        · exact W.iret B.exec B.bytes (hret.trans h2) hq hf h1
        · exact W.zret (ty := .boolean) B.exec B.bytes (hret.trans h2) (by rcases h3 with rfl | rfl <;> rfl) hq hf h1
      | long v => exact W.lret B.exec B.bytes (hret.trans hRet.2) hq hf hRet.1
      | _ => exact hRet.elim
section XGO
variable {base : Nat} {ad : Nat → Nat} {cA : FieldType → ClassId} {D : va_G} {l : Launch} {p : Program} {e : Env} {R : Room} {s : State} {m : MethodId} {args : Array Value} {below : List Frame} {meth : Method} {c : Code} {Qf : State → Prop} {H : Heap} {locs : List Loc} {ls : Array Slot}
theorem xgo {cal k q pc : Nat} {σ : xMem} {Q2 : Option Value → xMem → Prop} {a : Array Value} {st0 rest : List Value} (hr : va_Run p l e R s m args below meth c H locs k q (xBC cal) (xBS cal) (F0 m pc ls st0) rest (xQc cal base ad cA D Q2 a) (fun q => base ≤ q)) (hI : xInv base ad cA D s σ k H locs) (hz : H.size = base + σ.1.length) (hb : base ≤ s.heap.size)
    (kk : ∀ (r : Option Value) (σ' : xMem) (H1 : Heap) (locs1 : List Loc), Q2 r σ' → xInv base ad cA D s σ' (k + xBC cal) H1 locs1 → W p l e R s m args below meth c H1 locs1 (k + xBC cal) (q + xBS cal) Qf (F0 m (pc + 3) ls ((r.map (xtr ad)).toList ++ rest))) : W p l e R s m args below meth c H locs k q Qf (F0 m pc ls st0) := by
  intro T hT X
  obtain ⟨v, st₀, t, T', L, h0, X', hL, e1, e2, ⟨r, σ', hv, hQ, ⟨hz1, hz2⟩, hP, hfr⟩, st⟩ := hr T hT X
  cases hv
  have h5 : s.heap.size ≤ T'.heap.size := X'.same.2.1
  obtain ⟨t2, a1, b1⟩ := kk r σ' T'.heap (locs ++ L) hQ ⟨⟨by rw [h0] at hz1; have := hI.1.1; omega, hz2⟩, by rw [e1]; exact hP, h5, fun q h1 h2 => by
      rw [e1, hfr q (by omega), h0]
      exact hI.2.2.2.1 q h1 h2, fun q hq => by
      rcases List.mem_append.mp hq with h | h
      · exact hI.2.2.2.2 q h
      · exact hL q h⟩ T' rfl X'
  exact ⟨t2, st t2 a1, b1⟩
end XGO
theorem xPc_blind {E : xEx} {base : Nat} {ad : Nat → Nat} {cA : FieldType → ClassId} {D : va_G} {σ : xMem} {As : List Value} : FrameBlind (xPc E base ad cA D σ As) := by
  intro a U g mk h
  obtain ⟨h1, h2, h3, h4, h5⟩ := h
  exact ⟨h1, h2, va_K.moved (u := U) (U := U.calling g mk a) (Vm.Alike.refl U.vm) h3, h4.call, h5⟩
theorem xGood {w : Cond} (h : w ∈ xTbl) : w ∈ xTbl ∧ ((w.onTables && w.keeps) = true ∨ ∃ ty, w = .arrayClass ty) := xTbl_good w h
theorem xws_good {mi : Nat} (h : mi < 144) : GoodIn xTbl (xws mi) := by
  intro w hw
  rcases List.mem_cons.mp hw with rfl | hw
  · exact xGood (xwc mi h)
  · exact xGood hw
def xsum (l : List Value) : Nat := match l with
  | [] => 0
  | v :: r => (bif xcat v then 2 else 1) + xsum r
theorem xsum_of (ad : Nat → Nat) : ∀ l : List Value, ((l.map (xtr ad)).map fun v => v.category).sum = xsum l
  | [] => rfl
  | v :: r => by
    have ih := xsum_of ad r
    rw [List.map_cons, List.map_cons, List.sum_cons, ih, xtr_cat]
    have e : v.category = (bif xcat v then 2 else 1) := by cases v <;> rfl
    rw [e]
    rfl
/-- what a call needs, decided -/
def xokc (mi cal n : Nat) (As rest : List Value) (d1 d k q : Nat) : Bool := Nat.blt cal 144 && (Nat.ble (xargs As).length (xML cal) && (Nat.beq n (xNP cal) && (Nat.ble (d1 + 1) d && (Nat.ble (xsum rest) 8 && (Nat.ble (k + xBC cal) (xBC mi) && Nat.ble (q + xBS cal) (xBS mi))))))
theorem xokc_of {mi cal n : Nat} {As rest : List Value} {d1 d k q : Nat} (h : xokc mi cal n As rest d1 d k q = true) : cal < 144 ∧ (xargs As).length ≤ xML cal ∧ n = xNP cal ∧ d1 + 1 ≤ d ∧ xsum rest ≤ 8 ∧ k + xBC cal ≤ xBC mi ∧ q + xBS cal ≤ xBS mi := by
  unfold xokc at h
  simp only [Bool.and_eq_true] at h
  exact ⟨Nat.le_of_ble_eq_true h.1, Nat.le_of_ble_eq_true h.2.1, Nat.eq_of_beq_eq_true h.2.2.1, Nat.le_of_ble_eq_true h.2.2.2.1, Nat.le_of_ble_eq_true h.2.2.2.2.1, Nat.le_of_ble_eq_true h.2.2.2.2.2.1, Nat.le_of_ble_eq_true h.2.2.2.2.2.2⟩
theorem xmt_of {ow idx kd cal : Nat} (h : xmt ow idx = some (kd, cal)) (ho : ow < 11) : ∃ e ∈ xmL.getD ow [], e.1 = idx ∧ e.2.1 = kd ∧ e.2.2.1 = cal ∧ xmOk ow e = true := by
  obtain ⟨x, hx, hx2⟩ := Option.map_eq_some_iff.mp h
  have hm := List.mem_of_find?_eq_some hx
  exact ⟨x, hm, by simpa using List.find?_some hx, (Prod.mk.inj hx2).1, (Prod.mk.inj hx2).2, xmL_ok ow ho x hm⟩
section XCALL
variable {E : xEx} {d mi pc idx cal d1 : Nat} {lv : xLv} {rest As : List Value} {σ : xMem} {k q : Nat} {Q Qc : Option Value → xMem → Prop}
theorem ws_invS (pc' k' q' : Nat) (hf : xft mi pc = some (.invokestatic idx, 3)) (hp : pc + 3 = pc') (hm : xmt (xOW mi) idx = some (0, cal)) (hC : xC E d1 cal As σ Qc) (hk : xokc mi cal As.length As rest d1 d k q = true) (hk' : k + xBC cal = k') (hq' : q + xBS cal = q') (kk : ∀ r t, Qc r t → xW E d mi pc' lv (r.toList ++ rest) t k' q' Q) : xW E d mi pc lv (As.reverse ++ rest) σ k q Q := by
  subst hp
  subst hk'
  subst hq'
  intro base ad cA D l p e R s m args below meth c Qf H locs ls C hE hI hl
  obtain ⟨c1, c2, c3, c4, c5, c6, c7⟩ := xokc_of hk
  obtain ⟨x, hmx, i1, i2, i3, i4⟩ := xmt_of hm (xow mi C.1.1).2
  unfold xmOk at i4
  simp only [i1, i2, i3, Bool.and_eq_true] at i4
  obtain ⟨⟨w1, w2⟩, w3⟩ := i4
  have hfr := C.2.2.1.2.2.2.1
  have hlo := C.2.2.1.2.2.2.2
  have hml := xml cal (by omega)
  intro T hT X
  have hz := xsize hI C.2.2.2.1 C.2.2.2.2 hT X
  refine (xgo (cal := cal) (σ := σ) (rest := rest.map (xtr ad)) (va_runS (nL := xML mi) (n := xNP cal) (Ts := xTbl) (own := xRo (xOW mi)) (As := As.map (xtr ad)) ⟨C.1.2.1, C.1.2.2.1, C.1.2.2.2.1, C.1.2.2.2.2, C.2.1.1⟩ (xMet hC c1 c2 hI.1.2 base ad cA D C.2.2.2.2 l) (va_cwS (xNP cal) C.2.1.1 (fun w hw => ?_) rfl rfl rfl (xds cal (by omega)) ⟨by show d1 + 1 ≤ _; omega, by show 8 + (xML cal + 11) + 60 * d1 ≤ _; omega⟩) ⟨xPc_blind, fun U hU hW => ⟨rfl, by rw [hU]; exact hz, va_K.moved hW.alike C.2.1.2.1, xExt.warm C.2.1.2.2 hI.2.2 hU hW, by rw [hU]; exact hI.2.1⟩⟩ rfl (by rw [List.length_map]; exact c3) hl.1 (by show (As.reverse ++ rest).map (xtr ad) = _; rw [List.map_append, List.map_reverse]) (by rw [xsum_of]; show 2 * 0 + xsum rest ≤ 8; omega) (xdec hf) ⟨by rw [C.2.2.1.2.1]; exact c6, by rw [C.2.2.1.2.2.1]; exact c7⟩) hI hz C.2.2.2.1 (fun r σ' H1 locs1 hQ hI1 => ?_)) T hT X
  · unfold va_wsS at hw
    rcases List.mem_append.mp hw with hw | hw
    · simp only [List.mem_cons, List.not_mem_nil, or_false] at hw
      rcases hw with rfl | rfl | rfl
      · exact xGood (xwd_in w1)
      · exact xGood (xwd_in w2)
      · exact xGood (xwd_in w3)
    · exact xws_good c1 w hw
  · have e9 : (r.map (xtr ad)).toList ++ rest.map (xtr ad) = (r.toList ++ rest).map (xtr ad) := by cases r <;> simp
    rw [e9]
    exact kk r σ' hQ base ad cA D l p e R s m args below meth c Qf H1 locs1 ls C hE hI1 hl
theorem ws_invSN (pc' k' q' : Nat) (hf : xft mi pc = some (.invokestatic idx, 3)) (hp : pc + 3 = pc') (hm : xmt (xOW mi) idx = some (10, cal)) (hC : xC E d1 cal As σ Qc) (hk : xokc mi cal As.length As rest d1 d k q = true) (hk' : k + xBC cal = k') (hq' : q + xBS cal = q') (kk : ∀ r t, Qc r t → xW E d mi pc' lv (r.toList ++ rest) t k' q' Q) : xW E d mi pc lv (As.reverse ++ rest) σ k q Q := by
  subst hp
  subst hk'
  subst hq'
  intro base ad cA D l p e R s m args below meth c Qf H locs ls C hE hI hl
  obtain ⟨c1, c2, c3, c4, c5, c6, c7⟩ := xokc_of hk
  obtain ⟨x, hmx, i1, i2, i3, i4⟩ := xmt_of hm (xow mi C.1.1).2
  unfold xmOk at i4
  simp only [i1, i2, i3, Bool.and_eq_true, decide_eq_true_eq] at i4
  obtain ⟨⟨w1, w2⟩, w3⟩ := i4
  have hfr := C.2.2.1.2.2.2.1
  have hlo := C.2.2.1.2.2.2.2
  have hml := xml cal (by omega)
  intro T hT X
  have hz := xsize hI C.2.2.2.1 C.2.2.2.2 hT X
  refine (xgo (cal := cal) (σ := σ) (rest := rest.map (xtr ad)) (va_runSN (nL := xML mi) (n := xNP cal) (Ts := xTbl) (own := xRo (xOW mi)) (As := As.map (xtr ad)) ⟨C.1.2.1, C.1.2.2.1, C.1.2.2.2.1, C.1.2.2.2.2, C.2.1.1⟩ (xMet hC c1 c2 hI.1.2 base ad cA D C.2.2.2.2 l) ⟨va_cnB (xNP cal) C.2.1.1 (xws_good c1) rfl rfl rfl (C.2.1.2.2.2.2.1 _ (xNst_at w1 rfl)) (C.2.1.1 _ (xwd_in w3)) (xds cal (by omega)) ⟨by show d1 + 1 ≤ _; omega, by show 8 + (xML cal + 11) + 60 * d1 ≤ _; omega⟩, C.2.1.1 _ (xwd_in w2), trivial⟩ ⟨xPc_blind, fun U hU hW => ⟨rfl, by rw [hU]; exact hz, va_K.moved hW.alike C.2.1.2.1, xExt.warm C.2.1.2.2 hI.2.2 hU hW, by rw [hU]; exact hI.2.1⟩⟩ rfl (by rw [List.length_map]; exact c3) hl.1 (by show (As.reverse ++ rest).map (xtr ad) = _; rw [List.map_append, List.map_reverse]) (by rw [xsum_of]; show 2 * 0 + xsum rest ≤ 8; omega) (xdec hf) ⟨by rw [C.2.2.1.2.1]; exact c6, by rw [C.2.2.1.2.2.1]; exact c7⟩) hI hz C.2.2.2.1 (fun r σ' H1 locs1 hQ hI1 => ?_)) T hT X
  have e9 : (r.map (xtr ad)).toList ++ rest.map (xtr ad) = (r.toList ++ rest).map (xtr ad) := by cases r <;> simp
  rw [e9]
  exact kk r σ' hQ base ad cA D l p e R s m args below meth c Qf H1 locs1 ls C hE hI1 hl
theorem ws_invV {S : List xSh} {I : Nat → Nat → Int32} {L : Nat → Nat → Int64} {o : Nat} {fs : List Value} (pc' k' q' : Nat) (hf : xft mi pc = some (.invokevirtual idx, 3)) (hp : pc + 3 = pc') (hm : xmt (xOW mi) idx = some (1, cal)) (ho : S[o]? = some (.inr (.inl (xOW cal, fs)))) (hC : xC E d1 cal (.ref o :: As) (S, I, L) Qc) (hk : xokc mi cal As.length (.ref o :: As) rest d1 d k q = true) (hk' : k + xBC cal = k') (hq' : q + xBS cal = q') (kk : ∀ r t, Qc r t → xW E d mi pc' lv (r.toList ++ rest) t k' q' Q) : xW E d mi pc lv (As.reverse ++ .ref o :: rest) (S, I, L) k q Q := by
  subst hp
  subst hk'
  subst hq'
  intro base ad cA D l p e R s m args below meth c Qf H locs ls C hE hI hl
  obtain ⟨c1, c2, c3, c4, c5, c6, c7⟩ := xokc_of hk
  obtain ⟨x, hmx, i1, i2, i3, i4⟩ := xmt_of hm (xow mi C.1.1).2
  unfold xmOk at i4
  simp only [i1, i2, i3, Bool.and_eq_true] at i4
  obtain ⟨⟨⟨w1, w2⟩, w3⟩, w4⟩ := i4
  have hfr := C.2.2.1.2.2.2.1
  have hlo := C.2.2.1.2.2.2.2
  have hml := xml cal (by omega)
  have hcl : ∃ q : vw_C, vwCl[xOW cal]? = some q ∧ q.1 = (xY cal).cls := by
    have h1 : xOW cal < 7 := by
      obtain ⟨r, hr, -⟩ := hI.2.1 o _ (xconc_at ho)
      exact (List.getElem?_eq_some_iff.mp hr).1
    exact ⟨_, xvw _ h1, (xow cal (by omega)).1⟩
  obtain ⟨qc, hqc, hqn⟩ := hcl
  intro T hT X
  have hz := xsize hI C.2.2.2.1 C.2.2.2.2 hT X
  refine (xgo (cal := cal) (σ := (S, I, L)) (rest := rest.map (xtr ad)) (va_runV (nL := xML mi) (n := xNP cal) (Ts := xTbl) (own := xRo (xOW mi)) (C := (xY cal).cls) (b := ad o) (As := As.map (xtr ad)) ⟨C.1.2.1, C.1.2.2.1, C.1.2.2.2.1, C.1.2.2.2.2, C.2.1.1⟩ (xMet hC c1 c2 hI.1.2 base ad cA D C.2.2.2.2 l) (cwV (xNP cal) C.2.1.1 (fun w hw => ?_) rfl rfl rfl ⟨rfl, xds cal (by omega)⟩ ⟨by show d1 + 1 ≤ _; omega, by show 8 + (xML cal + 11) + 60 * d1 ≤ _; omega⟩) ⟨xPc_blind, by rw [← hqn]; exact va_recv C.2.1.2.1 hI.2.1 hqc (xconc_at ho), fun U hU hW => ⟨rfl, by rw [hU]; exact hz, va_K.moved hW.alike C.2.1.2.1, xExt.warm C.2.1.2.2 hI.2.2 hU hW, by rw [hU]; exact hI.2.1⟩⟩ rfl (by rw [List.length_map]; exact c3) hl.1 (by show (As.reverse ++ .ref o :: rest).map (xtr ad) = _; rw [List.map_append, List.map_reverse]; rfl) (by rw [xsum_of]; show 2 * 0 + xsum rest ≤ 8; omega) (xdec hf) ⟨by rw [C.2.2.1.2.1]; exact c6, by rw [C.2.2.1.2.2.1]; exact c7⟩) hI hz C.2.2.2.1 (fun r σ' H1 locs1 hQ hI1 => ?_)) T hT X
  · unfold wsV at hw
    rcases List.mem_append.mp hw with hw | hw
    · simp only [List.mem_cons, List.not_mem_nil, or_false] at hw
      rcases hw with rfl | rfl | rfl | rfl
      all_goals first | exact xGood (xwd_in w1) | exact xGood (xwd_in w2) | exact xGood (xwd_in w3) | exact xGood (xwd_in w4)
    · exact xws_good c1 w hw
  · have e9 : (r.map (xtr ad)).toList ++ rest.map (xtr ad) = (r.toList ++ rest).map (xtr ad) := by cases r <;> simp
    rw [e9]
    exact kk r σ' hQ base ad cA D l p e R s m args below meth c Qf H1 locs1 ls C hE hI1 hl
theorem ws_invI {o : Nat} (pc' k' q' : Nat) (hf : xft mi pc = some (.invokespecial idx, 3)) (hp : pc + 3 = pc') (hm : xmt (xOW mi) idx = some (2, cal)) (hC : xC E d1 cal (.ref o :: As) σ Qc) (hk : xokc mi cal As.length (.ref o :: As) rest d1 d k q = true) (hk' : k + xBC cal = k') (hq' : q + xBS cal = q') (kk : ∀ r t, Qc r t → xW E d mi pc' lv (r.toList ++ rest) t k' q' Q) : xW E d mi pc lv (As.reverse ++ .ref o :: rest) σ k q Q := by
  subst hp
  subst hk'
  subst hq'
  intro base ad cA D l p e R s m args below meth c Qf H locs ls C hE hI hl
  obtain ⟨c1, c2, c3, c4, c5, c6, c7⟩ := xokc_of hk
  obtain ⟨x, hmx, i1, i2, i3, i4⟩ := xmt_of hm (xow mi C.1.1).2
  unfold xmOk at i4
  simp only [i1, i2, i3, Bool.and_eq_true, decide_eq_true_eq] at i4
  obtain ⟨⟨⟨⟨w1, w2⟩, w3⟩, w4⟩, w5⟩ := i4
  have hfr := C.2.2.1.2.2.2.1
  have hlo := C.2.2.1.2.2.2.2
  have hml := xml cal (by omega)
  intro T hT X
  have hz := xsize hI C.2.2.2.1 C.2.2.2.2 hT X
  have hM := xMet hC c1 c2 hI.1.2 base ad cA D C.2.2.2.2 l
  have hw5 : xws cal = Cond.code (xY cal) (xCC cal) (xML cal) none :: xTbl := by show Cond.code _ _ _ (xRT cal) :: _ = _; rw [w5]
  refine (xgo (cal := cal) (σ := σ) (rest := rest.map (xtr ad)) (va_runI (nL := xML mi) (n := xNP cal) (Ts := xTbl) (own := xRo (xOW mi)) (b := ad o) (As := As.map (xtr ad)) ⟨C.1.2.1, C.1.2.2.1, C.1.2.2.2.1, C.1.2.2.2.2, C.2.1.1⟩ hM (cwI (xNP cal) C.2.1.1 (xws_good c1) hw5 rfl rfl (C.2.1.1 _ (xwd_in w3)) (C.2.1.1 _ (xwd_in w1)) (C.2.1.1 _ (xwd_in w2)) w4 (xds cal (by omega)) ⟨by show d1 + 1 ≤ _; omega, by show 8 + (xML cal + 11) + 60 * d1 ≤ _; omega⟩) ⟨xPc_blind, fun U hU hW => ⟨rfl, by rw [hU]; exact hz, va_K.moved hW.alike C.2.1.2.1, xExt.warm C.2.1.2.2 hI.2.2 hU hW, by rw [hU]; exact hI.2.1⟩⟩ rfl (by rw [List.length_map]; exact c3) hl.1 (by show (As.reverse ++ .ref o :: rest).map (xtr ad) = _; rw [List.map_append, List.map_reverse]; rfl) (by rw [xsum_of]; show 2 * 0 + xsum rest ≤ 8; omega) (xdec hf) ⟨by rw [C.2.2.1.2.1]; exact c6, by rw [C.2.2.1.2.2.1]; exact c7⟩) hI hz C.2.2.2.1 (fun r σ' H1 locs1 hQ hI1 => ?_)) T hT X
  have e9 : (r.map (xtr ad)).toList ++ rest.map (xtr ad) = (r.toList ++ rest).map (xtr ad) := by cases r <;> simp
  rw [e9]
  exact kk r σ' hQ base ad cA D l p e R s m args below meth c Qf H1 locs1 ls C hE hI1 hl
theorem ws_invIN {o : Nat} (pc' k' q' : Nat) (hf : xft mi pc = some (.invokespecial idx, 3)) (hp : pc + 3 = pc') (hm : xmt (xOW mi) idx = some (12, cal)) (hC : xC E d1 cal (.ref o :: As) σ Qc) (hk : xokc mi cal As.length (.ref o :: As) rest d1 d k q = true) (hk' : k + xBC cal = k') (hq' : q + xBS cal = q') (kk : ∀ r t, Qc r t → xW E d mi pc' lv (r.toList ++ rest) t k' q' Q) : xW E d mi pc lv (As.reverse ++ .ref o :: rest) σ k q Q := by
  subst hp
  subst hk'
  subst hq'
  intro base ad cA D l p e R s m args below meth c Qf H locs ls C hE hI hl
  obtain ⟨c1, c2, c3, c4, c5, c6, c7⟩ := xokc_of hk
  obtain ⟨x, hmx, i1, i2, i3, i4⟩ := xmt_of hm (xow mi C.1.1).2
  unfold xmOk at i4
  simp only [i1, i2, i3, Bool.and_eq_true, decide_eq_true_eq] at i4
  obtain ⟨⟨⟨⟨w1, w2⟩, w3⟩, w4⟩, w5⟩ := i4
  have hfr := C.2.2.1.2.2.2.1
  have hlo := C.2.2.1.2.2.2.2
  have hml := xml cal (by omega)
  intro T hT X
  have hz := xsize hI C.2.2.2.1 C.2.2.2.2 hT X
  have hM := xMet hC c1 c2 hI.1.2 base ad cA D C.2.2.2.2 l
  have hw5 : xws cal = Cond.code (xY cal) (xCC cal) (xML cal) none :: xTbl := by show Cond.code _ _ _ (xRT cal) :: _ = _; rw [w5]
  refine (xgo (cal := cal) (σ := σ) (rest := rest.map (xtr ad)) (va_runIN (nL := xML mi) (n := xNP cal) (Ts := xTbl) (own := xRo (xOW mi)) (b := ad o) (As := As.map (xtr ad)) ⟨C.1.2.1, C.1.2.2.1, C.1.2.2.2.1, C.1.2.2.2.2, C.2.1.1⟩ hM ⟨va_cnB (xNP cal) C.2.1.1 (xws_good c1) hw5 rfl rfl (C.2.1.2.2.2.2.1 _ (xNst_at w1 rfl)) (C.2.1.1 _ (xwd_in w3)) (xds cal (by omega)) ⟨by show d1 + 1 ≤ _; omega, by show 8 + (xML cal + 11) + 60 * d1 ≤ _; omega⟩, w4, C.2.1.1 _ (xwd_in w2)⟩ ⟨xPc_blind, fun U hU hW => ⟨rfl, by rw [hU]; exact hz, va_K.moved hW.alike C.2.1.2.1, xExt.warm C.2.1.2.2 hI.2.2 hU hW, by rw [hU]; exact hI.2.1⟩⟩ rfl (by rw [List.length_map]; exact c3) hl.1 (by show (As.reverse ++ .ref o :: rest).map (xtr ad) = _; rw [List.map_append, List.map_reverse]; rfl) (by rw [xsum_of]; show 2 * 0 + xsum rest ≤ 8; omega) (xdec hf) ⟨by rw [C.2.2.1.2.1]; exact c6, by rw [C.2.2.1.2.2.1]; exact c7⟩) hI hz C.2.2.2.1 (fun r σ' H1 locs1 hQ hI1 => ?_)) T hT X
  have e9 : (r.map (xtr ad)).toList ++ rest.map (xtr ad) = (r.toList ++ rest).map (xtr ad) := by cases r <;> simp
  rw [e9]
  exact kk r σ' hQ base ad cA D l p e R s m args below meth c Qf H1 locs1 ls C hE hI1 hl
theorem ws_copy {S : List xSh} {I : Nat → Nat → Int32} {L : Nat → Nat → Int64} {a a0 n0 n1 z : Nat} {n sp dp : Int32} (pc' N : Nat) (hf : xft mi pc = some (.invokestatic idx, 3)) (hp : pc + 3 = pc') (hm : xmt (xOW mi) idx = some (4, z)) (ha0 : S[a0]? = some (.inl (.int, n0))) (ha1 : S[a]? = some (.inl (.int, n1))) (hn : n = nI N) (hs : sp = nI 0) (hdp : dp = nI 0) (h0 : N ≤ n0) (h1 : N ≤ n1) (hN : N < 100000) (hd : 1 ≤ d) (hs8 : xsum rest ≤ 8) (kk : xW E d mi pc' lv rest (S, wR I a (fun j => if j < N then I a0 j else I a j), L) k q Q) : xW E d mi pc lv (.int n :: .int dp :: .ref a :: .int sp :: .ref a0 :: rest) (S, I, L) k q Q := by
  subst hp
  subst hn
  subst hs
  subst hdp
  intro base ad cA D l p e R s m args below meth c Qf H locs ls C hE hI hl
  obtain ⟨x, hmx, i1, i2, i3, i4⟩ := xmt_of hm (xow mi C.1.1).2
  unfold xmOk at i4
  simp only [i1, i2] at i4
  have hfr := C.2.2.1.2.2.2.1
  have hlo := C.2.2.1.2.2.2.2
  have hcN : (nI N).toNatClampNeg = N := nI_clamp (by omega)
  have hc0 : (nI 0).toNatClampNeg = 0 := nI_clamp (by omega)
  have hp0 : ¬ nI 0 < 0 := nI_pos (by omega)
  have hpN : ¬ nI N < 0 := nI_pos (by omega)
  have hwd : nativeFrameWords "java/lang/System" "arraycopy" 5 ≤ 40 := by decide
  have hsum := xsum_of ad rest
  refine va_copyi (D := D) (A := fun q => base ≤ q) (a := ad a) (rest := rest.map (xtr ad)) (sp := nI 0) (dp := nI 0) (n := nI N) C.1.2.1 C.1.2.2.1 (by rw [hl.1, C.1.2.2.2.1]) C.1.2.2.2.2 (C.2.1.1 _ (xwd_in i4)) (C.2.1.1 _ xw_copy.1) (C.2.1.1 _ xw_copy.2.1) (C.2.1.1 _ xw_copy.2.2) C.2.1.2.1 hI.2.1 (xD C.2.2.2.2 hI.1.2) hI.2.2 a0 a 0 0 (ty := .int) (xconc_at ha0) (xconc_at ha1) rfl rfl rfl hp0 hp0 hpN (by rw [hcN, hc0]; omega) (by rw [hcN, hc0]; omega) (fun _ _ => rfl) (by omega) (by omega) (xdec hf) (fun H1 locs1 hP1 hD1 hS1 => ?_)
  refine kk base ad cA D l p e R s m args below meth c Qf H1 locs1 ls C hE ⟨hI.1, ?_, hS1⟩ hl
  rw [xconc_wR ha1]
  show va_P D vwCl ((xconc ad cA (S, I, L)).set a (ad a, .inl (cA .int, n1, .inl (wR I a (fun j => if j < N then I a0 j else I a j) a)))) H1
  rw [wR_self]
  rw [hcN, hc0] at hP1
  have e9 : va_cpy (I a0) (I a) 0 0 N = (fun j => if j < N then I a0 j else I a j) := by
    funext j
    simp [va_cpy]
  rw [e9] at hP1
  exact hP1
end XCALL
