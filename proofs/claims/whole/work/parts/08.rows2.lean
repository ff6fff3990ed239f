theorem ws_putfi {E : xEx} {d mi pc : Nat} {lv : xLv} {st : List Value} {S : List xSh} {I : Nat → Nat → Int32} {L : Nat → Nat → Int64} {k q : Nat} {Q : Option Value → xMem → Prop} {idx o ci kf : Nat} {fs : List Value} {z x : Int32} (pc' : Nat) (hf : xft mi pc = some (.putfield idx, 3)) (hp : pc + 3 = pc') (hc : xfd (xOW mi) idx = some (ci, kf)) (ho : S[o]? = some (.inr (.inl (ci, fs)))) (hv : fs[kf]? = some (.int z)) (hfin : (xTT ci kf).2.2.2 = false) (hnar : narrow (xTy ci kf) (.int x) = (.int x)) (hfit : fits (xTy ci kf) (.int x) = true) (kk : xW E d mi pc' lv st (S, wI I o kf x, L) k q Q) : xW E d mi pc lv (.int x :: .ref o :: st) (S, I, L) k q Q := by
  subst hp
  intro base ad cA D l p e R s m args below meth c Qf H locs ls C hE hI hl
  obtain ⟨x9, hx, hx2⟩ := Option.map_eq_some_iff.mp hc
  have hm := List.mem_of_find?_eq_some hx
  have hi : x9.1 = idx := by simpa using List.find?_some hx
  obtain ⟨⟨h7, hkN⟩, hw⟩ := xfL_ok _ (xow mi C.1.1).2 x9 hm
  have e1 : x9.2.1 = ci := (Prod.mk.inj hx2).1
  have e2 : x9.2.2.1 = kf := (Prod.mk.inj hx2).2
  rw [e1, e2, hi] at hw
  rw [e1] at h7 hkN
  rw [e2] at hkN
  refine va_put (D := D) (A := fun q => base ≤ q) (a := ad o) (rest := st.map (xtr ad)) (ty := xTy ci kf) (v := xtr ad (.int x)) C.1.2.1 C.1.2.2.1 C.2.1.1 (xlI ci h7) (xTy ci) (xty_ok ci h7) (xnm ci h7) C.1.2.2.2.2 C.2.1.2.1 hI.2.1 (xD C.2.2.2.2 hI.1.2) hI.2.2 o (xconc_at ho) (xvw ci h7) kf hkN (C.2.1.1 _ (xwd_in hw)) (fun _ h => h) hfin (xty_ok ci h7 kf hkN) hnar hfit (by rw [List.length_mapIdx]; exact (List.getElem?_eq_some_iff.mp hv).1) (xdec hf) (fun H1 locs1 hP1 hD1 hS1 => ?_)
  refine kk base ad cA D l p e R s m args below meth c Qf H1 locs1 ls C hE ⟨hI.1, ?_, hS1⟩ hl
  rw [wI_R, xconc_wR ho]
  have e9 : xcell ad cA (wR I o (upd (I o) kf x)) L o (.inr (.inl (ci, fs))) = .inr (ci, (fs.mapIdx (fun k v => xtr ad (xfv I L o k v))).set kf (xtr ad (.int x))) := by
    simp only [xcell]
    rw [xfs_setI hv]
    rfl
  rw [e9]
  exact hP1

theorem ws_putfl {E : xEx} {d mi pc : Nat} {lv : xLv} {st : List Value} {S : List xSh} {I : Nat → Nat → Int32} {L : Nat → Nat → Int64} {k q : Nat} {Q : Option Value → xMem → Prop} {idx o ci kf : Nat} {fs : List Value} {z x : Int64} (pc' : Nat) (hf : xft mi pc = some (.putfield idx, 3)) (hp : pc + 3 = pc') (hc : xfd (xOW mi) idx = some (ci, kf)) (ho : S[o]? = some (.inr (.inl (ci, fs)))) (hv : fs[kf]? = some (.long z)) (hfin : (xTT ci kf).2.2.2 = false) (hnar : narrow (xTy ci kf) (.long x) = (.long x)) (hfit : fits (xTy ci kf) (.long x) = true) (kk : xW E d mi pc' lv st (S, I, wL L o kf x) k q Q) : xW E d mi pc lv (.long x :: .ref o :: st) (S, I, L) k q Q := by
  subst hp
  intro base ad cA D l p e R s m args below meth c Qf H locs ls C hE hI hl
  obtain ⟨x9, hx, hx2⟩ := Option.map_eq_some_iff.mp hc
  have hm := List.mem_of_find?_eq_some hx
  have hi : x9.1 = idx := by simpa using List.find?_some hx
  obtain ⟨⟨h7, hkN⟩, hw⟩ := xfL_ok _ (xow mi C.1.1).2 x9 hm
  have e1 : x9.2.1 = ci := (Prod.mk.inj hx2).1
  have e2 : x9.2.2.1 = kf := (Prod.mk.inj hx2).2
  rw [e1, e2, hi] at hw
  rw [e1] at h7 hkN
  rw [e2] at hkN
  refine va_put (D := D) (A := fun q => base ≤ q) (a := ad o) (rest := st.map (xtr ad)) (ty := xTy ci kf) (v := xtr ad (.long x)) C.1.2.1 C.1.2.2.1 C.2.1.1 (xlI ci h7) (xTy ci) (xty_ok ci h7) (xnm ci h7) C.1.2.2.2.2 C.2.1.2.1 hI.2.1 (xD C.2.2.2.2 hI.1.2) hI.2.2 o (xconc_at ho) (xvw ci h7) kf hkN (C.2.1.1 _ (xwd_in hw)) (fun _ h => h) hfin (xty_ok ci h7 kf hkN) hnar hfit (by rw [List.length_mapIdx]; exact (List.getElem?_eq_some_iff.mp hv).1) (xdec hf) (fun H1 locs1 hP1 hD1 hS1 => ?_)
  refine kk base ad cA D l p e R s m args below meth c Qf H1 locs1 ls C hE ⟨hI.1, ?_, hS1⟩ hl
  rw [wL_R, xconc_wRL ho]
  have e9 : xcell ad cA I (wRL L o (vp_updL (L o) kf x)) o (.inr (.inl (ci, fs))) = .inr (ci, (fs.mapIdx (fun k v => xtr ad (xfv I L o k v))).set kf (xtr ad (.long x))) := by
    simp only [xcell]
    rw [xfs_setL hv]
    rfl
  rw [e9]
  exact hP1

theorem ws_putfr {E : xEx} {d mi pc : Nat} {lv : xLv} {st : List Value} {S : List xSh} {I : Nat → Nat → Int32} {L : Nat → Nat → Int64} {k q : Nat} {Q : Option Value → xMem → Prop} {idx o ci kf : Nat} {fs : List Value} {z : Value} {x : Nat} (pc' : Nat) (hf : xft mi pc = some (.putfield idx, 3)) (hp : pc + 3 = pc') (hc : xfd (xOW mi) idx = some (ci, kf)) (ho : S[o]? = some (.inr (.inl (ci, fs)))) (hv : fs[kf]? = some z) (hfin : (xTT ci kf).2.2.2 = false) (hnar : narrow (xTy ci kf) (.ref x) = (.ref x)) (hfit : fits (xTy ci kf) (.ref x) = true) (kk : xW E d mi pc' lv st (S.set o (.inr (.inl (ci, fs.set kf (.ref x)))), I, L) k q Q) : xW E d mi pc lv (.ref x :: .ref o :: st) (S, I, L) k q Q := by
  subst hp
  intro base ad cA D l p e R s m args below meth c Qf H locs ls C hE hI hl
  obtain ⟨x9, hx, hx2⟩ := Option.map_eq_some_iff.mp hc
  have hm := List.mem_of_find?_eq_some hx
  have hi : x9.1 = idx := by simpa using List.find?_some hx
  obtain ⟨⟨h7, hkN⟩, hw⟩ := xfL_ok _ (xow mi C.1.1).2 x9 hm
  have e1 : x9.2.1 = ci := (Prod.mk.inj hx2).1
  have e2 : x9.2.2.1 = kf := (Prod.mk.inj hx2).2
  rw [e1, e2, hi] at hw
  rw [e1] at h7 hkN
  rw [e2] at hkN
  refine va_put (D := D) (A := fun q => base ≤ q) (a := ad o) (rest := st.map (xtr ad)) (ty := xTy ci kf) (v := xtr ad (.ref x)) C.1.2.1 C.1.2.2.1 C.2.1.1 (xlI ci h7) (xTy ci) (xty_ok ci h7) (xnm ci h7) C.1.2.2.2.2 C.2.1.2.1 hI.2.1 (xD C.2.2.2.2 hI.1.2) hI.2.2 o (xconc_at ho) (xvw ci h7) kf hkN (C.2.1.1 _ (xwd_in hw)) (fun _ h => h) hfin (xty_ok ci h7 kf hkN) (by cases hq : xTy ci kf <;> (rw [hq] at hnar hfit; first | rfl | exact hnar)) (by cases hq : xTy ci kf <;> (rw [hq] at hnar hfit; first | rfl | exact hfit | cases hfit)) (by rw [List.length_mapIdx]; exact (List.getElem?_eq_some_iff.mp hv).1) (xdec hf) (fun H1 locs1 hP1 hD1 hS1 => ?_)
  refine kk base ad cA D l p e R s m args below meth c Qf H1 locs1 ls C hE ⟨(by rw [show ((S.set o (.inr (.inl (ci, fs.set kf (.ref x)))), I, L) : xMem).1.length = S.length from List.length_set]; exact hI.1), ?_, hS1⟩ hl
  rw [xconc_S ho]
  have e9 : xcell ad cA I L o (.inr (.inl (ci, fs.set kf (.ref x)))) = .inr (ci, (fs.mapIdx (fun k v => xtr ad (xfv I L o k v))).set kf (xtr ad (.ref x))) := by
    simp only [xcell]
    rw [xfs_setR]
    rfl
  rw [e9]
  exact hP1

theorem ws_putfiF {E : xEx} {d mi pc : Nat} {lv : xLv} {st : List Value} {S : List xSh} {I : Nat → Nat → Int32} {L : Nat → Nat → Int64} {k q : Nat} {Q : Option Value → xMem → Prop} {idx o ci kf : Nat} {fs : List Value} {z x : Int32} (pc' : Nat) (hf : xft mi pc = some (.putfield idx, 3)) (hp : pc + 3 = pc') (hc : xfd (xOW mi) idx = some (ci, kf)) (ho : S[o]? = some (.inr (.inl (ci, fs)))) (hv : fs[kf]? = some (.int z)) (hfin : (xTT ci kf).2.2.2 = true) (hin : xIN mi = true) (hdc : (xTT ci kf).1 = xRo (xOW mi)) (hnar : narrow (xTy ci kf) (.int x) = (.int x)) (hfit : fits (xTy ci kf) (.int x) = true) (kk : xW E d mi pc' lv st (S, wI I o kf x, L) k q Q) : xW E d mi pc lv (.int x :: .ref o :: st) (S, I, L) k q Q := by
  subst hp
  intro base ad cA D l p e R s m args below meth c Qf H locs ls C hE hI hl
  obtain ⟨x9, hx, hx2⟩ := Option.map_eq_some_iff.mp hc
  have hm := List.mem_of_find?_eq_some hx
  have hi : x9.1 = idx := by simpa using List.find?_some hx
  obtain ⟨⟨h7, hkN⟩, hw⟩ := xfL_ok _ (xow mi C.1.1).2 x9 hm
  have e1 : x9.2.1 = ci := (Prod.mk.inj hx2).1
  have e2 : x9.2.2.1 = kf := (Prod.mk.inj hx2).2
  rw [e1, e2, hi] at hw
  rw [e1] at h7 hkN
  rw [e2] at hkN
  refine va_putF (D := D) (A := fun q => base ≤ q) (a := ad o) (rest := st.map (xtr ad)) (ty := xTy ci kf) (v := xtr ad (.int x)) C.1.2.1 C.1.2.2.1 C.2.1.1 (xlI ci h7) (xTy ci) (xty_ok ci h7) (xnm ci h7) C.1.2.2.2.2 C.2.1.2.1 hI.2.1 (xD C.2.2.2.2 hI.1.2) hI.2.2 o (xconc_at ho) (xvw ci h7) kf hkN (C.2.1.1 _ (xwd_in hw)) (fun _ h => h) hfin (C.2.2.1.1 hin) hdc (xty_ok ci h7 kf hkN) hnar hfit (by rw [List.length_mapIdx]; exact (List.getElem?_eq_some_iff.mp hv).1) (xdec hf) (fun H1 locs1 hP1 hD1 hS1 => ?_)
  refine kk base ad cA D l p e R s m args below meth c Qf H1 locs1 ls C hE ⟨hI.1, ?_, hS1⟩ hl
  rw [wI_R, xconc_wR ho]
  have e9 : xcell ad cA (wR I o (upd (I o) kf x)) L o (.inr (.inl (ci, fs))) = .inr (ci, (fs.mapIdx (fun k v => xtr ad (xfv I L o k v))).set kf (xtr ad (.int x))) := by
    simp only [xcell]
    rw [xfs_setI hv]
    rfl
  rw [e9]
  exact hP1

theorem ws_putflF {E : xEx} {d mi pc : Nat} {lv : xLv} {st : List Value} {S : List xSh} {I : Nat → Nat → Int32} {L : Nat → Nat → Int64} {k q : Nat} {Q : Option Value → xMem → Prop} {idx o ci kf : Nat} {fs : List Value} {z x : Int64} (pc' : Nat) (hf : xft mi pc = some (.putfield idx, 3)) (hp : pc + 3 = pc') (hc : xfd (xOW mi) idx = some (ci, kf)) (ho : S[o]? = some (.inr (.inl (ci, fs)))) (hv : fs[kf]? = some (.long z)) (hfin : (xTT ci kf).2.2.2 = true) (hin : xIN mi = true) (hdc : (xTT ci kf).1 = xRo (xOW mi)) (hnar : narrow (xTy ci kf) (.long x) = (.long x)) (hfit : fits (xTy ci kf) (.long x) = true) (kk : xW E d mi pc' lv st (S, I, wL L o kf x) k q Q) : xW E d mi pc lv (.long x :: .ref o :: st) (S, I, L) k q Q := by
  subst hp
  intro base ad cA D l p e R s m args below meth c Qf H locs ls C hE hI hl
  obtain ⟨x9, hx, hx2⟩ := Option.map_eq_some_iff.mp hc
  have hm := List.mem_of_find?_eq_some hx
  have hi : x9.1 = idx := by simpa using List.find?_some hx
  obtain ⟨⟨h7, hkN⟩, hw⟩ := xfL_ok _ (xow mi C.1.1).2 x9 hm
  have e1 : x9.2.1 = ci := (Prod.mk.inj hx2).1
  have e2 : x9.2.2.1 = kf := (Prod.mk.inj hx2).2
  rw [e1, e2, hi] at hw
  rw [e1] at h7 hkN
  rw [e2] at hkN
  refine va_putF (D := D) (A := fun q => base ≤ q) (a := ad o) (rest := st.map (xtr ad)) (ty := xTy ci kf) (v := xtr ad (.long x)) C.1.2.1 C.1.2.2.1 C.2.1.1 (xlI ci h7) (xTy ci) (xty_ok ci h7) (xnm ci h7) C.1.2.2.2.2 C.2.1.2.1 hI.2.1 (xD C.2.2.2.2 hI.1.2) hI.2.2 o (xconc_at ho) (xvw ci h7) kf hkN (C.2.1.1 _ (xwd_in hw)) (fun _ h => h) hfin (C.2.2.1.1 hin) hdc (xty_ok ci h7 kf hkN) hnar hfit (by rw [List.length_mapIdx]; exact (List.getElem?_eq_some_iff.mp hv).1) (xdec hf) (fun H1 locs1 hP1 hD1 hS1 => ?_)
  refine kk base ad cA D l p e R s m args below meth c Qf H1 locs1 ls C hE ⟨hI.1, ?_, hS1⟩ hl
  rw [wL_R, xconc_wRL ho]
  have e9 : xcell ad cA I (wRL L o (vp_updL (L o) kf x)) o (.inr (.inl (ci, fs))) = .inr (ci, (fs.mapIdx (fun k v => xtr ad (xfv I L o k v))).set kf (xtr ad (.long x))) := by
    simp only [xcell]
    rw [xfs_setL hv]
    rfl
  rw [e9]
  exact hP1

theorem ws_putfrF {E : xEx} {d mi pc : Nat} {lv : xLv} {st : List Value} {S : List xSh} {I : Nat → Nat → Int32} {L : Nat → Nat → Int64} {k q : Nat} {Q : Option Value → xMem → Prop} {idx o ci kf : Nat} {fs : List Value} {z : Value} {x : Nat} (pc' : Nat) (hf : xft mi pc = some (.putfield idx, 3)) (hp : pc + 3 = pc') (hc : xfd (xOW mi) idx = some (ci, kf)) (ho : S[o]? = some (.inr (.inl (ci, fs)))) (hv : fs[kf]? = some z) (hfin : (xTT ci kf).2.2.2 = true) (hin : xIN mi = true) (hdc : (xTT ci kf).1 = xRo (xOW mi)) (hnar : narrow (xTy ci kf) (.ref x) = (.ref x)) (hfit : fits (xTy ci kf) (.ref x) = true) (kk : xW E d mi pc' lv st (S.set o (.inr (.inl (ci, fs.set kf (.ref x)))), I, L) k q Q) : xW E d mi pc lv (.ref x :: .ref o :: st) (S, I, L) k q Q := by
  subst hp
  intro base ad cA D l p e R s m args below meth c Qf H locs ls C hE hI hl
  obtain ⟨x9, hx, hx2⟩ := Option.map_eq_some_iff.mp hc
  have hm := List.mem_of_find?_eq_some hx
  have hi : x9.1 = idx := by simpa using List.find?_some hx
  obtain ⟨⟨h7, hkN⟩, hw⟩ := xfL_ok _ (xow mi C.1.1).2 x9 hm
  have e1 : x9.2.1 = ci := (Prod.mk.inj hx2).1
  have e2 : x9.2.2.1 = kf := (Prod.mk.inj hx2).2
  rw [e1, e2, hi] at hw
  rw [e1] at h7 hkN
  rw [e2] at hkN
  refine va_putF (D := D) (A := fun q => base ≤ q) (a := ad o) (rest := st.map (xtr ad)) (ty := xTy ci kf) (v := xtr ad (.ref x)) C.1.2.1 C.1.2.2.1 C.2.1.1 (xlI ci h7) (xTy ci) (xty_ok ci h7) (xnm ci h7) C.1.2.2.2.2 C.2.1.2.1 hI.2.1 (xD C.2.2.2.2 hI.1.2) hI.2.2 o (xconc_at ho) (xvw ci h7) kf hkN (C.2.1.1 _ (xwd_in hw)) (fun _ h => h) hfin (C.2.2.1.1 hin) hdc (xty_ok ci h7 kf hkN) (by cases hq : xTy ci kf <;> (rw [hq] at hnar hfit; first | rfl | exact hnar)) (by cases hq : xTy ci kf <;> (rw [hq] at hnar hfit; first | rfl | exact hfit | cases hfit)) (by rw [List.length_mapIdx]; exact (List.getElem?_eq_some_iff.mp hv).1) (xdec hf) (fun H1 locs1 hP1 hD1 hS1 => ?_)
  refine kk base ad cA D l p e R s m args below meth c Qf H1 locs1 ls C hE ⟨(by rw [show ((S.set o (.inr (.inl (ci, fs.set kf (.ref x)))), I, L) : xMem).1.length = S.length from List.length_set]; exact hI.1), ?_, hS1⟩ hl
  rw [xconc_S ho]
  have e9 : xcell ad cA I L o (.inr (.inl (ci, fs.set kf (.ref x)))) = .inr (ci, (fs.mapIdx (fun k v => xtr ad (xfv I L o k v))).set kf (xtr ad (.ref x))) := by
    simp only [xcell]
    rw [xfs_setR]
    rfl
  rw [e9]
  exact hP1

theorem ws_iald {E : xEx} {d mi pc : Nat} {lv : xLv} {st : List Value} {S : List xSh} {I : Nat → Nat → Int32} {L : Nat → Nat → Int64} {k q : Nat} {Q : Option Value → xMem → Prop} {a n : Nat} {i x : Int32} (pc' : Nat) (hf : xft mi pc = some (.iaload, 1)) (hp : pc + 1 = pc') (ha : S[a]? = some (.inl (.int, n))) (hin : vp_in i n) (hx : I a i.toNatClampNeg = x) (kk : xW E d mi pc' lv (.int x :: st) (S, I, L) k q Q) : xW E d mi pc lv (.int i :: .ref a :: st) (S, I, L) k q Q := by
  subst hp
  subst hx
  intro base ad cA D l p e R s m args below meth c Qf H locs ls C hE hI hl
  exact va_iald (D := D) (a := ad a) (rest := st.map (xtr ad)) C.1.2.1 C.1.2.2.1 C.2.1.2.1 hI.2.1 a 0 (xconc_at ha) rfl hin (xdec hf) (kk base ad cA D l p e R s m args below meth c Qf H locs ls C hE hI hl)

theorem ws_zald {E : xEx} {d mi pc : Nat} {lv : xLv} {st : List Value} {S : List xSh} {I : Nat → Nat → Int32} {L : Nat → Nat → Int64} {k q : Nat} {Q : Option Value → xMem → Prop} {a n : Nat} {i x : Int32} (pc' : Nat) (hf : xft mi pc = some (.baload, 1)) (hp : pc + 1 = pc') (ha : S[a]? = some (.inl (.boolean, n))) (hin : vp_in i n) (hx : I a i.toNatClampNeg = x) (kk : xW E d mi pc' lv (.int x :: st) (S, I, L) k q Q) : xW E d mi pc lv (.int i :: .ref a :: st) (S, I, L) k q Q := by
  subst hp
  subst hx
  intro base ad cA D l p e R s m args below meth c Qf H locs ls C hE hI hl
  exact va_zald (D := D) (a := ad a) (rest := st.map (xtr ad)) C.1.2.1 C.1.2.2.1 C.2.1.2.1 hI.2.1 a 2 (xconc_at ha) rfl hin (xdec hf) (kk base ad cA D l p e R s m args below meth c Qf H locs ls C hE hI hl)

theorem ws_lald {E : xEx} {d mi pc : Nat} {lv : xLv} {st : List Value} {S : List xSh} {I : Nat → Nat → Int32} {L : Nat → Nat → Int64} {k q : Nat} {Q : Option Value → xMem → Prop} {a n : Nat} {i : Int32} {x : Int64} (pc' : Nat) (hf : xft mi pc = some (.laload, 1)) (hp : pc + 1 = pc') (ha : S[a]? = some (.inl (.long, n))) (hin : vp_in i n) (hx : L a i.toNatClampNeg = x) (kk : xW E d mi pc' lv (.long x :: st) (S, I, L) k q Q) : xW E d mi pc lv (.int i :: .ref a :: st) (S, I, L) k q Q := by
  subst hp
  subst hx
  intro base ad cA D l p e R s m args below meth c Qf H locs ls C hE hI hl
  exact va_lald (D := D) (a := ad a) (rest := st.map (xtr ad)) C.1.2.1 C.1.2.2.1 C.2.1.2.1 hI.2.1 a 1 (xconc_at ha) rfl hin (xdec hf) (kk base ad cA D l p e R s m args below meth c Qf H locs ls C hE hI hl)

theorem ws_alen {E : xEx} {d mi pc : Nat} {lv : xLv} {st : List Value} {S : List xSh} {I : Nat → Nat → Int32} {L : Nat → Nat → Int64} {k q : Nat} {Q : Option Value → xMem → Prop} {a n : Nat} {x : Int32} (pc' : Nat) (hf : xft mi pc = some (.arraylength, 1)) (hp : pc + 1 = pc') (ha : S[a]? = some (.inl (.int, n))) (hx : nI n = x) (kk : xW E d mi pc' lv (.int x :: st) (S, I, L) k q Q) : xW E d mi pc lv (.ref a :: st) (S, I, L) k q Q := by
  subst hp
  subst hx
  intro base ad cA D l p e R s m args below meth c Qf H locs ls C hE hI hl
  exact va_alen (D := D) (a := ad a) (rest := st.map (xtr ad)) C.1.2.1 C.1.2.2.1 C.2.1.2.1 hI.2.1 a 0 (xconc_at ha) rfl rfl (xdec hf) (kk base ad cA D l p e R s m args below meth c Qf H locs ls C hE hI hl)

theorem ws_xald {E : xEx} {d mi pc : Nat} {lv : xLv} {st : List Value} {σ : xMem} {k q : Nat} {Q : Option Value → xMem → Prop} {r n : Nat} {f : Nat → Int32} {i x : Int32} (pc' : Nat) (hf : xft mi pc = some (.iaload, 1)) (hp : pc + 1 = pc') (e9 : Nat) (hr : 1000 + e9 = r) (he : E e9 = some (n, f)) (hin : vp_in i n) (hx : f i.toNatClampNeg = x) (kk : xW E d mi pc' lv (.int x :: st) σ k q Q) : xW E d mi pc lv (.int i :: .ref r :: st) σ k q Q := by
  subst hp
  subst hx
  subst hr
  intro base ad cA D l p e R s m args below meth c Qf H locs ls C hE hI hl
  exact va_ti (rest := st.map (xtr ad)) C.1.2.1 C.1.2.2.1 (C.2.1.2.2.1 e9 n f he) hI.2.2 hin rfl (xdec hf) (kk base ad cA D l p e R s m args below meth c Qf H locs ls C hE hI hl)

theorem ws_xlen {E : xEx} {d mi pc : Nat} {lv : xLv} {st : List Value} {σ : xMem} {k q : Nat} {Q : Option Value → xMem → Prop} {r n : Nat} {f : Nat → Int32} {x : Int32} (pc' : Nat) (hf : xft mi pc = some (.arraylength, 1)) (hp : pc + 1 = pc') (e9 : Nat) (hr : 1000 + e9 = r) (he : E e9 = some (n, f)) (hx : nI n = x) (kk : xW E d mi pc' lv (.int x :: st) σ k q Q) : xW E d mi pc lv (.ref r :: st) σ k q Q := by
  subst hp
  subst hx
  subst hr
  intro base ad cA D l p e R s m args below meth c Qf H locs ls C hE hI hl
  exact va_tlen (rest := st.map (xtr ad)) C.1.2.1 C.1.2.2.1 (C.2.1.2.2.1 e9 n f he) hI.2.2 rfl (xdec hf) (kk base ad cA D l p e R s m args below meth c Qf H locs ls C hE hI hl)

theorem ws_aald {E : xEx} {d mi pc : Nat} {lv : xLv} {st : List Value} {S : List xSh} {I : Nat → Nat → Int32} {L : Nat → Nat → Int64} {k q : Nat} {Q : Option Value → xMem → Prop} {a r : Nat} {vs : List Value} {i : Int32} (pc' : Nat) (hf : xft mi pc = some (.aaload, 1)) (hp : pc + 1 = pc') (ha : S[a]? = some (.inr (.inr vs))) (hin : vp_in i vs.length) (hx : vs[i.toNatClampNeg]? = some (.ref r)) (kk : xW E d mi pc' lv (.ref r :: st) (S, I, L) k q Q) : xW E d mi pc lv (.int i :: .ref a :: st) (S, I, L) k q Q := by
  subst hp
  intro base ad cA D l p e R s m args below meth c Qf H locs ls C hE hI hl
  refine va_aldq (D := D) (C := "ShopWindow$Scene") (a := ad a) (rest := st.map (xtr ad)) C.1.2.1 C.1.2.2.1 C.2.1.2.1 hI.2.1 a 3 (xconc_at ha) rfl hin (xdec hf) ?_
  have e9 : va_rf (xro ad (vs.getD i.toNatClampNeg .null)) = xtr ad (.ref r) := by
    rw [List.getD_eq_getElem?_getD, hx]
    rfl
  rw [e9]
  exact (kk base ad cA D l p e R s m args below meth c Qf H locs ls C hE hI hl)

theorem ws_iast {E : xEx} {d mi pc : Nat} {lv : xLv} {st : List Value} {S : List xSh} {I : Nat → Nat → Int32} {L : Nat → Nat → Int64} {k q : Nat} {Q : Option Value → xMem → Prop} {a n : Nat} {i x : Int32} (pc' : Nat) (hf : xft mi pc = some (.iastore, 1)) (hp : pc + 1 = pc') (ha : S[a]? = some (.inl (.int, n))) (hin : vp_in i n) (kk : xW E d mi pc' lv st (S, wI I a i.toNatClampNeg x, L) k q Q) : xW E d mi pc lv (.int x :: .int i :: .ref a :: st) (S, I, L) k q Q := by
  subst hp
  intro base ad cA D l p e R s m args below meth c Qf H locs ls C hE hI hl
  refine va_iast (D := D) (A := fun q => base ≤ q) (a := ad a) (rest := st.map (xtr ad)) C.1.2.1 C.1.2.2.1 C.2.1.2.1 hI.2.1 (xD C.2.2.2.2 hI.1.2) hI.2.2 a 0 (xconc_at ha) rfl hin (xdec hf) (fun H1 locs1 hP1 hD1 hS1 => ?_)
  refine kk base ad cA D l p e R s m args below meth c Qf H1 locs1 ls C hE ⟨hI.1, ?_, hS1⟩ hl
  rw [wI_R, xconc_wR ha]
  show va_P D vwCl ((xconc ad cA (S, I, L)).set a (ad a, .inl (cA .int, n, .inl (wR I a (upd (I a) i.toNatClampNeg x) a)))) H1
  rw [wR_self]
  exact hP1

theorem ws_zast {E : xEx} {d mi pc : Nat} {lv : xLv} {st : List Value} {S : List xSh} {I : Nat → Nat → Int32} {L : Nat → Nat → Int64} {k q : Nat} {Q : Option Value → xMem → Prop} {a n : Nat} {i x : Int32} (pc' : Nat) (hf : xft mi pc = some (.bastore, 1)) (hp : pc + 1 = pc') (ha : S[a]? = some (.inl (.boolean, n))) (hin : vp_in i n) (hn : vp_nar .boolean x = x) (kk : xW E d mi pc' lv st (S, wI I a i.toNatClampNeg x, L) k q Q) : xW E d mi pc lv (.int x :: .int i :: .ref a :: st) (S, I, L) k q Q := by
  subst hp
  intro base ad cA D l p e R s m args below meth c Qf H locs ls C hE hI hl
  refine va_zast (D := D) (A := fun q => base ≤ q) (a := ad a) (rest := st.map (xtr ad)) C.1.2.1 C.1.2.2.1 C.2.1.2.1 hI.2.1 (xD C.2.2.2.2 hI.1.2) hI.2.2 a 2 (xconc_at ha) rfl hin (xdec hf) (fun H1 locs1 hP1 hD1 hS1 => ?_)
  refine kk base ad cA D l p e R s m args below meth c Qf H1 locs1 ls C hE ⟨hI.1, ?_, hS1⟩ hl
  rw [wI_R, xconc_wR ha]
  show va_P D vwCl ((xconc ad cA (S, I, L)).set a (ad a, .inl (cA .boolean, n, .inl (wR I a (upd (I a) i.toNatClampNeg x) a)))) H1
  rw [hn] at hP1
  rw [wR_self]
  exact hP1

theorem ws_last {E : xEx} {d mi pc : Nat} {lv : xLv} {st : List Value} {S : List xSh} {I : Nat → Nat → Int32} {L : Nat → Nat → Int64} {k q : Nat} {Q : Option Value → xMem → Prop} {a n : Nat} {i : Int32} {x : Int64} (pc' : Nat) (hf : xft mi pc = some (.lastore, 1)) (hp : pc + 1 = pc') (ha : S[a]? = some (.inl (.long, n))) (hin : vp_in i n) (kk : xW E d mi pc' lv st (S, I, wL L a i.toNatClampNeg x) k q Q) : xW E d mi pc lv (.long x :: .int i :: .ref a :: st) (S, I, L) k q Q := by
  subst hp
  intro base ad cA D l p e R s m args below meth c Qf H locs ls C hE hI hl
  refine va_last (D := D) (A := fun q => base ≤ q) (a := ad a) (rest := st.map (xtr ad)) C.1.2.1 C.1.2.2.1 C.2.1.2.1 hI.2.1 (xD C.2.2.2.2 hI.1.2) hI.2.2 a 1 (xconc_at ha) rfl hin (xdec hf) (fun H1 locs1 hP1 hD1 hS1 => ?_)
  refine kk base ad cA D l p e R s m args below meth c Qf H1 locs1 ls C hE ⟨hI.1, ?_, hS1⟩ hl
  rw [wL_R, xconc_wRL ha]
  show va_P D vwCl ((xconc ad cA (S, I, L)).set a (ad a, .inl (cA .long, n, .inr (.inl (wRL L a (vp_updL (L a) i.toNatClampNeg x) a))))) H1
  rw [wRL_self]
  exact hP1

theorem ws_aast {E : xEx} {d mi pc : Nat} {lv : xLv} {st : List Value} {S : List xSh} {I : Nat → Nat → Int32} {L : Nat → Nat → Int64} {k q : Nat} {Q : Option Value → xMem → Prop} {a r : Nat} {vs fs : List Value} {i : Int32} (pc' : Nat) (hf : xft mi pc = some (.aastore, 1)) (hp : pc + 1 = pc') (ha : S[a]? = some (.inr (.inr vs))) (hin : vp_in i vs.length) (hr : S[r]? = some (.inr (.inl (3, fs)))) (kk : xW E d mi pc' lv st (S.set a (.inr (.inr (vs.set i.toNatClampNeg (.ref r)))), I, L) k q Q) : xW E d mi pc lv (.ref r :: .int i :: .ref a :: st) (S, I, L) k q Q := by
  subst hp
  intro base ad cA D l p e R s m args below meth c Qf H locs ls C hE hI hl
  refine va_astq (D := D) (A := fun q => base ≤ q) (a := ad a) (v := ad r) (rest := st.map (xtr ad)) C.1.2.1 C.1.2.2.1 C.2.1.2.1 hI.2.1 (xD C.2.2.2.2 hI.1.2) hI.2.2 a 3 r 3 (xconc_at ha) rfl (xconc_at hr) rfl hin (xdec hf) (fun H1 locs1 hP1 hD1 hS1 => ?_)
  refine kk base ad cA D l p e R s m args below meth c Qf H1 locs1 ls C hE ⟨by rw [show ((S.set a (.inr (.inr (vs.set i.toNatClampNeg (.ref r)))), I, L) : xMem).1.length = S.length from List.length_set]; exact hI.1, ?_, hS1⟩ hl
  rw [xconc_S ha]
  have e9 : xcell ad cA I L a (.inr (.inr (vs.set i.toNatClampNeg (.ref r)))) = .inl (cA xScn, vs.length, .inr (.inr (.inr (.inr (va_up (fun j => xro ad (vs.getD j .null)) i.toNatClampNeg (some (ad r))))))) := by
    have hlt : i.toNatClampNeg < vs.length := Nat.not_le.mp fun q => hin (Or.inr q)
    simp only [xcell, List.length_set]
    congr 7
    funext j
    by_cases hj : j = i.toNatClampNeg
    · subst hj
      simp [va_up, xro, hlt]
    · simp [va_up, hj, List.getElem?_set_ne (fun e => hj e.symm)]
  rw [e9]
  exact hP1

theorem xnew {base : Nat} {ad : Nat → Nat} {cA : FieldType → ClassId} {D : va_G} {σ : xMem} {k q q1 : Nat} {H H1 : Heap} {locs locs' : List Loc} {p : Program} {l : Launch} {e : Env} {R : Room} {s : State} {m : MethodId} {args : Array Value} {below : List Frame} {meth : Method} {c : Code} {T : State} {x : va_E} (hI : xInv base ad cA D s σ k H locs) (had : ∀ k, k < 1000 → ad k = base + k) (hP : va_P D vwCl (xconc ad cA σ ++ [(q, x)]) H1) (hD : va_D (fun q => base ≤ q) (xconc ad cA σ ++ [(q, x)])) (hT : T.heap = H1) (X : Stand p l e R s m args below meth c T locs' (k + 1) q1) : q = base + σ.1.length := by
  have h1 : T.heap.size ≤ s.heap.size + (k + 1) := X.same.2.2.1
  rw [hT] at h1
  have h3 := hI.1.1
  have h4 := hI.1.2
  have hl := xconc_len ad cA σ
  have hq : (xconc ad cA σ ++ [(q, x)])[σ.1.length]? = some (q, x) := by rw [← hl, List.getElem?_append_right (Nat.le_refl _)]; simp
  have h5 : q < H1.size := (hP _ _ hq).lt
  have h6 : base ≤ q := hD.2 _ _ hq
  rcases Nat.lt_or_ge q (base + σ.1.length) with h7 | h7
  · exfalso
    have hi : q - base < σ.1.length := by omega
    obtain ⟨y, hy⟩ : ∃ y, σ.1[q - base]? = some y := ⟨_, List.getElem?_eq_getElem hi⟩
    have h8 : (xconc ad cA σ ++ [(q, x)])[q - base]? = some (ad (q - base), xcell ad cA σ.2.1 σ.2.2 (q - base) y) := by
      rw [List.getElem?_append_left (by rw [hl]; exact hi)]
      exact xconc_at (I := σ.2.1) (L := σ.2.2) hy
    have h9 := hD.1 _ _ _ _ h8 hq (by show ad (q - base) = q; rw [had _ (by omega)]; omega)
    omega
  · omega
theorem xconc_app {ad : Nat → Nat} {cA : FieldType → ClassId} {S : List xSh} {I : Nat → Nat → Int32} {L : Nat → Nat → Int64} {x : xSh} : xconc ad cA (S ++ [x], I, L) = xconc ad cA (S, I, L) ++ [(ad S.length, xcell ad cA I L S.length x)] := by
  unfold xconc
  rw [List.mapIdx_append]
  simp
def xdf (ci : Nat) : List Value := match ci with
  | 0 => [.long 0, .long 0]
  | 1 => [.null, .null, .null, .int 0]
  | 2 => [.null, .null, .null, .null, .null, .int 0, .int 0, .int 0]
  | 3 => [.null, .null, .null, .null, .null, .null, .int 0, .int 0]
  | 4 => [.null, .null, .null, .int 0, .null, .int 0, .null, .null, .null, .int 0, .int 0, .int 0]
  | 5 => [.null, .null, .null, .null, .null, .null, .null, .null]
  | _ => [.null, .null, .int 0, .null, .null, .null, .null, .null, .int 0, .null, .null, .int 0, .null, .null, .null, .null, .null, .null, .null, .null, .long 0, .long 0, .long 0, .null, .null, .null]
theorem xdf_ok : ∀ ci, ci < 7 → ∀ j, j < xNN ci → defaultValue (xTy ci j) = vp_V (xdf ci) j := by decide +kernel
theorem xdf_ok2 : ∀ ci, ci < 7 → ∀ v ∈ xdf ci, v = .null ∨ v = .int 0 ∨ v = .long 0 := by decide +kernel

theorem ws_new {E : xEx} {d mi pc : Nat} {lv : xLv} {st : List Value} {S : List xSh} {I : Nat → Nat → Int32} {L : Nat → Nat → Int64} {k q : Nat} {Q : Option Value → xMem → Prop} {idx ci : Nat} (pc' : Nat) (hf : xft mi pc = some (.new idx, 3)) (hp : pc + 3 = pc') (hc : xcl (xOW mi) idx = some ci) (hzi : ∀ j, I S.length j = 0) (hzl : ∀ j, L S.length j = 0) (hS : S.length < 1000) (hk : k + 1 ≤ xBC mi) (hq : q + xNN ci ≤ xBS mi) (kk : xW E d mi pc' lv (.ref S.length :: st) (S ++ [.inr (.inl (ci, xdf ci))], I, L) (k + 1) (q + xNN ci) Q) : xW E d mi pc lv st (S, I, L) k q Q := by
  subst hp
  intro base ad cA D l p e R s m args below meth c Qf H locs ls C hE hI hl
  obtain ⟨x, hx, rfl⟩ := Option.map_eq_some_iff.mp hc
  have hm := List.mem_of_find?_eq_some hx
  have hi : x.1 = idx := by simpa using List.find?_some hx
  obtain ⟨h7, hw1, hw2, hw3⟩ := xcL_ok _ (xow mi C.1.1).2 x hm
  rw [hi] at hw1
  have hA : ∀ q, s.heap.size ≤ q → base ≤ q := fun q h => Nat.le_trans C.2.2.2.1 h
  refine va_new (D := D) (A := fun q => base ≤ q) (ci := x.2.1) (fs := xdf x.2.1) (rest := st.map (xtr ad)) C.1.2.1 C.1.2.2.1 C.2.1.1 (xlI _ h7) (xTy x.2.1) (xty_ok _ h7) C.1.2.2.2.2 (C.2.1.1 _ (xwd_in hw1)) (C.2.1.1 _ (xwd_in hw2)) (C.2.1.1 _ (xwd_in hw3)) C.2.1.2.1 hI.2.1 (xD C.2.2.2.2 hI.1.2) hI.2.2 hA (xvw _ h7) (xdf_ok _ h7) (by rw [C.2.2.1.2.1]; exact hk) (by rw [C.2.2.1.2.2.1]; exact hq) (xdec hf) (fun q9 H1 hP1 hD1 hS1 => ?_)
  intro T hT X
  have e9 := xnew hI C.2.2.2.2 hP1 hD1 hT X
  have hl9 : ad S.length = base + S.length := C.2.2.2.2 _ hS
  have e8 : q9 = ad S.length := by rw [hl9]; exact e9
  subst e8
  refine kk base ad cA D l p e R s m args below meth c Qf H1 locs ls C hE ⟨⟨?_, ?_⟩, ?_, hS1⟩ hl T hT X
  · have := hI.1.1
    show s.heap.size + (k + 1) = base + (S ++ [_]).length
    rw [List.length_append]
    show s.heap.size + (k + 1) = base + (S.length + 1)
    have h0 : s.heap.size + k = base + S.length := this
    omega
  · show (S ++ [_]).length ≤ 1000
    rw [List.length_append]
    exact hS
  · rw [xconc_app]
    have e7 : xcell ad cA I L S.length (.inr (.inl (x.2.1, xdf x.2.1))) = .inr (x.2.1, xdf x.2.1) := by
      simp only [xcell]
      congr 2
      apply List.ext_getElem?
      intro j
      rw [List.getElem?_mapIdx]
      cases hv : (xdf x.2.1)[j]? with
      | none => rfl
      | some v =>
        rcases xdf_ok2 _ h7 v (List.mem_of_getElem? hv) with rfl | rfl | rfl
        · rfl
        · simp [xfv, xtr, hzi j]
        · simp [xfv, xtr, hzl j]
    rw [e7]
    exact hP1

theorem ws_newaI {E : xEx} {d mi pc : Nat} {lv : xLv} {st : List Value} {S : List xSh} {I : Nat → Nat → Int32} {L : Nat → Nat → Int64} {k q : Nat} {Q : Option Value → xMem → Prop} {n : Int32} (pc' N : Nat) (hf : xft mi pc = some (.newarray .int, 2)) (hp : pc + 2 = pc') (hn : nI N = n) (hN : N < 100000) (hzi : ∀ j, I S.length j = 0) (hzl : ∀ j, L S.length j = 0) (hS : S.length < 1000) (hk : k + 1 ≤ xBC mi) (hq : q + N ≤ xBS mi) (kk : xW E d mi pc' lv (.ref S.length :: st) (S ++ [.inl (.int, N)], I, L) (k + 1) (q + N) Q) : xW E d mi pc lv (.int n :: st) (S, I, L) k q Q := by
  subst hp
  subst hn
  intro base ad cA D l p e R s m args below meth c Qf H locs ls C hE hI hl
  have hA : ∀ q, s.heap.size ≤ q → base ≤ q := fun q h => Nat.le_trans C.2.2.2.1 h
  refine va_newa (D := D) (A := fun q => base ≤ q) (atype := .int) (ty := .int) (a0 := (N, .inl (fun _ => 0))) (N' := N) (rest := st.map (xtr ad)) C.1.2.1 C.1.2.2.1 (C.2.1.1 _ xw_arr.1) rfl C.2.1.2.1 hI.2.1 (xD C.2.2.2.2 hI.1.2) hI.2.2 hA (fun _ => rfl) (nI_pos (by omega)) (nI_clamp (by omega)) (by show N * 4 ≤ _; omega) (by rw [C.2.2.1.2.1]; exact hk) (by rw [C.2.2.1.2.2.1]; exact hq) (xdec hf) (fun q9 cA9 H1 hK1 hP1 hD1 hS1 => ?_)
  intro T hT X
  have e9 := xnew hI C.2.2.2.2 hP1 hD1 hT X
  have hl9 : ad S.length = base + S.length := C.2.2.2.2 _ hS
  have e8 : q9 = ad S.length := by rw [hl9]; exact e9
  subst e8
  have hcA : cA9 = cA .int := by
    have g1 : s.vm.findClass ("[" ++ (.int : FieldType).toString) = some cA9 := (hK1.2 4 (cA9, .int) rfl).2
    have g2 : s.vm.findClass ("[" ++ (.int : FieldType).toString) = some (cA .int) := (C.2.1.2.1.2 0 (cA .int, .int) rfl).2
    exact Option.some.inj (g1.symm.trans g2)
  subst hcA
  refine kk base ad cA D l p e R s m args below meth c Qf H1 locs ls C hE ⟨⟨?_, ?_⟩, ?_, hS1⟩ hl T hT X
  · have := hI.1.1
    show s.heap.size + (k + 1) = base + (S ++ [_]).length
    rw [List.length_append]
    show s.heap.size + (k + 1) = base + (S.length + 1)
    have h0 : s.heap.size + k = base + S.length := this
    omega
  · show (S ++ [_]).length ≤ 1000
    rw [List.length_append]
    exact hS
  · rw [xconc_app]
    show va_P D vwCl (xconc ad cA (S, I, L) ++ [(ad S.length, .inl (cA .int, N, .inl (I S.length)))]) H1
    rw [show I S.length = (fun _ => 0) from funext hzi]
    exact hP1

theorem ws_newaZ {E : xEx} {d mi pc : Nat} {lv : xLv} {st : List Value} {S : List xSh} {I : Nat → Nat → Int32} {L : Nat → Nat → Int64} {k q : Nat} {Q : Option Value → xMem → Prop} {n : Int32} (pc' N : Nat) (hf : xft mi pc = some (.newarray .boolean, 2)) (hp : pc + 2 = pc') (hn : nI N = n) (hN : N < 100000) (hzi : ∀ j, I S.length j = 0) (hzl : ∀ j, L S.length j = 0) (hS : S.length < 1000) (hk : k + 1 ≤ xBC mi) (hq : q + N ≤ xBS mi) (kk : xW E d mi pc' lv (.ref S.length :: st) (S ++ [.inl (.boolean, N)], I, L) (k + 1) (q + N) Q) : xW E d mi pc lv (.int n :: st) (S, I, L) k q Q := by
  subst hp
  subst hn
  intro base ad cA D l p e R s m args below meth c Qf H locs ls C hE hI hl
  have hA : ∀ q, s.heap.size ≤ q → base ≤ q := fun q h => Nat.le_trans C.2.2.2.1 h
  refine va_newa (D := D) (A := fun q => base ≤ q) (atype := .boolean) (ty := .boolean) (a0 := (N, .inl (fun _ => 0))) (N' := N) (rest := st.map (xtr ad)) C.1.2.1 C.1.2.2.1 (C.2.1.1 _ xw_arr.2.2) rfl C.2.1.2.1 hI.2.1 (xD C.2.2.2.2 hI.1.2) hI.2.2 hA (fun _ => rfl) (nI_pos (by omega)) (nI_clamp (by omega)) (by show N * 1 ≤ _; omega) (by rw [C.2.2.1.2.1]; exact hk) (by rw [C.2.2.1.2.2.1]; exact hq) (xdec hf) (fun q9 cA9 H1 hK1 hP1 hD1 hS1 => ?_)
  intro T hT X
  have e9 := xnew hI C.2.2.2.2 hP1 hD1 hT X
  have hl9 : ad S.length = base + S.length := C.2.2.2.2 _ hS
  have e8 : q9 = ad S.length := by rw [hl9]; exact e9
  subst e8
  have hcA : cA9 = cA .boolean := by
    have g1 : s.vm.findClass ("[" ++ (.boolean : FieldType).toString) = some cA9 := (hK1.2 4 (cA9, .boolean) rfl).2
    have g2 : s.vm.findClass ("[" ++ (.boolean : FieldType).toString) = some (cA .boolean) := (C.2.1.2.1.2 2 (cA .boolean, .boolean) rfl).2
    exact Option.some.inj (g1.symm.trans g2)
  subst hcA
  refine kk base ad cA D l p e R s m args below meth c Qf H1 locs ls C hE ⟨⟨?_, ?_⟩, ?_, hS1⟩ hl T hT X
  · have := hI.1.1
    show s.heap.size + (k + 1) = base + (S ++ [_]).length
    rw [List.length_append]
    show s.heap.size + (k + 1) = base + (S.length + 1)
    have h0 : s.heap.size + k = base + S.length := this
    omega
  · show (S ++ [_]).length ≤ 1000
    rw [List.length_append]
    exact hS
  · rw [xconc_app]
    show va_P D vwCl (xconc ad cA (S, I, L) ++ [(ad S.length, .inl (cA .boolean, N, .inl (I S.length)))]) H1
    rw [show I S.length = (fun _ => 0) from funext hzi]
    exact hP1

theorem ws_newaL {E : xEx} {d mi pc : Nat} {lv : xLv} {st : List Value} {S : List xSh} {I : Nat → Nat → Int32} {L : Nat → Nat → Int64} {k q : Nat} {Q : Option Value → xMem → Prop} {n : Int32} (pc' N : Nat) (hf : xft mi pc = some (.newarray .long, 2)) (hp : pc + 2 = pc') (hn : nI N = n) (hN : N < 100000) (hzi : ∀ j, I S.length j = 0) (hzl : ∀ j, L S.length j = 0) (hS : S.length < 1000) (hk : k + 1 ≤ xBC mi) (hq : q + N ≤ xBS mi) (kk : xW E d mi pc' lv (.ref S.length :: st) (S ++ [.inl (.long, N)], I, L) (k + 1) (q + N) Q) : xW E d mi pc lv (.int n :: st) (S, I, L) k q Q := by
  subst hp
  subst hn
  intro base ad cA D l p e R s m args below meth c Qf H locs ls C hE hI hl
  have hA : ∀ q, s.heap.size ≤ q → base ≤ q := fun q h => Nat.le_trans C.2.2.2.1 h
  refine va_newa (D := D) (A := fun q => base ≤ q) (atype := .long) (ty := .long) (a0 := (N, .inr (.inl (fun _ => 0)))) (N' := N) (rest := st.map (xtr ad)) C.1.2.1 C.1.2.2.1 (C.2.1.1 _ xw_arr.2.1) rfl C.2.1.2.1 hI.2.1 (xD C.2.2.2.2 hI.1.2) hI.2.2 hA (fun _ => rfl) (nI_pos (by omega)) (nI_clamp (by omega)) (by show N * 8 ≤ _; omega) (by rw [C.2.2.1.2.1]; exact hk) (by rw [C.2.2.1.2.2.1]; exact hq) (xdec hf) (fun q9 cA9 H1 hK1 hP1 hD1 hS1 => ?_)
  intro T hT X
  have e9 := xnew hI C.2.2.2.2 hP1 hD1 hT X
  have hl9 : ad S.length = base + S.length := C.2.2.2.2 _ hS
  have e8 : q9 = ad S.length := by rw [hl9]; exact e9
  subst e8
  have hcA : cA9 = cA .long := by
    have g1 : s.vm.findClass ("[" ++ (.long : FieldType).toString) = some cA9 := (hK1.2 4 (cA9, .long) rfl).2
    have g2 : s.vm.findClass ("[" ++ (.long : FieldType).toString) = some (cA .long) := (C.2.1.2.1.2 1 (cA .long, .long) rfl).2
    exact Option.some.inj (g1.symm.trans g2)
  subst hcA
  refine kk base ad cA D l p e R s m args below meth c Qf H1 locs ls C hE ⟨⟨?_, ?_⟩, ?_, hS1⟩ hl T hT X
  · have := hI.1.1
    show s.heap.size + (k + 1) = base + (S ++ [_]).length
    rw [List.length_append]
    show s.heap.size + (k + 1) = base + (S.length + 1)
    have h0 : s.heap.size + k = base + S.length := this
    omega
  · show (S ++ [_]).length ≤ 1000
    rw [List.length_append]
    exact hS
  · rw [xconc_app]
    show va_P D vwCl (xconc ad cA (S, I, L) ++ [(ad S.length, .inl (cA .long, N, .inr (.inl (L S.length))))]) H1
    rw [show L S.length = (fun _ => 0) from funext hzl]
    exact hP1

theorem ws_newq {E : xEx} {d mi pc : Nat} {lv : xLv} {st : List Value} {S : List xSh} {I : Nat → Nat → Int32} {L : Nat → Nat → Int64} {k q : Nat} {Q : Option Value → xMem → Prop} {idx : Nat} {n : Int32} (pc' N : Nat) (hf : xft mi pc = some (.anewarray idx, 3)) (hp : pc + 3 = pc') (hc : xcl (xOW mi) idx = some 3) (hn : nI N = n) (hN : N < 100000) (hS : S.length < 1000) (hk : k + 1 ≤ xBC mi) (hq : q + N ≤ xBS mi) (kk : xW E d mi pc' lv (.ref S.length :: st) (S ++ [.inr (.inr (List.replicate N .null))], I, L) (k + 1) (q + N) Q) : xW E d mi pc lv (.int n :: st) (S, I, L) k q Q := by
  subst hp
  subst hn
  intro base ad cA D l p e R s m args below meth c Qf H locs ls C hE hI hl
  obtain ⟨x, hx, hx3⟩ := Option.map_eq_some_iff.mp hc
  have hm := List.mem_of_find?_eq_some hx
  have hi : x.1 = idx := by simpa using List.find?_some hx
  obtain ⟨h7, hw1, hw2, hw3⟩ := xcL_ok _ (xow mi C.1.1).2 x hm
  rw [hi, hx3] at hw1
  have hA : ∀ q, s.heap.size ≤ q → base ≤ q := fun q h => Nat.le_trans C.2.2.2.1 h
  refine va_newq (D := D) (A := fun q => base ≤ q) (C := "ShopWindow$Scene") (N' := N) (rest := st.map (xtr ad)) C.1.2.1 C.1.2.2.1 C.1.2.2.2.2 (C.2.1.1 _ (xwd_in hw1)) C.2.1.2.2.2.2.2 C.2.1.2.1 hI.2.1 (xD C.2.2.2.2 hI.1.2) hI.2.2 hA (nI_pos (by omega)) (nI_clamp (by omega)) (by omega) (by rw [C.2.2.1.2.1]; exact hk) (by rw [C.2.2.1.2.2.1]; exact hq) (xdec hf) (fun q9 cA9 H1 hK1 hP1 hD1 hS1 => ?_)
  intro T hT X
  have e9 := xnew hI C.2.2.2.2 hP1 hD1 hT X
  have hl9 : ad S.length = base + S.length := C.2.2.2.2 _ hS
  have e8 : q9 = ad S.length := by rw [hl9]; exact e9
  subst e8
  have hcA : cA9 = cA xScn := by
    obtain ⟨-, -, -, -, -, g1⟩ := (hK1.2 4 (cA9, xScn) rfl).2
    obtain ⟨-, -, -, -, -, g2⟩ := (C.2.1.2.1.2 3 (cA xScn, xScn) rfl).2
    exact Option.some.inj (g1.symm.trans g2)
  subst hcA
  refine kk base ad cA D l p e R s m args below meth c Qf H1 locs ls C hE ⟨⟨?_, ?_⟩, ?_, hS1⟩ hl T hT X
  · have := hI.1.1
    show s.heap.size + (k + 1) = base + (S ++ [_]).length
    rw [List.length_append]
    show s.heap.size + (k + 1) = base + (S.length + 1)
    have h0 : s.heap.size + k = base + S.length := this
    omega
  · show (S ++ [_]).length ≤ 1000
    rw [List.length_append]
    exact hS
  · rw [xconc_app]
    have e7 : xcell ad cA I L S.length (.inr (.inr (List.replicate N .null))) = .inl (cA xScn, N, .inr (.inr (.inr (.inr (fun _ => none))))) := by
      simp only [xcell, List.length_replicate]
      congr 7
      funext j
      by_cases hj : j < N
      · simp [hj, xro]
      · simp [hj, xro]
    rw [e7]
    exact hP1

theorem ws_gets {E : xEx} {d mi pc : Nat} {lv : xLv} {st : List Value} {σ : xMem} {k q : Nat} {Q : Option Value → xMem → Prop} {idx e9 r : Nat} (pc' : Nat) (hf : xft mi pc = some (.getstatic idx, 3)) (hp : pc + 3 = pc') (hc : xss (xOW mi) idx = some (e9, 0)) (hr : 1001 + e9 = r) (kk : xW E d mi pc' lv (.ref r :: st) σ k q Q) : xW E d mi pc lv st σ k q Q := by
  subst hp
  subst hr
  intro base ad cA D l p e R s m args below meth c Qf H locs ls C hE hI hl
  obtain ⟨x, hx, hx2⟩ := Option.map_eq_some_iff.mp hc
  have hm := List.mem_of_find?_eq_some hx
  have hi : x.1 = idx := by simpa using List.find?_some hx
  have e1 : x.2.1 = e9 := (Prod.mk.inj hx2).1
  have e2 : x.2.2.2 = 0 := (Prod.mk.inj hx2).2
  obtain ⟨h5, ⟨-, hw⟩ | ⟨h, -⟩⟩ := xsL_ok _ (xow mi C.1.1).2 x hm
  · rw [hi, e1] at hw
    rw [e1] at h5
    exact va_gets (rest := st.map (xtr ad)) C.1.2.1 C.1.2.2.1 (C.2.1.2.2.2.1 e9 h5) hI.2.2 C.1.2.2.2.2 (C.2.1.1 _ (xwd_in hw)) (fun _ h => h) (xdec hf) (kk base ad cA D l p e R s m args below meth c Qf H locs ls C hE hI hl)
  · omega
theorem ws_getsN {E : xEx} {d mi pc : Nat} {lv : xLv} {st : List Value} {σ : xMem} {k q : Nat} {Q : Option Value → xMem → Prop} {idx e9 r : Nat} (pc' : Nat) (hf : xft mi pc = some (.getstatic idx, 3)) (hp : pc + 3 = pc') (hc : xss (xOW mi) idx = some (e9, 1)) (hr : 1001 + e9 = r) (kk : xW E d mi pc' lv (.ref r :: st) σ k q Q) : xW E d mi pc lv st σ k q Q := by
  subst hp
  subst hr
  intro base ad cA D l p e R s m args below meth c Qf H locs ls C hE hI hl
  obtain ⟨x, hx, hx2⟩ := Option.map_eq_some_iff.mp hc
  have hm := List.mem_of_find?_eq_some hx
  have hi : x.1 = idx := by simpa using List.find?_some hx
  have e1 : x.2.1 = e9 := (Prod.mk.inj hx2).1
  have e2 : x.2.2.2 = 1 := (Prod.mk.inj hx2).2
  obtain ⟨h5, ⟨h, -⟩ | ⟨-, hw⟩⟩ := xsL_ok _ (xow mi C.1.1).2 x hm
  · omega
  · rw [hi, e1] at hw
    rw [e1] at h5
    exact va_getsN (rest := st.map (xtr ad)) C.1.2.1 C.1.2.2.1 (C.2.1.2.2.2.1 e9 h5) hI.2.2 C.1.2.2.2.2 (va_Nw.use rfl (C.2.1.2.2.2.2.1 _ (xNst_at hw rfl))) (fun _ h => h) (xdec hf) (kk base ad cA D l p e R s m args below meth c Qf H locs ls C hE hI hl)

theorem ws_iret {E : xEx} {d mi pc : Nat} {lv : xLv} {σ : xMem} {k q : Nat} {Q : Option Value → xMem → Prop} {v : Int32} (hf : xft mi pc = some (.ireturn, 1)) (hr : xRT mi = some .int) (hk : k = xBC mi) (hq : q ≤ xBS mi) (h : Q (some (.int v)) σ) : xW E d mi pc lv [.int v] σ k q Q := by
  subst hk
  intro base ad cA D l p e R s m args below meth c Qf H locs ls C hE hI hl
  exact W.widen (Nat.le_refl _) hq (hE (some (.int v)) σ H locs pc ls h hI ⟨xdec hf, Or.inl hr⟩)
theorem ws_zret {E : xEx} {d mi pc : Nat} {lv : xLv} {σ : xMem} {k q : Nat} {Q : Option Value → xMem → Prop} {v : Int32} (hf : xft mi pc = some (.ireturn, 1)) (hr : xRT mi = some .boolean) (hv : v = 0 ∨ v = 1) (hk : k = xBC mi) (hq : q ≤ xBS mi) (h : Q (some (.int v)) σ) : xW E d mi pc lv [.int v] σ k q Q := by
  subst hk
  intro base ad cA D l p e R s m args below meth c Qf H locs ls C hE hI hl
  exact W.widen (Nat.le_refl _) hq (hE (some (.int v)) σ H locs pc ls h hI ⟨xdec hf, Or.inr ⟨hr, hv⟩⟩)
theorem ws_lret {E : xEx} {d mi pc : Nat} {lv : xLv} {σ : xMem} {k q : Nat} {Q : Option Value → xMem → Prop} {v : Int64} (hf : xft mi pc = some (.lreturn, 1)) (hr : xRT mi = some .long) (hk : k = xBC mi) (hq : q ≤ xBS mi) (h : Q (some (.long v)) σ) : xW E d mi pc lv [.long v] σ k q Q := by
  subst hk
  intro base ad cA D l p e R s m args below meth c Qf H locs ls C hE hI hl
  exact W.widen (Nat.le_refl _) hq (hE (some (.long v)) σ H locs pc ls h hI ⟨xdec hf, hr⟩)
theorem ws_vret {E : xEx} {d mi pc : Nat} {lv : xLv} {σ : xMem} {k q : Nat} {Q : Option Value → xMem → Prop} (hf : xft mi pc = some (.return_, 1)) (hr : xRT mi = none) (hk : k = xBC mi) (hq : q ≤ xBS mi) (h : Q none σ) : xW E d mi pc lv [] σ k q Q := by
  subst hk
  intro base ad cA D l p e R s m args below meth c Qf H locs ls C hE hI hl
  exact W.widen (Nat.le_refl _) hq (hE none σ H locs pc ls h hI ⟨xdec hf, hr⟩)

theorem ws_oinit {E : xEx} {d mi pc : Nat} {lv : xLv} {st : List Value} {σ : xMem} {k q : Nat} {Q : Option Value → xMem → Prop} {idx o : Nat} {z : Nat} (pc' : Nat) (hf : xft mi pc = some (.invokespecial idx, 3)) (hp : pc + 3 = pc') (hm : xmt (xOW mi) idx = some (3, z)) (hd : 1 ≤ d) (hs : (st.map fun v => v.category).sum ≤ 8) (kk : xW E d mi pc' lv st σ k q Q) : xW E d mi pc lv (.ref o :: st) σ k q Q := by
  subst hp
  intro base ad cA D l p e R s m args below meth c Qf H locs ls C hE hI hl
  obtain ⟨x, hx, hx2⟩ := Option.map_eq_some_iff.mp hm
  have hmm := List.mem_of_find?_eq_some hx
  have hi : x.1 = idx := by simpa using List.find?_some hx
  have e1 : x.2.1 = 3 := (Prod.mk.inj hx2).1
  have hw := xmL_ok _ (xow mi C.1.1).2 x hmm
  unfold xmOk at hw
  simp only [e1, hi] at hw
  have hcs : ((st.map (xtr ad)).map fun v => v.category).sum = (st.map fun v => v.category).sum := by
    congr 1
    rw [List.map_map]
    apply List.map_congr_left
    intro v _
    exact xtr_cat ad v
  have hfr := C.2.2.1.2.2.2.1
  have hlo := C.2.2.1.2.2.2.2
  refine W.objInit (a := ad o) (rest := st.map (xtr ad)) C.1.2.1 C.1.2.2.1 C.1.2.2.2.2 (C.2.1.1 _ (xwd_in hw)) (C.2.1.1 _ xw_objInit.1) (C.2.1.1 _ xw_objInit.2) rfl (by show ls.size = _; rw [hl.1, C.1.2.2.2.1]) rfl (xdec hf) (by omega) ?_ (kk base ad cA D l p e R s m args below meth c Qf H locs ls C hE hI hl)
  show 2 * 0 + _ + 12 ≤ _
  rw [hcs]
  omega
