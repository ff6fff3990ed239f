theorem ws_iconst {E : xEx} {d mi pc : Nat} {lv : xLv} {st : List Value} {σ : xMem} {k q : Nat} {Q : Option Value → xMem → Prop} {n : Int} {v : Int32} (pc' : Nat) (hf : xft mi pc = some (.iconst n, 1)) (hp : pc + 1 = pc') (hv : Int32.ofInt n = v) (kk : xW E d mi pc' lv (.int v :: st) σ k q Q) : xW E d mi pc lv st σ k q Q := by
  subst hp
  intro base ad cA D l p e R s m args below meth c Qf H locs ls C hE hI hl
  exact lv_iconst C.1.2.1 C.1.2.2.1 (xdec hf) hv (kk base ad cA D l p e R s m args below meth c Qf H locs ls C hE hI hl)

theorem ws_bipush {E : xEx} {d mi pc : Nat} {lv : xLv} {st : List Value} {σ : xMem} {k q : Nat} {Q : Option Value → xMem → Prop} {n : Int} {v : Int32} (pc' : Nat) (hf : xft mi pc = some (.bipush n, 2)) (hp : pc + 2 = pc') (hv : (Int8.ofInt n).toInt32 = v) (kk : xW E d mi pc' lv (.int v :: st) σ k q Q) : xW E d mi pc lv st σ k q Q := by
  subst hp
  intro base ad cA D l p e R s m args below meth c Qf H locs ls C hE hI hl
  exact lv_bipush C.1.2.1 C.1.2.2.1 (xdec hf) hv (kk base ad cA D l p e R s m args below meth c Qf H locs ls C hE hI hl)

theorem ws_sipush {E : xEx} {d mi pc : Nat} {lv : xLv} {st : List Value} {σ : xMem} {k q : Nat} {Q : Option Value → xMem → Prop} {n : Int} {v : Int32} (pc' : Nat) (hf : xft mi pc = some (.sipush n, 3)) (hp : pc + 3 = pc') (hv : (Int16.ofInt n).toInt32 = v) (kk : xW E d mi pc' lv (.int v :: st) σ k q Q) : xW E d mi pc lv st σ k q Q := by
  subst hp
  intro base ad cA D l p e R s m args below meth c Qf H locs ls C hE hI hl
  exact lv_sipush C.1.2.1 C.1.2.2.1 (xdec hf) hv (kk base ad cA D l p e R s m args below meth c Qf H locs ls C hE hI hl)

theorem ws_lconst {E : xEx} {d mi pc : Nat} {lv : xLv} {st : List Value} {σ : xMem} {k q : Nat} {Q : Option Value → xMem → Prop} {n : Fin 2} {v : Int64} (pc' : Nat) (hf : xft mi pc = some (.lconst n, 1)) (hp : pc + 1 = pc') (hv : Int64.ofNat (n : Nat) = v) (kk : xW E d mi pc' lv (.long v :: st) σ k q Q) : xW E d mi pc lv st σ k q Q := by
  subst hp
  intro base ad cA D l p e R s m args below meth c Qf H locs ls C hE hI hl
  exact lv_lconst C.1.2.1 C.1.2.2.1 (xdec hf) hv (kk base ad cA D l p e R s m args below meth c Qf H locs ls C hE hI hl)

theorem ws_giload_n {E : xEx} {d mi pc : Nat} {lv : xLv} {st : List Value} {σ : xMem} {k q : Nat} {Q : Option Value → xMem → Prop} {n : Fin 4} {x : Int32} (pc' : Nat) (hf : xft mi pc = some (.iload_n n, 1)) (hp : pc + 1 = pc') (h : lv[(n : Nat)]? = some (some (.int x))) (kk : xW E d mi pc' lv (.int x :: st) σ k q Q) : xW E d mi pc lv st σ k q Q := by
  subst hp
  intro base ad cA D l p e R s m args below meth c Qf H locs ls C hE hI hl
  exact lv_iload_n C.1.2.1 C.1.2.2.1 (xdec hf) rfl (xloc hl h) (kk base ad cA D l p e R s m args below meth c Qf H locs ls C hE hI hl)

theorem ws_giload {E : xEx} {d mi pc : Nat} {lv : xLv} {st : List Value} {σ : xMem} {k q : Nat} {Q : Option Value → xMem → Prop} {n : Nat} {x : Int32} (pc' : Nat) (hf : xft mi pc = some (.iload n, 2)) (hp : pc + 2 = pc') (h : lv[n]? = some (some (.int x))) (kk : xW E d mi pc' lv (.int x :: st) σ k q Q) : xW E d mi pc lv st σ k q Q := by
  subst hp
  intro base ad cA D l p e R s m args below meth c Qf H locs ls C hE hI hl
  exact lv_iload C.1.2.1 C.1.2.2.1 (xdec hf) (xloc hl h) (kk base ad cA D l p e R s m args below meth c Qf H locs ls C hE hI hl)

theorem ws_glload_n {E : xEx} {d mi pc : Nat} {lv : xLv} {st : List Value} {σ : xMem} {k q : Nat} {Q : Option Value → xMem → Prop} {n : Fin 4} {x : Int64} (pc' : Nat) (hf : xft mi pc = some (.lload_n n, 1)) (hp : pc + 1 = pc') (h : lv[(n : Nat)]? = some (some (.long x))) (kk : xW E d mi pc' lv (.long x :: st) σ k q Q) : xW E d mi pc lv st σ k q Q := by
  subst hp
  intro base ad cA D l p e R s m args below meth c Qf H locs ls C hE hI hl
  exact lv_lload_n C.1.2.1 C.1.2.2.1 (xdec hf) rfl (xloc hl h) (kk base ad cA D l p e R s m args below meth c Qf H locs ls C hE hI hl)

theorem ws_glload {E : xEx} {d mi pc : Nat} {lv : xLv} {st : List Value} {σ : xMem} {k q : Nat} {Q : Option Value → xMem → Prop} {n : Nat} {x : Int64} (pc' : Nat) (hf : xft mi pc = some (.lload n, 2)) (hp : pc + 2 = pc') (h : lv[n]? = some (some (.long x))) (kk : xW E d mi pc' lv (.long x :: st) σ k q Q) : xW E d mi pc lv st σ k q Q := by
  subst hp
  intro base ad cA D l p e R s m args below meth c Qf H locs ls C hE hI hl
  exact lv_lload C.1.2.1 C.1.2.2.1 (xdec hf) (xloc hl h) (kk base ad cA D l p e R s m args below meth c Qf H locs ls C hE hI hl)

theorem ws_gaload_n {E : xEx} {d mi pc : Nat} {lv : xLv} {st : List Value} {σ : xMem} {k q : Nat} {Q : Option Value → xMem → Prop} {n : Fin 4} {x : Nat} (pc' : Nat) (hf : xft mi pc = some (.aload_n n, 1)) (hp : pc + 1 = pc') (h : lv[(n : Nat)]? = some (some (.ref x))) (kk : xW E d mi pc' lv (.ref x :: st) σ k q Q) : xW E d mi pc lv st σ k q Q := by
  subst hp
  intro base ad cA D l p e R s m args below meth c Qf H locs ls C hE hI hl
  exact lv_aload_n C.1.2.1 C.1.2.2.1 (xdec hf) rfl (xloc hl h) (kk base ad cA D l p e R s m args below meth c Qf H locs ls C hE hI hl)

theorem ws_gaload {E : xEx} {d mi pc : Nat} {lv : xLv} {st : List Value} {σ : xMem} {k q : Nat} {Q : Option Value → xMem → Prop} {n : Nat} {x : Nat} (pc' : Nat) (hf : xft mi pc = some (.aload n, 2)) (hp : pc + 2 = pc') (h : lv[n]? = some (some (.ref x))) (kk : xW E d mi pc' lv (.ref x :: st) σ k q Q) : xW E d mi pc lv st σ k q Q := by
  subst hp
  intro base ad cA D l p e R s m args below meth c Qf H locs ls C hE hI hl
  exact lv_aload C.1.2.1 C.1.2.2.1 (xdec hf) (xloc hl h) (kk base ad cA D l p e R s m args below meth c Qf H locs ls C hE hI hl)

theorem ws_gistore_n {E : xEx} {d mi pc : Nat} {lv : xLv} {st : List Value} {σ : xMem} {k q : Nat} {Q : Option Value → xMem → Prop} {n : Fin 4} {x : Int32} (pc' : Nat) (hf : xft mi pc = some (.istore_n n, 1)) (hp : pc + 1 = pc') (hn : Nat.blt (n : Nat) (xML mi) = true) (hb : xbef lv (n : Nat) = false) (kk : xW E d mi pc' (lv.set (n : Nat) (some (.int x))) st σ k q Q) : xW E d mi pc lv (.int x :: st) σ k q Q := by
  subst hp
  intro base ad cA D l p e R s m args below meth c Qf H locs ls C hE hI hl
  refine lv_istore_n (lv := xlv ad 0 lv) C.1.2.1 C.1.2.2.1 (xdec hf) rfl hl (Nat.le_of_ble_eq_true hn) rfl (fun ls' h' => ?_)
  exact kk base ad cA D l p e R s m args below meth c Qf H locs ls' C hE hI (xlv_set h' hb)

theorem ws_gistore {E : xEx} {d mi pc : Nat} {lv : xLv} {st : List Value} {σ : xMem} {k q : Nat} {Q : Option Value → xMem → Prop} {n : Nat} {x : Int32} (pc' : Nat) (hf : xft mi pc = some (.istore n, 2)) (hp : pc + 2 = pc') (hn : Nat.blt n (xML mi) = true) (hb : xbef lv n = false) (kk : xW E d mi pc' (lv.set n (some (.int x))) st σ k q Q) : xW E d mi pc lv (.int x :: st) σ k q Q := by
  subst hp
  intro base ad cA D l p e R s m args below meth c Qf H locs ls C hE hI hl
  refine lv_istore (lv := xlv ad 0 lv) C.1.2.1 C.1.2.2.1 (xdec hf) hl (Nat.le_of_ble_eq_true hn) rfl (fun ls' h' => ?_)
  exact kk base ad cA D l p e R s m args below meth c Qf H locs ls' C hE hI (xlv_set h' hb)

theorem ws_glstore_n {E : xEx} {d mi pc : Nat} {lv : xLv} {st : List Value} {σ : xMem} {k q : Nat} {Q : Option Value → xMem → Prop} {n : Fin 4} {x : Int64} (pc' : Nat) (hf : xft mi pc = some (.lstore_n n, 1)) (hp : pc + 1 = pc') (hn : ((n : Nat) + 1).blt (xML mi) = true) (hb : xbef lv (n : Nat) = false) (kk : xW E d mi pc' ((lv.set (n : Nat) (some (.long x))).set ((n : Nat) + 1) none) st σ k q Q) : xW E d mi pc lv (.long x :: st) σ k q Q := by
  subst hp
  intro base ad cA D l p e R s m args below meth c Qf H locs ls C hE hI hl
  refine lv_lstore_n (lv := xlv ad 0 lv) C.1.2.1 C.1.2.2.1 (xdec hf) rfl hl (Nat.le_of_ble_eq_true hn) rfl (fun ls' h' => ?_)
  exact kk base ad cA D l p e R s m args below meth c Qf H locs ls' C hE hI (xlv_set2 h' hb)

theorem ws_glstore {E : xEx} {d mi pc : Nat} {lv : xLv} {st : List Value} {σ : xMem} {k q : Nat} {Q : Option Value → xMem → Prop} {n : Nat} {x : Int64} (pc' : Nat) (hf : xft mi pc = some (.lstore n, 2)) (hp : pc + 2 = pc') (hn : (n + 1).blt (xML mi) = true) (hb : xbef lv n = false) (kk : xW E d mi pc' ((lv.set n (some (.long x))).set (n + 1) none) st σ k q Q) : xW E d mi pc lv (.long x :: st) σ k q Q := by
  subst hp
  intro base ad cA D l p e R s m args below meth c Qf H locs ls C hE hI hl
  refine lv_lstore (lv := xlv ad 0 lv) C.1.2.1 C.1.2.2.1 (xdec hf) hl (Nat.le_of_ble_eq_true hn) rfl (fun ls' h' => ?_)
  exact kk base ad cA D l p e R s m args below meth c Qf H locs ls' C hE hI (xlv_set2 h' hb)

theorem ws_gastore_n {E : xEx} {d mi pc : Nat} {lv : xLv} {st : List Value} {σ : xMem} {k q : Nat} {Q : Option Value → xMem → Prop} {n : Fin 4} {x : Nat} (pc' : Nat) (hf : xft mi pc = some (.astore_n n, 1)) (hp : pc + 1 = pc') (hn : Nat.blt (n : Nat) (xML mi) = true) (hb : xbef lv (n : Nat) = false) (kk : xW E d mi pc' (lv.set (n : Nat) (some (.ref x))) st σ k q Q) : xW E d mi pc lv (.ref x :: st) σ k q Q := by
  subst hp
  intro base ad cA D l p e R s m args below meth c Qf H locs ls C hE hI hl
  refine lv_astore_n (lv := xlv ad 0 lv) C.1.2.1 C.1.2.2.1 (xdec hf) rfl hl (Nat.le_of_ble_eq_true hn) rfl (fun ls' h' => ?_)
  exact kk base ad cA D l p e R s m args below meth c Qf H locs ls' C hE hI (xlv_set h' hb)

theorem ws_gastore {E : xEx} {d mi pc : Nat} {lv : xLv} {st : List Value} {σ : xMem} {k q : Nat} {Q : Option Value → xMem → Prop} {n : Nat} {x : Nat} (pc' : Nat) (hf : xft mi pc = some (.astore n, 2)) (hp : pc + 2 = pc') (hn : Nat.blt n (xML mi) = true) (hb : xbef lv n = false) (kk : xW E d mi pc' (lv.set n (some (.ref x))) st σ k q Q) : xW E d mi pc lv (.ref x :: st) σ k q Q := by
  subst hp
  intro base ad cA D l p e R s m args below meth c Qf H locs ls C hE hI hl
  refine lv_astore (lv := xlv ad 0 lv) C.1.2.1 C.1.2.2.1 (xdec hf) hl (Nat.le_of_ble_eq_true hn) rfl (fun ls' h' => ?_)
  exact kk base ad cA D l p e R s m args below meth c Qf H locs ls' C hE hI (xlv_set h' hb)

theorem ws_giinc {E : xEx} {d mi pc : Nat} {lv : xLv} {st : List Value} {σ : xMem} {k q : Nat} {Q : Option Value → xMem → Prop} {n : Nat} {z : Int} {x v : Int32} (pc' : Nat) (hf : xft mi pc = some (.iinc n z, 3)) (hp : pc + 3 = pc') (h : lv[n]? = some (some (.int x))) (hv : x + Int32.ofInt z = v) (hn : Nat.blt n (xML mi) = true) (hb : xbef lv n = false) (kk : xW E d mi pc' (lv.set n (some (.int v))) st σ k q Q) : xW E d mi pc lv st σ k q Q := by
  subst hp
  intro base ad cA D l p e R s m args below meth c Qf H locs ls C hE hI hl
  obtain ⟨j, hj⟩ := List.mem_iff_getElem?.mp (xlv_at (ad := ad) h)
  refine lv_iinc (lv := xlv ad 0 lv) (k := j) (v := v) C.1.2.1 C.1.2.2.1 (xdec hf) hl hj hv (Nat.le_of_ble_eq_true hn) rfl (fun ls' h' => ?_)
  exact kk base ad cA D l p e R s m args below meth c Qf H locs ls' C hE hI (xlv_set (v := .int v) h' hb)

theorem ws_iload_0 {E : xEx} {d mi pc : Nat} {st : List Value} {σ : xMem} {k q : Nat} {Q : Option Value → xMem → Prop} {r : xLv} {x : Int32} (pc' : Nat) (hf : xft mi pc = some (.iload_n 0, 1)) (hp : pc + 1 = pc') (kk : xW E d mi pc' (some (.int x) :: r) (.int x :: st) σ k q Q) : xW E d mi pc (some (.int x) :: r) st σ k q Q := ws_giload_n pc' hf hp rfl kk

theorem ws_istore_0 {E : xEx} {d mi pc : Nat} {st : List Value} {σ : xMem} {k q : Nat} {Q : Option Value → xMem → Prop} {r : xLv} {z : Option Value} {x : Int32} (pc' : Nat) (hf : xft mi pc = some (.istore_n 0, 1)) (hp : pc + 1 = pc') (hn : Nat.blt 0 (xML mi) = true) (hc : xbef (z :: r) 0 = false) (kk : xW E d mi pc' (some (.int x) :: r) st σ k q Q) : xW E d mi pc (z :: r) (.int x :: st) σ k q Q := ws_gistore_n pc' hf hp hn hc kk

theorem ws_lload_0 {E : xEx} {d mi pc : Nat} {st : List Value} {σ : xMem} {k q : Nat} {Q : Option Value → xMem → Prop} {r : xLv} {x : Int64} (pc' : Nat) (hf : xft mi pc = some (.lload_n 0, 1)) (hp : pc + 1 = pc') (kk : xW E d mi pc' (some (.long x) :: r) (.long x :: st) σ k q Q) : xW E d mi pc (some (.long x) :: r) st σ k q Q := ws_glload_n pc' hf hp rfl kk

theorem ws_lstore_0 {E : xEx} {d mi pc : Nat} {st : List Value} {σ : xMem} {k q : Nat} {Q : Option Value → xMem → Prop} {r : xLv} {z z2 : Option Value} {x : Int64} (pc' : Nat) (hf : xft mi pc = some (.lstore_n 0, 1)) (hp : pc + 1 = pc') (hn : Nat.blt 1 (xML mi) = true) (hc : xbef (z :: z2 :: r) 0 = false) (kk : xW E d mi pc' (some (.long x) :: none :: r) st σ k q Q) : xW E d mi pc (z :: z2 :: r) (.long x :: st) σ k q Q := ws_glstore_n pc' hf hp hn hc kk

theorem ws_aload_0 {E : xEx} {d mi pc : Nat} {st : List Value} {σ : xMem} {k q : Nat} {Q : Option Value → xMem → Prop} {r : xLv} {x : Nat} (pc' : Nat) (hf : xft mi pc = some (.aload_n 0, 1)) (hp : pc + 1 = pc') (kk : xW E d mi pc' (some (.ref x) :: r) (.ref x :: st) σ k q Q) : xW E d mi pc (some (.ref x) :: r) st σ k q Q := ws_gaload_n pc' hf hp rfl kk

theorem ws_astore_0 {E : xEx} {d mi pc : Nat} {st : List Value} {σ : xMem} {k q : Nat} {Q : Option Value → xMem → Prop} {r : xLv} {z : Option Value} {x : Nat} (pc' : Nat) (hf : xft mi pc = some (.astore_n 0, 1)) (hp : pc + 1 = pc') (hn : Nat.blt 0 (xML mi) = true) (hc : xbef (z :: r) 0 = false) (kk : xW E d mi pc' (some (.ref x) :: r) st σ k q Q) : xW E d mi pc (z :: r) (.ref x :: st) σ k q Q := ws_gastore_n pc' hf hp hn hc kk

theorem ws_iinc_0 {E : xEx} {d mi pc : Nat} {st : List Value} {σ : xMem} {k q : Nat} {Q : Option Value → xMem → Prop} {r : xLv} {z : Int} {x v : Int32} (pc' : Nat) (hf : xft mi pc = some (.iinc 0 z, 3)) (hp : pc + 3 = pc') (hv : x + Int32.ofInt z = v) (hn : Nat.blt 0 (xML mi) = true) (hc : xbef (some (.int x) :: r) 0 = false) (kk : xW E d mi pc' (some (.int v) :: r) st σ k q Q) : xW E d mi pc (some (.int x) :: r) st σ k q Q := ws_giinc pc' hf hp rfl hv hn hc kk

theorem ws_iload_1 {E : xEx} {d mi pc : Nat} {st : List Value} {σ : xMem} {k q : Nat} {Q : Option Value → xMem → Prop} {a0 : Option Value} {r : xLv} {x : Int32} (pc' : Nat) (hf : xft mi pc = some (.iload_n 1, 1)) (hp : pc + 1 = pc') (kk : xW E d mi pc' (a0 :: some (.int x) :: r) (.int x :: st) σ k q Q) : xW E d mi pc (a0 :: some (.int x) :: r) st σ k q Q := ws_giload_n pc' hf hp rfl kk

theorem ws_istore_1 {E : xEx} {d mi pc : Nat} {st : List Value} {σ : xMem} {k q : Nat} {Q : Option Value → xMem → Prop} {a0 : Option Value} {r : xLv} {z : Option Value} {x : Int32} (pc' : Nat) (hf : xft mi pc = some (.istore_n 1, 1)) (hp : pc + 1 = pc') (hn : Nat.blt 1 (xML mi) = true) (hc : xbef (a0 :: z :: r) 1 = false) (kk : xW E d mi pc' (a0 :: some (.int x) :: r) st σ k q Q) : xW E d mi pc (a0 :: z :: r) (.int x :: st) σ k q Q := ws_gistore_n pc' hf hp hn hc kk

theorem ws_lload_1 {E : xEx} {d mi pc : Nat} {st : List Value} {σ : xMem} {k q : Nat} {Q : Option Value → xMem → Prop} {a0 : Option Value} {r : xLv} {x : Int64} (pc' : Nat) (hf : xft mi pc = some (.lload_n 1, 1)) (hp : pc + 1 = pc') (kk : xW E d mi pc' (a0 :: some (.long x) :: r) (.long x :: st) σ k q Q) : xW E d mi pc (a0 :: some (.long x) :: r) st σ k q Q := ws_glload_n pc' hf hp rfl kk

theorem ws_lstore_1 {E : xEx} {d mi pc : Nat} {st : List Value} {σ : xMem} {k q : Nat} {Q : Option Value → xMem → Prop} {a0 : Option Value} {r : xLv} {z z2 : Option Value} {x : Int64} (pc' : Nat) (hf : xft mi pc = some (.lstore_n 1, 1)) (hp : pc + 1 = pc') (hn : Nat.blt 2 (xML mi) = true) (hc : xbef (a0 :: z :: z2 :: r) 1 = false) (kk : xW E d mi pc' (a0 :: some (.long x) :: none :: r) st σ k q Q) : xW E d mi pc (a0 :: z :: z2 :: r) (.long x :: st) σ k q Q := ws_glstore_n pc' hf hp hn hc kk

theorem ws_aload_1 {E : xEx} {d mi pc : Nat} {st : List Value} {σ : xMem} {k q : Nat} {Q : Option Value → xMem → Prop} {a0 : Option Value} {r : xLv} {x : Nat} (pc' : Nat) (hf : xft mi pc = some (.aload_n 1, 1)) (hp : pc + 1 = pc') (kk : xW E d mi pc' (a0 :: some (.ref x) :: r) (.ref x :: st) σ k q Q) : xW E d mi pc (a0 :: some (.ref x) :: r) st σ k q Q := ws_gaload_n pc' hf hp rfl kk

theorem ws_astore_1 {E : xEx} {d mi pc : Nat} {st : List Value} {σ : xMem} {k q : Nat} {Q : Option Value → xMem → Prop} {a0 : Option Value} {r : xLv} {z : Option Value} {x : Nat} (pc' : Nat) (hf : xft mi pc = some (.astore_n 1, 1)) (hp : pc + 1 = pc') (hn : Nat.blt 1 (xML mi) = true) (hc : xbef (a0 :: z :: r) 1 = false) (kk : xW E d mi pc' (a0 :: some (.ref x) :: r) st σ k q Q) : xW E d mi pc (a0 :: z :: r) (.ref x :: st) σ k q Q := ws_gastore_n pc' hf hp hn hc kk

theorem ws_iinc_1 {E : xEx} {d mi pc : Nat} {st : List Value} {σ : xMem} {k q : Nat} {Q : Option Value → xMem → Prop} {a0 : Option Value} {r : xLv} {z : Int} {x v : Int32} (pc' : Nat) (hf : xft mi pc = some (.iinc 1 z, 3)) (hp : pc + 3 = pc') (hv : x + Int32.ofInt z = v) (hn : Nat.blt 1 (xML mi) = true) (hc : xbef (a0 :: some (.int x) :: r) 1 = false) (kk : xW E d mi pc' (a0 :: some (.int v) :: r) st σ k q Q) : xW E d mi pc (a0 :: some (.int x) :: r) st σ k q Q := ws_giinc pc' hf hp rfl hv hn hc kk

theorem ws_iload_2 {E : xEx} {d mi pc : Nat} {st : List Value} {σ : xMem} {k q : Nat} {Q : Option Value → xMem → Prop} {a0 a1 : Option Value} {r : xLv} {x : Int32} (pc' : Nat) (hf : xft mi pc = some (.iload_n 2, 1)) (hp : pc + 1 = pc') (kk : xW E d mi pc' (a0 :: a1 :: some (.int x) :: r) (.int x :: st) σ k q Q) : xW E d mi pc (a0 :: a1 :: some (.int x) :: r) st σ k q Q := ws_giload_n pc' hf hp rfl kk

theorem ws_istore_2 {E : xEx} {d mi pc : Nat} {st : List Value} {σ : xMem} {k q : Nat} {Q : Option Value → xMem → Prop} {a0 a1 : Option Value} {r : xLv} {z : Option Value} {x : Int32} (pc' : Nat) (hf : xft mi pc = some (.istore_n 2, 1)) (hp : pc + 1 = pc') (hn : Nat.blt 2 (xML mi) = true) (hc : xbef (a0 :: a1 :: z :: r) 2 = false) (kk : xW E d mi pc' (a0 :: a1 :: some (.int x) :: r) st σ k q Q) : xW E d mi pc (a0 :: a1 :: z :: r) (.int x :: st) σ k q Q := ws_gistore_n pc' hf hp hn hc kk

theorem ws_lload_2 {E : xEx} {d mi pc : Nat} {st : List Value} {σ : xMem} {k q : Nat} {Q : Option Value → xMem → Prop} {a0 a1 : Option Value} {r : xLv} {x : Int64} (pc' : Nat) (hf : xft mi pc = some (.lload_n 2, 1)) (hp : pc + 1 = pc') (kk : xW E d mi pc' (a0 :: a1 :: some (.long x) :: r) (.long x :: st) σ k q Q) : xW E d mi pc (a0 :: a1 :: some (.long x) :: r) st σ k q Q := ws_glload_n pc' hf hp rfl kk

theorem ws_lstore_2 {E : xEx} {d mi pc : Nat} {st : List Value} {σ : xMem} {k q : Nat} {Q : Option Value → xMem → Prop} {a0 a1 : Option Value} {r : xLv} {z z2 : Option Value} {x : Int64} (pc' : Nat) (hf : xft mi pc = some (.lstore_n 2, 1)) (hp : pc + 1 = pc') (hn : Nat.blt 3 (xML mi) = true) (hc : xbef (a0 :: a1 :: z :: z2 :: r) 2 = false) (kk : xW E d mi pc' (a0 :: a1 :: some (.long x) :: none :: r) st σ k q Q) : xW E d mi pc (a0 :: a1 :: z :: z2 :: r) (.long x :: st) σ k q Q := ws_glstore_n pc' hf hp hn hc kk

theorem ws_aload_2 {E : xEx} {d mi pc : Nat} {st : List Value} {σ : xMem} {k q : Nat} {Q : Option Value → xMem → Prop} {a0 a1 : Option Value} {r : xLv} {x : Nat} (pc' : Nat) (hf : xft mi pc = some (.aload_n 2, 1)) (hp : pc + 1 = pc') (kk : xW E d mi pc' (a0 :: a1 :: some (.ref x) :: r) (.ref x :: st) σ k q Q) : xW E d mi pc (a0 :: a1 :: some (.ref x) :: r) st σ k q Q := ws_gaload_n pc' hf hp rfl kk

theorem ws_astore_2 {E : xEx} {d mi pc : Nat} {st : List Value} {σ : xMem} {k q : Nat} {Q : Option Value → xMem → Prop} {a0 a1 : Option Value} {r : xLv} {z : Option Value} {x : Nat} (pc' : Nat) (hf : xft mi pc = some (.astore_n 2, 1)) (hp : pc + 1 = pc') (hn : Nat.blt 2 (xML mi) = true) (hc : xbef (a0 :: a1 :: z :: r) 2 = false) (kk : xW E d mi pc' (a0 :: a1 :: some (.ref x) :: r) st σ k q Q) : xW E d mi pc (a0 :: a1 :: z :: r) (.ref x :: st) σ k q Q := ws_gastore_n pc' hf hp hn hc kk

theorem ws_iinc_2 {E : xEx} {d mi pc : Nat} {st : List Value} {σ : xMem} {k q : Nat} {Q : Option Value → xMem → Prop} {a0 a1 : Option Value} {r : xLv} {z : Int} {x v : Int32} (pc' : Nat) (hf : xft mi pc = some (.iinc 2 z, 3)) (hp : pc + 3 = pc') (hv : x + Int32.ofInt z = v) (hn : Nat.blt 2 (xML mi) = true) (hc : xbef (a0 :: a1 :: some (.int x) :: r) 2 = false) (kk : xW E d mi pc' (a0 :: a1 :: some (.int v) :: r) st σ k q Q) : xW E d mi pc (a0 :: a1 :: some (.int x) :: r) st σ k q Q := ws_giinc pc' hf hp rfl hv hn hc kk

theorem ws_iload_3 {E : xEx} {d mi pc : Nat} {st : List Value} {σ : xMem} {k q : Nat} {Q : Option Value → xMem → Prop} {a0 a1 a2 : Option Value} {r : xLv} {x : Int32} (pc' : Nat) (hf : xft mi pc = some (.iload_n 3, 1)) (hp : pc + 1 = pc') (kk : xW E d mi pc' (a0 :: a1 :: a2 :: some (.int x) :: r) (.int x :: st) σ k q Q) : xW E d mi pc (a0 :: a1 :: a2 :: some (.int x) :: r) st σ k q Q := ws_giload_n pc' hf hp rfl kk

theorem ws_istore_3 {E : xEx} {d mi pc : Nat} {st : List Value} {σ : xMem} {k q : Nat} {Q : Option Value → xMem → Prop} {a0 a1 a2 : Option Value} {r : xLv} {z : Option Value} {x : Int32} (pc' : Nat) (hf : xft mi pc = some (.istore_n 3, 1)) (hp : pc + 1 = pc') (hn : Nat.blt 3 (xML mi) = true) (hc : xbef (a0 :: a1 :: a2 :: z :: r) 3 = false) (kk : xW E d mi pc' (a0 :: a1 :: a2 :: some (.int x) :: r) st σ k q Q) : xW E d mi pc (a0 :: a1 :: a2 :: z :: r) (.int x :: st) σ k q Q := ws_gistore_n pc' hf hp hn hc kk

theorem ws_lload_3 {E : xEx} {d mi pc : Nat} {st : List Value} {σ : xMem} {k q : Nat} {Q : Option Value → xMem → Prop} {a0 a1 a2 : Option Value} {r : xLv} {x : Int64} (pc' : Nat) (hf : xft mi pc = some (.lload_n 3, 1)) (hp : pc + 1 = pc') (kk : xW E d mi pc' (a0 :: a1 :: a2 :: some (.long x) :: r) (.long x :: st) σ k q Q) : xW E d mi pc (a0 :: a1 :: a2 :: some (.long x) :: r) st σ k q Q := ws_glload_n pc' hf hp rfl kk

theorem ws_lstore_3 {E : xEx} {d mi pc : Nat} {st : List Value} {σ : xMem} {k q : Nat} {Q : Option Value → xMem → Prop} {a0 a1 a2 : Option Value} {r : xLv} {z z2 : Option Value} {x : Int64} (pc' : Nat) (hf : xft mi pc = some (.lstore_n 3, 1)) (hp : pc + 1 = pc') (hn : Nat.blt 4 (xML mi) = true) (hc : xbef (a0 :: a1 :: a2 :: z :: z2 :: r) 3 = false) (kk : xW E d mi pc' (a0 :: a1 :: a2 :: some (.long x) :: none :: r) st σ k q Q) : xW E d mi pc (a0 :: a1 :: a2 :: z :: z2 :: r) (.long x :: st) σ k q Q := ws_glstore_n pc' hf hp hn hc kk

theorem ws_aload_3 {E : xEx} {d mi pc : Nat} {st : List Value} {σ : xMem} {k q : Nat} {Q : Option Value → xMem → Prop} {a0 a1 a2 : Option Value} {r : xLv} {x : Nat} (pc' : Nat) (hf : xft mi pc = some (.aload_n 3, 1)) (hp : pc + 1 = pc') (kk : xW E d mi pc' (a0 :: a1 :: a2 :: some (.ref x) :: r) (.ref x :: st) σ k q Q) : xW E d mi pc (a0 :: a1 :: a2 :: some (.ref x) :: r) st σ k q Q := ws_gaload_n pc' hf hp rfl kk

theorem ws_astore_3 {E : xEx} {d mi pc : Nat} {st : List Value} {σ : xMem} {k q : Nat} {Q : Option Value → xMem → Prop} {a0 a1 a2 : Option Value} {r : xLv} {z : Option Value} {x : Nat} (pc' : Nat) (hf : xft mi pc = some (.astore_n 3, 1)) (hp : pc + 1 = pc') (hn : Nat.blt 3 (xML mi) = true) (hc : xbef (a0 :: a1 :: a2 :: z :: r) 3 = false) (kk : xW E d mi pc' (a0 :: a1 :: a2 :: some (.ref x) :: r) st σ k q Q) : xW E d mi pc (a0 :: a1 :: a2 :: z :: r) (.ref x :: st) σ k q Q := ws_gastore_n pc' hf hp hn hc kk

theorem ws_iinc_3 {E : xEx} {d mi pc : Nat} {st : List Value} {σ : xMem} {k q : Nat} {Q : Option Value → xMem → Prop} {a0 a1 a2 : Option Value} {r : xLv} {z : Int} {x v : Int32} (pc' : Nat) (hf : xft mi pc = some (.iinc 3 z, 3)) (hp : pc + 3 = pc') (hv : x + Int32.ofInt z = v) (hn : Nat.blt 3 (xML mi) = true) (hc : xbef (a0 :: a1 :: a2 :: some (.int x) :: r) 3 = false) (kk : xW E d mi pc' (a0 :: a1 :: a2 :: some (.int v) :: r) st σ k q Q) : xW E d mi pc (a0 :: a1 :: a2 :: some (.int x) :: r) st σ k q Q := ws_giinc pc' hf hp rfl hv hn hc kk

theorem ws_iload_4 {E : xEx} {d mi pc : Nat} {st : List Value} {σ : xMem} {k q : Nat} {Q : Option Value → xMem → Prop} {a0 a1 a2 a3 : Option Value} {r : xLv} {x : Int32} (pc' : Nat) (hf : xft mi pc = some (.iload 4, 2)) (hp : pc + 2 = pc') (kk : xW E d mi pc' (a0 :: a1 :: a2 :: a3 :: some (.int x) :: r) (.int x :: st) σ k q Q) : xW E d mi pc (a0 :: a1 :: a2 :: a3 :: some (.int x) :: r) st σ k q Q := ws_giload pc' hf hp rfl kk

theorem ws_istore_4 {E : xEx} {d mi pc : Nat} {st : List Value} {σ : xMem} {k q : Nat} {Q : Option Value → xMem → Prop} {a0 a1 a2 a3 : Option Value} {r : xLv} {z : Option Value} {x : Int32} (pc' : Nat) (hf : xft mi pc = some (.istore 4, 2)) (hp : pc + 2 = pc') (hn : Nat.blt 4 (xML mi) = true) (hc : xbef (a0 :: a1 :: a2 :: a3 :: z :: r) 4 = false) (kk : xW E d mi pc' (a0 :: a1 :: a2 :: a3 :: some (.int x) :: r) st σ k q Q) : xW E d mi pc (a0 :: a1 :: a2 :: a3 :: z :: r) (.int x :: st) σ k q Q := ws_gistore pc' hf hp hn hc kk

theorem ws_lload_4 {E : xEx} {d mi pc : Nat} {st : List Value} {σ : xMem} {k q : Nat} {Q : Option Value → xMem → Prop} {a0 a1 a2 a3 : Option Value} {r : xLv} {x : Int64} (pc' : Nat) (hf : xft mi pc = some (.lload 4, 2)) (hp : pc + 2 = pc') (kk : xW E d mi pc' (a0 :: a1 :: a2 :: a3 :: some (.long x) :: r) (.long x :: st) σ k q Q) : xW E d mi pc (a0 :: a1 :: a2 :: a3 :: some (.long x) :: r) st σ k q Q := ws_glload pc' hf hp rfl kk

theorem ws_lstore_4 {E : xEx} {d mi pc : Nat} {st : List Value} {σ : xMem} {k q : Nat} {Q : Option Value → xMem → Prop} {a0 a1 a2 a3 : Option Value} {r : xLv} {z z2 : Option Value} {x : Int64} (pc' : Nat) (hf : xft mi pc = some (.lstore 4, 2)) (hp : pc + 2 = pc') (hn : Nat.blt 5 (xML mi) = true) (hc : xbef (a0 :: a1 :: a2 :: a3 :: z :: z2 :: r) 4 = false) (kk : xW E d mi pc' (a0 :: a1 :: a2 :: a3 :: some (.long x) :: none :: r) st σ k q Q) : xW E d mi pc (a0 :: a1 :: a2 :: a3 :: z :: z2 :: r) (.long x :: st) σ k q Q := ws_glstore pc' hf hp hn hc kk

theorem ws_aload_4 {E : xEx} {d mi pc : Nat} {st : List Value} {σ : xMem} {k q : Nat} {Q : Option Value → xMem → Prop} {a0 a1 a2 a3 : Option Value} {r : xLv} {x : Nat} (pc' : Nat) (hf : xft mi pc = some (.aload 4, 2)) (hp : pc + 2 = pc') (kk : xW E d mi pc' (a0 :: a1 :: a2 :: a3 :: some (.ref x) :: r) (.ref x :: st) σ k q Q) : xW E d mi pc (a0 :: a1 :: a2 :: a3 :: some (.ref x) :: r) st σ k q Q := ws_gaload pc' hf hp rfl kk

theorem ws_astore_4 {E : xEx} {d mi pc : Nat} {st : List Value} {σ : xMem} {k q : Nat} {Q : Option Value → xMem → Prop} {a0 a1 a2 a3 : Option Value} {r : xLv} {z : Option Value} {x : Nat} (pc' : Nat) (hf : xft mi pc = some (.astore 4, 2)) (hp : pc + 2 = pc') (hn : Nat.blt 4 (xML mi) = true) (hc : xbef (a0 :: a1 :: a2 :: a3 :: z :: r) 4 = false) (kk : xW E d mi pc' (a0 :: a1 :: a2 :: a3 :: some (.ref x) :: r) st σ k q Q) : xW E d mi pc (a0 :: a1 :: a2 :: a3 :: z :: r) (.ref x :: st) σ k q Q := ws_gastore pc' hf hp hn hc kk

theorem ws_iinc_4 {E : xEx} {d mi pc : Nat} {st : List Value} {σ : xMem} {k q : Nat} {Q : Option Value → xMem → Prop} {a0 a1 a2 a3 : Option Value} {r : xLv} {z : Int} {x v : Int32} (pc' : Nat) (hf : xft mi pc = some (.iinc 4 z, 3)) (hp : pc + 3 = pc') (hv : x + Int32.ofInt z = v) (hn : Nat.blt 4 (xML mi) = true) (hc : xbef (a0 :: a1 :: a2 :: a3 :: some (.int x) :: r) 4 = false) (kk : xW E d mi pc' (a0 :: a1 :: a2 :: a3 :: some (.int v) :: r) st σ k q Q) : xW E d mi pc (a0 :: a1 :: a2 :: a3 :: some (.int x) :: r) st σ k q Q := ws_giinc pc' hf hp rfl hv hn hc kk

theorem ws_iload_5 {E : xEx} {d mi pc : Nat} {st : List Value} {σ : xMem} {k q : Nat} {Q : Option Value → xMem → Prop} {a0 a1 a2 a3 a4 : Option Value} {r : xLv} {x : Int32} (pc' : Nat) (hf : xft mi pc = some (.iload 5, 2)) (hp : pc + 2 = pc') (kk : xW E d mi pc' (a0 :: a1 :: a2 :: a3 :: a4 :: some (.int x) :: r) (.int x :: st) σ k q Q) : xW E d mi pc (a0 :: a1 :: a2 :: a3 :: a4 :: some (.int x) :: r) st σ k q Q := ws_giload pc' hf hp rfl kk

theorem ws_istore_5 {E : xEx} {d mi pc : Nat} {st : List Value} {σ : xMem} {k q : Nat} {Q : Option Value → xMem → Prop} {a0 a1 a2 a3 a4 : Option Value} {r : xLv} {z : Option Value} {x : Int32} (pc' : Nat) (hf : xft mi pc = some (.istore 5, 2)) (hp : pc + 2 = pc') (hn : Nat.blt 5 (xML mi) = true) (hc : xbef (a0 :: a1 :: a2 :: a3 :: a4 :: z :: r) 5 = false) (kk : xW E d mi pc' (a0 :: a1 :: a2 :: a3 :: a4 :: some (.int x) :: r) st σ k q Q) : xW E d mi pc (a0 :: a1 :: a2 :: a3 :: a4 :: z :: r) (.int x :: st) σ k q Q := ws_gistore pc' hf hp hn hc kk

theorem ws_lload_5 {E : xEx} {d mi pc : Nat} {st : List Value} {σ : xMem} {k q : Nat} {Q : Option Value → xMem → Prop} {a0 a1 a2 a3 a4 : Option Value} {r : xLv} {x : Int64} (pc' : Nat) (hf : xft mi pc = some (.lload 5, 2)) (hp : pc + 2 = pc') (kk : xW E d mi pc' (a0 :: a1 :: a2 :: a3 :: a4 :: some (.long x) :: r) (.long x :: st) σ k q Q) : xW E d mi pc (a0 :: a1 :: a2 :: a3 :: a4 :: some (.long x) :: r) st σ k q Q := ws_glload pc' hf hp rfl kk

theorem ws_lstore_5 {E : xEx} {d mi pc : Nat} {st : List Value} {σ : xMem} {k q : Nat} {Q : Option Value → xMem → Prop} {a0 a1 a2 a3 a4 : Option Value} {r : xLv} {z z2 : Option Value} {x : Int64} (pc' : Nat) (hf : xft mi pc = some (.lstore 5, 2)) (hp : pc + 2 = pc') (hn : Nat.blt 6 (xML mi) = true) (hc : xbef (a0 :: a1 :: a2 :: a3 :: a4 :: z :: z2 :: r) 5 = false) (kk : xW E d mi pc' (a0 :: a1 :: a2 :: a3 :: a4 :: some (.long x) :: none :: r) st σ k q Q) : xW E d mi pc (a0 :: a1 :: a2 :: a3 :: a4 :: z :: z2 :: r) (.long x :: st) σ k q Q := ws_glstore pc' hf hp hn hc kk

theorem ws_aload_5 {E : xEx} {d mi pc : Nat} {st : List Value} {σ : xMem} {k q : Nat} {Q : Option Value → xMem → Prop} {a0 a1 a2 a3 a4 : Option Value} {r : xLv} {x : Nat} (pc' : Nat) (hf : xft mi pc = some (.aload 5, 2)) (hp : pc + 2 = pc') (kk : xW E d mi pc' (a0 :: a1 :: a2 :: a3 :: a4 :: some (.ref x) :: r) (.ref x :: st) σ k q Q) : xW E d mi pc (a0 :: a1 :: a2 :: a3 :: a4 :: some (.ref x) :: r) st σ k q Q := ws_gaload pc' hf hp rfl kk

theorem ws_astore_5 {E : xEx} {d mi pc : Nat} {st : List Value} {σ : xMem} {k q : Nat} {Q : Option Value → xMem → Prop} {a0 a1 a2 a3 a4 : Option Value} {r : xLv} {z : Option Value} {x : Nat} (pc' : Nat) (hf : xft mi pc = some (.astore 5, 2)) (hp : pc + 2 = pc') (hn : Nat.blt 5 (xML mi) = true) (hc : xbef (a0 :: a1 :: a2 :: a3 :: a4 :: z :: r) 5 = false) (kk : xW E d mi pc' (a0 :: a1 :: a2 :: a3 :: a4 :: some (.ref x) :: r) st σ k q Q) : xW E d mi pc (a0 :: a1 :: a2 :: a3 :: a4 :: z :: r) (.ref x :: st) σ k q Q := ws_gastore pc' hf hp hn hc kk

theorem ws_iinc_5 {E : xEx} {d mi pc : Nat} {st : List Value} {σ : xMem} {k q : Nat} {Q : Option Value → xMem → Prop} {a0 a1 a2 a3 a4 : Option Value} {r : xLv} {z : Int} {x v : Int32} (pc' : Nat) (hf : xft mi pc = some (.iinc 5 z, 3)) (hp : pc + 3 = pc') (hv : x + Int32.ofInt z = v) (hn : Nat.blt 5 (xML mi) = true) (hc : xbef (a0 :: a1 :: a2 :: a3 :: a4 :: some (.int x) :: r) 5 = false) (kk : xW E d mi pc' (a0 :: a1 :: a2 :: a3 :: a4 :: some (.int v) :: r) st σ k q Q) : xW E d mi pc (a0 :: a1 :: a2 :: a3 :: a4 :: some (.int x) :: r) st σ k q Q := ws_giinc pc' hf hp rfl hv hn hc kk

theorem ws_iload_6 {E : xEx} {d mi pc : Nat} {st : List Value} {σ : xMem} {k q : Nat} {Q : Option Value → xMem → Prop} {a0 a1 a2 a3 a4 a5 : Option Value} {r : xLv} {x : Int32} (pc' : Nat) (hf : xft mi pc = some (.iload 6, 2)) (hp : pc + 2 = pc') (kk : xW E d mi pc' (a0 :: a1 :: a2 :: a3 :: a4 :: a5 :: some (.int x) :: r) (.int x :: st) σ k q Q) : xW E d mi pc (a0 :: a1 :: a2 :: a3 :: a4 :: a5 :: some (.int x) :: r) st σ k q Q := ws_giload pc' hf hp rfl kk

theorem ws_istore_6 {E : xEx} {d mi pc : Nat} {st : List Value} {σ : xMem} {k q : Nat} {Q : Option Value → xMem → Prop} {a0 a1 a2 a3 a4 a5 : Option Value} {r : xLv} {z : Option Value} {x : Int32} (pc' : Nat) (hf : xft mi pc = some (.istore 6, 2)) (hp : pc + 2 = pc') (hn : Nat.blt 6 (xML mi) = true) (hc : xbef (a0 :: a1 :: a2 :: a3 :: a4 :: a5 :: z :: r) 6 = false) (kk : xW E d mi pc' (a0 :: a1 :: a2 :: a3 :: a4 :: a5 :: some (.int x) :: r) st σ k q Q) : xW E d mi pc (a0 :: a1 :: a2 :: a3 :: a4 :: a5 :: z :: r) (.int x :: st) σ k q Q := ws_gistore pc' hf hp hn hc kk

theorem ws_lload_6 {E : xEx} {d mi pc : Nat} {st : List Value} {σ : xMem} {k q : Nat} {Q : Option Value → xMem → Prop} {a0 a1 a2 a3 a4 a5 : Option Value} {r : xLv} {x : Int64} (pc' : Nat) (hf : xft mi pc = some (.lload 6, 2)) (hp : pc + 2 = pc') (kk : xW E d mi pc' (a0 :: a1 :: a2 :: a3 :: a4 :: a5 :: some (.long x) :: r) (.long x :: st) σ k q Q) : xW E d mi pc (a0 :: a1 :: a2 :: a3 :: a4 :: a5 :: some (.long x) :: r) st σ k q Q := ws_glload pc' hf hp rfl kk

theorem ws_lstore_6 {E : xEx} {d mi pc : Nat} {st : List Value} {σ : xMem} {k q : Nat} {Q : Option Value → xMem → Prop} {a0 a1 a2 a3 a4 a5 : Option Value} {r : xLv} {z z2 : Option Value} {x : Int64} (pc' : Nat) (hf : xft mi pc = some (.lstore 6, 2)) (hp : pc + 2 = pc') (hn : Nat.blt 7 (xML mi) = true) (hc : xbef (a0 :: a1 :: a2 :: a3 :: a4 :: a5 :: z :: z2 :: r) 6 = false) (kk : xW E d mi pc' (a0 :: a1 :: a2 :: a3 :: a4 :: a5 :: some (.long x) :: none :: r) st σ k q Q) : xW E d mi pc (a0 :: a1 :: a2 :: a3 :: a4 :: a5 :: z :: z2 :: r) (.long x :: st) σ k q Q := ws_glstore pc' hf hp hn hc kk

theorem ws_aload_6 {E : xEx} {d mi pc : Nat} {st : List Value} {σ : xMem} {k q : Nat} {Q : Option Value → xMem → Prop} {a0 a1 a2 a3 a4 a5 : Option Value} {r : xLv} {x : Nat} (pc' : Nat) (hf : xft mi pc = some (.aload 6, 2)) (hp : pc + 2 = pc') (kk : xW E d mi pc' (a0 :: a1 :: a2 :: a3 :: a4 :: a5 :: some (.ref x) :: r) (.ref x :: st) σ k q Q) : xW E d mi pc (a0 :: a1 :: a2 :: a3 :: a4 :: a5 :: some (.ref x) :: r) st σ k q Q := ws_gaload pc' hf hp rfl kk

theorem ws_astore_6 {E : xEx} {d mi pc : Nat} {st : List Value} {σ : xMem} {k q : Nat} {Q : Option Value → xMem → Prop} {a0 a1 a2 a3 a4 a5 : Option Value} {r : xLv} {z : Option Value} {x : Nat} (pc' : Nat) (hf : xft mi pc = some (.astore 6, 2)) (hp : pc + 2 = pc') (hn : Nat.blt 6 (xML mi) = true) (hc : xbef (a0 :: a1 :: a2 :: a3 :: a4 :: a5 :: z :: r) 6 = false) (kk : xW E d mi pc' (a0 :: a1 :: a2 :: a3 :: a4 :: a5 :: some (.ref x) :: r) st σ k q Q) : xW E d mi pc (a0 :: a1 :: a2 :: a3 :: a4 :: a5 :: z :: r) (.ref x :: st) σ k q Q := ws_gastore pc' hf hp hn hc kk

theorem ws_iinc_6 {E : xEx} {d mi pc : Nat} {st : List Value} {σ : xMem} {k q : Nat} {Q : Option Value → xMem → Prop} {a0 a1 a2 a3 a4 a5 : Option Value} {r : xLv} {z : Int} {x v : Int32} (pc' : Nat) (hf : xft mi pc = some (.iinc 6 z, 3)) (hp : pc + 3 = pc') (hv : x + Int32.ofInt z = v) (hn : Nat.blt 6 (xML mi) = true) (hc : xbef (a0 :: a1 :: a2 :: a3 :: a4 :: a5 :: some (.int x) :: r) 6 = false) (kk : xW E d mi pc' (a0 :: a1 :: a2 :: a3 :: a4 :: a5 :: some (.int v) :: r) st σ k q Q) : xW E d mi pc (a0 :: a1 :: a2 :: a3 :: a4 :: a5 :: some (.int x) :: r) st σ k q Q := ws_giinc pc' hf hp rfl hv hn hc kk

theorem ws_iload_7 {E : xEx} {d mi pc : Nat} {st : List Value} {σ : xMem} {k q : Nat} {Q : Option Value → xMem → Prop} {a0 a1 a2 a3 a4 a5 a6 : Option Value} {r : xLv} {x : Int32} (pc' : Nat) (hf : xft mi pc = some (.iload 7, 2)) (hp : pc + 2 = pc') (kk : xW E d mi pc' (a0 :: a1 :: a2 :: a3 :: a4 :: a5 :: a6 :: some (.int x) :: r) (.int x :: st) σ k q Q) : xW E d mi pc (a0 :: a1 :: a2 :: a3 :: a4 :: a5 :: a6 :: some (.int x) :: r) st σ k q Q := ws_giload pc' hf hp rfl kk

theorem ws_istore_7 {E : xEx} {d mi pc : Nat} {st : List Value} {σ : xMem} {k q : Nat} {Q : Option Value → xMem → Prop} {a0 a1 a2 a3 a4 a5 a6 : Option Value} {r : xLv} {z : Option Value} {x : Int32} (pc' : Nat) (hf : xft mi pc = some (.istore 7, 2)) (hp : pc + 2 = pc') (hn : Nat.blt 7 (xML mi) = true) (hc : xbef (a0 :: a1 :: a2 :: a3 :: a4 :: a5 :: a6 :: z :: r) 7 = false) (kk : xW E d mi pc' (a0 :: a1 :: a2 :: a3 :: a4 :: a5 :: a6 :: some (.int x) :: r) st σ k q Q) : xW E d mi pc (a0 :: a1 :: a2 :: a3 :: a4 :: a5 :: a6 :: z :: r) (.int x :: st) σ k q Q := ws_gistore pc' hf hp hn hc kk

theorem ws_lload_7 {E : xEx} {d mi pc : Nat} {st : List Value} {σ : xMem} {k q : Nat} {Q : Option Value → xMem → Prop} {a0 a1 a2 a3 a4 a5 a6 : Option Value} {r : xLv} {x : Int64} (pc' : Nat) (hf : xft mi pc = some (.lload 7, 2)) (hp : pc + 2 = pc') (kk : xW E d mi pc' (a0 :: a1 :: a2 :: a3 :: a4 :: a5 :: a6 :: some (.long x) :: r) (.long x :: st) σ k q Q) : xW E d mi pc (a0 :: a1 :: a2 :: a3 :: a4 :: a5 :: a6 :: some (.long x) :: r) st σ k q Q := ws_glload pc' hf hp rfl kk

theorem ws_lstore_7 {E : xEx} {d mi pc : Nat} {st : List Value} {σ : xMem} {k q : Nat} {Q : Option Value → xMem → Prop} {a0 a1 a2 a3 a4 a5 a6 : Option Value} {r : xLv} {z z2 : Option Value} {x : Int64} (pc' : Nat) (hf : xft mi pc = some (.lstore 7, 2)) (hp : pc + 2 = pc') (hn : Nat.blt 8 (xML mi) = true) (hc : xbef (a0 :: a1 :: a2 :: a3 :: a4 :: a5 :: a6 :: z :: z2 :: r) 7 = false) (kk : xW E d mi pc' (a0 :: a1 :: a2 :: a3 :: a4 :: a5 :: a6 :: some (.long x) :: none :: r) st σ k q Q) : xW E d mi pc (a0 :: a1 :: a2 :: a3 :: a4 :: a5 :: a6 :: z :: z2 :: r) (.long x :: st) σ k q Q := ws_glstore pc' hf hp hn hc kk

theorem ws_aload_7 {E : xEx} {d mi pc : Nat} {st : List Value} {σ : xMem} {k q : Nat} {Q : Option Value → xMem → Prop} {a0 a1 a2 a3 a4 a5 a6 : Option Value} {r : xLv} {x : Nat} (pc' : Nat) (hf : xft mi pc = some (.aload 7, 2)) (hp : pc + 2 = pc') (kk : xW E d mi pc' (a0 :: a1 :: a2 :: a3 :: a4 :: a5 :: a6 :: some (.ref x) :: r) (.ref x :: st) σ k q Q) : xW E d mi pc (a0 :: a1 :: a2 :: a3 :: a4 :: a5 :: a6 :: some (.ref x) :: r) st σ k q Q := ws_gaload pc' hf hp rfl kk

theorem ws_astore_7 {E : xEx} {d mi pc : Nat} {st : List Value} {σ : xMem} {k q : Nat} {Q : Option Value → xMem → Prop} {a0 a1 a2 a3 a4 a5 a6 : Option Value} {r : xLv} {z : Option Value} {x : Nat} (pc' : Nat) (hf : xft mi pc = some (.astore 7, 2)) (hp : pc + 2 = pc') (hn : Nat.blt 7 (xML mi) = true) (hc : xbef (a0 :: a1 :: a2 :: a3 :: a4 :: a5 :: a6 :: z :: r) 7 = false) (kk : xW E d mi pc' (a0 :: a1 :: a2 :: a3 :: a4 :: a5 :: a6 :: some (.ref x) :: r) st σ k q Q) : xW E d mi pc (a0 :: a1 :: a2 :: a3 :: a4 :: a5 :: a6 :: z :: r) (.ref x :: st) σ k q Q := ws_gastore pc' hf hp hn hc kk

theorem ws_iinc_7 {E : xEx} {d mi pc : Nat} {st : List Value} {σ : xMem} {k q : Nat} {Q : Option Value → xMem → Prop} {a0 a1 a2 a3 a4 a5 a6 : Option Value} {r : xLv} {z : Int} {x v : Int32} (pc' : Nat) (hf : xft mi pc = some (.iinc 7 z, 3)) (hp : pc + 3 = pc') (hv : x + Int32.ofInt z = v) (hn : Nat.blt 7 (xML mi) = true) (hc : xbef (a0 :: a1 :: a2 :: a3 :: a4 :: a5 :: a6 :: some (.int x) :: r) 7 = false) (kk : xW E d mi pc' (a0 :: a1 :: a2 :: a3 :: a4 :: a5 :: a6 :: some (.int v) :: r) st σ k q Q) : xW E d mi pc (a0 :: a1 :: a2 :: a3 :: a4 :: a5 :: a6 :: some (.int x) :: r) st σ k q Q := ws_giinc pc' hf hp rfl hv hn hc kk

theorem ws_iload_8 {E : xEx} {d mi pc : Nat} {st : List Value} {σ : xMem} {k q : Nat} {Q : Option Value → xMem → Prop} {a0 a1 a2 a3 a4 a5 a6 a7 : Option Value} {r : xLv} {x : Int32} (pc' : Nat) (hf : xft mi pc = some (.iload 8, 2)) (hp : pc + 2 = pc') (kk : xW E d mi pc' (a0 :: a1 :: a2 :: a3 :: a4 :: a5 :: a6 :: a7 :: some (.int x) :: r) (.int x :: st) σ k q Q) : xW E d mi pc (a0 :: a1 :: a2 :: a3 :: a4 :: a5 :: a6 :: a7 :: some (.int x) :: r) st σ k q Q := ws_giload pc' hf hp rfl kk

theorem ws_istore_8 {E : xEx} {d mi pc : Nat} {st : List Value} {σ : xMem} {k q : Nat} {Q : Option Value → xMem → Prop} {a0 a1 a2 a3 a4 a5 a6 a7 : Option Value} {r : xLv} {z : Option Value} {x : Int32} (pc' : Nat) (hf : xft mi pc = some (.istore 8, 2)) (hp : pc + 2 = pc') (hn : Nat.blt 8 (xML mi) = true) (hc : xbef (a0 :: a1 :: a2 :: a3 :: a4 :: a5 :: a6 :: a7 :: z :: r) 8 = false) (kk : xW E d mi pc' (a0 :: a1 :: a2 :: a3 :: a4 :: a5 :: a6 :: a7 :: some (.int x) :: r) st σ k q Q) : xW E d mi pc (a0 :: a1 :: a2 :: a3 :: a4 :: a5 :: a6 :: a7 :: z :: r) (.int x :: st) σ k q Q := ws_gistore pc' hf hp hn hc kk

theorem ws_lload_8 {E : xEx} {d mi pc : Nat} {st : List Value} {σ : xMem} {k q : Nat} {Q : Option Value → xMem → Prop} {a0 a1 a2 a3 a4 a5 a6 a7 : Option Value} {r : xLv} {x : Int64} (pc' : Nat) (hf : xft mi pc = some (.lload 8, 2)) (hp : pc + 2 = pc') (kk : xW E d mi pc' (a0 :: a1 :: a2 :: a3 :: a4 :: a5 :: a6 :: a7 :: some (.long x) :: r) (.long x :: st) σ k q Q) : xW E d mi pc (a0 :: a1 :: a2 :: a3 :: a4 :: a5 :: a6 :: a7 :: some (.long x) :: r) st σ k q Q := ws_glload pc' hf hp rfl kk

theorem ws_lstore_8 {E : xEx} {d mi pc : Nat} {st : List Value} {σ : xMem} {k q : Nat} {Q : Option Value → xMem → Prop} {a0 a1 a2 a3 a4 a5 a6 a7 : Option Value} {r : xLv} {z z2 : Option Value} {x : Int64} (pc' : Nat) (hf : xft mi pc = some (.lstore 8, 2)) (hp : pc + 2 = pc') (hn : Nat.blt 9 (xML mi) = true) (hc : xbef (a0 :: a1 :: a2 :: a3 :: a4 :: a5 :: a6 :: a7 :: z :: z2 :: r) 8 = false) (kk : xW E d mi pc' (a0 :: a1 :: a2 :: a3 :: a4 :: a5 :: a6 :: a7 :: some (.long x) :: none :: r) st σ k q Q) : xW E d mi pc (a0 :: a1 :: a2 :: a3 :: a4 :: a5 :: a6 :: a7 :: z :: z2 :: r) (.long x :: st) σ k q Q := ws_glstore pc' hf hp hn hc kk

theorem ws_aload_8 {E : xEx} {d mi pc : Nat} {st : List Value} {σ : xMem} {k q : Nat} {Q : Option Value → xMem → Prop} {a0 a1 a2 a3 a4 a5 a6 a7 : Option Value} {r : xLv} {x : Nat} (pc' : Nat) (hf : xft mi pc = some (.aload 8, 2)) (hp : pc + 2 = pc') (kk : xW E d mi pc' (a0 :: a1 :: a2 :: a3 :: a4 :: a5 :: a6 :: a7 :: some (.ref x) :: r) (.ref x :: st) σ k q Q) : xW E d mi pc (a0 :: a1 :: a2 :: a3 :: a4 :: a5 :: a6 :: a7 :: some (.ref x) :: r) st σ k q Q := ws_gaload pc' hf hp rfl kk

theorem ws_astore_8 {E : xEx} {d mi pc : Nat} {st : List Value} {σ : xMem} {k q : Nat} {Q : Option Value → xMem → Prop} {a0 a1 a2 a3 a4 a5 a6 a7 : Option Value} {r : xLv} {z : Option Value} {x : Nat} (pc' : Nat) (hf : xft mi pc = some (.astore 8, 2)) (hp : pc + 2 = pc') (hn : Nat.blt 8 (xML mi) = true) (hc : xbef (a0 :: a1 :: a2 :: a3 :: a4 :: a5 :: a6 :: a7 :: z :: r) 8 = false) (kk : xW E d mi pc' (a0 :: a1 :: a2 :: a3 :: a4 :: a5 :: a6 :: a7 :: some (.ref x) :: r) st σ k q Q) : xW E d mi pc (a0 :: a1 :: a2 :: a3 :: a4 :: a5 :: a6 :: a7 :: z :: r) (.ref x :: st) σ k q Q := ws_gastore pc' hf hp hn hc kk

theorem ws_iinc_8 {E : xEx} {d mi pc : Nat} {st : List Value} {σ : xMem} {k q : Nat} {Q : Option Value → xMem → Prop} {a0 a1 a2 a3 a4 a5 a6 a7 : Option Value} {r : xLv} {z : Int} {x v : Int32} (pc' : Nat) (hf : xft mi pc = some (.iinc 8 z, 3)) (hp : pc + 3 = pc') (hv : x + Int32.ofInt z = v) (hn : Nat.blt 8 (xML mi) = true) (hc : xbef (a0 :: a1 :: a2 :: a3 :: a4 :: a5 :: a6 :: a7 :: some (.int x) :: r) 8 = false) (kk : xW E d mi pc' (a0 :: a1 :: a2 :: a3 :: a4 :: a5 :: a6 :: a7 :: some (.int v) :: r) st σ k q Q) : xW E d mi pc (a0 :: a1 :: a2 :: a3 :: a4 :: a5 :: a6 :: a7 :: some (.int x) :: r) st σ k q Q := ws_giinc pc' hf hp rfl hv hn hc kk

theorem ws_iload_9 {E : xEx} {d mi pc : Nat} {st : List Value} {σ : xMem} {k q : Nat} {Q : Option Value → xMem → Prop} {a0 a1 a2 a3 a4 a5 a6 a7 a8 : Option Value} {r : xLv} {x : Int32} (pc' : Nat) (hf : xft mi pc = some (.iload 9, 2)) (hp : pc + 2 = pc') (kk : xW E d mi pc' (a0 :: a1 :: a2 :: a3 :: a4 :: a5 :: a6 :: a7 :: a8 :: some (.int x) :: r) (.int x :: st) σ k q Q) : xW E d mi pc (a0 :: a1 :: a2 :: a3 :: a4 :: a5 :: a6 :: a7 :: a8 :: some (.int x) :: r) st σ k q Q := ws_giload pc' hf hp rfl kk

theorem ws_istore_9 {E : xEx} {d mi pc : Nat} {st : List Value} {σ : xMem} {k q : Nat} {Q : Option Value → xMem → Prop} {a0 a1 a2 a3 a4 a5 a6 a7 a8 : Option Value} {r : xLv} {z : Option Value} {x : Int32} (pc' : Nat) (hf : xft mi pc = some (.istore 9, 2)) (hp : pc + 2 = pc') (hn : Nat.blt 9 (xML mi) = true) (hc : xbef (a0 :: a1 :: a2 :: a3 :: a4 :: a5 :: a6 :: a7 :: a8 :: z :: r) 9 = false) (kk : xW E d mi pc' (a0 :: a1 :: a2 :: a3 :: a4 :: a5 :: a6 :: a7 :: a8 :: some (.int x) :: r) st σ k q Q) : xW E d mi pc (a0 :: a1 :: a2 :: a3 :: a4 :: a5 :: a6 :: a7 :: a8 :: z :: r) (.int x :: st) σ k q Q := ws_gistore pc' hf hp hn hc kk

theorem ws_lload_9 {E : xEx} {d mi pc : Nat} {st : List Value} {σ : xMem} {k q : Nat} {Q : Option Value → xMem → Prop} {a0 a1 a2 a3 a4 a5 a6 a7 a8 : Option Value} {r : xLv} {x : Int64} (pc' : Nat) (hf : xft mi pc = some (.lload 9, 2)) (hp : pc + 2 = pc') (kk : xW E d mi pc' (a0 :: a1 :: a2 :: a3 :: a4 :: a5 :: a6 :: a7 :: a8 :: some (.long x) :: r) (.long x :: st) σ k q Q) : xW E d mi pc (a0 :: a1 :: a2 :: a3 :: a4 :: a5 :: a6 :: a7 :: a8 :: some (.long x) :: r) st σ k q Q := ws_glload pc' hf hp rfl kk

theorem ws_lstore_9 {E : xEx} {d mi pc : Nat} {st : List Value} {σ : xMem} {k q : Nat} {Q : Option Value → xMem → Prop} {a0 a1 a2 a3 a4 a5 a6 a7 a8 : Option Value} {r : xLv} {z z2 : Option Value} {x : Int64} (pc' : Nat) (hf : xft mi pc = some (.lstore 9, 2)) (hp : pc + 2 = pc') (hn : Nat.blt 10 (xML mi) = true) (hc : xbef (a0 :: a1 :: a2 :: a3 :: a4 :: a5 :: a6 :: a7 :: a8 :: z :: z2 :: r) 9 = false) (kk : xW E d mi pc' (a0 :: a1 :: a2 :: a3 :: a4 :: a5 :: a6 :: a7 :: a8 :: some (.long x) :: none :: r) st σ k q Q) : xW E d mi pc (a0 :: a1 :: a2 :: a3 :: a4 :: a5 :: a6 :: a7 :: a8 :: z :: z2 :: r) (.long x :: st) σ k q Q := ws_glstore pc' hf hp hn hc kk

theorem ws_aload_9 {E : xEx} {d mi pc : Nat} {st : List Value} {σ : xMem} {k q : Nat} {Q : Option Value → xMem → Prop} {a0 a1 a2 a3 a4 a5 a6 a7 a8 : Option Value} {r : xLv} {x : Nat} (pc' : Nat) (hf : xft mi pc = some (.aload 9, 2)) (hp : pc + 2 = pc') (kk : xW E d mi pc' (a0 :: a1 :: a2 :: a3 :: a4 :: a5 :: a6 :: a7 :: a8 :: some (.ref x) :: r) (.ref x :: st) σ k q Q) : xW E d mi pc (a0 :: a1 :: a2 :: a3 :: a4 :: a5 :: a6 :: a7 :: a8 :: some (.ref x) :: r) st σ k q Q := ws_gaload pc' hf hp rfl kk

theorem ws_astore_9 {E : xEx} {d mi pc : Nat} {st : List Value} {σ : xMem} {k q : Nat} {Q : Option Value → xMem → Prop} {a0 a1 a2 a3 a4 a5 a6 a7 a8 : Option Value} {r : xLv} {z : Option Value} {x : Nat} (pc' : Nat) (hf : xft mi pc = some (.astore 9, 2)) (hp : pc + 2 = pc') (hn : Nat.blt 9 (xML mi) = true) (hc : xbef (a0 :: a1 :: a2 :: a3 :: a4 :: a5 :: a6 :: a7 :: a8 :: z :: r) 9 = false) (kk : xW E d mi pc' (a0 :: a1 :: a2 :: a3 :: a4 :: a5 :: a6 :: a7 :: a8 :: some (.ref x) :: r) st σ k q Q) : xW E d mi pc (a0 :: a1 :: a2 :: a3 :: a4 :: a5 :: a6 :: a7 :: a8 :: z :: r) (.ref x :: st) σ k q Q := ws_gastore pc' hf hp hn hc kk

theorem ws_iinc_9 {E : xEx} {d mi pc : Nat} {st : List Value} {σ : xMem} {k q : Nat} {Q : Option Value → xMem → Prop} {a0 a1 a2 a3 a4 a5 a6 a7 a8 : Option Value} {r : xLv} {z : Int} {x v : Int32} (pc' : Nat) (hf : xft mi pc = some (.iinc 9 z, 3)) (hp : pc + 3 = pc') (hv : x + Int32.ofInt z = v) (hn : Nat.blt 9 (xML mi) = true) (hc : xbef (a0 :: a1 :: a2 :: a3 :: a4 :: a5 :: a6 :: a7 :: a8 :: some (.int x) :: r) 9 = false) (kk : xW E d mi pc' (a0 :: a1 :: a2 :: a3 :: a4 :: a5 :: a6 :: a7 :: a8 :: some (.int v) :: r) st σ k q Q) : xW E d mi pc (a0 :: a1 :: a2 :: a3 :: a4 :: a5 :: a6 :: a7 :: a8 :: some (.int x) :: r) st σ k q Q := ws_giinc pc' hf hp rfl hv hn hc kk

theorem ws_iload_10 {E : xEx} {d mi pc : Nat} {st : List Value} {σ : xMem} {k q : Nat} {Q : Option Value → xMem → Prop} {a0 a1 a2 a3 a4 a5 a6 a7 a8 a9 : Option Value} {r : xLv} {x : Int32} (pc' : Nat) (hf : xft mi pc = some (.iload 10, 2)) (hp : pc + 2 = pc') (kk : xW E d mi pc' (a0 :: a1 :: a2 :: a3 :: a4 :: a5 :: a6 :: a7 :: a8 :: a9 :: some (.int x) :: r) (.int x :: st) σ k q Q) : xW E d mi pc (a0 :: a1 :: a2 :: a3 :: a4 :: a5 :: a6 :: a7 :: a8 :: a9 :: some (.int x) :: r) st σ k q Q := ws_giload pc' hf hp rfl kk

theorem ws_istore_10 {E : xEx} {d mi pc : Nat} {st : List Value} {σ : xMem} {k q : Nat} {Q : Option Value → xMem → Prop} {a0 a1 a2 a3 a4 a5 a6 a7 a8 a9 : Option Value} {r : xLv} {z : Option Value} {x : Int32} (pc' : Nat) (hf : xft mi pc = some (.istore 10, 2)) (hp : pc + 2 = pc') (hn : Nat.blt 10 (xML mi) = true) (hc : xbef (a0 :: a1 :: a2 :: a3 :: a4 :: a5 :: a6 :: a7 :: a8 :: a9 :: z :: r) 10 = false) (kk : xW E d mi pc' (a0 :: a1 :: a2 :: a3 :: a4 :: a5 :: a6 :: a7 :: a8 :: a9 :: some (.int x) :: r) st σ k q Q) : xW E d mi pc (a0 :: a1 :: a2 :: a3 :: a4 :: a5 :: a6 :: a7 :: a8 :: a9 :: z :: r) (.int x :: st) σ k q Q := ws_gistore pc' hf hp hn hc kk

theorem ws_lload_10 {E : xEx} {d mi pc : Nat} {st : List Value} {σ : xMem} {k q : Nat} {Q : Option Value → xMem → Prop} {a0 a1 a2 a3 a4 a5 a6 a7 a8 a9 : Option Value} {r : xLv} {x : Int64} (pc' : Nat) (hf : xft mi pc = some (.lload 10, 2)) (hp : pc + 2 = pc') (kk : xW E d mi pc' (a0 :: a1 :: a2 :: a3 :: a4 :: a5 :: a6 :: a7 :: a8 :: a9 :: some (.long x) :: r) (.long x :: st) σ k q Q) : xW E d mi pc (a0 :: a1 :: a2 :: a3 :: a4 :: a5 :: a6 :: a7 :: a8 :: a9 :: some (.long x) :: r) st σ k q Q := ws_glload pc' hf hp rfl kk

theorem ws_lstore_10 {E : xEx} {d mi pc : Nat} {st : List Value} {σ : xMem} {k q : Nat} {Q : Option Value → xMem → Prop} {a0 a1 a2 a3 a4 a5 a6 a7 a8 a9 : Option Value} {r : xLv} {z z2 : Option Value} {x : Int64} (pc' : Nat) (hf : xft mi pc = some (.lstore 10, 2)) (hp : pc + 2 = pc') (hn : Nat.blt 11 (xML mi) = true) (hc : xbef (a0 :: a1 :: a2 :: a3 :: a4 :: a5 :: a6 :: a7 :: a8 :: a9 :: z :: z2 :: r) 10 = false) (kk : xW E d mi pc' (a0 :: a1 :: a2 :: a3 :: a4 :: a5 :: a6 :: a7 :: a8 :: a9 :: some (.long x) :: none :: r) st σ k q Q) : xW E d mi pc (a0 :: a1 :: a2 :: a3 :: a4 :: a5 :: a6 :: a7 :: a8 :: a9 :: z :: z2 :: r) (.long x :: st) σ k q Q := ws_glstore pc' hf hp hn hc kk

theorem ws_aload_10 {E : xEx} {d mi pc : Nat} {st : List Value} {σ : xMem} {k q : Nat} {Q : Option Value → xMem → Prop} {a0 a1 a2 a3 a4 a5 a6 a7 a8 a9 : Option Value} {r : xLv} {x : Nat} (pc' : Nat) (hf : xft mi pc = some (.aload 10, 2)) (hp : pc + 2 = pc') (kk : xW E d mi pc' (a0 :: a1 :: a2 :: a3 :: a4 :: a5 :: a6 :: a7 :: a8 :: a9 :: some (.ref x) :: r) (.ref x :: st) σ k q Q) : xW E d mi pc (a0 :: a1 :: a2 :: a3 :: a4 :: a5 :: a6 :: a7 :: a8 :: a9 :: some (.ref x) :: r) st σ k q Q := ws_gaload pc' hf hp rfl kk

theorem ws_astore_10 {E : xEx} {d mi pc : Nat} {st : List Value} {σ : xMem} {k q : Nat} {Q : Option Value → xMem → Prop} {a0 a1 a2 a3 a4 a5 a6 a7 a8 a9 : Option Value} {r : xLv} {z : Option Value} {x : Nat} (pc' : Nat) (hf : xft mi pc = some (.astore 10, 2)) (hp : pc + 2 = pc') (hn : Nat.blt 10 (xML mi) = true) (hc : xbef (a0 :: a1 :: a2 :: a3 :: a4 :: a5 :: a6 :: a7 :: a8 :: a9 :: z :: r) 10 = false) (kk : xW E d mi pc' (a0 :: a1 :: a2 :: a3 :: a4 :: a5 :: a6 :: a7 :: a8 :: a9 :: some (.ref x) :: r) st σ k q Q) : xW E d mi pc (a0 :: a1 :: a2 :: a3 :: a4 :: a5 :: a6 :: a7 :: a8 :: a9 :: z :: r) (.ref x :: st) σ k q Q := ws_gastore pc' hf hp hn hc kk

theorem ws_iinc_10 {E : xEx} {d mi pc : Nat} {st : List Value} {σ : xMem} {k q : Nat} {Q : Option Value → xMem → Prop} {a0 a1 a2 a3 a4 a5 a6 a7 a8 a9 : Option Value} {r : xLv} {z : Int} {x v : Int32} (pc' : Nat) (hf : xft mi pc = some (.iinc 10 z, 3)) (hp : pc + 3 = pc') (hv : x + Int32.ofInt z = v) (hn : Nat.blt 10 (xML mi) = true) (hc : xbef (a0 :: a1 :: a2 :: a3 :: a4 :: a5 :: a6 :: a7 :: a8 :: a9 :: some (.int x) :: r) 10 = false) (kk : xW E d mi pc' (a0 :: a1 :: a2 :: a3 :: a4 :: a5 :: a6 :: a7 :: a8 :: a9 :: some (.int v) :: r) st σ k q Q) : xW E d mi pc (a0 :: a1 :: a2 :: a3 :: a4 :: a5 :: a6 :: a7 :: a8 :: a9 :: some (.int x) :: r) st σ k q Q := ws_giinc pc' hf hp rfl hv hn hc kk

theorem ws_iload_11 {E : xEx} {d mi pc : Nat} {st : List Value} {σ : xMem} {k q : Nat} {Q : Option Value → xMem → Prop} {a0 a1 a2 a3 a4 a5 a6 a7 a8 a9 a10 : Option Value} {r : xLv} {x : Int32} (pc' : Nat) (hf : xft mi pc = some (.iload 11, 2)) (hp : pc + 2 = pc') (kk : xW E d mi pc' (a0 :: a1 :: a2 :: a3 :: a4 :: a5 :: a6 :: a7 :: a8 :: a9 :: a10 :: some (.int x) :: r) (.int x :: st) σ k q Q) : xW E d mi pc (a0 :: a1 :: a2 :: a3 :: a4 :: a5 :: a6 :: a7 :: a8 :: a9 :: a10 :: some (.int x) :: r) st σ k q Q := ws_giload pc' hf hp rfl kk

theorem ws_istore_11 {E : xEx} {d mi pc : Nat} {st : List Value} {σ : xMem} {k q : Nat} {Q : Option Value → xMem → Prop} {a0 a1 a2 a3 a4 a5 a6 a7 a8 a9 a10 : Option Value} {r : xLv} {z : Option Value} {x : Int32} (pc' : Nat) (hf : xft mi pc = some (.istore 11, 2)) (hp : pc + 2 = pc') (hn : Nat.blt 11 (xML mi) = true) (hc : xbef (a0 :: a1 :: a2 :: a3 :: a4 :: a5 :: a6 :: a7 :: a8 :: a9 :: a10 :: z :: r) 11 = false) (kk : xW E d mi pc' (a0 :: a1 :: a2 :: a3 :: a4 :: a5 :: a6 :: a7 :: a8 :: a9 :: a10 :: some (.int x) :: r) st σ k q Q) : xW E d mi pc (a0 :: a1 :: a2 :: a3 :: a4 :: a5 :: a6 :: a7 :: a8 :: a9 :: a10 :: z :: r) (.int x :: st) σ k q Q := ws_gistore pc' hf hp hn hc kk

theorem ws_lload_11 {E : xEx} {d mi pc : Nat} {st : List Value} {σ : xMem} {k q : Nat} {Q : Option Value → xMem → Prop} {a0 a1 a2 a3 a4 a5 a6 a7 a8 a9 a10 : Option Value} {r : xLv} {x : Int64} (pc' : Nat) (hf : xft mi pc = some (.lload 11, 2)) (hp : pc + 2 = pc') (kk : xW E d mi pc' (a0 :: a1 :: a2 :: a3 :: a4 :: a5 :: a6 :: a7 :: a8 :: a9 :: a10 :: some (.long x) :: r) (.long x :: st) σ k q Q) : xW E d mi pc (a0 :: a1 :: a2 :: a3 :: a4 :: a5 :: a6 :: a7 :: a8 :: a9 :: a10 :: some (.long x) :: r) st σ k q Q := ws_glload pc' hf hp rfl kk

theorem ws_lstore_11 {E : xEx} {d mi pc : Nat} {st : List Value} {σ : xMem} {k q : Nat} {Q : Option Value → xMem → Prop} {a0 a1 a2 a3 a4 a5 a6 a7 a8 a9 a10 : Option Value} {r : xLv} {z z2 : Option Value} {x : Int64} (pc' : Nat) (hf : xft mi pc = some (.lstore 11, 2)) (hp : pc + 2 = pc') (hn : Nat.blt 12 (xML mi) = true) (hc : xbef (a0 :: a1 :: a2 :: a3 :: a4 :: a5 :: a6 :: a7 :: a8 :: a9 :: a10 :: z :: z2 :: r) 11 = false) (kk : xW E d mi pc' (a0 :: a1 :: a2 :: a3 :: a4 :: a5 :: a6 :: a7 :: a8 :: a9 :: a10 :: some (.long x) :: none :: r) st σ k q Q) : xW E d mi pc (a0 :: a1 :: a2 :: a3 :: a4 :: a5 :: a6 :: a7 :: a8 :: a9 :: a10 :: z :: z2 :: r) (.long x :: st) σ k q Q := ws_glstore pc' hf hp hn hc kk

theorem ws_aload_11 {E : xEx} {d mi pc : Nat} {st : List Value} {σ : xMem} {k q : Nat} {Q : Option Value → xMem → Prop} {a0 a1 a2 a3 a4 a5 a6 a7 a8 a9 a10 : Option Value} {r : xLv} {x : Nat} (pc' : Nat) (hf : xft mi pc = some (.aload 11, 2)) (hp : pc + 2 = pc') (kk : xW E d mi pc' (a0 :: a1 :: a2 :: a3 :: a4 :: a5 :: a6 :: a7 :: a8 :: a9 :: a10 :: some (.ref x) :: r) (.ref x :: st) σ k q Q) : xW E d mi pc (a0 :: a1 :: a2 :: a3 :: a4 :: a5 :: a6 :: a7 :: a8 :: a9 :: a10 :: some (.ref x) :: r) st σ k q Q := ws_gaload pc' hf hp rfl kk

theorem ws_astore_11 {E : xEx} {d mi pc : Nat} {st : List Value} {σ : xMem} {k q : Nat} {Q : Option Value → xMem → Prop} {a0 a1 a2 a3 a4 a5 a6 a7 a8 a9 a10 : Option Value} {r : xLv} {z : Option Value} {x : Nat} (pc' : Nat) (hf : xft mi pc = some (.astore 11, 2)) (hp : pc + 2 = pc') (hn : Nat.blt 11 (xML mi) = true) (hc : xbef (a0 :: a1 :: a2 :: a3 :: a4 :: a5 :: a6 :: a7 :: a8 :: a9 :: a10 :: z :: r) 11 = false) (kk : xW E d mi pc' (a0 :: a1 :: a2 :: a3 :: a4 :: a5 :: a6 :: a7 :: a8 :: a9 :: a10 :: some (.ref x) :: r) st σ k q Q) : xW E d mi pc (a0 :: a1 :: a2 :: a3 :: a4 :: a5 :: a6 :: a7 :: a8 :: a9 :: a10 :: z :: r) (.ref x :: st) σ k q Q := ws_gastore pc' hf hp hn hc kk

theorem ws_iinc_11 {E : xEx} {d mi pc : Nat} {st : List Value} {σ : xMem} {k q : Nat} {Q : Option Value → xMem → Prop} {a0 a1 a2 a3 a4 a5 a6 a7 a8 a9 a10 : Option Value} {r : xLv} {z : Int} {x v : Int32} (pc' : Nat) (hf : xft mi pc = some (.iinc 11 z, 3)) (hp : pc + 3 = pc') (hv : x + Int32.ofInt z = v) (hn : Nat.blt 11 (xML mi) = true) (hc : xbef (a0 :: a1 :: a2 :: a3 :: a4 :: a5 :: a6 :: a7 :: a8 :: a9 :: a10 :: some (.int x) :: r) 11 = false) (kk : xW E d mi pc' (a0 :: a1 :: a2 :: a3 :: a4 :: a5 :: a6 :: a7 :: a8 :: a9 :: a10 :: some (.int v) :: r) st σ k q Q) : xW E d mi pc (a0 :: a1 :: a2 :: a3 :: a4 :: a5 :: a6 :: a7 :: a8 :: a9 :: a10 :: some (.int x) :: r) st σ k q Q := ws_giinc pc' hf hp rfl hv hn hc kk

theorem ws_iload_12 {E : xEx} {d mi pc : Nat} {st : List Value} {σ : xMem} {k q : Nat} {Q : Option Value → xMem → Prop} {a0 a1 a2 a3 a4 a5 a6 a7 a8 a9 a10 a11 : Option Value} {r : xLv} {x : Int32} (pc' : Nat) (hf : xft mi pc = some (.iload 12, 2)) (hp : pc + 2 = pc') (kk : xW E d mi pc' (a0 :: a1 :: a2 :: a3 :: a4 :: a5 :: a6 :: a7 :: a8 :: a9 :: a10 :: a11 :: some (.int x) :: r) (.int x :: st) σ k q Q) : xW E d mi pc (a0 :: a1 :: a2 :: a3 :: a4 :: a5 :: a6 :: a7 :: a8 :: a9 :: a10 :: a11 :: some (.int x) :: r) st σ k q Q := ws_giload pc' hf hp rfl kk

theorem ws_istore_12 {E : xEx} {d mi pc : Nat} {st : List Value} {σ : xMem} {k q : Nat} {Q : Option Value → xMem → Prop} {a0 a1 a2 a3 a4 a5 a6 a7 a8 a9 a10 a11 : Option Value} {r : xLv} {z : Option Value} {x : Int32} (pc' : Nat) (hf : xft mi pc = some (.istore 12, 2)) (hp : pc + 2 = pc') (hn : Nat.blt 12 (xML mi) = true) (hc : xbef (a0 :: a1 :: a2 :: a3 :: a4 :: a5 :: a6 :: a7 :: a8 :: a9 :: a10 :: a11 :: z :: r) 12 = false) (kk : xW E d mi pc' (a0 :: a1 :: a2 :: a3 :: a4 :: a5 :: a6 :: a7 :: a8 :: a9 :: a10 :: a11 :: some (.int x) :: r) st σ k q Q) : xW E d mi pc (a0 :: a1 :: a2 :: a3 :: a4 :: a5 :: a6 :: a7 :: a8 :: a9 :: a10 :: a11 :: z :: r) (.int x :: st) σ k q Q := ws_gistore pc' hf hp hn hc kk

theorem ws_lload_12 {E : xEx} {d mi pc : Nat} {st : List Value} {σ : xMem} {k q : Nat} {Q : Option Value → xMem → Prop} {a0 a1 a2 a3 a4 a5 a6 a7 a8 a9 a10 a11 : Option Value} {r : xLv} {x : Int64} (pc' : Nat) (hf : xft mi pc = some (.lload 12, 2)) (hp : pc + 2 = pc') (kk : xW E d mi pc' (a0 :: a1 :: a2 :: a3 :: a4 :: a5 :: a6 :: a7 :: a8 :: a9 :: a10 :: a11 :: some (.long x) :: r) (.long x :: st) σ k q Q) : xW E d mi pc (a0 :: a1 :: a2 :: a3 :: a4 :: a5 :: a6 :: a7 :: a8 :: a9 :: a10 :: a11 :: some (.long x) :: r) st σ k q Q := ws_glload pc' hf hp rfl kk

theorem ws_lstore_12 {E : xEx} {d mi pc : Nat} {st : List Value} {σ : xMem} {k q : Nat} {Q : Option Value → xMem → Prop} {a0 a1 a2 a3 a4 a5 a6 a7 a8 a9 a10 a11 : Option Value} {r : xLv} {z z2 : Option Value} {x : Int64} (pc' : Nat) (hf : xft mi pc = some (.lstore 12, 2)) (hp : pc + 2 = pc') (hn : Nat.blt 13 (xML mi) = true) (hc : xbef (a0 :: a1 :: a2 :: a3 :: a4 :: a5 :: a6 :: a7 :: a8 :: a9 :: a10 :: a11 :: z :: z2 :: r) 12 = false) (kk : xW E d mi pc' (a0 :: a1 :: a2 :: a3 :: a4 :: a5 :: a6 :: a7 :: a8 :: a9 :: a10 :: a11 :: some (.long x) :: none :: r) st σ k q Q) : xW E d mi pc (a0 :: a1 :: a2 :: a3 :: a4 :: a5 :: a6 :: a7 :: a8 :: a9 :: a10 :: a11 :: z :: z2 :: r) (.long x :: st) σ k q Q := ws_glstore pc' hf hp hn hc kk

theorem ws_aload_12 {E : xEx} {d mi pc : Nat} {st : List Value} {σ : xMem} {k q : Nat} {Q : Option Value → xMem → Prop} {a0 a1 a2 a3 a4 a5 a6 a7 a8 a9 a10 a11 : Option Value} {r : xLv} {x : Nat} (pc' : Nat) (hf : xft mi pc = some (.aload 12, 2)) (hp : pc + 2 = pc') (kk : xW E d mi pc' (a0 :: a1 :: a2 :: a3 :: a4 :: a5 :: a6 :: a7 :: a8 :: a9 :: a10 :: a11 :: some (.ref x) :: r) (.ref x :: st) σ k q Q) : xW E d mi pc (a0 :: a1 :: a2 :: a3 :: a4 :: a5 :: a6 :: a7 :: a8 :: a9 :: a10 :: a11 :: some (.ref x) :: r) st σ k q Q := ws_gaload pc' hf hp rfl kk

theorem ws_astore_12 {E : xEx} {d mi pc : Nat} {st : List Value} {σ : xMem} {k q : Nat} {Q : Option Value → xMem → Prop} {a0 a1 a2 a3 a4 a5 a6 a7 a8 a9 a10 a11 : Option Value} {r : xLv} {z : Option Value} {x : Nat} (pc' : Nat) (hf : xft mi pc = some (.astore 12, 2)) (hp : pc + 2 = pc') (hn : Nat.blt 12 (xML mi) = true) (hc : xbef (a0 :: a1 :: a2 :: a3 :: a4 :: a5 :: a6 :: a7 :: a8 :: a9 :: a10 :: a11 :: z :: r) 12 = false) (kk : xW E d mi pc' (a0 :: a1 :: a2 :: a3 :: a4 :: a5 :: a6 :: a7 :: a8 :: a9 :: a10 :: a11 :: some (.ref x) :: r) st σ k q Q) : xW E d mi pc (a0 :: a1 :: a2 :: a3 :: a4 :: a5 :: a6 :: a7 :: a8 :: a9 :: a10 :: a11 :: z :: r) (.ref x :: st) σ k q Q := ws_gastore pc' hf hp hn hc kk

theorem ws_iinc_12 {E : xEx} {d mi pc : Nat} {st : List Value} {σ : xMem} {k q : Nat} {Q : Option Value → xMem → Prop} {a0 a1 a2 a3 a4 a5 a6 a7 a8 a9 a10 a11 : Option Value} {r : xLv} {z : Int} {x v : Int32} (pc' : Nat) (hf : xft mi pc = some (.iinc 12 z, 3)) (hp : pc + 3 = pc') (hv : x + Int32.ofInt z = v) (hn : Nat.blt 12 (xML mi) = true) (hc : xbef (a0 :: a1 :: a2 :: a3 :: a4 :: a5 :: a6 :: a7 :: a8 :: a9 :: a10 :: a11 :: some (.int x) :: r) 12 = false) (kk : xW E d mi pc' (a0 :: a1 :: a2 :: a3 :: a4 :: a5 :: a6 :: a7 :: a8 :: a9 :: a10 :: a11 :: some (.int v) :: r) st σ k q Q) : xW E d mi pc (a0 :: a1 :: a2 :: a3 :: a4 :: a5 :: a6 :: a7 :: a8 :: a9 :: a10 :: a11 :: some (.int x) :: r) st σ k q Q := ws_giinc pc' hf hp rfl hv hn hc kk

theorem ws_iload_13 {E : xEx} {d mi pc : Nat} {st : List Value} {σ : xMem} {k q : Nat} {Q : Option Value → xMem → Prop} {a0 a1 a2 a3 a4 a5 a6 a7 a8 a9 a10 a11 a12 : Option Value} {r : xLv} {x : Int32} (pc' : Nat) (hf : xft mi pc = some (.iload 13, 2)) (hp : pc + 2 = pc') (kk : xW E d mi pc' (a0 :: a1 :: a2 :: a3 :: a4 :: a5 :: a6 :: a7 :: a8 :: a9 :: a10 :: a11 :: a12 :: some (.int x) :: r) (.int x :: st) σ k q Q) : xW E d mi pc (a0 :: a1 :: a2 :: a3 :: a4 :: a5 :: a6 :: a7 :: a8 :: a9 :: a10 :: a11 :: a12 :: some (.int x) :: r) st σ k q Q := ws_giload pc' hf hp rfl kk

theorem ws_istore_13 {E : xEx} {d mi pc : Nat} {st : List Value} {σ : xMem} {k q : Nat} {Q : Option Value → xMem → Prop} {a0 a1 a2 a3 a4 a5 a6 a7 a8 a9 a10 a11 a12 : Option Value} {r : xLv} {z : Option Value} {x : Int32} (pc' : Nat) (hf : xft mi pc = some (.istore 13, 2)) (hp : pc + 2 = pc') (hn : Nat.blt 13 (xML mi) = true) (hc : xbef (a0 :: a1 :: a2 :: a3 :: a4 :: a5 :: a6 :: a7 :: a8 :: a9 :: a10 :: a11 :: a12 :: z :: r) 13 = false) (kk : xW E d mi pc' (a0 :: a1 :: a2 :: a3 :: a4 :: a5 :: a6 :: a7 :: a8 :: a9 :: a10 :: a11 :: a12 :: some (.int x) :: r) st σ k q Q) : xW E d mi pc (a0 :: a1 :: a2 :: a3 :: a4 :: a5 :: a6 :: a7 :: a8 :: a9 :: a10 :: a11 :: a12 :: z :: r) (.int x :: st) σ k q Q := ws_gistore pc' hf hp hn hc kk

theorem ws_lload_13 {E : xEx} {d mi pc : Nat} {st : List Value} {σ : xMem} {k q : Nat} {Q : Option Value → xMem → Prop} {a0 a1 a2 a3 a4 a5 a6 a7 a8 a9 a10 a11 a12 : Option Value} {r : xLv} {x : Int64} (pc' : Nat) (hf : xft mi pc = some (.lload 13, 2)) (hp : pc + 2 = pc') (kk : xW E d mi pc' (a0 :: a1 :: a2 :: a3 :: a4 :: a5 :: a6 :: a7 :: a8 :: a9 :: a10 :: a11 :: a12 :: some (.long x) :: r) (.long x :: st) σ k q Q) : xW E d mi pc (a0 :: a1 :: a2 :: a3 :: a4 :: a5 :: a6 :: a7 :: a8 :: a9 :: a10 :: a11 :: a12 :: some (.long x) :: r) st σ k q Q := ws_glload pc' hf hp rfl kk

theorem ws_lstore_13 {E : xEx} {d mi pc : Nat} {st : List Value} {σ : xMem} {k q : Nat} {Q : Option Value → xMem → Prop} {a0 a1 a2 a3 a4 a5 a6 a7 a8 a9 a10 a11 a12 : Option Value} {r : xLv} {z z2 : Option Value} {x : Int64} (pc' : Nat) (hf : xft mi pc = some (.lstore 13, 2)) (hp : pc + 2 = pc') (hn : Nat.blt 14 (xML mi) = true) (hc : xbef (a0 :: a1 :: a2 :: a3 :: a4 :: a5 :: a6 :: a7 :: a8 :: a9 :: a10 :: a11 :: a12 :: z :: z2 :: r) 13 = false) (kk : xW E d mi pc' (a0 :: a1 :: a2 :: a3 :: a4 :: a5 :: a6 :: a7 :: a8 :: a9 :: a10 :: a11 :: a12 :: some (.long x) :: none :: r) st σ k q Q) : xW E d mi pc (a0 :: a1 :: a2 :: a3 :: a4 :: a5 :: a6 :: a7 :: a8 :: a9 :: a10 :: a11 :: a12 :: z :: z2 :: r) (.long x :: st) σ k q Q := ws_glstore pc' hf hp hn hc kk

theorem ws_aload_13 {E : xEx} {d mi pc : Nat} {st : List Value} {σ : xMem} {k q : Nat} {Q : Option Value → xMem → Prop} {a0 a1 a2 a3 a4 a5 a6 a7 a8 a9 a10 a11 a12 : Option Value} {r : xLv} {x : Nat} (pc' : Nat) (hf : xft mi pc = some (.aload 13, 2)) (hp : pc + 2 = pc') (kk : xW E d mi pc' (a0 :: a1 :: a2 :: a3 :: a4 :: a5 :: a6 :: a7 :: a8 :: a9 :: a10 :: a11 :: a12 :: some (.ref x) :: r) (.ref x :: st) σ k q Q) : xW E d mi pc (a0 :: a1 :: a2 :: a3 :: a4 :: a5 :: a6 :: a7 :: a8 :: a9 :: a10 :: a11 :: a12 :: some (.ref x) :: r) st σ k q Q := ws_gaload pc' hf hp rfl kk

theorem ws_astore_13 {E : xEx} {d mi pc : Nat} {st : List Value} {σ : xMem} {k q : Nat} {Q : Option Value → xMem → Prop} {a0 a1 a2 a3 a4 a5 a6 a7 a8 a9 a10 a11 a12 : Option Value} {r : xLv} {z : Option Value} {x : Nat} (pc' : Nat) (hf : xft mi pc = some (.astore 13, 2)) (hp : pc + 2 = pc') (hn : Nat.blt 13 (xML mi) = true) (hc : xbef (a0 :: a1 :: a2 :: a3 :: a4 :: a5 :: a6 :: a7 :: a8 :: a9 :: a10 :: a11 :: a12 :: z :: r) 13 = false) (kk : xW E d mi pc' (a0 :: a1 :: a2 :: a3 :: a4 :: a5 :: a6 :: a7 :: a8 :: a9 :: a10 :: a11 :: a12 :: some (.ref x) :: r) st σ k q Q) : xW E d mi pc (a0 :: a1 :: a2 :: a3 :: a4 :: a5 :: a6 :: a7 :: a8 :: a9 :: a10 :: a11 :: a12 :: z :: r) (.ref x :: st) σ k q Q := ws_gastore pc' hf hp hn hc kk

theorem ws_iinc_13 {E : xEx} {d mi pc : Nat} {st : List Value} {σ : xMem} {k q : Nat} {Q : Option Value → xMem → Prop} {a0 a1 a2 a3 a4 a5 a6 a7 a8 a9 a10 a11 a12 : Option Value} {r : xLv} {z : Int} {x v : Int32} (pc' : Nat) (hf : xft mi pc = some (.iinc 13 z, 3)) (hp : pc + 3 = pc') (hv : x + Int32.ofInt z = v) (hn : Nat.blt 13 (xML mi) = true) (hc : xbef (a0 :: a1 :: a2 :: a3 :: a4 :: a5 :: a6 :: a7 :: a8 :: a9 :: a10 :: a11 :: a12 :: some (.int x) :: r) 13 = false) (kk : xW E d mi pc' (a0 :: a1 :: a2 :: a3 :: a4 :: a5 :: a6 :: a7 :: a8 :: a9 :: a10 :: a11 :: a12 :: some (.int v) :: r) st σ k q Q) : xW E d mi pc (a0 :: a1 :: a2 :: a3 :: a4 :: a5 :: a6 :: a7 :: a8 :: a9 :: a10 :: a11 :: a12 :: some (.int x) :: r) st σ k q Q := ws_giinc pc' hf hp rfl hv hn hc kk

theorem ws_iadd {E : xEx} {d mi pc : Nat} {lv : xLv} {st : List Value} {σ : xMem} {k q : Nat} {Q : Option Value → xMem → Prop} {x y v : Int32} (pc' : Nat) (hf : xft mi pc = some (.iadd, 1)) (hp : pc + 1 = pc') (hv : x + y = v) (kk : xW E d mi pc' lv (.int v :: st) σ k q Q) : xW E d mi pc lv (.int y :: .int x :: st) σ k q Q := by
  subst hp
  intro base ad cA D l p e R s m args below meth c Qf H locs ls C hE hI hl
  subst hv
  exact lv_iadd C.1.2.1 C.1.2.2.1 (xdec hf) (kk base ad cA D l p e R s m args below meth c Qf H locs ls C hE hI hl)

theorem ws_isub {E : xEx} {d mi pc : Nat} {lv : xLv} {st : List Value} {σ : xMem} {k q : Nat} {Q : Option Value → xMem → Prop} {x y v : Int32} (pc' : Nat) (hf : xft mi pc = some (.isub, 1)) (hp : pc + 1 = pc') (hv : x - y = v) (kk : xW E d mi pc' lv (.int v :: st) σ k q Q) : xW E d mi pc lv (.int y :: .int x :: st) σ k q Q := by
  subst hp
  intro base ad cA D l p e R s m args below meth c Qf H locs ls C hE hI hl
  subst hv
  exact lv_isub C.1.2.1 C.1.2.2.1 (xdec hf) (kk base ad cA D l p e R s m args below meth c Qf H locs ls C hE hI hl)

theorem ws_imul {E : xEx} {d mi pc : Nat} {lv : xLv} {st : List Value} {σ : xMem} {k q : Nat} {Q : Option Value → xMem → Prop} {x y v : Int32} (pc' : Nat) (hf : xft mi pc = some (.imul, 1)) (hp : pc + 1 = pc') (hv : x * y = v) (kk : xW E d mi pc' lv (.int v :: st) σ k q Q) : xW E d mi pc lv (.int y :: .int x :: st) σ k q Q := by
  subst hp
  intro base ad cA D l p e R s m args below meth c Qf H locs ls C hE hI hl
  subst hv
  exact lv_imul C.1.2.1 C.1.2.2.1 (xdec hf) (kk base ad cA D l p e R s m args below meth c Qf H locs ls C hE hI hl)

theorem ws_iand {E : xEx} {d mi pc : Nat} {lv : xLv} {st : List Value} {σ : xMem} {k q : Nat} {Q : Option Value → xMem → Prop} {x y v : Int32} (pc' : Nat) (hf : xft mi pc = some (.iand, 1)) (hp : pc + 1 = pc') (hv : x &&& y = v) (kk : xW E d mi pc' lv (.int v :: st) σ k q Q) : xW E d mi pc lv (.int y :: .int x :: st) σ k q Q := by
  subst hp
  intro base ad cA D l p e R s m args below meth c Qf H locs ls C hE hI hl
  subst hv
  exact lv_iand C.1.2.1 C.1.2.2.1 (xdec hf) (kk base ad cA D l p e R s m args below meth c Qf H locs ls C hE hI hl)

theorem ws_ior {E : xEx} {d mi pc : Nat} {lv : xLv} {st : List Value} {σ : xMem} {k q : Nat} {Q : Option Value → xMem → Prop} {x y v : Int32} (pc' : Nat) (hf : xft mi pc = some (.ior, 1)) (hp : pc + 1 = pc') (hv : x ||| y = v) (kk : xW E d mi pc' lv (.int v :: st) σ k q Q) : xW E d mi pc lv (.int y :: .int x :: st) σ k q Q := by
  subst hp
  intro base ad cA D l p e R s m args below meth c Qf H locs ls C hE hI hl
  subst hv
  exact lv_ior C.1.2.1 C.1.2.2.1 (xdec hf) (kk base ad cA D l p e R s m args below meth c Qf H locs ls C hE hI hl)

theorem ws_ixor {E : xEx} {d mi pc : Nat} {lv : xLv} {st : List Value} {σ : xMem} {k q : Nat} {Q : Option Value → xMem → Prop} {x y v : Int32} (pc' : Nat) (hf : xft mi pc = some (.ixor, 1)) (hp : pc + 1 = pc') (hv : x ^^^ y = v) (kk : xW E d mi pc' lv (.int v :: st) σ k q Q) : xW E d mi pc lv (.int y :: .int x :: st) σ k q Q := by
  subst hp
  intro base ad cA D l p e R s m args below meth c Qf H locs ls C hE hI hl
  subst hv
  exact lv_ixor C.1.2.1 C.1.2.2.1 (xdec hf) (kk base ad cA D l p e R s m args below meth c Qf H locs ls C hE hI hl)

theorem ws_ishl {E : xEx} {d mi pc : Nat} {lv : xLv} {st : List Value} {σ : xMem} {k q : Nat} {Q : Option Value → xMem → Prop} {x y v : Int32} (pc' : Nat) (hf : xft mi pc = some (.ishl, 1)) (hp : pc + 1 = pc') (hv : x <<< (y &&& 31) = v) (kk : xW E d mi pc' lv (.int v :: st) σ k q Q) : xW E d mi pc lv (.int y :: .int x :: st) σ k q Q := by
  subst hp
  intro base ad cA D l p e R s m args below meth c Qf H locs ls C hE hI hl
  subst hv
  exact lv_ishl C.1.2.1 C.1.2.2.1 (xdec hf) (kk base ad cA D l p e R s m args below meth c Qf H locs ls C hE hI hl)

theorem ws_ishr {E : xEx} {d mi pc : Nat} {lv : xLv} {st : List Value} {σ : xMem} {k q : Nat} {Q : Option Value → xMem → Prop} {x y v : Int32} (pc' : Nat) (hf : xft mi pc = some (.ishr, 1)) (hp : pc + 1 = pc') (hv : x >>> (y &&& 31) = v) (kk : xW E d mi pc' lv (.int v :: st) σ k q Q) : xW E d mi pc lv (.int y :: .int x :: st) σ k q Q := by
  subst hp
  intro base ad cA D l p e R s m args below meth c Qf H locs ls C hE hI hl
  subst hv
  exact lv_ishr C.1.2.1 C.1.2.2.1 (xdec hf) (kk base ad cA D l p e R s m args below meth c Qf H locs ls C hE hI hl)

theorem ws_iushr {E : xEx} {d mi pc : Nat} {lv : xLv} {st : List Value} {σ : xMem} {k q : Nat} {Q : Option Value → xMem → Prop} {x y v : Int32} (pc' : Nat) (hf : xft mi pc = some (.iushr, 1)) (hp : pc + 1 = pc') (hv : (x.toUInt32 >>> (y.toUInt32 &&& Int32.toUInt32 31)).toInt32 = v) (kk : xW E d mi pc' lv (.int v :: st) σ k q Q) : xW E d mi pc lv (.int y :: .int x :: st) σ k q Q := by
  subst hp
  intro base ad cA D l p e R s m args below meth c Qf H locs ls C hE hI hl
  exact lv_iushr C.1.2.1 C.1.2.2.1 (xdec hf) hv (kk base ad cA D l p e R s m args below meth c Qf H locs ls C hE hI hl)

theorem ws_idiv {E : xEx} {d mi pc : Nat} {lv : xLv} {st : List Value} {σ : xMem} {k q : Nat} {Q : Option Value → xMem → Prop} {x y v : Int32} (pc' : Nat) (hf : xft mi pc = some (.idiv, 1)) (hp : pc + 1 = pc') (hne : ¬ y = 0) (hv : x / y = v) (kk : xW E d mi pc' lv (.int v :: st) σ k q Q) : xW E d mi pc lv (.int y :: .int x :: st) σ k q Q := by
  subst hp
  intro base ad cA D l p e R s m args below meth c Qf H locs ls C hE hI hl
  subst hv
  exact lv_idiv C.1.2.1 C.1.2.2.1 (xdec hf) hne (kk base ad cA D l p e R s m args below meth c Qf H locs ls C hE hI hl)

theorem ws_irem {E : xEx} {d mi pc : Nat} {lv : xLv} {st : List Value} {σ : xMem} {k q : Nat} {Q : Option Value → xMem → Prop} {x y v : Int32} (pc' : Nat) (hf : xft mi pc = some (.irem, 1)) (hp : pc + 1 = pc') (hne : ¬ y = 0) (hv : x - x / y * y = v) (kk : xW E d mi pc' lv (.int v :: st) σ k q Q) : xW E d mi pc lv (.int y :: .int x :: st) σ k q Q := by
  subst hp
  intro base ad cA D l p e R s m args below meth c Qf H locs ls C hE hI hl
  subst hv
  exact lv_irem C.1.2.1 C.1.2.2.1 (xdec hf) hne (kk base ad cA D l p e R s m args below meth c Qf H locs ls C hE hI hl)

theorem ws_ladd {E : xEx} {d mi pc : Nat} {lv : xLv} {st : List Value} {σ : xMem} {k q : Nat} {Q : Option Value → xMem → Prop} {x y v : Int64} (pc' : Nat) (hf : xft mi pc = some (.ladd, 1)) (hp : pc + 1 = pc') (hv : x + y = v) (kk : xW E d mi pc' lv (.long v :: st) σ k q Q) : xW E d mi pc lv (.long y :: .long x :: st) σ k q Q := by
  subst hp
  intro base ad cA D l p e R s m args below meth c Qf H locs ls C hE hI hl
  subst hv
  exact lv_ladd C.1.2.1 C.1.2.2.1 (xdec hf) (kk base ad cA D l p e R s m args below meth c Qf H locs ls C hE hI hl)

theorem ws_lsub {E : xEx} {d mi pc : Nat} {lv : xLv} {st : List Value} {σ : xMem} {k q : Nat} {Q : Option Value → xMem → Prop} {x y v : Int64} (pc' : Nat) (hf : xft mi pc = some (.lsub, 1)) (hp : pc + 1 = pc') (hv : x - y = v) (kk : xW E d mi pc' lv (.long v :: st) σ k q Q) : xW E d mi pc lv (.long y :: .long x :: st) σ k q Q := by
  subst hp
  intro base ad cA D l p e R s m args below meth c Qf H locs ls C hE hI hl
  subst hv
  exact lv_lsub C.1.2.1 C.1.2.2.1 (xdec hf) (kk base ad cA D l p e R s m args below meth c Qf H locs ls C hE hI hl)

theorem ws_lmul {E : xEx} {d mi pc : Nat} {lv : xLv} {st : List Value} {σ : xMem} {k q : Nat} {Q : Option Value → xMem → Prop} {x y v : Int64} (pc' : Nat) (hf : xft mi pc = some (.lmul, 1)) (hp : pc + 1 = pc') (hv : x * y = v) (kk : xW E d mi pc' lv (.long v :: st) σ k q Q) : xW E d mi pc lv (.long y :: .long x :: st) σ k q Q := by
  subst hp
  intro base ad cA D l p e R s m args below meth c Qf H locs ls C hE hI hl
  subst hv
  exact lv_lmul C.1.2.1 C.1.2.2.1 (xdec hf) (kk base ad cA D l p e R s m args below meth c Qf H locs ls C hE hI hl)

theorem ws_ldiv {E : xEx} {d mi pc : Nat} {lv : xLv} {st : List Value} {σ : xMem} {k q : Nat} {Q : Option Value → xMem → Prop} {x y v : Int64} (pc' : Nat) (hf : xft mi pc = some (.ldiv, 1)) (hp : pc + 1 = pc') (hne : ¬ y = 0) (hv : x / y = v) (kk : xW E d mi pc' lv (.long v :: st) σ k q Q) : xW E d mi pc lv (.long y :: .long x :: st) σ k q Q := by
  subst hp
  intro base ad cA D l p e R s m args below meth c Qf H locs ls C hE hI hl
  subst hv
  exact lv_ldiv C.1.2.1 C.1.2.2.1 (xdec hf) hne (kk base ad cA D l p e R s m args below meth c Qf H locs ls C hE hI hl)

theorem ws_lrem {E : xEx} {d mi pc : Nat} {lv : xLv} {st : List Value} {σ : xMem} {k q : Nat} {Q : Option Value → xMem → Prop} {x y v : Int64} (pc' : Nat) (hf : xft mi pc = some (.lrem, 1)) (hp : pc + 1 = pc') (hne : ¬ y = 0) (hv : x - x / y * y = v) (kk : xW E d mi pc' lv (.long v :: st) σ k q Q) : xW E d mi pc lv (.long y :: .long x :: st) σ k q Q := by
  subst hp
  intro base ad cA D l p e R s m args below meth c Qf H locs ls C hE hI hl
  subst hv
  exact lv_lrem C.1.2.1 C.1.2.2.1 (xdec hf) hne (kk base ad cA D l p e R s m args below meth c Qf H locs ls C hE hI hl)

theorem ws_lcmp {E : xEx} {d mi pc : Nat} {lv : xLv} {st : List Value} {σ : xMem} {k q : Nat} {Q : Option Value → xMem → Prop} {x y : Int64} (pc' : Nat) (hf : xft mi pc = some (.lcmp, 1)) (hp : pc + 1 = pc')  (kk : xW E d mi pc' lv (.int (lg_cmp x y) :: st) σ k q Q) : xW E d mi pc lv (.long y :: .long x :: st) σ k q Q := by
  subst hp
  intro base ad cA D l p e R s m args below meth c Qf H locs ls C hE hI hl
  exact W.lcmp C.1.2.1 C.1.2.2.1 (xdec hf) (kk base ad cA D l p e R s m args below meth c Qf H locs ls C hE hI hl)

theorem ws_i2l {E : xEx} {d mi pc : Nat} {lv : xLv} {st : List Value} {σ : xMem} {k q : Nat} {Q : Option Value → xMem → Prop} {x : Int32} {v : Int64} (pc' : Nat) (hf : xft mi pc = some (.i2l, 1)) (hp : pc + 1 = pc') (hv : x.toInt64 = v) (kk : xW E d mi pc' lv (.long v :: st) σ k q Q) : xW E d mi pc lv (.int x :: st) σ k q Q := by
  subst hp
  intro base ad cA D l p e R s m args below meth c Qf H locs ls C hE hI hl
  exact lv_i2l C.1.2.1 C.1.2.2.1 (xdec hf) hv (kk base ad cA D l p e R s m args below meth c Qf H locs ls C hE hI hl)

theorem ws_l2i {E : xEx} {d mi pc : Nat} {lv : xLv} {st : List Value} {σ : xMem} {k q : Nat} {Q : Option Value → xMem → Prop} {x : Int64} {v : Int32} (pc' : Nat) (hf : xft mi pc = some (.l2i, 1)) (hp : pc + 1 = pc') (hv : x.toInt32 = v) (kk : xW E d mi pc' lv (.int v :: st) σ k q Q) : xW E d mi pc lv (.long x :: st) σ k q Q := by
  subst hp
  intro base ad cA D l p e R s m args below meth c Qf H locs ls C hE hI hl
  exact lv_l2i C.1.2.1 C.1.2.2.1 (xdec hf) hv (kk base ad cA D l p e R s m args below meth c Qf H locs ls C hE hI hl)

theorem ws_dup {E : xEx} {d mi pc : Nat} {lv : xLv} {st : List Value} {σ : xMem} {k q : Nat} {Q : Option Value → xMem → Prop} {v : Value} (pc' : Nat) (hf : xft mi pc = some (.dup, 1)) (hp : pc + 1 = pc') (hv : v.category = 1) (kk : xW E d mi pc' lv (v :: v :: st) σ k q Q) : xW E d mi pc lv (v :: st) σ k q Q := by
  subst hp
  intro base ad cA D l p e R s m args below meth c Qf H locs ls C hE hI hl
  exact lv_dup (va := xtr ad v) C.1.2.1 C.1.2.2.1 (xdec hf) (by rw [xtr_cat]; exact hv) (kk base ad cA D l p e R s m args below meth c Qf H locs ls C hE hI hl)

theorem ws_pop {E : xEx} {d mi pc : Nat} {lv : xLv} {st : List Value} {σ : xMem} {k q : Nat} {Q : Option Value → xMem → Prop} {v : Value} (pc' : Nat) (hf : xft mi pc = some (.pop, 1)) (hp : pc + 1 = pc') (hv : v.category = 1) (kk : xW E d mi pc' lv st σ k q Q) : xW E d mi pc lv (v :: st) σ k q Q := by
  subst hp
  intro base ad cA D l p e R s m args below meth c Qf H locs ls C hE hI hl
  exact lv_pop (va := xtr ad v) C.1.2.1 C.1.2.2.1 (xdec hf) (by rw [xtr_cat]; exact hv) (kk base ad cA D l p e R s m args below meth c Qf H locs ls C hE hI hl)

theorem ws_dup2 {E : xEx} {d mi pc : Nat} {lv : xLv} {st : List Value} {σ : xMem} {k q : Nat} {Q : Option Value → xMem → Prop} {v w : Value} (pc' : Nat) (hf : xft mi pc = some (.dup2, 1)) (hp : pc + 1 = pc') (hv : v.category = 1) (hw : w.category = 1) (kk : xW E d mi pc' lv (v :: w :: v :: w :: st) σ k q Q) : xW E d mi pc lv (v :: w :: st) σ k q Q := by
  subst hp
  intro base ad cA D l p e R s m args below meth c Qf H locs ls C hE hI hl
  exact lv_dup2_11 (va := xtr ad v) (vb := xtr ad w) C.1.2.1 C.1.2.2.1 (xdec hf) (by rw [xtr_cat]; exact hv) (by rw [xtr_cat]; exact hw) (kk base ad cA D l p e R s m args below meth c Qf H locs ls C hE hI hl)

theorem ws_if_eq {E : xEx} {d mi pc : Nat} {lv : xLv} {st : List Value} {σ : xMem} {k q : Nat} {Q : Option Value → xMem → Prop} {x : Int32} {off : Int} (tgt pc' : Nat) (hf : xft mi pc = some (.ifCond .eq off, 3)) (ht : (pc : Int) + off = (tgt : Int)) (hp : pc + 3 = pc') (kt : x = 0 → xW E d mi tgt lv st σ k q Q) (kf : ¬ x = 0 → xW E d mi pc' lv st σ k q Q) : xW E d mi pc lv (.int x :: st) σ k q Q := by
  subst hp
  intro base ad cA D l p e R s m args below meth c Qf H locs ls C hE hI hl
  exact lv_if_eq C.1.2.1 C.1.2.2.1 (xdec hf) ht (fun h => kt h base ad cA D l p e R s m args below meth c Qf H locs ls C hE hI hl) (fun h => kf h base ad cA D l p e R s m args below meth c Qf H locs ls C hE hI hl)

theorem ws_icmp_eq {E : xEx} {d mi pc : Nat} {lv : xLv} {st : List Value} {σ : xMem} {k q : Nat} {Q : Option Value → xMem → Prop} {x y : Int32} {off : Int} (tgt pc' : Nat) (hf : xft mi pc = some (.if_icmp .eq off, 3)) (ht : (pc : Int) + off = (tgt : Int)) (hp : pc + 3 = pc') (kt : x = y → xW E d mi tgt lv st σ k q Q) (kf : ¬ x = y → xW E d mi pc' lv st σ k q Q) : xW E d mi pc lv (.int y :: .int x :: st) σ k q Q := by
  subst hp
  intro base ad cA D l p e R s m args below meth c Qf H locs ls C hE hI hl
  exact lv_icmp_eq C.1.2.1 C.1.2.2.1 (xdec hf) ht (fun h => kt h base ad cA D l p e R s m args below meth c Qf H locs ls C hE hI hl) (fun h => kf h base ad cA D l p e R s m args below meth c Qf H locs ls C hE hI hl)

theorem ws_if_lt {E : xEx} {d mi pc : Nat} {lv : xLv} {st : List Value} {σ : xMem} {k q : Nat} {Q : Option Value → xMem → Prop} {x : Int32} {off : Int} (tgt pc' : Nat) (hf : xft mi pc = some (.ifCond .lt off, 3)) (ht : (pc : Int) + off = (tgt : Int)) (hp : pc + 3 = pc') (kt : x < 0 → xW E d mi tgt lv st σ k q Q) (kf : ¬ x < 0 → xW E d mi pc' lv st σ k q Q) : xW E d mi pc lv (.int x :: st) σ k q Q := by
  subst hp
  intro base ad cA D l p e R s m args below meth c Qf H locs ls C hE hI hl
  exact lv_if_lt C.1.2.1 C.1.2.2.1 (xdec hf) ht (fun h => kt h base ad cA D l p e R s m args below meth c Qf H locs ls C hE hI hl) (fun h => kf h base ad cA D l p e R s m args below meth c Qf H locs ls C hE hI hl)

theorem ws_icmp_lt {E : xEx} {d mi pc : Nat} {lv : xLv} {st : List Value} {σ : xMem} {k q : Nat} {Q : Option Value → xMem → Prop} {x y : Int32} {off : Int} (tgt pc' : Nat) (hf : xft mi pc = some (.if_icmp .lt off, 3)) (ht : (pc : Int) + off = (tgt : Int)) (hp : pc + 3 = pc') (kt : x < y → xW E d mi tgt lv st σ k q Q) (kf : ¬ x < y → xW E d mi pc' lv st σ k q Q) : xW E d mi pc lv (.int y :: .int x :: st) σ k q Q := by
  subst hp
  intro base ad cA D l p e R s m args below meth c Qf H locs ls C hE hI hl
  exact lv_icmp_lt C.1.2.1 C.1.2.2.1 (xdec hf) ht (fun h => kt h base ad cA D l p e R s m args below meth c Qf H locs ls C hE hI hl) (fun h => kf h base ad cA D l p e R s m args below meth c Qf H locs ls C hE hI hl)

theorem ws_if_le {E : xEx} {d mi pc : Nat} {lv : xLv} {st : List Value} {σ : xMem} {k q : Nat} {Q : Option Value → xMem → Prop} {x : Int32} {off : Int} (tgt pc' : Nat) (hf : xft mi pc = some (.ifCond .le off, 3)) (ht : (pc : Int) + off = (tgt : Int)) (hp : pc + 3 = pc') (kt : x ≤ 0 → xW E d mi tgt lv st σ k q Q) (kf : ¬ x ≤ 0 → xW E d mi pc' lv st σ k q Q) : xW E d mi pc lv (.int x :: st) σ k q Q := by
  subst hp
  intro base ad cA D l p e R s m args below meth c Qf H locs ls C hE hI hl
  exact lv_if_le C.1.2.1 C.1.2.2.1 (xdec hf) ht (fun h => kt h base ad cA D l p e R s m args below meth c Qf H locs ls C hE hI hl) (fun h => kf h base ad cA D l p e R s m args below meth c Qf H locs ls C hE hI hl)

theorem ws_icmp_le {E : xEx} {d mi pc : Nat} {lv : xLv} {st : List Value} {σ : xMem} {k q : Nat} {Q : Option Value → xMem → Prop} {x y : Int32} {off : Int} (tgt pc' : Nat) (hf : xft mi pc = some (.if_icmp .le off, 3)) (ht : (pc : Int) + off = (tgt : Int)) (hp : pc + 3 = pc') (kt : x ≤ y → xW E d mi tgt lv st σ k q Q) (kf : ¬ x ≤ y → xW E d mi pc' lv st σ k q Q) : xW E d mi pc lv (.int y :: .int x :: st) σ k q Q := by
  subst hp
  intro base ad cA D l p e R s m args below meth c Qf H locs ls C hE hI hl
  exact lv_icmp_le C.1.2.1 C.1.2.2.1 (xdec hf) ht (fun h => kt h base ad cA D l p e R s m args below meth c Qf H locs ls C hE hI hl) (fun h => kf h base ad cA D l p e R s m args below meth c Qf H locs ls C hE hI hl)

theorem ws_if_ge {E : xEx} {d mi pc : Nat} {lv : xLv} {st : List Value} {σ : xMem} {k q : Nat} {Q : Option Value → xMem → Prop} {x : Int32} {off : Int} (tgt pc' : Nat) (hf : xft mi pc = some (.ifCond .ge off, 3)) (ht : (pc : Int) + off = (tgt : Int)) (hp : pc + 3 = pc') (kt : 0 ≤ x → xW E d mi tgt lv st σ k q Q) (kf : ¬ 0 ≤ x → xW E d mi pc' lv st σ k q Q) : xW E d mi pc lv (.int x :: st) σ k q Q := by
  subst hp
  intro base ad cA D l p e R s m args below meth c Qf H locs ls C hE hI hl
  exact lv_if_ge C.1.2.1 C.1.2.2.1 (xdec hf) ht (fun h => kt h base ad cA D l p e R s m args below meth c Qf H locs ls C hE hI hl) (fun h => kf h base ad cA D l p e R s m args below meth c Qf H locs ls C hE hI hl)

theorem ws_icmp_ge {E : xEx} {d mi pc : Nat} {lv : xLv} {st : List Value} {σ : xMem} {k q : Nat} {Q : Option Value → xMem → Prop} {x y : Int32} {off : Int} (tgt pc' : Nat) (hf : xft mi pc = some (.if_icmp .ge off, 3)) (ht : (pc : Int) + off = (tgt : Int)) (hp : pc + 3 = pc') (kt : y ≤ x → xW E d mi tgt lv st σ k q Q) (kf : ¬ y ≤ x → xW E d mi pc' lv st σ k q Q) : xW E d mi pc lv (.int y :: .int x :: st) σ k q Q := by
  subst hp
  intro base ad cA D l p e R s m args below meth c Qf H locs ls C hE hI hl
  exact lv_icmp_ge C.1.2.1 C.1.2.2.1 (xdec hf) ht (fun h => kt h base ad cA D l p e R s m args below meth c Qf H locs ls C hE hI hl) (fun h => kf h base ad cA D l p e R s m args below meth c Qf H locs ls C hE hI hl)

theorem ws_if_gt {E : xEx} {d mi pc : Nat} {lv : xLv} {st : List Value} {σ : xMem} {k q : Nat} {Q : Option Value → xMem → Prop} {x : Int32} {off : Int} (tgt pc' : Nat) (hf : xft mi pc = some (.ifCond .gt off, 3)) (ht : (pc : Int) + off = (tgt : Int)) (hp : pc + 3 = pc') (kt : 0 < x → xW E d mi tgt lv st σ k q Q) (kf : ¬ 0 < x → xW E d mi pc' lv st σ k q Q) : xW E d mi pc lv (.int x :: st) σ k q Q := by
  subst hp
  intro base ad cA D l p e R s m args below meth c Qf H locs ls C hE hI hl
  exact lv_if_gt C.1.2.1 C.1.2.2.1 (xdec hf) ht (fun h => kt h base ad cA D l p e R s m args below meth c Qf H locs ls C hE hI hl) (fun h => kf h base ad cA D l p e R s m args below meth c Qf H locs ls C hE hI hl)

theorem ws_icmp_gt {E : xEx} {d mi pc : Nat} {lv : xLv} {st : List Value} {σ : xMem} {k q : Nat} {Q : Option Value → xMem → Prop} {x y : Int32} {off : Int} (tgt pc' : Nat) (hf : xft mi pc = some (.if_icmp .gt off, 3)) (ht : (pc : Int) + off = (tgt : Int)) (hp : pc + 3 = pc') (kt : y < x → xW E d mi tgt lv st σ k q Q) (kf : ¬ y < x → xW E d mi pc' lv st σ k q Q) : xW E d mi pc lv (.int y :: .int x :: st) σ k q Q := by
  subst hp
  intro base ad cA D l p e R s m args below meth c Qf H locs ls C hE hI hl
  exact lv_icmp_gt C.1.2.1 C.1.2.2.1 (xdec hf) ht (fun h => kt h base ad cA D l p e R s m args below meth c Qf H locs ls C hE hI hl) (fun h => kf h base ad cA D l p e R s m args below meth c Qf H locs ls C hE hI hl)

theorem ws_if_ne {E : xEx} {d mi pc : Nat} {lv : xLv} {st : List Value} {σ : xMem} {k q : Nat} {Q : Option Value → xMem → Prop} {x : Int32} {off : Int} (tgt pc' : Nat) (hf : xft mi pc = some (.ifCond .ne off, 3)) (ht : (pc : Int) + off = (tgt : Int)) (hp : pc + 3 = pc') (kt : ¬ x = 0 → xW E d mi tgt lv st σ k q Q) (kf : x = 0 → xW E d mi pc' lv st σ k q Q) : xW E d mi pc lv (.int x :: st) σ k q Q := by
  subst hp
  intro base ad cA D l p e R s m args below meth c Qf H locs ls C hE hI hl
  exact lv_if_ne C.1.2.1 C.1.2.2.1 (xdec hf) ht (fun h => kt h base ad cA D l p e R s m args below meth c Qf H locs ls C hE hI hl) (fun h => kf h base ad cA D l p e R s m args below meth c Qf H locs ls C hE hI hl)

theorem ws_icmp_ne {E : xEx} {d mi pc : Nat} {lv : xLv} {st : List Value} {σ : xMem} {k q : Nat} {Q : Option Value → xMem → Prop} {x y : Int32} {off : Int} (tgt pc' : Nat) (hf : xft mi pc = some (.if_icmp .ne off, 3)) (ht : (pc : Int) + off = (tgt : Int)) (hp : pc + 3 = pc') (kt : ¬ x = y → xW E d mi tgt lv st σ k q Q) (kf : x = y → xW E d mi pc' lv st σ k q Q) : xW E d mi pc lv (.int y :: .int x :: st) σ k q Q := by
  subst hp
  intro base ad cA D l p e R s m args below meth c Qf H locs ls C hE hI hl
  exact lv_icmp_ne C.1.2.1 C.1.2.2.1 (xdec hf) ht (fun h => kt h base ad cA D l p e R s m args below meth c Qf H locs ls C hE hI hl) (fun h => kf h base ad cA D l p e R s m args below meth c Qf H locs ls C hE hI hl)

theorem ws_goto {E : xEx} {d mi pc : Nat} {lv : xLv} {st : List Value} {σ : xMem} {k q : Nat} {Q : Option Value → xMem → Prop} {off : Int} (tgt : Nat) (hf : xft mi pc = some (.goto off, 3)) (ht : (pc : Int) + off = (tgt : Int)) (kk : xW E d mi tgt lv st σ k q Q) : xW E d mi pc lv st σ k q Q := by
  intro base ad cA D l p e R s m args below meth c Qf H locs ls C hE hI hl
  exact lv_goto C.1.2.1 C.1.2.2.1 (xdec hf) ht (kk base ad cA D l p e R s m args below meth c Qf H locs ls C hE hI hl)

theorem ws_tsw {E : xEx} {d mi pc : Nat} {lv : xLv} {st : List Value} {σ : xMem} {k q : Nat} {Q : Option Value → xMem → Prop} {x : Int32} {dflt lo hi : Int} {offs : Array Int} {len : Nat} (tgt : Nat) (hf : xft mi pc = some (.tableswitch dflt lo hi offs, len)) (hD : (pc : Int) + dflt = (tgt : Int))
    (kd : (x.toInt < lo ∨ hi < x.toInt) → xW E d mi tgt lv st σ k q Q)
    (ki : ∀ j : Nat, x.toInt = lo + j → x.toInt ≤ hi → ∃ (off : Int) (t : Nat), offs[j]? = some off ∧ (pc : Int) + off = (t : Int) ∧ xW E d mi t lv st σ k q Q) : xW E d mi pc lv (.int x :: st) σ k q Q := by
  intro base ad cA D l p e R s m args below meth c Qf H locs ls C hE hI hl
  by_cases h : x.toInt < lo ∨ hi < x.toInt
  · exact lv_tableOut C.1.2.1 C.1.2.2.1 (xdec hf) h hD (kd h base ad cA D l p e R s m args below meth c Qf H locs ls C hE hI hl)
  · have h1 : ¬ x.toInt < lo := fun z => h (Or.inl z)
    have h2 : ¬ hi < x.toInt := fun z => h (Or.inr z)
    obtain ⟨off, t, ho, ht, kk⟩ := ki (x.toInt - lo).toNat (by omega) (by omega)
    exact lv_tableIn C.1.2.1 C.1.2.2.1 (xdec hf) h1 h2 ho ht (kk base ad cA D l p e R s m args below meth c Qf H locs ls C hE hI hl)

theorem ws_lsw {E : xEx} {d mi pc : Nat} {lv : xLv} {st : List Value} {σ : xMem} {k q : Nat} {Q : Option Value → xMem → Prop} {x : Int32} {dflt : Int} {ps : Array (Int × Int)} {len : Nat} {off : Int} (tgt : Nat) (hf : xft mi pc = some (.lookupswitch dflt ps, len)) (hp : (ps.toList.zip (ps.toList.drop 1)).all (fun (a, next) => a.1 < next.1) = true) (ho : Op.lookupswitch.offset ps.toList dflt x.toInt = off) (ht : (pc : Int) + off = (tgt : Int)) (kk : xW E d mi tgt lv st σ k q Q) : xW E d mi pc lv (.int x :: st) σ k q Q := by
  intro base ad cA D l p e R s m args below meth c Qf H locs ls C hE hI hl
  exact lv_lookup C.1.2.1 C.1.2.2.1 (xdec hf) hp ho ht (kk base ad cA D l p e R s m args below meth c Qf H locs ls C hE hI hl)

theorem ws_ldc {E : xEx} {d mi pc : Nat} {lv : xLv} {st : List Value} {σ : xMem} {k q : Nat} {Q : Option Value → xMem → Prop} {idx : Nat} {v w : Int32} (pc' : Nat) (hf : xft mi pc = some (.ldc idx, 2)) (hp : pc + 2 = pc') (hc : xk1 (xOW mi) idx = some v) (hv : v = w) (kk : xW E d mi pc' lv (.int w :: st) σ k q Q) : xW E d mi pc lv st σ k q Q := by
  subst hp
  subst hv
  intro base ad cA D l p e R s m args below meth c Qf H locs ls C hE hI hl
  obtain ⟨x, hx, rfl⟩ := Option.map_eq_some_iff.mp hc
  have hm := List.mem_of_find?_eq_some hx
  have hi : x.1 = idx := by simpa using List.find?_some hx
  have hw := xkL_ok _ (xow mi C.1.1).2 x hm
  rw [hi] at hw
  exact lv_ldc C.1.2.1 C.1.2.2.1 C.1.2.2.2.2 (C.2.1.1 _ (xwd_in hw)) (xdec hf) (kk base ad cA D l p e R s m args below meth c Qf H locs ls C hE hI hl)

theorem ws_ldcw {E : xEx} {d mi pc : Nat} {lv : xLv} {st : List Value} {σ : xMem} {k q : Nat} {Q : Option Value → xMem → Prop} {idx : Nat} {v w : Int32} (pc' : Nat) (hf : xft mi pc = some (.ldc_w idx, 3)) (hp : pc + 3 = pc') (hc : xk1 (xOW mi) idx = some v) (hv : v = w) (kk : xW E d mi pc' lv (.int w :: st) σ k q Q) : xW E d mi pc lv st σ k q Q := by
  subst hp
  subst hv
  intro base ad cA D l p e R s m args below meth c Qf H locs ls C hE hI hl
  obtain ⟨x, hx, rfl⟩ := Option.map_eq_some_iff.mp hc
  have hm := List.mem_of_find?_eq_some hx
  have hi : x.1 = idx := by simpa using List.find?_some hx
  have hw := xkL_ok _ (xow mi C.1.1).2 x hm
  rw [hi] at hw
  exact lv_ldcw C.1.2.1 C.1.2.2.1 C.1.2.2.2.2 (C.2.1.1 _ (xwd_in hw)) (xdec hf) (kk base ad cA D l p e R s m args below meth c Qf H locs ls C hE hI hl)

theorem ws_ldc2 {E : xEx} {d mi pc : Nat} {lv : xLv} {st : List Value} {σ : xMem} {k q : Nat} {Q : Option Value → xMem → Prop} {idx : Nat} {v w : Int64} (pc' : Nat) (hf : xft mi pc = some (.ldc2_w idx, 3)) (hp : pc + 3 = pc') (hc : xk2 (xOW mi) idx = some v) (hv : v = w) (kk : xW E d mi pc' lv (.long w :: st) σ k q Q) : xW E d mi pc lv st σ k q Q := by
  subst hp
  subst hv
  intro base ad cA D l p e R s m args below meth c Qf H locs ls C hE hI hl
  obtain ⟨x, hx, rfl⟩ := Option.map_eq_some_iff.mp hc
  have hm := List.mem_of_find?_eq_some hx
  have hi : x.1 = idx := by simpa using List.find?_some hx
  have hw := xqL_ok _ (xow mi C.1.1).2 x hm
  rw [hi] at hw
  exact lv_ldc2 C.1.2.1 C.1.2.2.1 C.1.2.2.2.2 (C.2.1.1 _ (xwd_in hw)) (xdec hf) (kk base ad cA D l p e R s m args below meth c Qf H locs ls C hE hI hl)

theorem xfs_at {ad : Nat → Nat} {I : Nat → Nat → Int32} {L : Nat → Nat → Int64} {o kf : Nat} {fs : List Value} {v : Value} (h : fs[kf]? = some v) : (fs.mapIdx (fun k v => xtr ad (xfv I L o k v)))[kf]? = some (xtr ad (xfv I L o kf v)) := by
  simp [List.getElem?_mapIdx, h]
theorem ws_getf {E : xEx} {d mi pc : Nat} {lv : xLv} {st : List Value} {S : List xSh} {I : Nat → Nat → Int32} {L : Nat → Nat → Int64} {k q : Nat} {Q : Option Value → xMem → Prop} {idx o ci kf : Nat} {fs : List Value} {v w : Value} (pc' : Nat) (hf : xft mi pc = some (.getfield idx, 3)) (hp : pc + 3 = pc') (hc : xfd (xOW mi) idx = some (ci, kf)) (ho : S[o]? = some (.inr (.inl (ci, fs)))) (hv : fs[kf]? = some v) (hw9 : xfv I L o kf v = w) (kk : xW E d mi pc' lv (w :: st) (S, I, L) k q Q) : xW E d mi pc lv (.ref o :: st) (S, I, L) k q Q := by
  subst hp
  intro base ad cA D l p e R s m args below meth c Qf H locs ls C hE hI hl
  obtain ⟨x9, hx, hx2⟩ := Option.map_eq_some_iff.mp hc
  have hm := List.mem_of_find?_eq_some hx
  have hi : x9.1 = idx := by simpa using List.find?_some hx
  obtain ⟨⟨h7, hkN⟩, hw⟩ := xfL_ok _ (xow mi C.1.1).2 x9 hm
  have e1 : x9.2.1 = ci := (Prod.mk.inj hx2).1
  have e2 : x9.2.2.1 = kf := (Prod.mk.inj hx2).2
  rw [e1, e2, hi] at hw
  rw [e1] at h7 hkN
  rw [e2] at hkN
  subst hw9
  exact va_get (D := D) (a := ad o) (rest := st.map (xtr ad)) C.1.2.1 C.1.2.2.1 C.2.1.1 (xlI ci h7) C.1.2.2.2.2 C.2.1.2.1 hI.2.1 o (xconc_at ho) (xvw ci h7) kf hkN (C.2.1.1 _ (xwd_in hw)) (fun _ h => h) (xfs_at hv) (xdec hf) (kk base ad cA D l p e R s m args below meth c Qf H locs ls C hE hI hl)

theorem ws_getfi {E : xEx} {d mi pc : Nat} {lv : xLv} {st : List Value} {S : List xSh} {I : Nat → Nat → Int32} {L : Nat → Nat → Int64} {k q : Nat} {Q : Option Value → xMem → Prop} {idx o ci kf : Nat} {fs : List Value} {z x : Int32} (pc' : Nat) (hf : xft mi pc = some (.getfield idx, 3)) (hp : pc + 3 = pc') (hc : xfd (xOW mi) idx = some (ci, kf)) (ho : S[o]? = some (.inr (.inl (ci, fs)))) (hv : fs[kf]? = some (.int z)) (hx : I o kf = x) (kk : xW E d mi pc' lv (.int x :: st) (S, I, L) k q Q) : xW E d mi pc lv (.ref o :: st) (S, I, L) k q Q := ws_getf pc' hf hp hc ho hv (by rw [← hx]; rfl) kk

theorem ws_getfl {E : xEx} {d mi pc : Nat} {lv : xLv} {st : List Value} {S : List xSh} {I : Nat → Nat → Int32} {L : Nat → Nat → Int64} {k q : Nat} {Q : Option Value → xMem → Prop} {idx o ci kf : Nat} {fs : List Value} {z x : Int64} (pc' : Nat) (hf : xft mi pc = some (.getfield idx, 3)) (hp : pc + 3 = pc') (hc : xfd (xOW mi) idx = some (ci, kf)) (ho : S[o]? = some (.inr (.inl (ci, fs)))) (hv : fs[kf]? = some (.long z)) (hx : L o kf = x) (kk : xW E d mi pc' lv (.long x :: st) (S, I, L) k q Q) : xW E d mi pc lv (.ref o :: st) (S, I, L) k q Q := ws_getf pc' hf hp hc ho hv (by rw [← hx]; rfl) kk

theorem ws_getfr {E : xEx} {d mi pc : Nat} {lv : xLv} {st : List Value} {S : List xSh} {I : Nat → Nat → Int32} {L : Nat → Nat → Int64} {k q : Nat} {Q : Option Value → xMem → Prop} {idx o ci kf : Nat} {fs : List Value} {x : Nat} (pc' : Nat) (hf : xft mi pc = some (.getfield idx, 3)) (hp : pc + 3 = pc') (hc : xfd (xOW mi) idx = some (ci, kf)) (ho : S[o]? = some (.inr (.inl (ci, fs)))) (hv : fs[kf]? = some (.ref x)) (kk : xW E d mi pc' lv (.ref x :: st) (S, I, L) k q Q) : xW E d mi pc lv (.ref o :: st) (S, I, L) k q Q := ws_getf pc' hf hp hc ho hv rfl kk

theorem xfs_setI {ad : Nat → Nat} {I : Nat → Nat → Int32} {L : Nat → Nat → Int64} {o kf : Nat} {fs : List Value} {z x : Int32} (h : fs[kf]? = some (.int z)) : fs.mapIdx (fun k v => xtr ad (xfv (wR I o (upd (I o) kf x)) L o k v)) = (fs.mapIdx (fun k v => xtr ad (xfv I L o k v))).set kf (.int x) := by
  apply List.ext_getElem?
  intro j
  by_cases hj : kf = j
  · subst hj
    rw [List.getElem?_set_self (by rw [List.length_mapIdx]; exact (List.getElem?_eq_some_iff.mp h).1), List.getElem?_mapIdx, h]
    simp [xfv, xtr, wR, upd]
  · rw [List.getElem?_set_ne hj, List.getElem?_mapIdx, List.getElem?_mapIdx]
    congr 1
    funext v
    have : ¬ j = kf := fun e => hj e.symm
    cases v <;> simp [xfv, wR, upd, this]
theorem xfs_setL {ad : Nat → Nat} {I : Nat → Nat → Int32} {L : Nat → Nat → Int64} {o kf : Nat} {fs : List Value} {z x : Int64} (h : fs[kf]? = some (.long z)) : fs.mapIdx (fun k v => xtr ad (xfv I (wRL L o (vp_updL (L o) kf x)) o k v)) = (fs.mapIdx (fun k v => xtr ad (xfv I L o k v))).set kf (.long x) := by
  apply List.ext_getElem?
  intro j
  by_cases hj : kf = j
  · subst hj
    rw [List.getElem?_set_self (by rw [List.length_mapIdx]; exact (List.getElem?_eq_some_iff.mp h).1), List.getElem?_mapIdx, h]
    simp [xfv, xtr, wRL, vp_updL]
  · rw [List.getElem?_set_ne hj, List.getElem?_mapIdx, List.getElem?_mapIdx]
    congr 1
    funext v
    have : ¬ j = kf := fun e => hj e.symm
    cases v <;> simp [xfv, wRL, vp_updL, this]
theorem xfs_setR {ad : Nat → Nat} {I : Nat → Nat → Int32} {L : Nat → Nat → Int64} {o kf r : Nat} {fs : List Value} : (fs.set kf (.ref r)).mapIdx (fun k v => xtr ad (xfv I L o k v)) = (fs.mapIdx (fun k v => xtr ad (xfv I L o k v))).set kf (.ref (ad r)) := by
  apply List.ext_getElem?
  intro j
  by_cases hj : kf = j
  · subst hj
    by_cases hl : kf < fs.length
    · rw [List.getElem?_set_self (by rw [List.length_mapIdx]; exact hl), List.getElem?_mapIdx, List.getElem?_set_self hl]
      rfl
    · rw [List.getElem?_eq_none (by simp; omega), List.getElem?_eq_none (by simp; omega)]
  · rw [List.getElem?_set_ne hj, List.getElem?_mapIdx, List.getElem?_mapIdx, List.getElem?_set_ne hj]
