theorem xtr_cat (ad : Nat → Nat) (v : Value) : (xtr ad v).category = v.category := by cases v <;> rfl
theorem ws_iconst {E : xEx} {d mi pc : Nat} {lv : List (Nat × Value)} {st : List Value} {σ : xMem} {k q : Nat} {Q : Option Value → xMem → Prop} {n : Int} (hf : xft mi pc = some (.iconst n, 1))  (kk : xW E d mi (pc + 1) lv (.int (Int32.ofInt n) :: st) σ k q Q) : xW E d mi pc lv st σ k q Q := by
  intro base ad cA D l p e R s m args below meth c Qf H locs ls C hE hI hl
  exact lv_iconst C.1.2.1 C.1.2.2.1 (xdec hf) rfl (kk base ad cA D l p e R s m args below meth c Qf H locs ls C hE hI hl)

theorem ws_bipush {E : xEx} {d mi pc : Nat} {lv : List (Nat × Value)} {st : List Value} {σ : xMem} {k q : Nat} {Q : Option Value → xMem → Prop} {n : Int} (hf : xft mi pc = some (.bipush n, 2))  (kk : xW E d mi (pc + 2) lv (.int (Int8.ofInt n).toInt32 :: st) σ k q Q) : xW E d mi pc lv st σ k q Q := by
  intro base ad cA D l p e R s m args below meth c Qf H locs ls C hE hI hl
  exact lv_bipush C.1.2.1 C.1.2.2.1 (xdec hf) rfl (kk base ad cA D l p e R s m args below meth c Qf H locs ls C hE hI hl)

theorem ws_sipush {E : xEx} {d mi pc : Nat} {lv : List (Nat × Value)} {st : List Value} {σ : xMem} {k q : Nat} {Q : Option Value → xMem → Prop} {n : Int} (hf : xft mi pc = some (.sipush n, 3))  (kk : xW E d mi (pc + 3) lv (.int (Int16.ofInt n).toInt32 :: st) σ k q Q) : xW E d mi pc lv st σ k q Q := by
  intro base ad cA D l p e R s m args below meth c Qf H locs ls C hE hI hl
  exact lv_sipush C.1.2.1 C.1.2.2.1 (xdec hf) rfl (kk base ad cA D l p e R s m args below meth c Qf H locs ls C hE hI hl)

theorem ws_lconst {E : xEx} {d mi pc : Nat} {lv : List (Nat × Value)} {st : List Value} {σ : xMem} {k q : Nat} {Q : Option Value → xMem → Prop} {n : Fin 2} (hf : xft mi pc = some (.lconst n, 1))  (kk : xW E d mi (pc + 1) lv (.long (Int64.ofNat (n : Nat)) :: st) σ k q Q) : xW E d mi pc lv st σ k q Q := by
  intro base ad cA D l p e R s m args below meth c Qf H locs ls C hE hI hl
  exact lv_lconst C.1.2.1 C.1.2.2.1 (xdec hf) rfl (kk base ad cA D l p e R s m args below meth c Qf H locs ls C hE hI hl)

theorem ws_iload_n {E : xEx} {d mi pc : Nat} {lv : List (Nat × Value)} {st : List Value} {σ : xMem} {k q : Nat} {Q : Option Value → xMem → Prop} {n : Fin 4} {x : Int32} (hf : xft mi pc = some (.iload_n n, 1)) (h : xlk (n : Nat) lv = some (.int x)) (kk : xW E d mi (pc + 1) lv (.int x :: st) σ k q Q) : xW E d mi pc lv st σ k q Q := by
  intro base ad cA D l p e R s m args below meth c Qf H locs ls C hE hI hl
  exact lv_iload_n C.1.2.1 C.1.2.2.1 (xdec hf) rfl (xloc hl h) (kk base ad cA D l p e R s m args below meth c Qf H locs ls C hE hI hl)

theorem ws_iload {E : xEx} {d mi pc : Nat} {lv : List (Nat × Value)} {st : List Value} {σ : xMem} {k q : Nat} {Q : Option Value → xMem → Prop} {n : Nat} {x : Int32} (hf : xft mi pc = some (.iload n, 2)) (h : xlk n lv = some (.int x)) (kk : xW E d mi (pc + 2) lv (.int x :: st) σ k q Q) : xW E d mi pc lv st σ k q Q := by
  intro base ad cA D l p e R s m args below meth c Qf H locs ls C hE hI hl
  exact lv_iload C.1.2.1 C.1.2.2.1 (xdec hf) (xloc hl h) (kk base ad cA D l p e R s m args below meth c Qf H locs ls C hE hI hl)

theorem ws_lload_n {E : xEx} {d mi pc : Nat} {lv : List (Nat × Value)} {st : List Value} {σ : xMem} {k q : Nat} {Q : Option Value → xMem → Prop} {n : Fin 4} {x : Int64} (hf : xft mi pc = some (.lload_n n, 1)) (h : xlk (n : Nat) lv = some (.long x)) (kk : xW E d mi (pc + 1) lv (.long x :: st) σ k q Q) : xW E d mi pc lv st σ k q Q := by
  intro base ad cA D l p e R s m args below meth c Qf H locs ls C hE hI hl
  exact lv_lload_n C.1.2.1 C.1.2.2.1 (xdec hf) rfl (xloc hl h) (kk base ad cA D l p e R s m args below meth c Qf H locs ls C hE hI hl)

theorem ws_lload {E : xEx} {d mi pc : Nat} {lv : List (Nat × Value)} {st : List Value} {σ : xMem} {k q : Nat} {Q : Option Value → xMem → Prop} {n : Nat} {x : Int64} (hf : xft mi pc = some (.lload n, 2)) (h : xlk n lv = some (.long x)) (kk : xW E d mi (pc + 2) lv (.long x :: st) σ k q Q) : xW E d mi pc lv st σ k q Q := by
  intro base ad cA D l p e R s m args below meth c Qf H locs ls C hE hI hl
  exact lv_lload C.1.2.1 C.1.2.2.1 (xdec hf) (xloc hl h) (kk base ad cA D l p e R s m args below meth c Qf H locs ls C hE hI hl)

theorem ws_aload_n {E : xEx} {d mi pc : Nat} {lv : List (Nat × Value)} {st : List Value} {σ : xMem} {k q : Nat} {Q : Option Value → xMem → Prop} {n : Fin 4} {x : Nat} (hf : xft mi pc = some (.aload_n n, 1)) (h : xlk (n : Nat) lv = some (.ref x)) (kk : xW E d mi (pc + 1) lv (.ref x :: st) σ k q Q) : xW E d mi pc lv st σ k q Q := by
  intro base ad cA D l p e R s m args below meth c Qf H locs ls C hE hI hl
  exact lv_aload_n C.1.2.1 C.1.2.2.1 (xdec hf) rfl (xloc hl h) (kk base ad cA D l p e R s m args below meth c Qf H locs ls C hE hI hl)

theorem ws_aload {E : xEx} {d mi pc : Nat} {lv : List (Nat × Value)} {st : List Value} {σ : xMem} {k q : Nat} {Q : Option Value → xMem → Prop} {n : Nat} {x : Nat} (hf : xft mi pc = some (.aload n, 2)) (h : xlk n lv = some (.ref x)) (kk : xW E d mi (pc + 2) lv (.ref x :: st) σ k q Q) : xW E d mi pc lv st σ k q Q := by
  intro base ad cA D l p e R s m args below meth c Qf H locs ls C hE hI hl
  exact lv_aload C.1.2.1 C.1.2.2.1 (xdec hf) (xloc hl h) (kk base ad cA D l p e R s m args below meth c Qf H locs ls C hE hI hl)

theorem ws_istore_n {E : xEx} {d mi pc : Nat} {lv : List (Nat × Value)} {st : List Value} {σ : xMem} {k q : Nat} {Q : Option Value → xMem → Prop} {lv' : List (Nat × Value)} {n : Fin 4} {x : Int32} (hf : xft mi pc = some (.istore_n n, 1)) (hn : Nat.blt (n : Nat) (xML mi) = true) (hv : xput (n : Nat) (.int x) lv = lv') (kk : xW E d mi (pc + 1) lv' st σ k q Q) : xW E d mi pc lv (.int x :: st) σ k q Q := by
  intro base ad cA D l p e R s m args below meth c Qf H locs ls C hE hI hl
  refine lv_istore_n (lv := xtl ad lv) C.1.2.1 C.1.2.2.1 (xdec hf) rfl hl (Nat.le_of_ble_eq_true hn) rfl (fun ls' h' => ?_)
  exact kk base ad cA D l p e R s m args below meth c Qf H locs ls' C hE hI (hv ▸ xput_has h')

theorem ws_istore {E : xEx} {d mi pc : Nat} {lv : List (Nat × Value)} {st : List Value} {σ : xMem} {k q : Nat} {Q : Option Value → xMem → Prop} {lv' : List (Nat × Value)} {n : Nat} {x : Int32} (hf : xft mi pc = some (.istore n, 2)) (hn : Nat.blt n (xML mi) = true) (hv : xput n (.int x) lv = lv') (kk : xW E d mi (pc + 2) lv' st σ k q Q) : xW E d mi pc lv (.int x :: st) σ k q Q := by
  intro base ad cA D l p e R s m args below meth c Qf H locs ls C hE hI hl
  refine lv_istore (lv := xtl ad lv) C.1.2.1 C.1.2.2.1 (xdec hf) hl (Nat.le_of_ble_eq_true hn) rfl (fun ls' h' => ?_)
  exact kk base ad cA D l p e R s m args below meth c Qf H locs ls' C hE hI (hv ▸ xput_has h')

theorem ws_lstore_n {E : xEx} {d mi pc : Nat} {lv : List (Nat × Value)} {st : List Value} {σ : xMem} {k q : Nat} {Q : Option Value → xMem → Prop} {lv' : List (Nat × Value)} {n : Fin 4} {x : Int64} (hf : xft mi pc = some (.lstore_n n, 1)) (hn : ((n : Nat) + 1).blt (xML mi) = true) (hv : xput2 (n : Nat) (.long x) lv = lv') (kk : xW E d mi (pc + 1) lv' st σ k q Q) : xW E d mi pc lv (.long x :: st) σ k q Q := by
  intro base ad cA D l p e R s m args below meth c Qf H locs ls C hE hI hl
  refine lv_lstore_n (lv := xtl ad lv) C.1.2.1 C.1.2.2.1 (xdec hf) rfl hl (Nat.le_of_ble_eq_true hn) rfl (fun ls' h' => ?_)
  exact kk base ad cA D l p e R s m args below meth c Qf H locs ls' C hE hI (hv ▸ xput2_has h')

theorem ws_lstore {E : xEx} {d mi pc : Nat} {lv : List (Nat × Value)} {st : List Value} {σ : xMem} {k q : Nat} {Q : Option Value → xMem → Prop} {lv' : List (Nat × Value)} {n : Nat} {x : Int64} (hf : xft mi pc = some (.lstore n, 2)) (hn : (n + 1).blt (xML mi) = true) (hv : xput2 n (.long x) lv = lv') (kk : xW E d mi (pc + 2) lv' st σ k q Q) : xW E d mi pc lv (.long x :: st) σ k q Q := by
  intro base ad cA D l p e R s m args below meth c Qf H locs ls C hE hI hl
  refine lv_lstore (lv := xtl ad lv) C.1.2.1 C.1.2.2.1 (xdec hf) hl (Nat.le_of_ble_eq_true hn) rfl (fun ls' h' => ?_)
  exact kk base ad cA D l p e R s m args below meth c Qf H locs ls' C hE hI (hv ▸ xput2_has h')

theorem ws_astore_n {E : xEx} {d mi pc : Nat} {lv : List (Nat × Value)} {st : List Value} {σ : xMem} {k q : Nat} {Q : Option Value → xMem → Prop} {lv' : List (Nat × Value)} {n : Fin 4} {x : Nat} (hf : xft mi pc = some (.astore_n n, 1)) (hn : Nat.blt (n : Nat) (xML mi) = true) (hv : xput (n : Nat) (.ref x) lv = lv') (kk : xW E d mi (pc + 1) lv' st σ k q Q) : xW E d mi pc lv (.ref x :: st) σ k q Q := by
  intro base ad cA D l p e R s m args below meth c Qf H locs ls C hE hI hl
  refine lv_astore_n (lv := xtl ad lv) C.1.2.1 C.1.2.2.1 (xdec hf) rfl hl (Nat.le_of_ble_eq_true hn) rfl (fun ls' h' => ?_)
  exact kk base ad cA D l p e R s m args below meth c Qf H locs ls' C hE hI (hv ▸ xput_has h')

theorem ws_astore {E : xEx} {d mi pc : Nat} {lv : List (Nat × Value)} {st : List Value} {σ : xMem} {k q : Nat} {Q : Option Value → xMem → Prop} {lv' : List (Nat × Value)} {n : Nat} {x : Nat} (hf : xft mi pc = some (.astore n, 2)) (hn : Nat.blt n (xML mi) = true) (hv : xput n (.ref x) lv = lv') (kk : xW E d mi (pc + 2) lv' st σ k q Q) : xW E d mi pc lv (.ref x :: st) σ k q Q := by
  intro base ad cA D l p e R s m args below meth c Qf H locs ls C hE hI hl
  refine lv_astore (lv := xtl ad lv) C.1.2.1 C.1.2.2.1 (xdec hf) hl (Nat.le_of_ble_eq_true hn) rfl (fun ls' h' => ?_)
  exact kk base ad cA D l p e R s m args below meth c Qf H locs ls' C hE hI (hv ▸ xput_has h')

theorem ws_iinc {E : xEx} {d mi pc : Nat} {lv : List (Nat × Value)} {st : List Value} {σ : xMem} {k q : Nat} {Q : Option Value → xMem → Prop} {lv' : List (Nat × Value)} {n : Nat} {z : Int} {x : Int32} (hf : xft mi pc = some (.iinc n z, 3)) (h : xlk n lv = some (.int x)) (hn : Nat.blt n (xML mi) = true) (hv : xput n (.int (x + Int32.ofInt z)) lv = lv') (kk : xW E d mi (pc + 3) lv' st σ k q Q) : xW E d mi pc lv st σ k q Q := by
  intro base ad cA D l p e R s m args below meth c Qf H locs ls C hE hI hl
  obtain ⟨j, hj⟩ := List.mem_iff_getElem?.mp (List.mem_map.mpr ⟨(n, Value.int x), xlk_mem h, rfl⟩ : (n, xtr ad (.int x)) ∈ xtl ad lv)
  refine lv_iinc (lv := xtl ad lv) (k := j) (v := x + Int32.ofInt z) C.1.2.1 C.1.2.2.1 (xdec hf) hl hj rfl (Nat.le_of_ble_eq_true hn) rfl (fun ls' h' => ?_)
  exact kk base ad cA D l p e R s m args below meth c Qf H locs ls' C hE hI (hv ▸ xput_has (v := .int (x + Int32.ofInt z)) h')

theorem ws_iadd {E : xEx} {d mi pc : Nat} {lv : List (Nat × Value)} {st : List Value} {σ : xMem} {k q : Nat} {Q : Option Value → xMem → Prop} {x y : Int32} (hf : xft mi pc = some (.iadd, 1))  (kk : xW E d mi (pc + 1) lv (.int (x + y) :: st) σ k q Q) : xW E d mi pc lv (.int y :: .int x :: st) σ k q Q := by
  intro base ad cA D l p e R s m args below meth c Qf H locs ls C hE hI hl
  exact lv_iadd C.1.2.1 C.1.2.2.1 (xdec hf) (kk base ad cA D l p e R s m args below meth c Qf H locs ls C hE hI hl)

theorem ws_isub {E : xEx} {d mi pc : Nat} {lv : List (Nat × Value)} {st : List Value} {σ : xMem} {k q : Nat} {Q : Option Value → xMem → Prop} {x y : Int32} (hf : xft mi pc = some (.isub, 1))  (kk : xW E d mi (pc + 1) lv (.int (x - y) :: st) σ k q Q) : xW E d mi pc lv (.int y :: .int x :: st) σ k q Q := by
  intro base ad cA D l p e R s m args below meth c Qf H locs ls C hE hI hl
  exact lv_isub C.1.2.1 C.1.2.2.1 (xdec hf) (kk base ad cA D l p e R s m args below meth c Qf H locs ls C hE hI hl)

theorem ws_imul {E : xEx} {d mi pc : Nat} {lv : List (Nat × Value)} {st : List Value} {σ : xMem} {k q : Nat} {Q : Option Value → xMem → Prop} {x y : Int32} (hf : xft mi pc = some (.imul, 1))  (kk : xW E d mi (pc + 1) lv (.int (x * y) :: st) σ k q Q) : xW E d mi pc lv (.int y :: .int x :: st) σ k q Q := by
  intro base ad cA D l p e R s m args below meth c Qf H locs ls C hE hI hl
  exact lv_imul C.1.2.1 C.1.2.2.1 (xdec hf) (kk base ad cA D l p e R s m args below meth c Qf H locs ls C hE hI hl)

theorem ws_iand {E : xEx} {d mi pc : Nat} {lv : List (Nat × Value)} {st : List Value} {σ : xMem} {k q : Nat} {Q : Option Value → xMem → Prop} {x y : Int32} (hf : xft mi pc = some (.iand, 1))  (kk : xW E d mi (pc + 1) lv (.int (x &&& y) :: st) σ k q Q) : xW E d mi pc lv (.int y :: .int x :: st) σ k q Q := by
  intro base ad cA D l p e R s m args below meth c Qf H locs ls C hE hI hl
  exact lv_iand C.1.2.1 C.1.2.2.1 (xdec hf) (kk base ad cA D l p e R s m args below meth c Qf H locs ls C hE hI hl)

theorem ws_ior {E : xEx} {d mi pc : Nat} {lv : List (Nat × Value)} {st : List Value} {σ : xMem} {k q : Nat} {Q : Option Value → xMem → Prop} {x y : Int32} (hf : xft mi pc = some (.ior, 1))  (kk : xW E d mi (pc + 1) lv (.int (x ||| y) :: st) σ k q Q) : xW E d mi pc lv (.int y :: .int x :: st) σ k q Q := by
  intro base ad cA D l p e R s m args below meth c Qf H locs ls C hE hI hl
  exact lv_ior C.1.2.1 C.1.2.2.1 (xdec hf) (kk base ad cA D l p e R s m args below meth c Qf H locs ls C hE hI hl)

theorem ws_ixor {E : xEx} {d mi pc : Nat} {lv : List (Nat × Value)} {st : List Value} {σ : xMem} {k q : Nat} {Q : Option Value → xMem → Prop} {x y : Int32} (hf : xft mi pc = some (.ixor, 1))  (kk : xW E d mi (pc + 1) lv (.int (x ^^^ y) :: st) σ k q Q) : xW E d mi pc lv (.int y :: .int x :: st) σ k q Q := by
  intro base ad cA D l p e R s m args below meth c Qf H locs ls C hE hI hl
  exact lv_ixor C.1.2.1 C.1.2.2.1 (xdec hf) (kk base ad cA D l p e R s m args below meth c Qf H locs ls C hE hI hl)

theorem ws_ishl {E : xEx} {d mi pc : Nat} {lv : List (Nat × Value)} {st : List Value} {σ : xMem} {k q : Nat} {Q : Option Value → xMem → Prop} {x y : Int32} (hf : xft mi pc = some (.ishl, 1))  (kk : xW E d mi (pc + 1) lv (.int (x <<< (y &&& 31)) :: st) σ k q Q) : xW E d mi pc lv (.int y :: .int x :: st) σ k q Q := by
  intro base ad cA D l p e R s m args below meth c Qf H locs ls C hE hI hl
  exact lv_ishl C.1.2.1 C.1.2.2.1 (xdec hf) (kk base ad cA D l p e R s m args below meth c Qf H locs ls C hE hI hl)

theorem ws_ishr {E : xEx} {d mi pc : Nat} {lv : List (Nat × Value)} {st : List Value} {σ : xMem} {k q : Nat} {Q : Option Value → xMem → Prop} {x y : Int32} (hf : xft mi pc = some (.ishr, 1))  (kk : xW E d mi (pc + 1) lv (.int (x >>> (y &&& 31)) :: st) σ k q Q) : xW E d mi pc lv (.int y :: .int x :: st) σ k q Q := by
  intro base ad cA D l p e R s m args below meth c Qf H locs ls C hE hI hl
  exact lv_ishr C.1.2.1 C.1.2.2.1 (xdec hf) (kk base ad cA D l p e R s m args below meth c Qf H locs ls C hE hI hl)

theorem ws_iushr {E : xEx} {d mi pc : Nat} {lv : List (Nat × Value)} {st : List Value} {σ : xMem} {k q : Nat} {Q : Option Value → xMem → Prop} {x y : Int32} (hf : xft mi pc = some (.iushr, 1))  (kk : xW E d mi (pc + 1) lv (.int (x.toUInt32 >>> (y.toUInt32 &&& Int32.toUInt32 31)).toInt32 :: st) σ k q Q) : xW E d mi pc lv (.int y :: .int x :: st) σ k q Q := by
  intro base ad cA D l p e R s m args below meth c Qf H locs ls C hE hI hl
  exact lv_iushr C.1.2.1 C.1.2.2.1 (xdec hf) rfl (kk base ad cA D l p e R s m args below meth c Qf H locs ls C hE hI hl)

theorem ws_idiv {E : xEx} {d mi pc : Nat} {lv : List (Nat × Value)} {st : List Value} {σ : xMem} {k q : Nat} {Q : Option Value → xMem → Prop} {x y : Int32} (hf : xft mi pc = some (.idiv, 1)) (hne : ¬ y = 0) (kk : xW E d mi (pc + 1) lv (.int (x / y) :: st) σ k q Q) : xW E d mi pc lv (.int y :: .int x :: st) σ k q Q := by
  intro base ad cA D l p e R s m args below meth c Qf H locs ls C hE hI hl
  exact lv_idiv C.1.2.1 C.1.2.2.1 (xdec hf) hne (kk base ad cA D l p e R s m args below meth c Qf H locs ls C hE hI hl)

theorem ws_irem {E : xEx} {d mi pc : Nat} {lv : List (Nat × Value)} {st : List Value} {σ : xMem} {k q : Nat} {Q : Option Value → xMem → Prop} {x y : Int32} (hf : xft mi pc = some (.irem, 1)) (hne : ¬ y = 0) (kk : xW E d mi (pc + 1) lv (.int (x - x / y * y) :: st) σ k q Q) : xW E d mi pc lv (.int y :: .int x :: st) σ k q Q := by
  intro base ad cA D l p e R s m args below meth c Qf H locs ls C hE hI hl
  exact lv_irem C.1.2.1 C.1.2.2.1 (xdec hf) hne (kk base ad cA D l p e R s m args below meth c Qf H locs ls C hE hI hl)

theorem ws_ladd {E : xEx} {d mi pc : Nat} {lv : List (Nat × Value)} {st : List Value} {σ : xMem} {k q : Nat} {Q : Option Value → xMem → Prop} {x y : Int64} (hf : xft mi pc = some (.ladd, 1))  (kk : xW E d mi (pc + 1) lv (.long (x + y) :: st) σ k q Q) : xW E d mi pc lv (.long y :: .long x :: st) σ k q Q := by
  intro base ad cA D l p e R s m args below meth c Qf H locs ls C hE hI hl
  exact lv_ladd C.1.2.1 C.1.2.2.1 (xdec hf) (kk base ad cA D l p e R s m args below meth c Qf H locs ls C hE hI hl)

theorem ws_lsub {E : xEx} {d mi pc : Nat} {lv : List (Nat × Value)} {st : List Value} {σ : xMem} {k q : Nat} {Q : Option Value → xMem → Prop} {x y : Int64} (hf : xft mi pc = some (.lsub, 1))  (kk : xW E d mi (pc + 1) lv (.long (x - y) :: st) σ k q Q) : xW E d mi pc lv (.long y :: .long x :: st) σ k q Q := by
  intro base ad cA D l p e R s m args below meth c Qf H locs ls C hE hI hl
  exact lv_lsub C.1.2.1 C.1.2.2.1 (xdec hf) (kk base ad cA D l p e R s m args below meth c Qf H locs ls C hE hI hl)

theorem ws_lmul {E : xEx} {d mi pc : Nat} {lv : List (Nat × Value)} {st : List Value} {σ : xMem} {k q : Nat} {Q : Option Value → xMem → Prop} {x y : Int64} (hf : xft mi pc = some (.lmul, 1))  (kk : xW E d mi (pc + 1) lv (.long (x * y) :: st) σ k q Q) : xW E d mi pc lv (.long y :: .long x :: st) σ k q Q := by
  intro base ad cA D l p e R s m args below meth c Qf H locs ls C hE hI hl
  exact lv_lmul C.1.2.1 C.1.2.2.1 (xdec hf) (kk base ad cA D l p e R s m args below meth c Qf H locs ls C hE hI hl)

theorem ws_ldiv {E : xEx} {d mi pc : Nat} {lv : List (Nat × Value)} {st : List Value} {σ : xMem} {k q : Nat} {Q : Option Value → xMem → Prop} {x y : Int64} (hf : xft mi pc = some (.ldiv, 1)) (hne : ¬ y = 0) (kk : xW E d mi (pc + 1) lv (.long (x / y) :: st) σ k q Q) : xW E d mi pc lv (.long y :: .long x :: st) σ k q Q := by
  intro base ad cA D l p e R s m args below meth c Qf H locs ls C hE hI hl
  exact lv_ldiv C.1.2.1 C.1.2.2.1 (xdec hf) hne (kk base ad cA D l p e R s m args below meth c Qf H locs ls C hE hI hl)

theorem ws_lrem {E : xEx} {d mi pc : Nat} {lv : List (Nat × Value)} {st : List Value} {σ : xMem} {k q : Nat} {Q : Option Value → xMem → Prop} {x y : Int64} (hf : xft mi pc = some (.lrem, 1)) (hne : ¬ y = 0) (kk : xW E d mi (pc + 1) lv (.long (x - x / y * y) :: st) σ k q Q) : xW E d mi pc lv (.long y :: .long x :: st) σ k q Q := by
  intro base ad cA D l p e R s m args below meth c Qf H locs ls C hE hI hl
  exact lv_lrem C.1.2.1 C.1.2.2.1 (xdec hf) hne (kk base ad cA D l p e R s m args below meth c Qf H locs ls C hE hI hl)

theorem ws_lcmp {E : xEx} {d mi pc : Nat} {lv : List (Nat × Value)} {st : List Value} {σ : xMem} {k q : Nat} {Q : Option Value → xMem → Prop} {x y : Int64} (hf : xft mi pc = some (.lcmp, 1))  (kk : xW E d mi (pc + 1) lv (.int (lg_cmp x y) :: st) σ k q Q) : xW E d mi pc lv (.long y :: .long x :: st) σ k q Q := by
  intro base ad cA D l p e R s m args below meth c Qf H locs ls C hE hI hl
  exact W.lcmp C.1.2.1 C.1.2.2.1 (xdec hf) (kk base ad cA D l p e R s m args below meth c Qf H locs ls C hE hI hl)

theorem ws_i2l {E : xEx} {d mi pc : Nat} {lv : List (Nat × Value)} {st : List Value} {σ : xMem} {k q : Nat} {Q : Option Value → xMem → Prop} {x : Int32} (hf : xft mi pc = some (.i2l, 1))  (kk : xW E d mi (pc + 1) lv (.long x.toInt64 :: st) σ k q Q) : xW E d mi pc lv (.int x :: st) σ k q Q := by
  intro base ad cA D l p e R s m args below meth c Qf H locs ls C hE hI hl
  exact lv_i2l C.1.2.1 C.1.2.2.1 (xdec hf) rfl (kk base ad cA D l p e R s m args below meth c Qf H locs ls C hE hI hl)

theorem ws_l2i {E : xEx} {d mi pc : Nat} {lv : List (Nat × Value)} {st : List Value} {σ : xMem} {k q : Nat} {Q : Option Value → xMem → Prop} {x : Int64} (hf : xft mi pc = some (.l2i, 1))  (kk : xW E d mi (pc + 1) lv (.int x.toInt32 :: st) σ k q Q) : xW E d mi pc lv (.long x :: st) σ k q Q := by
  intro base ad cA D l p e R s m args below meth c Qf H locs ls C hE hI hl
  exact lv_l2i C.1.2.1 C.1.2.2.1 (xdec hf) rfl (kk base ad cA D l p e R s m args below meth c Qf H locs ls C hE hI hl)

theorem ws_dup {E : xEx} {d mi pc : Nat} {lv : List (Nat × Value)} {st : List Value} {σ : xMem} {k q : Nat} {Q : Option Value → xMem → Prop} {v : Value} (hf : xft mi pc = some (.dup, 1)) (hv : v.category = 1) (kk : xW E d mi (pc + 1) lv (v :: v :: st) σ k q Q) : xW E d mi pc lv (v :: st) σ k q Q := by
  intro base ad cA D l p e R s m args below meth c Qf H locs ls C hE hI hl
  exact lv_dup (va := xtr ad v) C.1.2.1 C.1.2.2.1 (xdec hf) (by rw [xtr_cat]; exact hv) (kk base ad cA D l p e R s m args below meth c Qf H locs ls C hE hI hl)

theorem ws_pop {E : xEx} {d mi pc : Nat} {lv : List (Nat × Value)} {st : List Value} {σ : xMem} {k q : Nat} {Q : Option Value → xMem → Prop} {v : Value} (hf : xft mi pc = some (.pop, 1)) (hv : v.category = 1) (kk : xW E d mi (pc + 1) lv st σ k q Q) : xW E d mi pc lv (v :: st) σ k q Q := by
  intro base ad cA D l p e R s m args below meth c Qf H locs ls C hE hI hl
  exact lv_pop (va := xtr ad v) C.1.2.1 C.1.2.2.1 (xdec hf) (by rw [xtr_cat]; exact hv) (kk base ad cA D l p e R s m args below meth c Qf H locs ls C hE hI hl)

theorem ws_dup2 {E : xEx} {d mi pc : Nat} {lv : List (Nat × Value)} {st : List Value} {σ : xMem} {k q : Nat} {Q : Option Value → xMem → Prop} {v w : Value} (hf : xft mi pc = some (.dup2, 1)) (hv : v.category = 1) (hw : w.category = 1) (kk : xW E d mi (pc + 1) lv (v :: w :: v :: w :: st) σ k q Q) : xW E d mi pc lv (v :: w :: st) σ k q Q := by
  intro base ad cA D l p e R s m args below meth c Qf H locs ls C hE hI hl
  exact lv_dup2_11 (va := xtr ad v) (vb := xtr ad w) C.1.2.1 C.1.2.2.1 (xdec hf) (by rw [xtr_cat]; exact hv) (by rw [xtr_cat]; exact hw) (kk base ad cA D l p e R s m args below meth c Qf H locs ls C hE hI hl)

theorem ws_if_eq {E : xEx} {d mi pc : Nat} {lv : List (Nat × Value)} {st : List Value} {σ : xMem} {k q : Nat} {Q : Option Value → xMem → Prop} {x : Int32} {off : Int} (tgt : Nat) (hf : xft mi pc = some (.ifCond .eq off, 3)) (ht : (pc : Int) + off = (tgt : Int)) (kt : x = 0 → xW E d mi tgt lv st σ k q Q) (kf : ¬ x = 0 → xW E d mi (pc + 3) lv st σ k q Q) : xW E d mi pc lv (.int x :: st) σ k q Q := by
  intro base ad cA D l p e R s m args below meth c Qf H locs ls C hE hI hl
  exact lv_if_eq C.1.2.1 C.1.2.2.1 (xdec hf) ht (fun h => kt h base ad cA D l p e R s m args below meth c Qf H locs ls C hE hI hl) (fun h => kf h base ad cA D l p e R s m args below meth c Qf H locs ls C hE hI hl)

theorem ws_icmp_eq {E : xEx} {d mi pc : Nat} {lv : List (Nat × Value)} {st : List Value} {σ : xMem} {k q : Nat} {Q : Option Value → xMem → Prop} {x y : Int32} {off : Int} (tgt : Nat) (hf : xft mi pc = some (.if_icmp .eq off, 3)) (ht : (pc : Int) + off = (tgt : Int)) (kt : x = y → xW E d mi tgt lv st σ k q Q) (kf : ¬ x = y → xW E d mi (pc + 3) lv st σ k q Q) : xW E d mi pc lv (.int y :: .int x :: st) σ k q Q := by
  intro base ad cA D l p e R s m args below meth c Qf H locs ls C hE hI hl
  exact lv_icmp_eq C.1.2.1 C.1.2.2.1 (xdec hf) ht (fun h => kt h base ad cA D l p e R s m args below meth c Qf H locs ls C hE hI hl) (fun h => kf h base ad cA D l p e R s m args below meth c Qf H locs ls C hE hI hl)

theorem ws_if_lt {E : xEx} {d mi pc : Nat} {lv : List (Nat × Value)} {st : List Value} {σ : xMem} {k q : Nat} {Q : Option Value → xMem → Prop} {x : Int32} {off : Int} (tgt : Nat) (hf : xft mi pc = some (.ifCond .lt off, 3)) (ht : (pc : Int) + off = (tgt : Int)) (kt : x < 0 → xW E d mi tgt lv st σ k q Q) (kf : ¬ x < 0 → xW E d mi (pc + 3) lv st σ k q Q) : xW E d mi pc lv (.int x :: st) σ k q Q := by
  intro base ad cA D l p e R s m args below meth c Qf H locs ls C hE hI hl
  exact lv_if_lt C.1.2.1 C.1.2.2.1 (xdec hf) ht (fun h => kt h base ad cA D l p e R s m args below meth c Qf H locs ls C hE hI hl) (fun h => kf h base ad cA D l p e R s m args below meth c Qf H locs ls C hE hI hl)

theorem ws_icmp_lt {E : xEx} {d mi pc : Nat} {lv : List (Nat × Value)} {st : List Value} {σ : xMem} {k q : Nat} {Q : Option Value → xMem → Prop} {x y : Int32} {off : Int} (tgt : Nat) (hf : xft mi pc = some (.if_icmp .lt off, 3)) (ht : (pc : Int) + off = (tgt : Int)) (kt : x < y → xW E d mi tgt lv st σ k q Q) (kf : ¬ x < y → xW E d mi (pc + 3) lv st σ k q Q) : xW E d mi pc lv (.int y :: .int x :: st) σ k q Q := by
  intro base ad cA D l p e R s m args below meth c Qf H locs ls C hE hI hl
  exact lv_icmp_lt C.1.2.1 C.1.2.2.1 (xdec hf) ht (fun h => kt h base ad cA D l p e R s m args below meth c Qf H locs ls C hE hI hl) (fun h => kf h base ad cA D l p e R s m args below meth c Qf H locs ls C hE hI hl)

theorem ws_if_le {E : xEx} {d mi pc : Nat} {lv : List (Nat × Value)} {st : List Value} {σ : xMem} {k q : Nat} {Q : Option Value → xMem → Prop} {x : Int32} {off : Int} (tgt : Nat) (hf : xft mi pc = some (.ifCond .le off, 3)) (ht : (pc : Int) + off = (tgt : Int)) (kt : x ≤ 0 → xW E d mi tgt lv st σ k q Q) (kf : ¬ x ≤ 0 → xW E d mi (pc + 3) lv st σ k q Q) : xW E d mi pc lv (.int x :: st) σ k q Q := by
  intro base ad cA D l p e R s m args below meth c Qf H locs ls C hE hI hl
  exact lv_if_le C.1.2.1 C.1.2.2.1 (xdec hf) ht (fun h => kt h base ad cA D l p e R s m args below meth c Qf H locs ls C hE hI hl) (fun h => kf h base ad cA D l p e R s m args below meth c Qf H locs ls C hE hI hl)

theorem ws_icmp_le {E : xEx} {d mi pc : Nat} {lv : List (Nat × Value)} {st : List Value} {σ : xMem} {k q : Nat} {Q : Option Value → xMem → Prop} {x y : Int32} {off : Int} (tgt : Nat) (hf : xft mi pc = some (.if_icmp .le off, 3)) (ht : (pc : Int) + off = (tgt : Int)) (kt : x ≤ y → xW E d mi tgt lv st σ k q Q) (kf : ¬ x ≤ y → xW E d mi (pc + 3) lv st σ k q Q) : xW E d mi pc lv (.int y :: .int x :: st) σ k q Q := by
  intro base ad cA D l p e R s m args below meth c Qf H locs ls C hE hI hl
  exact lv_icmp_le C.1.2.1 C.1.2.2.1 (xdec hf) ht (fun h => kt h base ad cA D l p e R s m args below meth c Qf H locs ls C hE hI hl) (fun h => kf h base ad cA D l p e R s m args below meth c Qf H locs ls C hE hI hl)

theorem ws_if_ge {E : xEx} {d mi pc : Nat} {lv : List (Nat × Value)} {st : List Value} {σ : xMem} {k q : Nat} {Q : Option Value → xMem → Prop} {x : Int32} {off : Int} (tgt : Nat) (hf : xft mi pc = some (.ifCond .ge off, 3)) (ht : (pc : Int) + off = (tgt : Int)) (kt : 0 ≤ x → xW E d mi tgt lv st σ k q Q) (kf : ¬ 0 ≤ x → xW E d mi (pc + 3) lv st σ k q Q) : xW E d mi pc lv (.int x :: st) σ k q Q := by
  intro base ad cA D l p e R s m args below meth c Qf H locs ls C hE hI hl
  exact lv_if_ge C.1.2.1 C.1.2.2.1 (xdec hf) ht (fun h => kt h base ad cA D l p e R s m args below meth c Qf H locs ls C hE hI hl) (fun h => kf h base ad cA D l p e R s m args below meth c Qf H locs ls C hE hI hl)

theorem ws_icmp_ge {E : xEx} {d mi pc : Nat} {lv : List (Nat × Value)} {st : List Value} {σ : xMem} {k q : Nat} {Q : Option Value → xMem → Prop} {x y : Int32} {off : Int} (tgt : Nat) (hf : xft mi pc = some (.if_icmp .ge off, 3)) (ht : (pc : Int) + off = (tgt : Int)) (kt : y ≤ x → xW E d mi tgt lv st σ k q Q) (kf : ¬ y ≤ x → xW E d mi (pc + 3) lv st σ k q Q) : xW E d mi pc lv (.int y :: .int x :: st) σ k q Q := by
  intro base ad cA D l p e R s m args below meth c Qf H locs ls C hE hI hl
  exact lv_icmp_ge C.1.2.1 C.1.2.2.1 (xdec hf) ht (fun h => kt h base ad cA D l p e R s m args below meth c Qf H locs ls C hE hI hl) (fun h => kf h base ad cA D l p e R s m args below meth c Qf H locs ls C hE hI hl)

theorem ws_if_gt {E : xEx} {d mi pc : Nat} {lv : List (Nat × Value)} {st : List Value} {σ : xMem} {k q : Nat} {Q : Option Value → xMem → Prop} {x : Int32} {off : Int} (tgt : Nat) (hf : xft mi pc = some (.ifCond .gt off, 3)) (ht : (pc : Int) + off = (tgt : Int)) (kt : 0 < x → xW E d mi tgt lv st σ k q Q) (kf : ¬ 0 < x → xW E d mi (pc + 3) lv st σ k q Q) : xW E d mi pc lv (.int x :: st) σ k q Q := by
  intro base ad cA D l p e R s m args below meth c Qf H locs ls C hE hI hl
  exact lv_if_gt C.1.2.1 C.1.2.2.1 (xdec hf) ht (fun h => kt h base ad cA D l p e R s m args below meth c Qf H locs ls C hE hI hl) (fun h => kf h base ad cA D l p e R s m args below meth c Qf H locs ls C hE hI hl)

theorem ws_icmp_gt {E : xEx} {d mi pc : Nat} {lv : List (Nat × Value)} {st : List Value} {σ : xMem} {k q : Nat} {Q : Option Value → xMem → Prop} {x y : Int32} {off : Int} (tgt : Nat) (hf : xft mi pc = some (.if_icmp .gt off, 3)) (ht : (pc : Int) + off = (tgt : Int)) (kt : y < x → xW E d mi tgt lv st σ k q Q) (kf : ¬ y < x → xW E d mi (pc + 3) lv st σ k q Q) : xW E d mi pc lv (.int y :: .int x :: st) σ k q Q := by
  intro base ad cA D l p e R s m args below meth c Qf H locs ls C hE hI hl
  exact lv_icmp_gt C.1.2.1 C.1.2.2.1 (xdec hf) ht (fun h => kt h base ad cA D l p e R s m args below meth c Qf H locs ls C hE hI hl) (fun h => kf h base ad cA D l p e R s m args below meth c Qf H locs ls C hE hI hl)

theorem ws_if_ne {E : xEx} {d mi pc : Nat} {lv : List (Nat × Value)} {st : List Value} {σ : xMem} {k q : Nat} {Q : Option Value → xMem → Prop} {x : Int32} {off : Int} (tgt : Nat) (hf : xft mi pc = some (.ifCond .ne off, 3)) (ht : (pc : Int) + off = (tgt : Int)) (kt : ¬ x = 0 → xW E d mi tgt lv st σ k q Q) (kf : x = 0 → xW E d mi (pc + 3) lv st σ k q Q) : xW E d mi pc lv (.int x :: st) σ k q Q := by
  intro base ad cA D l p e R s m args below meth c Qf H locs ls C hE hI hl
  exact lv_if_ne C.1.2.1 C.1.2.2.1 (xdec hf) ht (fun h => kt h base ad cA D l p e R s m args below meth c Qf H locs ls C hE hI hl) (fun h => kf h base ad cA D l p e R s m args below meth c Qf H locs ls C hE hI hl)

theorem ws_icmp_ne {E : xEx} {d mi pc : Nat} {lv : List (Nat × Value)} {st : List Value} {σ : xMem} {k q : Nat} {Q : Option Value → xMem → Prop} {x y : Int32} {off : Int} (tgt : Nat) (hf : xft mi pc = some (.if_icmp .ne off, 3)) (ht : (pc : Int) + off = (tgt : Int)) (kt : ¬ x = y → xW E d mi tgt lv st σ k q Q) (kf : x = y → xW E d mi (pc + 3) lv st σ k q Q) : xW E d mi pc lv (.int y :: .int x :: st) σ k q Q := by
  intro base ad cA D l p e R s m args below meth c Qf H locs ls C hE hI hl
  exact lv_icmp_ne C.1.2.1 C.1.2.2.1 (xdec hf) ht (fun h => kt h base ad cA D l p e R s m args below meth c Qf H locs ls C hE hI hl) (fun h => kf h base ad cA D l p e R s m args below meth c Qf H locs ls C hE hI hl)

theorem ws_goto {E : xEx} {d mi pc : Nat} {lv : List (Nat × Value)} {st : List Value} {σ : xMem} {k q : Nat} {Q : Option Value → xMem → Prop} {off : Int} (tgt : Nat) (hf : xft mi pc = some (.goto off, 3)) (ht : (pc : Int) + off = (tgt : Int)) (kk : xW E d mi tgt lv st σ k q Q) : xW E d mi pc lv st σ k q Q := by
  intro base ad cA D l p e R s m args below meth c Qf H locs ls C hE hI hl
  exact lv_goto C.1.2.1 C.1.2.2.1 (xdec hf) ht (kk base ad cA D l p e R s m args below meth c Qf H locs ls C hE hI hl)

theorem ws_tsw {E : xEx} {d mi pc : Nat} {lv : List (Nat × Value)} {st : List Value} {σ : xMem} {k q : Nat} {Q : Option Value → xMem → Prop} {x : Int32} {dflt lo hi : Int} {offs : Array Int} {len : Nat} (hf : xft mi pc = some (.tableswitch dflt lo hi offs, len)) (tgt : Nat) (hD : (pc : Int) + dflt = (tgt : Int))
    (kd : (x.toInt < lo ∨ hi < x.toInt) → xW E d mi tgt lv st σ k q Q)
    (ki : ∀ j : Nat, x.toInt = lo + j → x.toInt ≤ hi → ∃ (off : Int) (t : Nat), offs[j]? = some off ∧ (pc : Int) + off = (t : Int) ∧ xW E d mi t lv st σ k q Q) : xW E d mi pc lv (.int x :: st) σ k q Q := by
  intro base ad cA D l p e R s m args below meth c Qf H locs ls C hE hI hl
  by_cases h : x.toInt < lo ∨ hi < x.toInt
  · exact lv_tableOut C.1.2.1 C.1.2.2.1 (xdec hf) h hD (kd h base ad cA D l p e R s m args below meth c Qf H locs ls C hE hI hl)
  · have h1 : ¬ x.toInt < lo := fun z => h (Or.inl z)
    have h2 : ¬ hi < x.toInt := fun z => h (Or.inr z)
    obtain ⟨off, t, ho, ht, kk⟩ := ki (x.toInt - lo).toNat (by omega) (by omega)
    exact lv_tableIn C.1.2.1 C.1.2.2.1 (xdec hf) h1 h2 ho ht (kk base ad cA D l p e R s m args below meth c Qf H locs ls C hE hI hl)

theorem ws_lsw {E : xEx} {d mi pc : Nat} {lv : List (Nat × Value)} {st : List Value} {σ : xMem} {k q : Nat} {Q : Option Value → xMem → Prop} {x : Int32} {dflt : Int} {ps : Array (Int × Int)} {len : Nat} {off : Int} (tgt : Nat) (hf : xft mi pc = some (.lookupswitch dflt ps, len)) (hp : (ps.toList.zip (ps.toList.drop 1)).all (fun (a, next) => a.1 < next.1) = true) (ho : Op.lookupswitch.offset ps.toList dflt x.toInt = off) (ht : (pc : Int) + off = (tgt : Int)) (kk : xW E d mi tgt lv st σ k q Q) : xW E d mi pc lv (.int x :: st) σ k q Q := by
  intro base ad cA D l p e R s m args below meth c Qf H locs ls C hE hI hl
  exact lv_lookup C.1.2.1 C.1.2.2.1 (xdec hf) hp ho ht (kk base ad cA D l p e R s m args below meth c Qf H locs ls C hE hI hl)

theorem ws_ldc {E : xEx} {d mi pc : Nat} {lv : List (Nat × Value)} {st : List Value} {σ : xMem} {k q : Nat} {Q : Option Value → xMem → Prop} {idx : Nat} {v : Int32} (hf : xft mi pc = some (.ldc idx, 2)) (hc : xk1 (xOW mi) idx = some v) (kk : xW E d mi (pc + 2) lv (.int v :: st) σ k q Q) : xW E d mi pc lv st σ k q Q := by
  intro base ad cA D l p e R s m args below meth c Qf H locs ls C hE hI hl
  obtain ⟨x, hx, rfl⟩ := Option.map_eq_some_iff.mp hc
  have hm := List.mem_of_find?_eq_some hx
  have hi : x.1 = idx := by simpa using List.find?_some hx
  have hw := xkL_ok _ (xow mi C.1.1).2 x hm
  rw [hi] at hw
  exact lv_ldc C.1.2.1 C.1.2.2.1 C.1.2.2.2.2 (C.2.1.1 _ (xwd_in hw)) (xdec hf) (kk base ad cA D l p e R s m args below meth c Qf H locs ls C hE hI hl)

theorem ws_ldcw {E : xEx} {d mi pc : Nat} {lv : List (Nat × Value)} {st : List Value} {σ : xMem} {k q : Nat} {Q : Option Value → xMem → Prop} {idx : Nat} {v : Int32} (hf : xft mi pc = some (.ldc_w idx, 3)) (hc : xk1 (xOW mi) idx = some v) (kk : xW E d mi (pc + 3) lv (.int v :: st) σ k q Q) : xW E d mi pc lv st σ k q Q := by
  intro base ad cA D l p e R s m args below meth c Qf H locs ls C hE hI hl
  obtain ⟨x, hx, rfl⟩ := Option.map_eq_some_iff.mp hc
  have hm := List.mem_of_find?_eq_some hx
  have hi : x.1 = idx := by simpa using List.find?_some hx
  have hw := xkL_ok _ (xow mi C.1.1).2 x hm
  rw [hi] at hw
  exact lv_ldcw C.1.2.1 C.1.2.2.1 C.1.2.2.2.2 (C.2.1.1 _ (xwd_in hw)) (xdec hf) (kk base ad cA D l p e R s m args below meth c Qf H locs ls C hE hI hl)

theorem ws_ldc2 {E : xEx} {d mi pc : Nat} {lv : List (Nat × Value)} {st : List Value} {σ : xMem} {k q : Nat} {Q : Option Value → xMem → Prop} {idx : Nat} {v : Int64} (hf : xft mi pc = some (.ldc2_w idx, 3)) (hc : xk2 (xOW mi) idx = some v) (kk : xW E d mi (pc + 3) lv (.long v :: st) σ k q Q) : xW E d mi pc lv st σ k q Q := by
  intro base ad cA D l p e R s m args below meth c Qf H locs ls C hE hI hl
  obtain ⟨x, hx, rfl⟩ := Option.map_eq_some_iff.mp hc
  have hm := List.mem_of_find?_eq_some hx
  have hi : x.1 = idx := by simpa using List.find?_some hx
  have hw := xqL_ok _ (xow mi C.1.1).2 x hm
  rw [hi] at hw
  exact lv_ldc2 C.1.2.1 C.1.2.2.1 C.1.2.2.2.2 (C.2.1.1 _ (xwd_in hw)) (xdec hf) (kk base ad cA D l p e R s m args below meth c Qf H locs ls C hE hI hl)

theorem xfs_at {ad : Nat → Nat} {I : Nat → Nat → Int32} {L : Nat → Nat → Int64} {o kf : Nat} {fs : List Value} {v : Value} (h : fs[kf]? = some v) : (fs.mapIdx (fun k v => xtr ad (xfv I L o k v)))[kf]? = some (xtr ad (xfv I L o kf v)) := by
  simp [List.getElem?_mapIdx, h]

theorem ws_getf {E : xEx} {d mi pc : Nat} {lv : List (Nat × Value)} {st : List Value} {S : List xSh} {I : Nat → Nat → Int32} {L : Nat → Nat → Int64} {k q : Nat} {Q : Option Value → xMem → Prop} {idx o ci kf : Nat} {fs : List Value} {v w : Value} (hf : xft mi pc = some (.getfield idx, 3)) (hc : xfd (xOW mi) idx = some (ci, kf)) (ho : S[o]? = some (.inr (.inl (ci, fs)))) (hv : fs[kf]? = some v) (hw9 : xfv I L o kf v = w) (kk : xW E d mi (pc + 3) lv (w :: st) (S, I, L) k q Q) : xW E d mi pc lv (.ref o :: st) (S, I, L) k q Q := by
  intro base ad cA D l p e R s m args below meth c Qf H locs ls C hE hI hl
  obtain ⟨x, hx, hx2⟩ := Option.map_eq_some_iff.mp hc
  have hm := List.mem_of_find?_eq_some hx
  have hi : x.1 = idx := by simpa using List.find?_some hx
  obtain ⟨⟨h7, hkN⟩, hw⟩ := xfL_ok _ (xow mi C.1.1).2 x hm
  have e1 : x.2.1 = ci := (Prod.mk.inj hx2).1
  have e2 : x.2.2.1 = kf := (Prod.mk.inj hx2).2
  rw [e1, e2, hi] at hw
  rw [e1] at h7 hkN
  rw [e2] at hkN
  subst hw9
  exact va_get (D := D) (a := ad o) (rest := st.map (xtr ad)) C.1.2.1 C.1.2.2.1 C.2.1.1 (xlI ci h7) C.1.2.2.2.2 C.2.1.2.1 hI.2.1 o (xconc_at ho) (xvw ci h7) kf hkN (C.2.1.1 _ (xwd_in hw)) (fun _ h => h) (xfs_at hv) (xdec hf) (kk base ad cA D l p e R s m args below meth c Qf H locs ls C hE hI hl)
