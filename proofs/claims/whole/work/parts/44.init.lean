/-! ===== constructors ===== -/
/-- nothing is written from the cell o on -/
def zF (o : Nat) (I : Nat → Nat → Int32) (L : Nat → Nat → Int64) : Prop := ∀ c, o ≤ c → ∀ j, I c j = 0 ∧ L c j = 0
theorem zF.mono {o o' : Nat} {I : Nat → Nat → Int32} {L : Nat → Nat → Int64} (h : zF o I L) (ho : o ≤ o') : zF o' I L := fun c hc => h c (by omega)
theorem zF.w {o a j : Nat} {x : Int32} {I : Nat → Nat → Int32} {L : Nat → Nat → Int64} (h : zF o I L) (ha : a < o) : zF o (wI I a j x) L := fun c hc i => by
  rw [wI_ne (by omega)]
  exact h c hc i
section WN
variable {E : xEx} {d mi pc : Nat} {lv : xLv} {st : List Value} {S : List xSh} {I : Nat → Nat → Int32} {L : Nat → Nat → Int64} {k q : Nat} {Q : Option Value → xMem → Prop}
theorem wn_newI {N : Nat} (pc' o : Nat) (hf : xft mi pc = some (.newarray .int, 2)) (hp : pc + 2 = pc') (_h0 : True = True) (hN : N < 100000) (ho : S.length = o) (hz : zF o I L) (h1 : o < 1000) (hk : k + 1 ≤ xBC mi) (hq : q + N ≤ xBS mi) (kk : xW E d mi pc' lv (.ref o :: st) (S ++ [.inl (.int, N)], I, L) (k + 1) (q + N) Q) : xW E d mi pc lv (.int (nI N) :: st) (S, I, L) k q Q := by
  subst ho
  exact ws_newaI pc' N hf hp rfl hN (fun j => (hz _ (Nat.le_refl _) j).1) (fun j => (hz _ (Nat.le_refl _) j).2) h1 hk hq kk
theorem wn_newZ {N : Nat} (pc' o : Nat) (hf : xft mi pc = some (.newarray .boolean, 2)) (hp : pc + 2 = pc') (_h0 : True = True) (hN : N < 100000) (ho : S.length = o) (hz : zF o I L) (h1 : o < 1000) (hk : k + 1 ≤ xBC mi) (hq : q + N ≤ xBS mi) (kk : xW E d mi pc' lv (.ref o :: st) (S ++ [.inl (.boolean, N)], I, L) (k + 1) (q + N) Q) : xW E d mi pc lv (.int (nI N) :: st) (S, I, L) k q Q := by
  subst ho
  exact ws_newaZ pc' N hf hp rfl hN (fun j => (hz _ (Nat.le_refl _) j).1) (fun j => (hz _ (Nat.le_refl _) j).2) h1 hk hq kk
theorem wn_newL {N : Nat} (pc' o : Nat) (hf : xft mi pc = some (.newarray .long, 2)) (hp : pc + 2 = pc') (_h0 : True = True) (hN : N < 100000) (ho : S.length = o) (hz : zF o I L) (h1 : o < 1000) (hk : k + 1 ≤ xBC mi) (hq : q + N ≤ xBS mi) (kk : xW E d mi pc' lv (.ref o :: st) (S ++ [.inl (.long, N)], I, L) (k + 1) (q + N) Q) : xW E d mi pc lv (.int (nI N) :: st) (S, I, L) k q Q := by
  subst ho
  exact ws_newaL pc' N hf hp rfl hN (fun j => (hz _ (Nat.le_refl _) j).1) (fun j => (hz _ (Nat.le_refl _) j).2) h1 hk hq kk
end WN
def xN0 : xSh := .inr (.inl (5, [.null, .null, .null, .null, .null, .null, .null, .null]))
section INIT
variable {E : xEx} {I : Nat → Nat → Int32} {L : Nat → Nat → Int64}
theorem i_pad (hz : zF 2 I L) : xC E 1 4 [.ref 1] ([xN0, .inr (.inl (1, xdf 1))], I, L) (fun r t => r = none ∧ t = ([xN0, .inr (.inl (1, [.ref 2, .ref 3, .ref 4, .int 0])), .inl (.int, 40), .inl (.int, 16), .inl (.long, 40)], wI I 1 3 (nI 0), L)) := by
  refine xC.mk [some (.ref 1)] rfl ?_
  refine ws_aload_0 1 rfl rfl ?_
  refine ws_oinit 4 rfl rfl rfl (by omega) (by decide) ?_
  refine ws_aload_0 5 rfl rfl ?_
  refine ws_bipush 7 rfl rfl kc_b40 ?_
  refine wn_newI 9 2 rfl rfl rfl (by decide) rfl hz (by decide) (Nat.le_of_ble_eq_true rfl) (Nat.le_of_ble_eq_true rfl) ?_
  refine ws_putfrF 12 rfl rfl rfl rfl rfl rfl rfl rfl rfl rfl ?_
  refine ws_aload_0 13 rfl rfl ?_
  refine ws_bipush 15 rfl rfl kc_b16 ?_
  refine wn_newI 17 3 rfl rfl rfl (by decide) rfl (hz.mono (by omega)) (by decide) (Nat.le_of_ble_eq_true rfl) (Nat.le_of_ble_eq_true rfl) ?_
  refine ws_putfrF 20 rfl rfl rfl rfl rfl rfl rfl rfl rfl rfl ?_
  refine ws_aload_0 21 rfl rfl ?_
  refine ws_bipush 23 rfl rfl kc_b40 ?_
  refine wn_newL 25 4 rfl rfl rfl (by decide) rfl (hz.mono (by omega)) (by decide) (Nat.le_of_ble_eq_true rfl) (Nat.le_of_ble_eq_true rfl) ?_
  refine ws_putfrF 28 rfl rfl rfl rfl rfl rfl rfl rfl rfl rfl ?_
  refine ws_aload_0 29 rfl rfl ?_
  refine ws_iconst 30 rfl rfl kc_i0 ?_
  refine ws_putfi 33 rfl rfl rfl rfl rfl rfl rfl rfl ?_
  refine ws_vret rfl rfl rfl (Nat.le_of_ble_eq_true rfl) ?_
  exact ⟨rfl, rfl⟩
end INIT
