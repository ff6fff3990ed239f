/-! ===== faults of a pad ===== -/
def fo : Option Nat → Int32
  | none => -6
  | some i => nI i
/-- the fault as a window, from the sign i on, things u having stood -/
def wfa (t : Nat → Nat) : Nat → Nat → Nat → Option Nat
  | 0, _, _ => none
  | m + 1, i, u => if 5 ≤ i then some i else if t i = 45 then wfa t m (i + 1) u else if (97 ≤ t i ∧ t i ≤ 101) ∧ u / 2 ^ (t i - 97) % 2 = 0 then wfa t m (i + 1) (u ||| 2 ^ (t i - 97)) else some i
theorem and_pw : ∀ u, u < 32 → ∀ d, d < 5 → (u &&& 2 ^ d = 0 ↔ u / 2 ^ d % 2 = 0) := by decide +kernel
theorem p_below97f (c : Nat) (hc : c < 1000) (h : ¬ (97 ≤ c ∧ c ≤ 101)) : xP 1 80 [.int (nI c - nI 97), .int (nI 5)] (.int (xb false)) := by
  have h1 := p_below (nI c - nI 97) 5 4 (by omega) rfl
  rwa [show rg 0 4 (nI c - nI 97) = false from rg_no (by rw [pk_sub_toInt (by omega) (by omega)]; omega)] at h1
section FAULTW
variable {E : xEx} {T : List xSh} {I : Nat → Nat → Int32} {L : Nat → Nat → Int64} {t : Nat → Nat} {n : Nat}
theorem c_faultAsWindow (hn40 : n ≤ 40) (hc : ∀ i, i < n → t i < 128) (hn : I 1 3 = nI n) (ht : ∀ i, i < n → I 2 i = nI (t i)) : xC E 2 6 [.ref 1] (xC0 ++ T, I, L) (rV (.int (fo (wfa t n 0 0))) (xC0 ++ T, I, L)) := by
  refine xC.mk [some (.ref 1), none, none, none] rfl ?_
  have loop : ∀ (m i u : Nat) (z : Option Value), i + m = n → u < 32 → xW E 2 6 4 [some (.ref 1), some (.int (nI u)), some (.int (nI i)), z] [] (xC0 ++ T, I, L) 0 0 (rV (.int (fo (wfa t m i u))) (xC0 ++ T, I, L)) := by
    intro m
    induction m with
    | zero =>
      intro i u z hi hu
      obtain rfl : i = n := by omega
      refine ws_iload_2 5 rfl rfl ?_
      refine ws_aload_0 6 rfl rfl ?_
      refine ws_getfi 9 rfl rfl rfl rfl rfl hn ?_
      refine ws_icmp_gen 74 12 rfl rfl rfl (by omega) (by omega) (fun h9 => ?_) (fun h9 => absurd h9 (by omega))
      refine ws_bipush 76 rfl rfl kc_bm6 ?_
      refine ws_iret rfl rfl rfl (Nat.le_of_ble_eq_true rfl) ?_
      exact ⟨rfl, rfl⟩
    | succ m ih =>
      intro i u z hi hu
      have htc := ht i (by omega)
      have hcc := hc i (by omega)
      have ew : wfa t (m + 1) i u = if 5 ≤ i then some i else if t i = 45 then wfa t m (i + 1) u else if (97 ≤ t i ∧ t i ≤ 101) ∧ u / 2 ^ (t i - 97) % 2 = 0 then wfa t m (i + 1) (u ||| 2 ^ (t i - 97)) else some i := rfl
      refine ws_iload_2 5 rfl rfl ?_
      refine ws_aload_0 6 rfl rfl ?_
      refine ws_getfi 9 rfl rfl rfl rfl rfl hn ?_
      refine ws_icmp_gen 74 12 rfl rfl rfl (by omega) (by omega) (fun h9 => absurd h9 (by omega)) (fun h9 => ?_)
      refine ws_iload_2 13 rfl rfl ?_
      refine ws_iconst 14 rfl rfl kc_i5 ?_
      refine ws_icmp_ltn 19 17 rfl rfl rfl (by omega) (by omega) (fun c1 => ?_) (fun c1 => ?_)
      · rw [if_neg (by omega)] at ew
        refine ws_aload_0 20 rfl rfl ?_
        refine ws_getfr 23 rfl rfl rfl rfl rfl ?_
        refine ws_iload_2 24 rfl rfl ?_
        refine ws_ialdn 25 rfl rfl rfl (by omega) (by omega) htc ?_
        refine ws_bipush 27 rfl rfl kc_b45 ?_
        refine ws_icmp_nen 33 30 rfl rfl rfl (by omega) (by omega) (fun c2 => ?_) (fun c2 => ?_)
        · rw [if_neg c2] at ew
          by_cases c3 : 97 ≤ t i ∧ t i ≤ 101
          · have hd : t i - 97 < 5 := by omega
            obtain ⟨w1, w2⟩ := pw5 (t i - 97) hd
            have e : u / 2 ^ (t i - 97) &&& 1 = u / 2 ^ (t i - 97) % 2 := Nat.and_one_is_mod _
            have e1 : 1 * 2 ^ (t i - 97) = 2 ^ (t i - 97) := Nat.one_mul _
            refine ws_aload_0 34 rfl rfl ?_
            refine ws_getfr 37 rfl rfl rfl rfl rfl ?_
            refine ws_iload_2 38 rfl rfl ?_
            refine ws_ialdn 39 rfl rfl rfl (by omega) (by omega) htc ?_
            refine ws_bipush 41 rfl rfl kc_b97 ?_
            refine ws_isub 42 rfl rfl (pk_sub (by omega)) ?_
            refine ws_istore_3 43 rfl rfl rfl rfl ?_
            refine ws_iload_3 44 rfl rfl ?_
            refine ws_iconst 45 rfl rfl kc_i5 ?_
            refine ws_invSN2p 48 rfl rfl rfl (p_below5t _ hd) rfl rfl rfl ?_
            refine ws_if_eqb 60 51 rfl rfl rfl (fun h9 => absurd h9 (by first | decide | simp_all)) (fun h9 => ?_)
            refine ws_iload_1 52 rfl rfl ?_
            refine ws_iload_3 53 rfl rfl ?_
            refine ws_ishr 54 rfl rfl (kn_shr (by omega) (by omega)) ?_
            refine ws_iconst 55 rfl rfl kc_i1 ?_
            refine ws_iand 56 rfl rfl (kn_and _ _) ?_
            refine ws_iconst 57 rfl rfl kc_i1 ?_
            rw [e]
            refine ws_icmp_nen 62 60 rfl rfl rfl (by omega) (by omega) (fun c4 => ?_) (fun c4 => ?_)
            · rw [if_pos ⟨c3, by omega⟩] at ew
              rw [ew]
              have ho := or_lt32 u hu _ hd
              refine ws_iload_1 63 rfl rfl ?_
              refine ws_iconst 64 rfl rfl kc_i1 ?_
              refine ws_iload_3 65 rfl rfl ?_
              refine ws_ishl 66 rfl rfl (kn_shl (by omega) (by omega)) ?_
              rw [e1]
              refine ws_ior 67 rfl rfl (kn_or _ _) ?_
              refine ws_istore_1 68 rfl rfl rfl rfl ?_
              refine ws_iinc_2 71 rfl rfl (ki_1 _) rfl rfl ?_
              refine ws_goto 4 rfl rfl ?_
              exact ih (i + 1) _ _ (by omega) ho
            · rw [if_neg (fun q => by omega)] at ew
              rw [ew]
              refine ws_iload_2 61 rfl rfl ?_
              refine ws_iret rfl rfl rfl (Nat.le_of_ble_eq_true rfl) ?_
              exact ⟨rfl, rfl⟩
          · rw [if_neg (fun q => c3 q.1)] at ew
            rw [ew]
            refine ws_aload_0 34 rfl rfl ?_
            refine ws_getfr 37 rfl rfl rfl rfl rfl ?_
            refine ws_iload_2 38 rfl rfl ?_
            refine ws_ialdn 39 rfl rfl rfl (by omega) (by omega) htc ?_
            refine ws_bipush 41 rfl rfl kc_b97 ?_
            refine ws_isub 42 rfl rfl rfl ?_
            refine ws_istore_3 43 rfl rfl rfl rfl ?_
            refine ws_iload_3 44 rfl rfl ?_
            refine ws_iconst 45 rfl rfl kc_i5 ?_
            refine ws_invSN2p 48 rfl rfl rfl (p_below97f _ (by omega) c3) rfl rfl rfl ?_
            refine ws_if_eqb 60 51 rfl rfl rfl (fun h9 => ?_) (fun h9 => absurd h9 (by first | decide | simp_all))
            refine ws_iload_2 61 rfl rfl ?_
            refine ws_iret rfl rfl rfl (Nat.le_of_ble_eq_true rfl) ?_
            exact ⟨rfl, rfl⟩
        · rw [if_pos c2] at ew
          rw [ew]
          refine ws_goto 68 rfl rfl ?_
          refine ws_iinc_2 71 rfl rfl (ki_1 _) rfl rfl ?_
          refine ws_goto 4 rfl rfl ?_
          exact ih (i + 1) u _ (by omega) hu
      · rw [if_pos c1] at ew
        rw [ew]
        refine ws_iload_2 18 rfl rfl ?_
        refine ws_iret rfl rfl rfl (Nat.le_of_ble_eq_true rfl) ?_
        exact ⟨rfl, rfl⟩
  refine ws_iconst 1 rfl rfl kc_i0 ?_
  refine ws_istore_1 2 rfl rfl rfl rfl ?_
  refine ws_iconst 3 rfl rfl kc_i0 ?_
  refine ws_istore_2 4 rfl rfl rfl rfl ?_
  exact loop n 0 0 _ (by omega) (by omega)
theorem m_windowFault (hn40 : n ≤ 40) (hc : ∀ i, i < n → t i < 128) (hn : I 42 2 = nI n) (ht : ∀ i, i < n → I 45 i = nI (t i)) : xC E 2 89 [.ref 42] (xS, I, L) (rV (.int (fo (wfa t n 0 0))) (xS, I, L)) := by
  refine xC.mk [some (.ref 42), none, none, none, none] rfl ?_
  have loop : ∀ (m i u : Nat) (z z2 : Option Value), i + m = n → i ≤ 5 → u < 32 → xW E 2 89 4 [some (.ref 42), some (.int (nI u)), some (.int (nI i)), z, z2] [] (xS, I, L) 0 0 (rV (.int (fo (wfa t m i u))) (xS, I, L)) := by
    intro m
    induction m with
    | zero =>
      intro i u z z2 hi hi5 hu
      obtain rfl : i = n := by omega
      refine ws_iload_2 5 rfl rfl ?_
      refine ws_aload_0 6 rfl rfl ?_
      refine ws_getfi 9 rfl rfl rfl rfl rfl hn ?_
      refine ws_icmp_gen 87 12 rfl rfl rfl (by omega) (by omega) (fun h9 => ?_) (fun h9 => absurd h9 (by omega))
      refine ws_bipush 89 rfl rfl kc_bm6 ?_
      refine ws_iret rfl rfl rfl (Nat.le_of_ble_eq_true rfl) ?_
      exact ⟨rfl, rfl⟩
    | succ m ih =>
      intro i u z z2 hi hi5 hu
      have htc := ht i (by omega)
      have hcc := hc i (by omega)
      have ew : wfa t (m + 1) i u = if 5 ≤ i then some i else if t i = 45 then wfa t m (i + 1) u else if (97 ≤ t i ∧ t i ≤ 101) ∧ u / 2 ^ (t i - 97) % 2 = 0 then wfa t m (i + 1) (u ||| 2 ^ (t i - 97)) else some i := rfl
      have hin := p_in (nI (t i)) (nI 97) (nI 101) 97 101 (by decide) (by decide)
      by_cases c3 : 97 ≤ t i ∧ t i ≤ 101
      · rw [show rg 97 101 (nI (t i)) = true by rw [rg_nI (by omega)]; simp; omega] at hin
        have hd : t i - 97 < 5 := by omega
        obtain ⟨w1, w2⟩ := pw5 (t i - 97) hd
        have e1 : 1 * 2 ^ (t i - 97) = 2 ^ (t i - 97) := Nat.one_mul _
        refine ws_iload_2 5 rfl rfl ?_
        refine ws_aload_0 6 rfl rfl ?_
        refine ws_getfi 9 rfl rfl rfl rfl rfl hn ?_
        refine ws_icmp_gen 87 12 rfl rfl rfl (by omega) (by omega) (fun h9 => absurd h9 (by omega)) (fun h9 => ?_)
        refine ws_aload_0 13 rfl rfl ?_
        refine ws_getfr 16 rfl rfl rfl rfl rfl ?_
        refine ws_iload_2 17 rfl rfl ?_
        refine ws_ialdn 18 rfl rfl rfl (by omega) (by omega) htc ?_
        refine ws_bipush 20 rfl rfl kc_b97 ?_
        refine ws_bipush 22 rfl rfl kc_b101 ?_
        refine ws_invS3p 25 rfl rfl rfl (hin) rfl rfl rfl ?_
        refine ws_istore_3 26 rfl rfl rfl rfl ?_
        refine ws_iload_3 27 rfl rfl ?_
        refine ws_if_eqb 44 30 rfl rfl rfl (fun h9 => absurd h9 (by first | decide | simp_all)) (fun h9 => ?_)
        refine ws_iconst 31 rfl rfl kc_i1 ?_
        refine ws_aload_0 32 rfl rfl ?_
        refine ws_getfr 35 rfl rfl rfl rfl rfl ?_
        refine ws_iload_2 36 rfl rfl ?_
        refine ws_ialdn 37 rfl rfl rfl (by omega) (by omega) htc ?_
        refine ws_bipush 39 rfl rfl kc_b97 ?_
        refine ws_isub 40 rfl rfl (pk_sub (by omega)) ?_
        refine ws_ishl 41 rfl rfl (kn_shl (by omega) (by omega)) ?_
        refine ws_goto 45 rfl rfl ?_
        rw [e1]
        refine ws_istore_4 47 rfl rfl rfl rfl ?_
        refine ws_iload_2 48 rfl rfl ?_
        refine ws_iconst 49 rfl rfl kc_i5 ?_
        refine ws_icmp_eqn 74 52 rfl rfl rfl (by omega) (by omega) (fun c1 => ?_) (fun c1 => ?_)
        · rw [if_pos (by omega)] at ew
          rw [ew]
          refine ws_iload_2 75 rfl rfl ?_
          refine ws_iret rfl rfl rfl (Nat.le_of_ble_eq_true rfl) ?_
          exact ⟨rfl, rfl⟩
        · rw [if_neg (by omega), if_neg (by omega)] at ew
          have hle : u &&& 2 ^ (t i - 97) ≤ u := Nat.and_le_left
          refine ws_iload_3 53 rfl rfl ?_
          refine ws_if_neb 67 56 rfl rfl rfl (fun h9 => ?_) (fun h9 => absurd h9 (by first | decide | simp_all))
          refine ws_iload_1 68 rfl rfl ?_
          refine ws_iload_4 70 rfl rfl ?_
          refine ws_iand 71 rfl rfl (kn_and _ _) ?_
          refine ws_if_eqn 76 74 rfl rfl rfl (by omega) (fun c4 => ?_) (fun c4 => ?_)
          · rw [if_pos ⟨c3, (and_pw u hu _ hd).mp c4⟩] at ew
            rw [ew]
            have ho := or_lt32 u hu _ hd
            refine ws_iload_1 77 rfl rfl ?_
            refine ws_iload_4 79 rfl rfl ?_
            refine ws_ior 80 rfl rfl (kn_or _ _) ?_
            refine ws_istore_1 81 rfl rfl rfl rfl ?_
            refine ws_iinc_2 84 rfl rfl (ki_1 _) rfl rfl ?_
            refine ws_goto 4 rfl rfl ?_
            exact ih (i + 1) _ _ _ (by omega) (by omega) ho
          · rw [if_neg (fun q => c4 ((and_pw u hu _ hd).mpr q.2))] at ew
            rw [ew]
            refine ws_iload_2 75 rfl rfl ?_
            refine ws_iret rfl rfl rfl (Nat.le_of_ble_eq_true rfl) ?_
            exact ⟨rfl, rfl⟩
      · rw [show rg 97 101 (nI (t i)) = false by rw [rg_nI (by omega)]; simp; omega] at hin
        refine ws_iload_2 5 rfl rfl ?_
        refine ws_aload_0 6 rfl rfl ?_
        refine ws_getfi 9 rfl rfl rfl rfl rfl hn ?_
        refine ws_icmp_gen 87 12 rfl rfl rfl (by omega) (by omega) (fun h9 => absurd h9 (by omega)) (fun h9 => ?_)
        refine ws_aload_0 13 rfl rfl ?_
        refine ws_getfr 16 rfl rfl rfl rfl rfl ?_
        refine ws_iload_2 17 rfl rfl ?_
        refine ws_ialdn 18 rfl rfl rfl (by omega) (by omega) htc ?_
        refine ws_bipush 20 rfl rfl kc_b97 ?_
        refine ws_bipush 22 rfl rfl kc_b101 ?_
        refine ws_invS3p 25 rfl rfl rfl (hin) rfl rfl rfl ?_
        refine ws_istore_3 26 rfl rfl rfl rfl ?_
        refine ws_iload_3 27 rfl rfl ?_
        refine ws_if_eqb 44 30 rfl rfl rfl (fun h9 => ?_) (fun h9 => absurd h9 (by first | decide | simp_all))
        refine ws_iconst 45 rfl rfl kc_i0 ?_
        refine ws_istore_4 47 rfl rfl rfl rfl ?_
        refine ws_iload_2 48 rfl rfl ?_
        refine ws_iconst 49 rfl rfl kc_i5 ?_
        refine ws_icmp_eqn 74 52 rfl rfl rfl (by omega) (by omega) (fun c1 => ?_) (fun c1 => ?_)
        · rw [if_pos (by omega)] at ew
          rw [ew]
          refine ws_iload_2 75 rfl rfl ?_
          refine ws_iret rfl rfl rfl (Nat.le_of_ble_eq_true rfl) ?_
          exact ⟨rfl, rfl⟩
        · rw [if_neg (by omega)] at ew
          refine ws_iload_3 53 rfl rfl ?_
          refine ws_if_neb 67 56 rfl rfl rfl (fun h9 => absurd h9 (by first | decide | simp_all)) (fun h9 => ?_)
          refine ws_aload_0 57 rfl rfl ?_
          refine ws_getfr 60 rfl rfl rfl rfl rfl ?_
          refine ws_iload_2 61 rfl rfl ?_
          refine ws_ialdn 62 rfl rfl rfl (by omega) (by omega) htc ?_
          refine ws_bipush 64 rfl rfl kc_b45 ?_
          refine ws_icmp_nen 74 67 rfl rfl rfl (by omega) (by omega) (fun c2 => ?_) (fun c2 => ?_)
          · rw [if_neg c2, if_neg (fun q => c3 q.1)] at ew
            rw [ew]
            refine ws_iload_2 75 rfl rfl ?_
            refine ws_iret rfl rfl rfl (Nat.le_of_ble_eq_true rfl) ?_
            exact ⟨rfl, rfl⟩
          · rw [if_pos c2] at ew
            rw [ew]
            have e0 : u ||| 0 = u := Nat.or_zero u
            have e2 : u &&& 0 = 0 := Nat.and_zero u
            refine ws_iload_1 68 rfl rfl ?_
            refine ws_iload_4 70 rfl rfl ?_
            refine ws_iand 71 rfl rfl (kn_and _ _) ?_
            rw [e2]
            refine ws_if_eqn 76 74 rfl rfl rfl (by omega) (fun h9 => ?_) (fun h9 => absurd h9 (by omega))
            refine ws_iload_1 77 rfl rfl ?_
            refine ws_iload_4 79 rfl rfl ?_
            refine ws_ior 80 rfl rfl (kn_or _ _) ?_
            rw [e0]
            refine ws_istore_1 81 rfl rfl rfl rfl ?_
            refine ws_iinc_2 84 rfl rfl (ki_1 _) rfl rfl ?_
            refine ws_goto 4 rfl rfl ?_
            exact ih (i + 1) u _ _ (by omega) (by omega) hu
  refine ws_iconst 1 rfl rfl kc_i0 ?_
  refine ws_istore_1 2 rfl rfl rfl rfl ?_
  refine ws_iconst 3 rfl rfl kc_i0 ?_
  refine ws_istore_2 4 rfl rfl rfl rfl ?_
  exact loop n 0 0 _ _ (by omega) (by omega) (by omega)
end FAULTW
/-- the fault as a law: depths of the texts that must still come, the next one first -/
def lfa (t : Nat → Nat) (n : Nat) : Nat → Nat → List Nat → Option Nat
  | 0, _, ds => match ds with
    | [] => none
    | _ :: _ => some n
  | m + 1, i, ds => if 15 ≤ i then some i else match ds with
    | [] => some i
    | d :: r => bif jn (t i) then (if 6 ≤ d then some i else lfa t n m (i + 1) ((d + 1) :: (d + 1) :: r)) else bif al (t i) then lfa t n m (i + 1) r else some i
def irel (V : Nat → Int32) (l : List Nat) : Prop := ∀ j x, l[j]? = some x → V (l.length - 1 - j) = nI x
theorem irel_nil (V : Nat → Int32) : irel V [] := fun j x h => by simp at h
theorem irel_push {V : Nat → Int32} {l : List Nat} {x : Nat} (h : irel V l) : irel (upd V l.length (nI x)) (x :: l) := by
  intro j y hj
  cases j with
  | zero =>
    have : x = y := by simpa using hj
    rw [← this, List.length_cons, Nat.add_sub_cancel, Nat.sub_zero]
    exact pk_us
  | succ j =>
    have hj : l[j]? = some y := by simpa using hj
    have hl : j < l.length := (List.getElem?_eq_some_iff.mp hj).1
    have e : (x :: l).length - 1 - (j + 1) = l.length - 1 - j := by rw [List.length_cons]; omega
    rw [e, pk_un (by omega)]
    exact h j y hj
theorem irel_tail {V : Nat → Int32} {l : List Nat} {x : Nat} (h : irel V (x :: l)) : irel V l := by
  intro j y hj
  have hl : j < l.length := (List.getElem?_eq_some_iff.mp hj).1
  have := h (j + 1) y (by simpa using hj)
  rwa [show (x :: l).length - 1 - (j + 1) = l.length - 1 - j by rw [List.length_cons]; omega] at this
theorem irel_top {V : Nat → Int32} {l : List Nat} {x : Nat} (h : irel V (x :: l)) : V l.length = nI x := by
  have := h 0 x rfl
  rwa [List.length_cons, Nat.add_sub_cancel, Nat.sub_zero] at this
theorem irel_off {V : Nat → Int32} {l : List Nat} {k : Nat} {x : Int32} (h : irel V l) (hk : l.length ≤ k) : irel (upd V k x) l := by
  intro j y hj
  have hl : j < l.length := (List.getElem?_eq_some_iff.mp hj).1
  rw [pk_un (by omega)]
  exact h j y hj
/-- no fault as a law: it stands as one -/
theorem lfa_ok {t : Nat → Nat} {n : Nat} (hc : ∀ i, i < n → t i < 128) : ∀ (m i : Nat) (ds : List Nat), i + m = n → ds.length = due t i → lfa t n m i ds = none → (m = 0 ∨ n ≤ 15) ∧ due t n = 0 ∧ ∀ j, i ≤ j → j < n → (t j < 128 ∧ (al (t j) = true ∨ jn (t j) = true)) ∧ 0 < due t j
  | 0, i, ds, hi, hd, h => by
    obtain rfl : i = n := by omega
    refine ⟨Or.inl rfl, ?_, fun j h1 h2 => by omega⟩
    cases ds with
    | nil => exact hd.symm
    | cons d r => cases h
  | m + 1, i, ds, hi, hd, h => by
    unfold lfa at h
    by_cases h15 : 15 ≤ i
    · rw [if_pos h15] at h; cases h
    · rw [if_neg h15] at h
      cases ds with
      | nil => cases h
      | cons d r =>
        have hdi : 0 < due t i := by rw [← hd]; simp
        have hl : r.length = due t i - 1 := by rw [← hd]; simp
        have fin : ∀ ds' : List Nat, ds'.length = due t (i + 1) → (al (t i) = true ∨ jn (t i) = true) → lfa t n m (i + 1) ds' = none → (m + 1 = 0 ∨ n ≤ 15) ∧ due t n = 0 ∧ ∀ j, i ≤ j → j < n → (t j < 128 ∧ (al (t j) = true ∨ jn (t j) = true)) ∧ 0 < due t j := by
          intro ds' hd' ha h'
          obtain ⟨r1, r2, r3⟩ := lfa_ok hc m (i + 1) ds' (by omega) hd' h'
          refine ⟨Or.inr (by omega), r2, fun j h1 h2 => ?_⟩
          rcases Nat.lt_or_ge i j with q | q
          · exact r3 j q h2
          · obtain rfl : j = i := by omega
            exact ⟨⟨hc j h2, ha⟩, hdi⟩
        have ed : due t (i + 1) = (bif jn (t i) then due t i + 1 else due t i - 1) := rfl
        cases hj : jn (t i) with
        | true =>
          simp only [hj, cond_true] at h
          rw [hj] at ed
          by_cases h6 : 6 ≤ d
          · rw [if_pos h6] at h; cases h
          · rw [if_neg h6] at h
            exact fin _ (by rw [ed]; simp [hl]; omega) (Or.inr hj) h
        | false =>
          simp only [hj, cond_false] at h
          rw [hj] at ed
          cases ha : al (t i) with
          | true =>
            simp only [ha, cond_true] at h
            exact fin _ (by rw [ed]; exact hl) (Or.inl ha) h
          | false => simp [ha] at h
theorem lfa_okL {t : Nat → Nat} {n : Nat} (hc : ∀ i, i < n → t i < 128) (h : lfa t n n 0 [0] = none) : okL t n := by
  obtain ⟨h1, h2, h3⟩ := lfa_ok hc n 0 [0] (by omega) rfl h
  refine ⟨⟨?_, h2⟩, fun i hi => h3 i (Nat.zero_le i) hi⟩
  rcases h1 with rfl | h1
  · omega
  · exact h1
/-- how the reference holds the same: how many parts are wanting of each text that stands open -/
def dsT : List Nat → List Nat
  | [] => []
  | r :: rs => List.replicate (r - 1) (rs.length + 1) ++ dsT rs
def prL : List Nat → List Nat
  | [] => []
  | r :: rs => if r = 1 then prL rs else (r - 1) :: rs
def r12 (rs : List Nat) : Prop := ∀ r ∈ rs, r = 1 ∨ r = 2
theorem prL_12 : ∀ {rs : List Nat}, r12 rs → r12 (prL rs)
  | [], h => h
  | r :: rs, h => by
    have ht : r12 rs := fun x hx => h x (List.mem_cons_of_mem _ hx)
    unfold prL
    split
    · exact prL_12 ht
    · rename_i hr
      intro x hx
      rcases List.mem_cons.mp hx with rfl | hx
      · have := h r List.mem_cons_self; omega
      · exact ht x hx
theorem prL_len : ∀ rs : List Nat, (prL rs).length ≤ rs.length
  | [] => Nat.le_refl 0
  | r :: rs => by
    have := prL_len rs
    unfold prL
    split
    · rw [List.length_cons]; omega
    · simp
theorem dsT_pr : ∀ {rs : List Nat}, r12 rs → dsT rs = match prL rs with | [] => [] | r :: q => (r :: q).length :: dsT (r :: q)
  | [], _ => rfl
  | r :: rs, h => by
    have ht : r12 rs := fun x hx => h x (List.mem_cons_of_mem _ hx)
    have hr := h r List.mem_cons_self
    rcases hr with rfl | rfl
    · show List.replicate 0 _ ++ dsT rs = _
      rw [show prL (1 :: rs) = prL rs from if_pos rfl]
      exact dsT_pr ht
    · rfl
section FAULTL
variable {E : xEx} {T : List xSh} {I : Nat → Nat → Int32} {L : Nat → Nat → Int64} {t : Nat → Nat} {n : Nat}
theorem c_faultAsLaw (hn40 : n ≤ 40) (hc : ∀ i, i < n → t i < 128) (hn : I 1 3 = nI n) (ht : ∀ i, i < n → I 2 i = nI (t i)) : xC E 3 7 [.ref 1] (xC0 ++ T, I, L) (fun r u => r = some (.int (fo (lfa t n n 0 [0]))) ∧ ∃ I', u = (xC0 ++ T, I', L) ∧ ∀ a, a ≠ 3 → I' a = I a) := by
  refine xC.mk [some (.ref 1), none, none, none] rfl ?_
  have loop : ∀ (m i : Nat) (ds : List Nat) (I' : Nat → Nat → Int32) (z : Option Value), i + m = n → ds.length ≤ i + 1 → (∀ d ∈ ds, d ≤ 6) → (∀ a, a ≠ 3 → I' a = I a) → irel (I' 3) ds → xW E 3 7 11 [some (.ref 1), some (.int (nI ds.length)), some (.int (nI i)), z] [] (xC0 ++ T, I', L) 0 0 (fun r u => r = some (.int (fo (lfa t n m i ds))) ∧ ∃ I', u = (xC0 ++ T, I', L) ∧ ∀ a, a ≠ 3 → I' a = I a) := by
    intro m
    induction m with
    | zero =>
      intro i ds I' z hi hdl hd6 hf hr
      obtain rfl : i = n := by omega
      have hn' : I' 1 3 = nI i := by rw [hf 1 (by decide)]; exact hn
      cases ds with
      | nil =>
        refine ws_iload_2 12 rfl rfl ?_
        refine ws_aload_0 13 rfl rfl ?_
        refine ws_getfi 16 rfl rfl rfl rfl rfl hn' ?_
        refine ws_icmp_gen 107 19 rfl rfl rfl (by omega) (by omega) (fun h9 => ?_) (fun h9 => absurd h9 (by omega))
        refine ws_iload_1 108 rfl rfl ?_
        refine ws_if_nen 116 111 rfl rfl rfl (by omega) (fun h9 => absurd h9 (by show ¬ ¬ (0 = 0); simp)) (fun h9 => ?_)
        refine ws_bipush 113 rfl rfl kc_bm6 ?_
        refine ws_goto 120 rfl rfl ?_
        refine ws_iret rfl rfl rfl (Nat.le_of_ble_eq_true rfl) ?_
        exact ⟨rfl, I', rfl, hf⟩
      | cons d r =>
        rw [List.length_cons] at hdl ⊢
        refine ws_iload_2 12 rfl rfl ?_
        refine ws_aload_0 13 rfl rfl ?_
        refine ws_getfi 16 rfl rfl rfl rfl rfl hn' ?_
        refine ws_icmp_gen 107 19 rfl rfl rfl (by omega) (by omega) (fun h9 => ?_) (fun h9 => absurd h9 (by omega))
        refine ws_iload_1 108 rfl rfl ?_
        refine ws_if_nen 116 111 rfl rfl rfl (by omega) (fun h9 => ?_) (fun h9 => absurd h9 (by omega))
        refine ws_aload_0 117 rfl rfl ?_
        refine ws_getfi 120 rfl rfl rfl rfl rfl hn' ?_
        refine ws_iret rfl rfl rfl (Nat.le_of_ble_eq_true rfl) ?_
        exact ⟨rfl, I', rfl, hf⟩
    | succ m ih =>
      intro i ds I' z hi hdl hd6 hf hr
      have hn' : I' 1 3 = nI n := by rw [hf 1 (by decide)]; exact hn
      have htc : I' 2 i = nI (t i) := by rw [hf 2 (by decide)]; exact ht i (by omega)
      have hcc := hc i (by omega)
      refine ws_iload_2 12 rfl rfl ?_
      refine ws_aload_0 13 rfl rfl ?_
      refine ws_getfi 16 rfl rfl rfl rfl rfl hn' ?_
      refine ws_icmp_gen 107 19 rfl rfl rfl (by omega) (by omega) (fun h9 => absurd h9 (by omega)) (fun h9 => ?_)
      refine ws_iload_2 20 rfl rfl ?_
      refine ws_bipush 22 rfl rfl kc_b15 ?_
      refine ws_icmp_gen 29 25 rfl rfl rfl (by omega) (by omega) (fun c1 => ?_) (fun c1 => ?_)
      · have ew : lfa t n (m + 1) i ds = some i := by unfold lfa; rw [if_pos c1]
        rw [ew]
        refine ws_iload_2 30 rfl rfl ?_
        refine ws_iret rfl rfl rfl (Nat.le_of_ble_eq_true rfl) ?_
        exact ⟨rfl, I', rfl, hf⟩
      · cases ds with
        | nil =>
          have ew : lfa t n (m + 1) i [] = some i := by unfold lfa; rw [if_neg (by omega)]
          rw [ew]
          refine ws_iload_1 26 rfl rfl ?_
          refine ws_if_gtn 31 29 rfl rfl rfl (by omega) (fun h9 => absurd h9 (by show ¬ (0 < 0); omega)) (fun h9 => ?_)
          refine ws_iload_2 30 rfl rfl ?_
          refine ws_iret rfl rfl rfl (Nat.le_of_ble_eq_true rfl) ?_
          exact ⟨rfl, I', rfl, hf⟩
        | cons d r =>
          have ew : lfa t n (m + 1) i (d :: r) = (bif jn (t i) then (if 6 ≤ d then some i else lfa t n m (i + 1) ((d + 1) :: (d + 1) :: r)) else bif al (t i) then lfa t n m (i + 1) r else some i) := by
            rw [lfa, if_neg (by omega)]
          have hd := hd6 d List.mem_cons_self
          have htop := irel_top hr
          rw [List.length_cons] at hdl ⊢
          have e1 : r.length + 1 - 1 = r.length := Nat.add_sub_cancel ..
          have pj := p_joinsTwo (t i) (by omega)
          have ps := p_standsAlone (t i) (by omega)
          refine ws_iload_1 26 rfl rfl ?_
          refine ws_if_gtn 31 29 rfl rfl rfl (by omega) (fun h9 => ?_) (fun h9 => absurd h9 (by omega))
          refine ws_iinc_1 34 rfl rfl (ki_m1 (by omega)) rfl rfl ?_
          rw [e1]
          cases hj : jn (t i) with
          | true =>
            rw [hj] at pj ew
            refine ws_aload_0 35 rfl rfl ?_
            refine ws_getfr 38 rfl rfl rfl rfl rfl ?_
            refine ws_iload_1 39 rfl rfl ?_
            refine ws_ialdn 40 rfl rfl rfl (by omega) (by omega) htop ?_
            refine ws_istore_3 41 rfl rfl rfl rfl ?_
            refine ws_aload_0 42 rfl rfl ?_
            refine ws_getfr 45 rfl rfl rfl rfl rfl ?_
            refine ws_iload_2 46 rfl rfl ?_
            refine ws_ialdn 47 rfl rfl rfl (by omega) (by omega) htc ?_
            refine ws_invS1p 50 rfl rfl rfl (pj) rfl rfl rfl ?_
            refine ws_if_eqb 87 53 rfl rfl rfl (fun h9 => absurd h9 (by first | decide | simp_all)) (fun h9 => ?_)
            refine ws_iload_3 54 rfl rfl ?_
            refine ws_bipush 56 rfl rfl kc_b6 ?_
            refine ws_icmp_ltn 61 59 rfl rfl rfl (by omega) (by omega) (fun c2 => ?_) (fun c2 => ?_)
            · rw [cond_true, if_neg (by omega)] at ew
              rw [ew]
              have e2 : ((d + 1) :: (d + 1) :: r).length = r.length + 2 := rfl
              have nx := ih (i + 1) ((d + 1) :: (d + 1) :: r) (wI (wI I' 3 r.length (nI (d + 1))) 3 (r.length + 1) (nI (d + 1))) (some (.int (nI d))) (by omega) (by rw [e2]; omega) (fun x hx => by
                rcases List.mem_cons.mp hx with rfl | hx
                · omega
                · rcases List.mem_cons.mp hx with rfl | hx
                  · omega
                  · exact hd6 x (List.mem_cons_of_mem _ hx)) (fun a ha => by rw [wI_ne ha, wI_ne ha]; exact hf a ha) (by
                rw [wI_eq, wI_eq]
                have h1 := irel_push (x := d + 1) (irel_tail hr)
                exact irel_push h1)
              refine ws_aload_0 62 rfl rfl ?_
              refine ws_getfr 65 rfl rfl rfl rfl rfl ?_
              refine ws_iload_1 66 rfl rfl ?_
              refine ws_iload_3 67 rfl rfl ?_
              refine ws_iconst 68 rfl rfl kc_i1 ?_
              refine ws_iadd 69 rfl rfl (nI_add _ _) ?_
              refine ws_iastn 70 rfl rfl rfl (by omega) (by omega) ?_
              refine ws_aload_0 71 rfl rfl ?_
              refine ws_getfr 74 rfl rfl rfl rfl rfl ?_
              refine ws_iload_1 75 rfl rfl ?_
              refine ws_iconst 76 rfl rfl kc_i1 ?_
              refine ws_iadd 77 rfl rfl (nI_add _ _) ?_
              refine ws_iload_3 78 rfl rfl ?_
              refine ws_iconst 79 rfl rfl kc_i1 ?_
              refine ws_iadd 80 rfl rfl (nI_add _ _) ?_
              refine ws_iastn 81 rfl rfl rfl (by omega) (by omega) ?_
              refine ws_iinc_1 84 rfl rfl (by rw [show Int32.ofInt 2 = nI 2 from rfl, nI_add]) rfl rfl ?_
              refine ws_goto 101 rfl rfl ?_
              refine ws_iinc_2 104 rfl rfl (ki_1 _) rfl rfl ?_
              refine ws_goto 11 rfl rfl ?_
              exact nx
            · rw [cond_true, if_pos (by omega)] at ew
              rw [ew]
              refine ws_iload_2 60 rfl rfl ?_
              refine ws_iret rfl rfl rfl (Nat.le_of_ble_eq_true rfl) ?_
              exact ⟨rfl, I', rfl, hf⟩
          | false =>
            rw [hj] at pj ew
            rw [cond_false] at ew
            cases ha : al (t i) with
            | true =>
              rw [ha] at ps ew
              rw [cond_true] at ew
              rw [ew]
              refine ws_aload_0 35 rfl rfl ?_
              refine ws_getfr 38 rfl rfl rfl rfl rfl ?_
              refine ws_iload_1 39 rfl rfl ?_
              refine ws_ialdn 40 rfl rfl rfl (by omega) (by omega) htop ?_
              refine ws_istore_3 41 rfl rfl rfl rfl ?_
              refine ws_aload_0 42 rfl rfl ?_
              refine ws_getfr 45 rfl rfl rfl rfl rfl ?_
              refine ws_iload_2 46 rfl rfl ?_
              refine ws_ialdn 47 rfl rfl rfl (by omega) (by omega) htc ?_
              refine ws_invS1p 50 rfl rfl rfl (pj) rfl rfl rfl ?_
              refine ws_if_eqb 87 53 rfl rfl rfl (fun h9 => ?_) (fun h9 => absurd h9 (by first | decide | simp_all))
              refine ws_aload_0 88 rfl rfl ?_
              refine ws_getfr 91 rfl rfl rfl rfl rfl ?_
              refine ws_iload_2 92 rfl rfl ?_
              refine ws_ialdn 93 rfl rfl rfl (by omega) (by omega) htc ?_
              refine ws_invS1p 96 rfl rfl rfl (ps) rfl rfl rfl ?_
              refine ws_if_neb 101 99 rfl rfl rfl (fun h9 => ?_) (fun h9 => absurd h9 (by first | decide | simp_all))
              refine ws_iinc_2 104 rfl rfl (ki_1 _) rfl rfl ?_
              refine ws_goto 11 rfl rfl ?_
              exact ih (i + 1) r I' _ (by omega) (by omega) (fun x hx => hd6 x (List.mem_cons_of_mem _ hx)) hf (irel_tail hr)
            | false =>
              rw [ha] at ps ew
              rw [cond_false] at ew
              rw [ew]
              refine ws_aload_0 35 rfl rfl ?_
              refine ws_getfr 38 rfl rfl rfl rfl rfl ?_
              refine ws_iload_1 39 rfl rfl ?_
              refine ws_ialdn 40 rfl rfl rfl (by omega) (by omega) htop ?_
              refine ws_istore_3 41 rfl rfl rfl rfl ?_
              refine ws_aload_0 42 rfl rfl ?_
              refine ws_getfr 45 rfl rfl rfl rfl rfl ?_
              refine ws_iload_2 46 rfl rfl ?_
              refine ws_ialdn 47 rfl rfl rfl (by omega) (by omega) htc ?_
              refine ws_invS1p 50 rfl rfl rfl (pj) rfl rfl rfl ?_
              refine ws_if_eqb 87 53 rfl rfl rfl (fun h9 => ?_) (fun h9 => absurd h9 (by first | decide | simp_all))
              refine ws_aload_0 88 rfl rfl ?_
              refine ws_getfr 91 rfl rfl rfl rfl rfl ?_
              refine ws_iload_2 92 rfl rfl ?_
              refine ws_ialdn 93 rfl rfl rfl (by omega) (by omega) htc ?_
              refine ws_invS1p 96 rfl rfl rfl (ps) rfl rfl rfl ?_
              refine ws_if_neb 101 99 rfl rfl rfl (fun h9 => absurd h9 (by first | decide | simp_all)) (fun h9 => ?_)
              refine ws_iload_2 100 rfl rfl ?_
              refine ws_iret rfl rfl rfl (Nat.le_of_ble_eq_true rfl) ?_
              exact ⟨rfl, I', rfl, hf⟩
  refine ws_aload_0 1 rfl rfl ?_
  refine ws_getfr 4 rfl rfl rfl rfl rfl ?_
  refine ws_iconst 5 rfl rfl kc_i0 ?_
  refine ws_iconst 6 rfl rfl kc_i0 ?_
  refine ws_iastn 7 rfl rfl rfl (by omega) (by omega) ?_
  refine ws_iconst 8 rfl rfl kc_i1 ?_
  refine ws_istore_1 9 rfl rfl rfl rfl ?_
  refine ws_iconst 10 rfl rfl kc_i0 ?_
  refine ws_istore_2 11 rfl rfl rfl rfl ?_
  exact loop n 0 [0] _ _ (by omega) (by simp) (fun d hd => by simp at hd; omega) (fun a ha => wI_ne ha) (by rw [wI_eq]; exact irel_push (irel_nil _))
theorem m_lawFault (hn40 : n ≤ 40) (hc : ∀ i, i < n → t i < 128) (hn : I 42 2 = nI n) (ht : ∀ i, i < n → I 45 i = nI (t i)) : xC E 3 91 [.ref 42] (xS, I, L) (fun r u => r = some (.int (fo (lfa t n n 0 [0]))) ∧ ∃ I', u = (xS, I', L) ∧ ∀ a, a ≠ 52 → I' a = I a) := by
  refine xC.mk [some (.ref 42), none, none, none, none] rfl ?_
  -- the levels that are full now
  have pops : ∀ (i : Nat) (p3 : Int32) (v : Option Nat) (rs : List Nat) (I' : Nat → Nat → Int32), rs ≠ [] → r12 rs → rs.length ≤ 6 → (∀ a, a ≠ 52 → I' a = I a) → irel (I' 52) rs → (∀ (I2 : Nat → Nat → Int32) (z4 : Option Value), (∀ a, a ≠ 52 → I2 a = I a) → irel (I2 52) (prL rs) → xW E 3 91 139 [some (.ref 42), some (.int (nI (prL rs).length)), some (.int (nI i)), some (.int p3), z4] [] (xS, I2, L) 0 0 (fun r u => r = some (.int (fo v)) ∧ ∃ I', u = (xS, I', L) ∧ ∀ a, a ≠ 52 → I' a = I a)) → xW E 3 91 72 [some (.ref 42), some (.int (nI rs.length)), some (.int (nI i)), some (.int p3), some (.int (nI 1))] [] (xS, I', L) 0 0 (fun r u => r = some (.int (fo v)) ∧ ∃ I', u = (xS, I', L) ∧ ∀ a, a ≠ 52 → I' a = I a) := by
    intro i p3 v rs
    induction rs with
    | nil => intro I' h; exact absurd rfl h
    | cons r rs ih =>
      intro I' _ hr12 hl hf hr kk
      rw [List.length_cons] at hl ⊢
      have e1 : rs.length + 1 - 1 = rs.length := Nat.add_sub_cancel ..
      have htop := irel_top hr
      have hrr := hr12 r List.mem_cons_self
      have ht12 : r12 rs := fun x hx => hr12 x (List.mem_cons_of_mem _ hx)
      have htop2 : wI I' 52 rs.length (nI (r - 1)) 52 rs.length = nI (r - 1) := by rw [wI_eq, pk_us]
      have hf2 : ∀ a, a ≠ 52 → wI I' 52 rs.length (nI (r - 1)) a = I a := fun a ha => by rw [wI_ne ha]; exact hf a ha
      have hr2 : irel (wI I' 52 rs.length (nI (r - 1)) 52) rs := by rw [wI_eq]; exact irel_off (irel_tail hr) (Nat.le_refl _)
      refine ws_iload_4 74 rfl rfl ?_
      refine ws_if_eqn 139 77 rfl rfl rfl (by omega) (fun h9 => absurd h9 (by omega)) (fun h9 => ?_)
      refine ws_aload_0 78 rfl rfl ?_
      refine ws_getfr 81 rfl rfl rfl rfl rfl ?_
      refine ws_iload_1 82 rfl rfl ?_
      refine ws_iconst 83 rfl rfl kc_i1 ?_
      refine ws_isub 84 rfl rfl (pk_sub (by omega)) ?_
      rw [e1]
      refine ws_dup2 85 rfl rfl rfl rfl ?_
      refine ws_ialdn 86 rfl rfl rfl (by omega) (by omega) htop ?_
      refine ws_iconst 87 rfl rfl kc_i1 ?_
      refine ws_isub 88 rfl rfl (pk_sub (by omega)) ?_
      refine ws_iastn 89 rfl rfl rfl (by omega) (by omega) ?_
      refine ws_aload_0 90 rfl rfl ?_
      refine ws_getfr 93 rfl rfl rfl rfl rfl ?_
      refine ws_iload_1 94 rfl rfl ?_
      refine ws_iconst 95 rfl rfl kc_i1 ?_
      refine ws_isub 96 rfl rfl (pk_sub (by omega)) ?_
      rw [e1]
      rcases hrr with rfl | rfl
      · have ep : prL (1 :: rs) = prL rs := if_pos rfl
        rw [ep] at kk
        refine ws_ialdn 97 rfl rfl rfl (by omega) (by omega) htop2 ?_
        refine ws_if_nen 104 100 rfl rfl rfl (by omega) (fun h9 => absurd h9 (by omega)) (fun h9 => ?_)
        refine ws_iconst 101 rfl rfl kc_i1 ?_
        refine ws_goto 105 rfl rfl ?_
        refine ws_istore_4 107 rfl rfl rfl rfl ?_
        refine ws_iload_1 108 rfl rfl ?_
        refine ws_iload_4 110 rfl rfl ?_
        refine ws_if_eqn 117 113 rfl rfl rfl (by omega) (fun h9 => absurd h9 (by omega)) (fun h9 => ?_)
        refine ws_iconst 114 rfl rfl kc_i1 ?_
        refine ws_goto 118 rfl rfl ?_
        refine ws_isub 119 rfl rfl (pk_sub (by omega)) ?_
        rw [e1]
        cases rs with
        | nil =>
          refine ws_istore_1 120 rfl rfl rfl rfl ?_
          refine ws_iload_4 122 rfl rfl ?_
          refine ws_if_eqn 133 125 rfl rfl rfl (by omega) (fun h9 => absurd h9 (by omega)) (fun h9 => ?_)
          refine ws_iload_1 126 rfl rfl ?_
          refine ws_if_len 133 129 rfl rfl rfl (by omega) (fun h9 => ?_) (fun h9 => absurd h9 (by show ¬ (0 < 0); omega))
          refine ws_iconst 134 rfl rfl kc_i0 ?_
          refine ws_istore_4 136 rfl rfl rfl rfl ?_
          refine ws_goto 72 rfl rfl ?_
          refine ws_iload_4 74 rfl rfl ?_
          refine ws_if_eqn 139 77 rfl rfl rfl (by omega) (fun h9 => ?_) (fun h9 => absurd h9 (by show ¬ ¬ (0 = 0); simp))
          exact kk _ _ hf2 (irel_nil _)
        | cons r2 rs2 =>
          rw [List.length_cons] at hl ih ⊢
          refine ws_istore_1 120 rfl rfl rfl rfl ?_
          refine ws_iload_4 122 rfl rfl ?_
          refine ws_if_eqn 133 125 rfl rfl rfl (by omega) (fun h9 => absurd h9 (by omega)) (fun h9 => ?_)
          refine ws_iload_1 126 rfl rfl ?_
          refine ws_if_len 133 129 rfl rfl rfl (by omega) (fun h9 => absurd h9 (by omega)) (fun h9 => ?_)
          refine ws_iconst 130 rfl rfl kc_i1 ?_
          refine ws_goto 134 rfl rfl ?_
          refine ws_istore_4 136 rfl rfl rfl rfl ?_
          refine ws_goto 72 rfl rfl ?_
          exact ih _ (by simp) ht12 (by omega) hf2 hr2 kk
      · have ep : prL (2 :: rs) = 1 :: rs := if_neg (by omega)
        rw [ep, List.length_cons] at kk
        have e0 : rs.length + 1 - 0 = rs.length + 1 := rfl
        refine ws_ialdn 97 rfl rfl rfl (by omega) (by omega) htop2 ?_
        refine ws_if_nen 104 100 rfl rfl rfl (by omega) (fun h9 => ?_) (fun h9 => absurd h9 (by omega))
        refine ws_iconst 105 rfl rfl kc_i0 ?_
        refine ws_istore_4 107 rfl rfl rfl rfl ?_
        refine ws_iload_1 108 rfl rfl ?_
        refine ws_iload_4 110 rfl rfl ?_
        refine ws_if_eqn 117 113 rfl rfl rfl (by omega) (fun h9 => ?_) (fun h9 => absurd h9 (by omega))
        refine ws_iconst 118 rfl rfl kc_i0 ?_
        refine ws_isub 119 rfl rfl (pk_sub (by omega)) ?_
        rw [e0]
        refine ws_istore_1 120 rfl rfl rfl rfl ?_
        refine ws_iload_4 122 rfl rfl ?_
        refine ws_if_eqn 133 125 rfl rfl rfl (by omega) (fun h9 => ?_) (fun h9 => absurd h9 (by omega))
        refine ws_iconst 134 rfl rfl kc_i0 ?_
        refine ws_istore_4 136 rfl rfl rfl rfl ?_
        refine ws_goto 72 rfl rfl ?_
        refine ws_iload_4 74 rfl rfl ?_
        refine ws_if_eqn 139 77 rfl rfl rfl (by omega) (fun h9 => ?_) (fun h9 => absurd h9 (by omega))
        exact kk _ _ hf2 (by rw [wI_eq]; exact irel_push (irel_tail hr))
  have loop : ∀ (m i : Nat) (rs : List Nat) (I' : Nat → Nat → Int32) (z z2 : Option Value), i + m = n → i ≤ 15 → r12 rs → rs.length ≤ 6 → (∀ a, a ≠ 52 → I' a = I a) → irel (I' 52) rs → xW E 3 91 4 [some (.ref 42), some (.int (nI rs.length)), some (.int (nI i)), z, z2] [] (xS, I', L) 0 0 (fun r u => r = some (.int (fo (lfa t n m i (rs.length :: dsT rs)))) ∧ ∃ I', u = (xS, I', L) ∧ ∀ a, a ≠ 52 → I' a = I a) := by
    intro m
    induction m with
    | zero =>
      intro i rs I' z z2 hi hi15 hr12 hl hf hr
      obtain rfl : i = n := by omega
      have hn' : I' 42 2 = nI i := by rw [hf 42 (by decide)]; exact hn
      refine ws_iload_2 5 rfl rfl ?_
      refine ws_aload_0 6 rfl rfl ?_
      refine ws_getfi 9 rfl rfl rfl rfl rfl hn' ?_
      refine ws_icmp_gen 168 12 rfl rfl rfl (by omega) (by omega) (fun h9 => ?_) (fun h9 => absurd h9 (by omega))
      refine ws_aload_0 169 rfl rfl ?_
      refine ws_getfi 172 rfl rfl rfl rfl rfl hn' ?_
      refine ws_iret rfl rfl rfl (Nat.le_of_ble_eq_true rfl) ?_
      exact ⟨rfl, I', rfl, hf⟩
    | succ m ih =>
      intro i rs I' z z2 hi hi15 hr12 hl hf hr
      have hn' : I' 42 2 = nI n := by rw [hf 42 (by decide)]; exact hn
      have htc : I' 45 i = nI (t i) := by rw [hf 45 (by decide)]; exact ht i (by omega)
      have hcc := hc i (by omega)
      have pp := p_partsOf (t i) (by omega)
      rcases Nat.lt_or_ge i 15 with c1 | c1
      · have ew : lfa t n (m + 1) i (rs.length :: dsT rs) = (bif jn (t i) then (if 6 ≤ rs.length then some i else lfa t n m (i + 1) ((rs.length + 1) :: (rs.length + 1) :: dsT rs)) else bif al (t i) then lfa t n m (i + 1) (dsT rs) else some i) := by
          rw [lfa, if_neg (by omega)]
        cases hj : jn (t i) with
        | true =>
          rw [hj, jn_al hj] at pp
          rw [hj, cond_true] at ew
          rcases Nat.lt_or_ge rs.length 6 with c2 | c2
          · rw [if_neg (by omega)] at ew
            rw [ew]
            have nx := ih (i + 1) (2 :: rs) (wI I' 52 rs.length (nI 2)) (some (.int (nI 2))) z2 (by omega) (by omega) (fun x hx => by
              rcases List.mem_cons.mp hx with rfl | hx
              · omega
              · exact hr12 x hx) (by rw [List.length_cons]; omega) (fun a ha => by rw [wI_ne ha]; exact hf a ha) (by rw [wI_eq]; exact irel_push hr)
            refine ws_iload_2 5 rfl rfl ?_
            refine ws_aload_0 6 rfl rfl ?_
            refine ws_getfi 9 rfl rfl rfl rfl rfl hn' ?_
            refine ws_icmp_gen 168 12 rfl rfl rfl (by omega) (by omega) (fun h9 => absurd h9 (by omega)) (fun h9 => ?_)
            refine ws_aload_0 13 rfl rfl ?_
            refine ws_getfr 16 rfl rfl rfl rfl rfl ?_
            refine ws_iload_2 17 rfl rfl ?_
            refine ws_ialdn 18 rfl rfl rfl (by omega) (by omega) htc ?_
            refine ws_invS1p 21 rfl rfl rfl (pp) rfl rfl rfl ?_
            refine ws_istore_3 22 rfl rfl rfl rfl ?_
            refine ws_iload_2 23 rfl rfl ?_
            refine ws_bipush 25 rfl rfl kc_b15 ?_
            refine ws_icmp_eqn 42 28 rfl rfl rfl (by omega) (by omega) (fun h9 => absurd h9 (by omega)) (fun h9 => ?_)
            refine ws_iload_3 29 rfl rfl ?_
            refine ws_if_ltn 42 32 rfl rfl rfl (by omega) (fun h9 => absurd h9 (by omega)) (fun h9 => ?_)
            refine ws_iload_3 33 rfl rfl ?_
            refine ws_if_len 44 36 rfl rfl rfl (by omega) (fun h9 => absurd h9 (by omega)) (fun h9 => ?_)
            refine ws_iload_1 37 rfl rfl ?_
            refine ws_bipush 39 rfl rfl kc_b6 ?_
            refine ws_icmp_nen 44 42 rfl rfl rfl (by omega) (by omega) (fun h9 => ?_) (fun h9 => absurd h9 (by omega))
            refine ws_iload_3 45 rfl rfl ?_
            refine ws_if_len 61 48 rfl rfl rfl (by omega) (fun h9 => absurd h9 (by omega)) (fun h9 => ?_)
            refine ws_aload_0 49 rfl rfl ?_
            refine ws_getfr 52 rfl rfl rfl rfl rfl ?_
            refine ws_iload_1 53 rfl rfl ?_
            refine ws_iload_3 54 rfl rfl ?_
            refine ws_iastn 55 rfl rfl rfl (by omega) (by omega) ?_
            refine ws_iinc_1 58 rfl rfl (ki_1 _) rfl rfl ?_
            refine ws_goto 162 rfl rfl ?_
            refine ws_iinc_2 165 rfl rfl (ki_1 _) rfl rfl ?_
            refine ws_goto 4 rfl rfl ?_
            exact nx
          · rw [if_pos c2] at ew
            rw [ew]
            refine ws_iload_2 5 rfl rfl ?_
            refine ws_aload_0 6 rfl rfl ?_
            refine ws_getfi 9 rfl rfl rfl rfl rfl hn' ?_
            refine ws_icmp_gen 168 12 rfl rfl rfl (by omega) (by omega) (fun h9 => absurd h9 (by omega)) (fun h9 => ?_)
            refine ws_aload_0 13 rfl rfl ?_
            refine ws_getfr 16 rfl rfl rfl rfl rfl ?_
            refine ws_iload_2 17 rfl rfl ?_
            refine ws_ialdn 18 rfl rfl rfl (by omega) (by omega) htc ?_
            refine ws_invS1p 21 rfl rfl rfl (pp) rfl rfl rfl ?_
            refine ws_istore_3 22 rfl rfl rfl rfl ?_
            refine ws_iload_2 23 rfl rfl ?_
            refine ws_bipush 25 rfl rfl kc_b15 ?_
            refine ws_icmp_eqn 42 28 rfl rfl rfl (by omega) (by omega) (fun h9 => absurd h9 (by omega)) (fun h9 => ?_)
            refine ws_iload_3 29 rfl rfl ?_
            refine ws_if_ltn 42 32 rfl rfl rfl (by omega) (fun h9 => absurd h9 (by omega)) (fun h9 => ?_)
            refine ws_iload_3 33 rfl rfl ?_
            refine ws_if_len 44 36 rfl rfl rfl (by omega) (fun h9 => absurd h9 (by omega)) (fun h9 => ?_)
            refine ws_iload_1 37 rfl rfl ?_
            refine ws_bipush 39 rfl rfl kc_b6 ?_
            refine ws_icmp_nen 44 42 rfl rfl rfl (by omega) (by omega) (fun h9 => absurd h9 (by omega)) (fun h9 => ?_)
            refine ws_iload_2 43 rfl rfl ?_
            refine ws_iret rfl rfl rfl (Nat.le_of_ble_eq_true rfl) ?_
            exact ⟨rfl, I', rfl, hf⟩
        | false =>
          rw [hj, cond_false] at ew
          cases ha : al (t i) with
          | false =>
            rw [hj, ha] at pp
            rw [ha, cond_false] at ew
            rw [ew]
            refine ws_iload_2 5 rfl rfl ?_
            refine ws_aload_0 6 rfl rfl ?_
            refine ws_getfi 9 rfl rfl rfl rfl rfl hn' ?_
            refine ws_icmp_gen 168 12 rfl rfl rfl (by omega) (by omega) (fun h9 => absurd h9 (by omega)) (fun h9 => ?_)
            refine ws_aload_0 13 rfl rfl ?_
            refine ws_getfr 16 rfl rfl rfl rfl rfl ?_
            refine ws_iload_2 17 rfl rfl ?_
            refine ws_ialdn 18 rfl rfl rfl (by omega) (by omega) htc ?_
            refine ws_invS1p 21 rfl rfl rfl (pp) rfl rfl rfl ?_
            refine ws_istore_3 22 rfl rfl rfl rfl ?_
            refine ws_iload_2 23 rfl rfl ?_
            refine ws_bipush 25 rfl rfl kc_b15 ?_
            refine ws_icmp_eqn 42 28 rfl rfl rfl (by omega) (by omega) (fun h9 => absurd h9 (by omega)) (fun h9 => ?_)
            refine ws_iload_3 29 rfl rfl ?_
            refine ws_if_lt 42 32 rfl rfl rfl (fun h9 => ?_) (fun h9 => absurd h9 (by decide))
            refine ws_iload_2 43 rfl rfl ?_
            refine ws_iret rfl rfl rfl (Nat.le_of_ble_eq_true rfl) ?_
            exact ⟨rfl, I', rfl, hf⟩
          | true =>
            rw [hj, ha] at pp
            rw [ha, cond_true] at ew
            rw [ew]
            -- behind a text that is whole
            have fin : ∀ (I2 : Nat → Nat → Int32) (z3 z4 : Option Value), (∀ a, a ≠ 52 → I2 a = I a) → irel (I2 52) (prL rs) → xW E 3 91 139 [some (.ref 42), some (.int (nI (prL rs).length)), some (.int (nI i)), z3, z4] [] (xS, I2, L) 0 0 (fun r u => r = some (.int (fo (lfa t n m (i + 1) (dsT rs)))) ∧ ∃ I', u = (xS, I', L) ∧ ∀ a, a ≠ 52 → I' a = I a) := by
              intro I2 z3 z4 hf2 hr2
              have hd := dsT_pr hr12
              have hpl := prL_len rs
              have hp12 := prL_12 hr12
              have hn2 : I2 42 2 = nI n := by rw [hf2 42 (by decide)]; exact hn
              cases hp : prL rs with
              | nil =>
                rw [hp] at hd
                rw [hd, List.length_nil]
                rcases Nat.eq_zero_or_pos m with h0 | h0
                · subst h0
                  refine ws_iload_1 140 rfl rfl ?_
                  refine ws_if_nen 162 143 rfl rfl rfl (by omega) (fun h9 => absurd h9 (by omega)) (fun h9 => ?_)
                  refine ws_iload_2 144 rfl rfl ?_
                  refine ws_iconst 145 rfl rfl kc_i1 ?_
                  refine ws_iadd 146 rfl rfl (nI_add _ _) ?_
                  refine ws_aload_0 147 rfl rfl ?_
                  refine ws_getfi 150 rfl rfl rfl rfl rfl hn2 ?_
                  refine ws_icmp_nen 158 153 rfl rfl rfl (by omega) (by omega) (fun h9 => absurd h9 (by omega)) (fun h9 => ?_)
                  refine ws_bipush 155 rfl rfl kc_bm6 ?_
                  refine ws_goto 161 rfl rfl ?_
                  refine ws_iret rfl rfl rfl (Nat.le_of_ble_eq_true rfl) ?_
                  exact ⟨rfl, I2, rfl, hf2⟩
                · have el : lfa t n m (i + 1) [] = some (i + 1) := by
                    obtain ⟨m', rfl⟩ : ∃ m', m = m' + 1 := ⟨m - 1, by omega⟩
                    unfold lfa
                    split <;> rfl
                  rw [el]
                  refine ws_iload_1 140 rfl rfl ?_
                  refine ws_if_nen 162 143 rfl rfl rfl (by omega) (fun h9 => absurd h9 (by omega)) (fun h9 => ?_)
                  refine ws_iload_2 144 rfl rfl ?_
                  refine ws_iconst 145 rfl rfl kc_i1 ?_
                  refine ws_iadd 146 rfl rfl (nI_add _ _) ?_
                  refine ws_aload_0 147 rfl rfl ?_
                  refine ws_getfi 150 rfl rfl rfl rfl rfl hn2 ?_
                  refine ws_icmp_nen 158 153 rfl rfl rfl (by omega) (by omega) (fun h9 => ?_) (fun h9 => absurd h9 (by omega))
                  refine ws_iload_2 159 rfl rfl ?_
                  refine ws_iconst 160 rfl rfl kc_i1 ?_
                  refine ws_iadd 161 rfl rfl (nI_add _ _) ?_
                  refine ws_iret rfl rfl rfl (Nat.le_of_ble_eq_true rfl) ?_
                  exact ⟨rfl, I2, rfl, hf2⟩
              | cons r q =>
                rw [hp] at hd hpl hp12 hr2
                rw [hd]
                have hq : (r :: q).length = q.length + 1 := rfl
                refine ws_iload_1 140 rfl rfl ?_
                refine ws_if_nen 162 143 rfl rfl rfl (by omega) (fun h9 => ?_) (fun h9 => absurd h9 (by rw [hq]; omega))
                refine ws_iinc_2 165 rfl rfl (ki_1 _) rfl rfl ?_
                refine ws_goto 4 rfl rfl ?_
                exact ih (i + 1) (r :: q) I2 _ _ (by omega) (by omega) hp12 (by omega) hf2 hr2
            cases hrs : rs with
            | nil =>
              subst hrs
              refine ws_iload_2 5 rfl rfl ?_
              refine ws_aload_0 6 rfl rfl ?_
              refine ws_getfi 9 rfl rfl rfl rfl rfl hn' ?_
              refine ws_icmp_gen 168 12 rfl rfl rfl (by omega) (by omega) (fun h9 => absurd h9 (by omega)) (fun h9 => ?_)
              refine ws_aload_0 13 rfl rfl ?_
              refine ws_getfr 16 rfl rfl rfl rfl rfl ?_
              refine ws_iload_2 17 rfl rfl ?_
              refine ws_ialdn 18 rfl rfl rfl (by omega) (by omega) htc ?_
              refine ws_invS1p 21 rfl rfl rfl (pp) rfl rfl rfl ?_
              refine ws_istore_3 22 rfl rfl rfl rfl ?_
              refine ws_iload_2 23 rfl rfl ?_
              refine ws_bipush 25 rfl rfl kc_b15 ?_
              refine ws_icmp_eqn 42 28 rfl rfl rfl (by omega) (by omega) (fun h9 => absurd h9 (by omega)) (fun h9 => ?_)
              refine ws_iload_3 29 rfl rfl ?_
              refine ws_if_ltn 42 32 rfl rfl rfl (by omega) (fun h9 => absurd h9 (by omega)) (fun h9 => ?_)
              refine ws_iload_3 33 rfl rfl ?_
              refine ws_if_len 44 36 rfl rfl rfl (by omega) (fun h9 => ?_) (fun h9 => absurd h9 (by omega))
              refine ws_iload_3 45 rfl rfl ?_
              refine ws_if_len 61 48 rfl rfl rfl (by omega) (fun h9 => ?_) (fun h9 => absurd h9 (by omega))
              refine ws_iload_1 62 rfl rfl ?_
              refine ws_if_len 69 65 rfl rfl rfl (by omega) (fun h9 => ?_) (fun h9 => absurd h9 (by show ¬ (0 < 0); omega))
              refine ws_iconst 70 rfl rfl kc_i0 ?_
              refine ws_istore_4 72 rfl rfl rfl rfl ?_
              refine ws_iload_4 74 rfl rfl ?_
              refine ws_if_eqn 139 77 rfl rfl rfl (by omega) (fun h9 => ?_) (fun h9 => absurd h9 (by omega))
              exact fin I' _ _ hf hr
            | cons r q =>
              have hne : rs ≠ [] := by rw [hrs]; simp
              have hq : rs.length = q.length + 1 := by rw [hrs]; rfl
              rw [← hrs]
              refine ws_iload_2 5 rfl rfl ?_
              refine ws_aload_0 6 rfl rfl ?_
              refine ws_getfi 9 rfl rfl rfl rfl rfl hn' ?_
              refine ws_icmp_gen 168 12 rfl rfl rfl (by omega) (by omega) (fun h9 => absurd h9 (by omega)) (fun h9 => ?_)
              refine ws_aload_0 13 rfl rfl ?_
              refine ws_getfr 16 rfl rfl rfl rfl rfl ?_
              refine ws_iload_2 17 rfl rfl ?_
              refine ws_ialdn 18 rfl rfl rfl (by omega) (by omega) htc ?_
              refine ws_invS1p 21 rfl rfl rfl (pp) rfl rfl rfl ?_
              refine ws_istore_3 22 rfl rfl rfl rfl ?_
              refine ws_iload_2 23 rfl rfl ?_
              refine ws_bipush 25 rfl rfl kc_b15 ?_
              refine ws_icmp_eqn 42 28 rfl rfl rfl (by omega) (by omega) (fun h9 => absurd h9 (by omega)) (fun h9 => ?_)
              refine ws_iload_3 29 rfl rfl ?_
              refine ws_if_ltn 42 32 rfl rfl rfl (by omega) (fun h9 => absurd h9 (by omega)) (fun h9 => ?_)
              refine ws_iload_3 33 rfl rfl ?_
              refine ws_if_len 44 36 rfl rfl rfl (by omega) (fun h9 => ?_) (fun h9 => absurd h9 (by omega))
              refine ws_iload_3 45 rfl rfl ?_
              refine ws_if_len 61 48 rfl rfl rfl (by omega) (fun h9 => ?_) (fun h9 => absurd h9 (by omega))
              refine ws_iload_1 62 rfl rfl ?_
              refine ws_if_len 69 65 rfl rfl rfl (by omega) (fun h9 => absurd h9 (by omega)) (fun h9 => ?_)
              refine ws_iconst 66 rfl rfl kc_i1 ?_
              refine ws_goto 70 rfl rfl ?_
              refine ws_istore_4 72 rfl rfl rfl rfl ?_
              exact pops i _ _ rs I' hne hr12 hl hf hr (fun I2 z4 a b => fin I2 _ z4 a b)
      · obtain rfl : i = 15 := by omega
        have ew : lfa t n (m + 1) 15 (rs.length :: dsT rs) = some 15 := by unfold lfa; rw [if_pos (by omega)]
        rw [ew]
        refine ws_iload_2 5 rfl rfl ?_
        refine ws_aload_0 6 rfl rfl ?_
        refine ws_getfi 9 rfl rfl rfl rfl rfl hn' ?_
        refine ws_icmp_gen 168 12 rfl rfl rfl (by omega) (by omega) (fun h9 => absurd h9 (by omega)) (fun h9 => ?_)
        refine ws_aload_0 13 rfl rfl ?_
        refine ws_getfr 16 rfl rfl rfl rfl rfl ?_
        refine ws_iload_2 17 rfl rfl ?_
        refine ws_ialdn 18 rfl rfl rfl (by omega) (by omega) htc ?_
        refine ws_invS1p 21 rfl rfl rfl (pp) rfl rfl rfl ?_
        refine ws_istore_3 22 rfl rfl rfl rfl ?_
        refine ws_iload_2 23 rfl rfl ?_
        refine ws_bipush 25 rfl rfl kc_b15 ?_
        refine ws_icmp_eqn 42 28 rfl rfl rfl (by omega) (by omega) (fun h9 => ?_) (fun h9 => absurd h9 (by omega))
        refine ws_iload_2 43 rfl rfl ?_
        refine ws_iret rfl rfl rfl (Nat.le_of_ble_eq_true rfl) ?_
        exact ⟨rfl, I', rfl, hf⟩
  refine ws_iconst 1 rfl rfl kc_i0 ?_
  refine ws_istore_1 2 rfl rfl rfl rfl ?_
  refine ws_iconst 3 rfl rfl kc_i0 ?_
  refine ws_istore_2 4 rfl rfl rfl rfl ?_
  exact loop n 0 [] I _ _ (by omega) (by omega) (fun _ h => by cases h) (by simp) (fun _ _ => rfl) (irel_nil _)
end FAULTL
