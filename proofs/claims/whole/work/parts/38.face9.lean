/-! ===== window ===== -/
theorem wfa_lt {t : Nat → Nat} {r : Nat} : ∀ {m i u : Nat}, wfa t m i u = some r → i ≤ r ∧ r < i + m
  | 0, i, u, h => by cases h
  | m + 1, i, u, h => by
    unfold wfa at h
    split at h
    · have := Option.some.inj h; omega
    · split at h
      · have := wfa_lt h; omega
      · split at h
        · have := wfa_lt h; omega
        · have := Option.some.inj h; omega
theorem fo_ne {r : Nat} (h : r < 2147483648) : ¬ fo (some r) = -6 := by
  intro q
  have := congrArg Int32.toInt q
  rw [show fo (some r) = nI r from rfl, nI_toInt h, show (-6 : Int32).toInt = -6 by decide] at this
  omega
section FACE9
variable {E : xEx} {T : List xSh} {I : Nat → Nat → Int32} {L : Nat → Nat → Int64} {b t : Nat → Nat} {n S : Nat}
theorem c_standing (hb : ∀ p, p < 5 → b p ≤ 5) (hS : tin b 5 = some S) (h8 : ∀ p, p < 5 → I 8 p = rw6 (b p)) : xC E 2 29 [.ref 5] (xC0 ++ T, I, L) (rV (.int (nI S)) (xC0 ++ T, I, L)) := by
  refine xC.mk [some (.ref 5), none, none] rfl ?_
  have loop : ∀ (m k u : Nat), k + m = 5 → tin b k = some u → xW E 2 29 4 [some (.ref 5), some (.int (nI u)), some (.int (nI k))] [] (xC0 ++ T, I, L) 0 0 (rV (.int (nI S)) (xC0 ++ T, I, L)) := by
    intro m
    induction m with
    | zero =>
      intro k u hk hu
      obtain rfl : k = 5 := by omega
      rw [hS] at hu
      rw [Option.some.inj hu]
      refine ws_iload_2 5 rfl rfl ?_
      refine ws_iconst 6 rfl rfl kc_i5 ?_
      refine ws_icmp_gen 39 9 rfl rfl rfl (by omega) (by omega) (fun h9 => ?_) (fun h9 => absurd h9 (by omega))
      refine ws_iload_1 40 rfl rfl ?_
      refine ws_iret rfl rfl rfl (Nat.le_of_ble_eq_true rfl) ?_
      exact ⟨rfl, rfl⟩
    | succ m ih =>
      intro k u hk hu
      have h8k := h8 k (by omega)
      have hbk := hb k (by omega)
      have hu32 := tin_lt (fun p hp => hb p (by omega)) hu
      have et : tin b (k + 1) = if b k = 0 then some u else if u / 2 ^ (b k - 1) % 2 = 1 then none else some (u ||| 2 ^ (b k - 1)) := by rw [tin, hu]
      obtain ⟨v, hv⟩ := tin_some (b := b) (k := k + 1) (m := m) (s := S) (by rw [show k + 1 + m = 5 by omega]; exact hS)
      by_cases h0 : b k = 0
      · rw [if_pos h0] at et
        rw [rw6_0 h0] at h8k
        refine ws_iload_2 5 rfl rfl ?_
        refine ws_iconst 6 rfl rfl kc_i5 ?_
        refine ws_icmp_gen 39 9 rfl rfl rfl (by omega) (by omega) (fun h9 => absurd h9 (by omega)) (fun h9 => ?_)
        refine ws_aload_0 10 rfl rfl ?_
        refine ws_getfr 13 rfl rfl rfl rfl rfl ?_
        refine ws_iload_2 14 rfl rfl ?_
        refine ws_ialdn 15 rfl rfl rfl (by omega) (by omega) h8k ?_
        refine ws_iconst 16 rfl rfl kc_i5 ?_
        refine ws_invSN2p 19 rfl rfl rfl (p_below5f) rfl rfl rfl ?_
        refine ws_if_eqb 33 22 rfl rfl rfl (fun h9 => ?_) (fun h9 => absurd h9 (by first | decide | simp_all))
        refine ws_iinc_2 36 rfl rfl (ki_1 _) rfl rfl ?_
        refine ws_goto 4 rfl rfl ?_
        exact ih (k + 1) u (by omega) et
      · rw [if_neg h0] at et
        rw [rw6_1 h0] at h8k
        have hpw : 1 * 2 ^ (b k - 1) < 4294967296 := by
          have : 2 ^ (b k - 1) ≤ 2 ^ 4 := Nat.pow_le_pow_right (by omega) (by omega)
          omega
        by_cases h1 : u / 2 ^ (b k - 1) % 2 = 1
        · rw [if_pos h1, hv] at et; cases et
        · rw [if_neg h1] at et
          refine ws_iload_2 5 rfl rfl ?_
          refine ws_iconst 6 rfl rfl kc_i5 ?_
          refine ws_icmp_gen 39 9 rfl rfl rfl (by omega) (by omega) (fun h9 => absurd h9 (by omega)) (fun h9 => ?_)
          refine ws_aload_0 10 rfl rfl ?_
          refine ws_getfr 13 rfl rfl rfl rfl rfl ?_
          refine ws_iload_2 14 rfl rfl ?_
          refine ws_ialdn 15 rfl rfl rfl (by omega) (by omega) h8k ?_
          refine ws_iconst 16 rfl rfl kc_i5 ?_
          refine ws_invSN2p 19 rfl rfl rfl (p_below5t _ (by omega)) rfl rfl rfl ?_
          refine ws_if_eqb 33 22 rfl rfl rfl (fun h9 => absurd h9 (by first | decide | simp_all)) (fun h9 => ?_)
          refine ws_iload_1 23 rfl rfl ?_
          refine ws_iconst 24 rfl rfl kc_i1 ?_
          refine ws_aload_0 25 rfl rfl ?_
          refine ws_getfr 28 rfl rfl rfl rfl rfl ?_
          refine ws_iload_2 29 rfl rfl ?_
          refine ws_ialdn 30 rfl rfl rfl (by omega) (by omega) h8k ?_
          refine ws_ishl 31 rfl rfl (kn_shl (by omega) hpw) ?_
          rw [Nat.one_mul]
          refine ws_ior 32 rfl rfl (kn_or _ _) ?_
          refine ws_istore_1 33 rfl rfl rfl rfl ?_
          refine ws_iinc_2 36 rfl rfl (ki_1 _) rfl rfl ?_
          refine ws_goto 4 rfl rfl ?_
          exact ih (k + 1) _ (by omega) et
  refine ws_iconst 1 rfl rfl kc_i0 ?_
  refine ws_istore_1 2 rfl rfl rfl rfl ?_
  refine ws_iconst 3 rfl rfl kc_i0 ?_
  refine ws_istore_2 4 rfl rfl rfl rfl ?_
  exact loop 5 0 0 rfl rfl
theorem c_becomeWindow (hw : wfa t n 0 0 = none) (hn : I 1 3 = nI n) (ht : ∀ i, i < n → I 2 i = nI (t i)) : xC E 2 8 [.ref 1, .ref 5] (xC0 ++ T, I, L) (fun r u => r = none ∧ ∃ I', u = (xC0 ++ T, I', L) ∧ (∀ a, a ≠ 1 → a ≠ 8 → I' a = I a) ∧ I' 1 3 = nI 0 ∧ ∀ p, p < 5 → I' 8 p = rw6 (wnB t n p)) := by
  refine xC.mk [some (.ref 1), some (.ref 5), none, none] rfl ?_
  obtain ⟨hn5, hc, -, -⟩ := wnB_ok hw
  have loop : ∀ (m k : Nat) (I' : Nat → Nat → Int32) (z3 : Option Value), k + m = 5 → (∀ a, a ≠ 8 → I' a = I a) → (∀ p, p < k → I' 8 p = rw6 (wnB t n p)) → xW E 2 8 2 [some (.ref 1), some (.ref 5), some (.int (nI k)), z3] [] (xC0 ++ T, I', L) 0 0 (fun r u => r = none ∧ ∃ I', u = (xC0 ++ T, I', L) ∧ (∀ a, a ≠ 1 → a ≠ 8 → I' a = I a) ∧ I' 1 3 = nI 0 ∧ ∀ p, p < 5 → I' 8 p = rw6 (wnB t n p)) := by
    intro m
    induction m with
    | zero =>
      intro k I' z3 hk hf h8
      obtain rfl : k = 5 := by omega
      refine ws_iload_2 3 rfl rfl ?_
      refine ws_iconst 4 rfl rfl kc_i5 ?_
      refine ws_icmp_gen 56 7 rfl rfl rfl (by omega) (by omega) (fun h9 => ?_) (fun h9 => absurd h9 (by omega))
      refine ws_aload_0 57 rfl rfl ?_
      refine ws_iconst 58 rfl rfl kc_i0 ?_
      refine ws_putfi 61 rfl rfl rfl rfl rfl rfl rfl rfl ?_
      refine ws_vret rfl rfl rfl (Nat.le_of_ble_eq_true rfl) ?_
      refine ⟨rfl, _, rfl, fun a a1 a2 => by rw [wI_ne a1]; exact hf a a2, rfl, fun p hp => by rw [wI_ne (by decide)]; exact h8 p hp⟩
    | succ m ih =>
      intro k I' z3 hk hf h8
      have hn' : I' 1 3 = nI n := by rw [hf 1 (by decide)]; exact hn
      by_cases hkn : k < n
      · have htk : I' 2 k = nI (t k) := by rw [hf 2 (by decide)]; exact ht k hkn
        by_cases h45 : t k = 45
        · have ew : wnB t n k = 0 := by unfold wnB; rw [if_pos hkn, if_pos h45]
          rw [h45] at htk
          refine ws_iload_2 3 rfl rfl ?_
          refine ws_iconst 4 rfl rfl kc_i5 ?_
          refine ws_icmp_gen 56 7 rfl rfl rfl (by omega) (by omega) (fun h9 => absurd h9 (by omega)) (fun h9 => ?_)
          refine ws_iload_2 8 rfl rfl ?_
          refine ws_aload_0 9 rfl rfl ?_
          refine ws_getfi 12 rfl rfl rfl rfl rfl hn' ?_
          refine ws_icmp_gen 27 15 rfl rfl rfl (by omega) (by omega) (fun h9 => absurd h9 (by omega)) (fun h9 => ?_)
          refine ws_aload_0 16 rfl rfl ?_
          refine ws_getfr 19 rfl rfl rfl rfl rfl ?_
          refine ws_iload_2 20 rfl rfl ?_
          refine ws_ialdn 21 rfl rfl rfl (by omega) (by omega) htk ?_
          refine ws_bipush 23 rfl rfl kc_b97 ?_
          refine ws_isub 24 rfl rfl rfl ?_
          refine ws_goto 29 rfl rfl ?_
          refine ws_istore_3 30 rfl rfl rfl rfl ?_
          refine ws_aload_1 31 rfl rfl ?_
          refine ws_getfr 34 rfl rfl rfl rfl rfl ?_
          refine ws_iload_2 35 rfl rfl ?_
          refine ws_iload_3 36 rfl rfl ?_
          refine ws_iconst 37 rfl rfl kc_i5 ?_
          refine ws_invSN2p 40 rfl rfl rfl (p_below97f 45 (by omega) (by omega)) rfl rfl rfl ?_
          refine ws_if_eqb 47 43 rfl rfl rfl (fun h9 => ?_) (fun h9 => absurd h9 (by first | decide | simp_all))
          refine ws_bipush 49 rfl rfl kc_bm6 ?_
          refine ws_iastn 50 rfl rfl rfl (by omega) (by omega) ?_
          refine ws_iinc_2 53 rfl rfl (ki_1 _) rfl rfl ?_
          refine ws_goto 2 rfl rfl ?_
          exact ih (k + 1) _ _ (by omega) (fun a ha => by rw [wI_ne ha]; exact hf a ha) (fl h8 (by rw [ew]; rfl))
        · have hl := (hc k hkn).resolve_left h45
          have ew : wnB t n k = t k - 96 := by unfold wnB; rw [if_pos hkn, if_neg h45]
          refine ws_iload_2 3 rfl rfl ?_
          refine ws_iconst 4 rfl rfl kc_i5 ?_
          refine ws_icmp_gen 56 7 rfl rfl rfl (by omega) (by omega) (fun h9 => absurd h9 (by omega)) (fun h9 => ?_)
          refine ws_iload_2 8 rfl rfl ?_
          refine ws_aload_0 9 rfl rfl ?_
          refine ws_getfi 12 rfl rfl rfl rfl rfl hn' ?_
          refine ws_icmp_gen 27 15 rfl rfl rfl (by omega) (by omega) (fun h9 => absurd h9 (by omega)) (fun h9 => ?_)
          refine ws_aload_0 16 rfl rfl ?_
          refine ws_getfr 19 rfl rfl rfl rfl rfl ?_
          refine ws_iload_2 20 rfl rfl ?_
          refine ws_ialdn 21 rfl rfl rfl (by omega) (by omega) htk ?_
          refine ws_bipush 23 rfl rfl kc_b97 ?_
          refine ws_isub 24 rfl rfl (pk_sub (by omega)) ?_
          refine ws_goto 29 rfl rfl ?_
          refine ws_istore_3 30 rfl rfl rfl rfl ?_
          refine ws_aload_1 31 rfl rfl ?_
          refine ws_getfr 34 rfl rfl rfl rfl rfl ?_
          refine ws_iload_2 35 rfl rfl ?_
          refine ws_iload_3 36 rfl rfl ?_
          refine ws_iconst 37 rfl rfl kc_i5 ?_
          refine ws_invSN2p 40 rfl rfl rfl (p_below5t _ (by omega)) rfl rfl rfl ?_
          refine ws_if_eqb 47 43 rfl rfl rfl (fun h9 => absurd h9 (by first | decide | simp_all)) (fun h9 => ?_)
          refine ws_iload_3 44 rfl rfl ?_
          refine ws_goto 49 rfl rfl ?_
          refine ws_iastn 50 rfl rfl rfl (by omega) (by omega) ?_
          refine ws_iinc_2 53 rfl rfl (ki_1 _) rfl rfl ?_
          refine ws_goto 2 rfl rfl ?_
          exact ih (k + 1) _ _ (by omega) (fun a ha => by rw [wI_ne ha]; exact hf a ha) (fl h8 (by rw [ew, rw6_1 (by omega)]; rfl))
      · have ew : wnB t n k = 0 := by unfold wnB; rw [if_neg hkn]
        refine ws_iload_2 3 rfl rfl ?_
        refine ws_iconst 4 rfl rfl kc_i5 ?_
        refine ws_icmp_gen 56 7 rfl rfl rfl (by omega) (by omega) (fun h9 => absurd h9 (by omega)) (fun h9 => ?_)
        refine ws_iload_2 8 rfl rfl ?_
        refine ws_aload_0 9 rfl rfl ?_
        refine ws_getfi 12 rfl rfl rfl rfl rfl hn' ?_
        refine ws_icmp_gen 27 15 rfl rfl rfl (by omega) (by omega) (fun h9 => ?_) (fun h9 => absurd h9 (by omega))
        refine ws_bipush 29 rfl rfl kc_bm6 ?_
        refine ws_istore_3 30 rfl rfl rfl rfl ?_
        refine ws_aload_1 31 rfl rfl ?_
        refine ws_getfr 34 rfl rfl rfl rfl rfl ?_
        refine ws_iload_2 35 rfl rfl ?_
        refine ws_iload_3 36 rfl rfl ?_
        refine ws_iconst 37 rfl rfl kc_i5 ?_
        refine ws_invSN2p 40 rfl rfl rfl (p_below5f) rfl rfl rfl ?_
        refine ws_if_eqb 47 43 rfl rfl rfl (fun h9 => ?_) (fun h9 => absurd h9 (by first | decide | simp_all))
        refine ws_bipush 49 rfl rfl kc_bm6 ?_
        refine ws_iastn 50 rfl rfl rfl (by omega) (by omega) ?_
        refine ws_iinc_2 53 rfl rfl (ki_1 _) rfl rfl ?_
        refine ws_goto 2 rfl rfl ?_
        exact ih (k + 1) _ _ (by omega) (fun a ha => by rw [wI_ne ha]; exact hf a ha) (fl h8 (by rw [ew]; rfl))
  refine ws_iconst 1 rfl rfl kc_i0 ?_
  refine ws_istore_2 2 rfl rfl rfl rfl ?_
  exact loop 5 0 I _ rfl (fun _ _ => rfl) (fun _ h => by omega)
end FACE9
theorem f_window : Fx 52 93 [] := by
  intro E s hE hs
  have hn40 := hs.2.1.1
  have ht : ∀ i, i < s.n → s.t i < 128 := fun i hi => by have := hs.2.1.2 i hi; omega
  cases hw : wfa s.t s.n 0 0 with
  | some r =>
    obtain ⟨-, hr⟩ := wfa_lt hw
    have hne := fo_ne (r := r) (by omega)
    refine ⟨(-5), s, hs, fun I L hC => ?_, fun I L hR => ?_⟩
    · refine xC.mk [some (.ref 0)] rfl ?_
      have cf := c_faultAsWindow (E := E) (T := xM0) (L := L) hn40 ht hC.2.2.1.1 hC.2.2.1.2
      rw [hw] at cf
      refine ws_aload_0 1 rfl rfl ?_
      refine ws_getfr 4 rfl rfl rfl rfl rfl ?_
      refine ws_invV0p 7 rfl rfl rfl rfl (cf) rfl rfl rfl ?_
      refine ws_bipush 9 rfl rfl kc_bm6 ?_
      refine ws_icmp_eq 15 12 rfl rfl rfl (fun h9 => absurd h9 hne) (fun h9 => ?_)
      refine ws_bipush 14 rfl rfl kc_bm5 ?_
      refine ws_iret rfl rfl rfl (Nat.le_of_ble_eq_true rfl) ?_
      exact cQ.sm hC
    · refine xC.mk [some (.ref 42), none, none] rfl ?_
      have cf := m_windowFault (E := E) (L := L) hn40 ht hR.2.2.1.1 hR.2.2.1.2
      rw [hw] at cf
      have cf : xC E 2 89 [.ref 42] (xS, I, L) (rV (.int (nI r)) (xS, I, L)) := cf
      refine ws_aload_0 1 rfl rfl ?_
      refine ws_invV0p 4 rfl rfl rfl rfl (cf) rfl rfl rfl ?_
      refine ws_if_ltn 10 7 rfl rfl rfl (by omega) (fun h9 => absurd h9 (by omega)) (fun h9 => ?_)
      refine ws_bipush 9 rfl rfl kc_bm5 ?_
      refine ws_iret rfl rfl rfl (Nat.le_of_ble_eq_true rfl) ?_
      exact mQ.sm hR
  | none =>
    obtain ⟨hn5, hc, hle, S, hS⟩ := wnB_ok hw
    have hS32 := tin_lt hle hS
    obtain ⟨o1, o2, o3, o4, o5, o6⟩ := hs.1
    have hpop : pop 11 S = cnz (wnB s.t s.n) 5 := by rw [pop_11 S hS32]; exact tin_pop hle hS
    refine ⟨(nI (cnz (wnB s.t s.n) 5)), mkS (mkC s.c.A s.c.F (wnB s.t s.n) s.c.C s.c.M) s.i s.K s.t 0, ⟨⟨o1, o2, hle, ((tin_spec hle).1 S hS).2, o5, o6⟩, ⟨by show 0 ≤ 40; omega, fun i hi => absurd hi (by show ¬ i < 0; omega)⟩, hs.2.2⟩, fun I L hC => ?_, fun I L hR => ?_⟩
    · refine xC.mk [some (.ref 0)] rfl ?_
      have cf := c_faultAsWindow (E := E) (T := xM0) (L := L) hn40 ht hC.2.2.1.1 hC.2.2.1.2
      rw [hw] at cf
      obtain ⟨h1, h2, h3, h4, h5, h6, h7, h8⟩ := hC.1
      refine ws_aload_0 1 rfl rfl ?_
      refine ws_getfr 4 rfl rfl rfl rfl rfl ?_
      refine ws_invV0p 7 rfl rfl rfl rfl (cf) rfl rfl rfl ?_
      refine ws_bipush 9 rfl rfl kc_bm6 ?_
      refine ws_icmp_eq 15 12 rfl rfl rfl (fun h9 => ?_) (fun h9 => absurd h9 (not_not_intro rfl))
      refine ws_aload_0 16 rfl rfl ?_
      refine ws_getfr 19 rfl rfl rfl rfl rfl ?_
      refine ws_aload_0 20 rfl rfl ?_
      refine ws_getfr 23 rfl rfl rfl rfl rfl ?_
      refine ws_invV1 26 rfl rfl rfl rfl (c_becomeWindow (T := xM0) hw hC.2.2.1.1 hC.2.2.1.2) rfl rfl rfl ?_
      rintro _ _ ⟨rfl, I1, rfl, hf1, h13, h81⟩
      rw [← hpop]
      refine ws_aload_0 27 rfl rfl ?_
      refine ws_getfr 30 rfl rfl rfl rfl rfl ?_
      refine ws_invV0p 33 rfl rfl rfl rfl (c_standing (T := xM0) hle hS h81) rfl rfl rfl ?_
      refine ws_invS1p 36 rfl rfl rfl (p_bitCount _ (by omega)) rfl rfl rfl ?_
      refine ws_iret rfl rfl rfl (Nat.le_of_ble_eq_true rfl) ?_
      refine ⟨rfl, I1, L, rfl, hC.sv ?_ rfl rfl ⟨h13, fun i hi => absurd hi (by omega)⟩ (fun a ha => hf1 a (by omega) (by omega)), fun a ha => hf1 a (by omega) (by omega)⟩
      unfold scn
      rw [hf1 6 (by decide) (by decide), hf1 7 (by decide) (by decide), hf1 9 (by decide) (by decide), hf1 10 (by decide) (by decide), hf1 11 (by decide) (by decide), hf1 5 (by decide) (by decide)]
      exact ⟨h1, h2, h81, h4, h5, h6, h7, h8⟩
    · refine xC.mk [some (.ref 42), none, none] rfl ?_
      have cf := m_windowFault (E := E) (L := L) hn40 ht hR.2.2.1.1 hR.2.2.1.2
      rw [hw] at cf
      have loop : ∀ (m k : Nat) (I' : Nat → Nat → Int32), k + m = 5 → (∀ a, a ≠ 46 → I' a = I a) → (∀ p, p < k → I' 46 p = nI (wnB s.t s.n p)) → xW E 20 93 14 [some (.ref 42), some (.int (nI (cnz (wnB s.t s.n) k))), some (.int (nI k))] [] (xS, I', L) 0 0 (mQ I (mkS (mkC s.c.A s.c.F (wnB s.t s.n) s.c.C s.c.M) s.i s.K s.t 0) (.int (nI (cnz (wnB s.t s.n) 5)))) := by
        intro m
        induction m with
        | zero =>
          intro k I' hk hf h46
          obtain rfl : k = 5 := by omega
          refine ws_iload_2 15 rfl rfl ?_
          refine ws_iconst 16 rfl rfl kc_i5 ?_
          refine ws_icmp_gen 82 19 rfl rfl rfl (by omega) (by omega) (fun h9 => ?_) (fun h9 => absurd h9 (by omega))
          refine ws_aload_0 83 rfl rfl ?_
          refine ws_iconst 84 rfl rfl kc_i0 ?_
          refine ws_putfi 87 rfl rfl rfl rfl rfl rfl rfl rfl ?_
          refine ws_iload_1 88 rfl rfl ?_
          refine ws_iret rfl rfl rfl (Nat.le_of_ble_eq_true rfl) ?_
          refine ⟨rfl, _, _, rfl, hR.sv ?_ rfl rfl ⟨rfl, fun i hi => absurd hi (by omega)⟩ (by rw [wI_eq, pk_un (by decide), hf 42 (by decide)]) (fun a ha => by rw [wI_ne (by omega)]; exact hf a (by omega)), fun a ha => by rw [wI_ne (by omega)]; exact hf a (by omega)⟩
          obtain ⟨h1, h2, h3, h4, h5, h6, h7, h8, h9'⟩ := hR.1
          have hf2 : ∀ a, a ≠ 42 → a ≠ 46 → wI I' 42 2 (nI 0) a = I a := fun a a1 a2 => by rw [wI_ne a1]; exact hf a a2
          unfold rsn
          rw [hf2 43 (by decide) (by decide), hf2 44 (by decide) (by decide), hf2 47 (by decide) (by decide), hf2 48 (by decide) (by decide), hf2 49 (by decide) (by decide), hf2 50 (by decide) (by decide), hf2 51 (by decide) (by decide)]
          refine ⟨h1, h2, fun p hp => by rw [wI_ne (by decide)]; exact h46 p hp, h4, h5, h6, ?_, h8, h9'⟩
          rw [wI_eq, pk_un (by decide), hf 42 (by decide)]; exact h7
        | succ m ih =>
          intro k I' hk hf h46
          have hn' : I' 42 2 = nI s.n := by rw [hf 42 (by decide)]; exact hR.2.2.1.1
          have hck := cnz_le (wnB s.t s.n) k
          have ec : cnz (wnB s.t s.n) (k + 1) = cnz (wnB s.t s.n) k + (if wnB s.t s.n k = 0 then 0 else 1) := rfl
          have ih' := fun (I' : Nat → Nat → Int32) => ih (k + 1) I' (by omega)
          rw [ec] at ih'
          have g9 : ∀ x : Int32, wI I' 46 k x 46 k = x := fun x => by rw [wI_eq, pk_us]
          by_cases hkn : k < s.n
          · have htk : I' 45 k = nI (s.t k) := by rw [hf 45 (by decide)]; exact hR.2.2.1.2 k hkn
            have htl := ht k hkn
            by_cases h45 : s.t k = 45
            · have ew : wnB s.t s.n k = 0 := by unfold wnB; rw [if_pos hkn, if_pos h45]
              rw [if_pos ew] at ih'
              refine ws_iload_2 15 rfl rfl ?_
              refine ws_iconst 16 rfl rfl kc_i5 ?_
              refine ws_icmp_gen 82 19 rfl rfl rfl (by omega) (by omega) (fun h9 => absurd h9 (by omega)) (fun h9 => ?_)
              refine ws_aload_0 20 rfl rfl ?_
              refine ws_getfr 23 rfl rfl rfl rfl rfl ?_
              refine ws_iload_2 24 rfl rfl ?_
              refine ws_iload_2 25 rfl rfl ?_
              refine ws_aload_0 26 rfl rfl ?_
              refine ws_getfi 29 rfl rfl rfl rfl rfl hn' ?_
              refine ws_icmp_gen 57 32 rfl rfl rfl (by omega) (by omega) (fun h9 => absurd h9 (by omega)) (fun h9 => ?_)
              refine ws_aload_0 33 rfl rfl ?_
              refine ws_getfr 36 rfl rfl rfl rfl rfl ?_
              refine ws_iload_2 37 rfl rfl ?_
              refine ws_ialdn 38 rfl rfl rfl (by omega) (by omega) htk ?_
              refine ws_bipush 40 rfl rfl kc_b45 ?_
              refine ws_icmp_eqn 57 43 rfl rfl rfl (by omega) (by omega) (fun h9 => ?_) (fun h9 => absurd h9 (by omega))
              refine ws_iconst 58 rfl rfl kc_i0 ?_
              refine ws_iastn 59 rfl rfl rfl (by omega) (by omega) ?_
              refine ws_iload_1 60 rfl rfl ?_
              refine ws_aload_0 61 rfl rfl ?_
              refine ws_getfr 64 rfl rfl rfl rfl rfl ?_
              refine ws_iload_2 65 rfl rfl ?_
              refine ws_ialdn 66 rfl rfl rfl (by omega) (by omega) (g9 _) ?_
              refine ws_if_len 73 69 rfl rfl rfl (by omega) (fun h9 => ?_) (fun h9 => absurd h9 (by omega))
              refine ws_iconst 74 rfl rfl kc_i0 ?_
              refine ws_iadd 75 rfl rfl (nI_add _ _) ?_
              refine ws_istore_1 76 rfl rfl rfl rfl ?_
              refine ws_iinc_2 79 rfl rfl (ki_1 _) rfl rfl ?_
              refine ws_goto 14 rfl rfl ?_
              exact ih' _ (fun a ha => by rw [wI_ne ha]; exact hf a ha) (fl h46 (by rw [ew]))
            · have hl := (hc k hkn).resolve_left h45
              have ew : wnB s.t s.n k = s.t k - 97 + 1 := by unfold wnB; rw [if_pos hkn, if_neg h45]; omega
              rw [if_neg (by omega)] at ih'
              refine ws_iload_2 15 rfl rfl ?_
              refine ws_iconst 16 rfl rfl kc_i5 ?_
              refine ws_icmp_gen 82 19 rfl rfl rfl (by omega) (by omega) (fun h9 => absurd h9 (by omega)) (fun h9 => ?_)
              refine ws_aload_0 20 rfl rfl ?_
              refine ws_getfr 23 rfl rfl rfl rfl rfl ?_
              refine ws_iload_2 24 rfl rfl ?_
              refine ws_iload_2 25 rfl rfl ?_
              refine ws_aload_0 26 rfl rfl ?_
              refine ws_getfi 29 rfl rfl rfl rfl rfl hn' ?_
              refine ws_icmp_gen 57 32 rfl rfl rfl (by omega) (by omega) (fun h9 => absurd h9 (by omega)) (fun h9 => ?_)
              refine ws_aload_0 33 rfl rfl ?_
              refine ws_getfr 36 rfl rfl rfl rfl rfl ?_
              refine ws_iload_2 37 rfl rfl ?_
              refine ws_ialdn 38 rfl rfl rfl (by omega) (by omega) htk ?_
              refine ws_bipush 40 rfl rfl kc_b45 ?_
              refine ws_icmp_eqn 57 43 rfl rfl rfl (by omega) (by omega) (fun h9 => absurd h9 (by omega)) (fun h9 => ?_)
              refine ws_aload_0 44 rfl rfl ?_
              refine ws_getfr 47 rfl rfl rfl rfl rfl ?_
              refine ws_iload_2 48 rfl rfl ?_
              refine ws_ialdn 49 rfl rfl rfl (by omega) (by omega) htk ?_
              refine ws_bipush 51 rfl rfl kc_b97 ?_
              refine ws_isub 52 rfl rfl (pk_sub (by omega)) ?_
              refine ws_iconst 53 rfl rfl kc_i1 ?_
              refine ws_iadd 54 rfl rfl (nI_add _ _) ?_
              refine ws_goto 58 rfl rfl ?_
              refine ws_iastn 59 rfl rfl rfl (by omega) (by omega) ?_
              refine ws_iload_1 60 rfl rfl ?_
              refine ws_aload_0 61 rfl rfl ?_
              refine ws_getfr 64 rfl rfl rfl rfl rfl ?_
              refine ws_iload_2 65 rfl rfl ?_
              refine ws_ialdn 66 rfl rfl rfl (by omega) (by omega) (g9 _) ?_
              refine ws_if_len 73 69 rfl rfl rfl (by omega) (fun h9 => absurd h9 (by omega)) (fun h9 => ?_)
              refine ws_iconst 70 rfl rfl kc_i1 ?_
              refine ws_goto 74 rfl rfl ?_
              refine ws_iadd 75 rfl rfl (nI_add _ _) ?_
              refine ws_istore_1 76 rfl rfl rfl rfl ?_
              refine ws_iinc_2 79 rfl rfl (ki_1 _) rfl rfl ?_
              refine ws_goto 14 rfl rfl ?_
              exact ih' _ (fun a ha => by rw [wI_ne ha]; exact hf a ha) (fl h46 (by rw [ew]))
          · have ew : wnB s.t s.n k = 0 := by unfold wnB; rw [if_neg hkn]
            rw [if_pos ew] at ih'
            refine ws_iload_2 15 rfl rfl ?_
            refine ws_iconst 16 rfl rfl kc_i5 ?_
            refine ws_icmp_gen 82 19 rfl rfl rfl (by omega) (by omega) (fun h9 => absurd h9 (by omega)) (fun h9 => ?_)
            refine ws_aload_0 20 rfl rfl ?_
            refine ws_getfr 23 rfl rfl rfl rfl rfl ?_
            refine ws_iload_2 24 rfl rfl ?_
            refine ws_iload_2 25 rfl rfl ?_
            refine ws_aload_0 26 rfl rfl ?_
            refine ws_getfi 29 rfl rfl rfl rfl rfl hn' ?_
            refine ws_icmp_gen 57 32 rfl rfl rfl (by omega) (by omega) (fun h9 => ?_) (fun h9 => absurd h9 (by omega))
            refine ws_iconst 58 rfl rfl kc_i0 ?_
            refine ws_iastn 59 rfl rfl rfl (by omega) (by omega) ?_
            refine ws_iload_1 60 rfl rfl ?_
            refine ws_aload_0 61 rfl rfl ?_
            refine ws_getfr 64 rfl rfl rfl rfl rfl ?_
            refine ws_iload_2 65 rfl rfl ?_
            refine ws_ialdn 66 rfl rfl rfl (by omega) (by omega) (g9 _) ?_
            refine ws_if_len 73 69 rfl rfl rfl (by omega) (fun h9 => ?_) (fun h9 => absurd h9 (by omega))
            refine ws_iconst 74 rfl rfl kc_i0 ?_
            refine ws_iadd 75 rfl rfl (nI_add _ _) ?_
            refine ws_istore_1 76 rfl rfl rfl rfl ?_
            refine ws_iinc_2 79 rfl rfl (ki_1 _) rfl rfl ?_
            refine ws_goto 14 rfl rfl ?_
            exact ih' _ (fun a ha => by rw [wI_ne ha]; exact hf a ha) (fl h46 (by rw [ew]))
      refine ws_aload_0 1 rfl rfl ?_
      refine ws_invV0p 4 rfl rfl rfl rfl (cf) rfl rfl rfl ?_
      refine ws_if_lt 10 7 rfl rfl rfl (fun h9 => ?_) (fun h9 => absurd h9 (by decide))
      refine ws_iconst 11 rfl rfl kc_i0 ?_
      refine ws_istore_1 12 rfl rfl rfl rfl ?_
      refine ws_iconst 13 rfl rfl kc_i0 ?_
      refine ws_istore_2 14 rfl rfl rfl rfl ?_
      exact loop 5 0 I rfl (fun _ _ => rfl) (fun _ h => by omega)
