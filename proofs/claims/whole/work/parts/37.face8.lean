/-! ===== shop, window ===== -/
theorem tB (x j : Nat) : x / 2 ^ j % 2 = (x.testBit j).toNat := by
  rw [Nat.testBit_eq_decide_div_mod_eq]
  rcases (show x / 2 ^ j % 2 = 0 ∨ x / 2 ^ j % 2 = 1 by omega) with e | e <;> rw [e] <;> rfl
def xorK (i : Nat) : Nat := 4294967295 - 2 ^ i
theorem xorK_I : ∀ i, i < 11 → nI (2 ^ i) ^^^ (-1) = nI (xorK i) := by decide +kernel
theorem xorK_b : ∀ i, i < 11 → ∀ j, j < 11 → (xorK i).testBit j = !decide (i = j) := by decide +kernel
theorem pw_b : ∀ i, i < 11 → ∀ j, j < 11 → (2 ^ i).testBit j = decide (i = j) := by decide +kernel
/-- a shop's mark -/
def mkM (M i q : Nat) : Nat := if q = 0 then M &&& xorK i else M ||| 2 ^ i
theorem mkM_lt {M i q : Nat} (hM : M < 2048) (hi : i < 11) : mkM M i q < 2048 := by
  unfold mkM
  split
  · exact Nat.lt_of_le_of_lt Nat.and_le_left hM
  · exact Nat.or_lt_two_pow (n := 11) hM (Nat.pow_lt_pow_right (by omega) hi)
theorem mkM_b {M i q j : Nat} (hi : i < 11) (hj : j < 11) (hq : q ≤ 1) : mkM M i q / 2 ^ j % 2 = if j = i then q else M / 2 ^ j % 2 := by
  unfold mkM
  rw [tB M j]
  rcases (show q = 0 ∨ q = 1 by omega) with rfl | rfl
  · rw [if_pos rfl, tB, Nat.testBit_and, xorK_b i hi j hj]
    by_cases e : j = i
    · rw [if_pos e, e]; simp
    · rw [if_neg e]; simp [Ne.symm e]
  · rw [if_neg (by decide), tB, Nat.testBit_or, pw_b i hi j hj]
    by_cases e : j = i
    · rw [if_pos e, e]; simp
    · rw [if_neg e]; simp [Ne.symm e]
def uC (C : Nat → Nat) (i v : Nat) : Nat → Nat := fun j => if j = i then v else C j
theorem CR.sv {s : xSt} {x' : xSc} {I I' : Nat → Nat → Int32} {t' : Nat → Nat} {n' : Nat} (h : CR s I) (hs : scn 5 x' I') (hA : x'.A = s.c.A) (hF : x'.F = s.c.F) (hp : I' 1 3 = nI n' ∧ ∀ i, i < n' → I' 2 i = nI (t' i)) (hf : ∀ a, a = 13 ∨ (18 < a ∧ a < 23) ∨ (28 ≤ a ∧ a < 42) → I' a = I a) : CR (mkS x' s.i s.K t' n') I' := by
  obtain ⟨-, h2, -, h4⟩ := h
  refine ⟨hs, ?_, hp, fun n hn => ?_⟩
  · show PR (wkc x'.A x'.F) I'
    rw [hA, hF]
    exact h2.keep (fun a a1 a2 => hf a (by omega)) (by rw [hf 19 (by omega)]) (by rw [hf 19 (by omega)])
  · rw [hf 13 (by omega)]
    exact ⟨(h4 n hn).1, fun hk => ((h4 n hn).2 hk).keep (fun a a1 a2 => hf a (by omega))⟩
theorem RR.sv {s : xSt} {x' : xSc} {I I' : Nat → Nat → Int32} {t' : Nat → Nat} {n' : Nat} (h : RR s I) (hs : rsn x' I') (hA : x'.A = s.c.A) (hF : x'.F = s.c.F) (hp : I' 42 2 = nI n' ∧ ∀ i, i < n' → I' 45 i = nI (t' i)) (h11 : I' 42 11 = I 42 11) (hf : ∀ a, 59 < a → I' a = I a) : RR (mkS x' s.i s.K t' n') I' := by
  obtain ⟨-, h2, -, h4⟩ := h
  refine ⟨hs, ?_, hp, fun n hn => ?_⟩
  · show PL (wkc x'.A x'.F) I'
    rw [hA, hF]
    unfold PL LD at h2 ⊢
    rw [h11, hf 60 (by omega)]
    exact h2
  · rw [hf 61 (by omega), hf 62 (by omega)]; exact h4 n hn
theorem f_shop (x y : Int32) (q : Nat) (hq : q ≤ 1) : Fx 73 132 [.int x, .int y, .int (nI q)] := by
  intro E s hE hs
  have p1 := p_below x 11 10 (by omega) rfl
  have p2 := p_in x (nI 0) (nI 10) 0 10 rfl rfl
  have p3 := p_between y (nI 0) (nI 999) 0 999 rfl rfl
  have p4 := p_in y (nI 0) (nI 999) 0 999 rfl rfl
  have hz : nI q = 0 ∨ nI q = 1 := by rcases (show q = 0 ∨ q = 1 by omega) with rfl | rfl <;> decide
  cases hr : rg 0 10 x with
  | false =>
    rw [hr] at p1 p2
    refine ⟨(-1), s, hs, fun I L hC => ?_, fun I L hR => ?_⟩
    · refine xC.mk [some (.ref 0), some (.int x), some (.int y), some (.int (nI q)), none, none] rfl ?_
      refine ws_iload_1 1 rfl rfl ?_
      refine ws_bipush 3 rfl rfl kc_b11 ?_
      refine ws_invS2p 6 rfl rfl rfl (p1) rfl rfl rfl ?_
      refine ws_if_neb 11 9 rfl rfl rfl (fun h9 => absurd h9 (by first | decide | simp_all)) (fun h9 => ?_)
      refine ws_iconst 10 rfl rfl kc_im1 ?_
      refine ws_iret rfl rfl rfl (Nat.le_of_ble_eq_true rfl) ?_
      exact cQ.sm hC
    · refine xC.mk [some (.ref 42), some (.int x), some (.int y), some (.int (nI q)), none] rfl ?_
      refine ws_iload_1 1 rfl rfl ?_
      refine ws_iconst 2 rfl rfl kc_i0 ?_
      refine ws_bipush 4 rfl rfl kc_b10 ?_
      refine ws_invS3p 7 rfl rfl rfl (p2) rfl rfl rfl ?_
      refine ws_if_neb 12 10 rfl rfl rfl (fun h9 => absurd h9 (by first | decide | simp_all)) (fun h9 => ?_)
      refine ws_iconst 11 rfl rfl kc_im1 ?_
      refine ws_iret rfl rfl rfl (Nat.le_of_ble_eq_true rfl) ?_
      exact mQ.sm hR
  | true =>
    rw [hr] at p1 p2
    cases hy : rg 0 999 y with
    | false =>
      rw [hy] at p3 p4
      refine ⟨(-2), s, hs, fun I L hC => ?_, fun I L hR => ?_⟩
      · refine xC.mk [some (.ref 0), some (.int x), some (.int y), some (.int (nI q)), none, none] rfl ?_
        refine ws_iload_1 1 rfl rfl ?_
        refine ws_bipush 3 rfl rfl kc_b11 ?_
        refine ws_invS2p 6 rfl rfl rfl (p1) rfl rfl rfl ?_
        refine ws_if_neb 11 9 rfl rfl rfl (fun h9 => ?_) (fun h9 => absurd h9 (by first | decide | simp_all))
        refine ws_iload_2 12 rfl rfl ?_
        refine ws_iconst 13 rfl rfl kc_i0 ?_
        refine ws_sipush 16 rfl rfl kc_s999 ?_
        refine ws_invS3p 19 rfl rfl rfl (p3) rfl rfl rfl ?_
        refine ws_if_neb 25 22 rfl rfl rfl (fun h9 => absurd h9 (by first | decide | simp_all)) (fun h9 => ?_)
        refine ws_bipush 24 rfl rfl kc_bm2 ?_
        refine ws_iret rfl rfl rfl (Nat.le_of_ble_eq_true rfl) ?_
        exact cQ.sm hC
      · refine xC.mk [some (.ref 42), some (.int x), some (.int y), some (.int (nI q)), none] rfl ?_
        refine ws_iload_1 1 rfl rfl ?_
        refine ws_iconst 2 rfl rfl kc_i0 ?_
        refine ws_bipush 4 rfl rfl kc_b10 ?_
        refine ws_invS3p 7 rfl rfl rfl (p2) rfl rfl rfl ?_
        refine ws_if_neb 12 10 rfl rfl rfl (fun h9 => ?_) (fun h9 => absurd h9 (by first | decide | simp_all))
        refine ws_iload_2 13 rfl rfl ?_
        refine ws_iconst 14 rfl rfl kc_i0 ?_
        refine ws_sipush 17 rfl rfl kc_s999 ?_
        refine ws_invS3p 20 rfl rfl rfl (p4) rfl rfl rfl ?_
        refine ws_if_neb 26 23 rfl rfl rfl (fun h9 => absurd h9 (by first | decide | simp_all)) (fun h9 => ?_)
        refine ws_bipush 25 rfl rfl kc_bm2 ?_
        refine ws_iret rfl rfl rfl (Nat.le_of_ble_eq_true rfl) ?_
        exact mQ.sm hR
    | true =>
      rw [hy] at p3 p4
      obtain ⟨i, -, hi, rfl⟩ := rg_nat (a := 0) (b := 10) hr (by omega)
      obtain ⟨v, -, hv, rfl⟩ := rg_nat (a := 0) (b := 999) hy (by omega)
      have hpw : 1 * 2 ^ i < 4294967296 := by
        have : 2 ^ i ≤ 2 ^ 10 := Nat.pow_le_pow_right (by omega) (by omega)
        omega
      obtain ⟨o1, o2, o3, o4, o5, o6⟩ := hs.1
      refine ⟨(nI (s.c.C i)), mkS (mkC s.c.A s.c.F s.c.b (uC s.c.C i v) (mkM s.c.M i q)) s.i s.K s.t s.n, ⟨⟨o1, o2, o3, o4, fun j hj => ?_, mkM_lt o6 (by omega)⟩, hs.2⟩, fun I L hC => ?_, fun I L hR => ?_⟩
      · show (if j = i then v else s.c.C j) ≤ 999
        split
        · exact hv
        · exact o5 j hj
      · refine xC.mk [some (.ref 0), some (.int (nI i)), some (.int (nI v)), some (.int (nI q)), none, none] rfl ?_
        obtain ⟨h1, h2, h3, h4, h5, h6, h7, h8⟩ := hC.1
        have h6i : I 11 i = nI (s.c.C i) := h6 i (by omega)
        have h7' : wI I 11 i (nI v) 5 6 = nI s.c.M := by rw [wI_ne (by decide)]; exact h7
        have fin : ∀ (z : Option Value), xW E 20 73 84 [some (.ref 0), some (.int (nI i)), some (.int (nI v)), some (.int (nI q)), some (.int (nI (s.c.C i))), z] [.int (nI (mkM s.c.M i q)), .ref 5] (xS, wI I 11 i (nI v), L) 0 0 (cQ I (mkS (mkC s.c.A s.c.F s.c.b (uC s.c.C i v) (mkM s.c.M i q)) s.i s.K s.t s.n) (.int (nI (s.c.C i)))) := by
          intro z
          refine ws_putfi 87 rfl rfl rfl rfl rfl rfl rfl rfl ?_
          refine ws_iload_4 89 rfl rfl ?_
          refine ws_iret rfl rfl rfl (Nat.le_of_ble_eq_true rfl) ?_
          refine ⟨rfl, _, _, rfl, hC.sv ?_ rfl rfl ?_ (fun a ha => by rw [wI_ne (by omega), wI_ne (by omega)]), fun a ha => by rw [wI_ne (by omega), wI_ne (by omega)]⟩
          · have hf : ∀ a, a ≠ 5 → a ≠ 11 → wI (wI I 11 i (nI v)) 5 6 (nI (mkM s.c.M i q)) a = I a := fun a a1 a2 => by rw [wI_ne a1, wI_ne a2]
            unfold scn
            rw [hf 6 (by decide) (by decide), hf 7 (by decide) (by decide), hf 8 (by decide) (by decide), hf 9 (by decide) (by decide), hf 10 (by decide) (by decide)]
            refine ⟨h1, h2, h3, h4, h5, fun j hj => ?_, rfl, ?_⟩
            · rw [wI_ne (by decide), wI_eq]
              show _ = nI (if j = i then v else s.c.C j)
              by_cases e : j = i
              · rw [e, pk_us, if_pos rfl]
              · rw [pk_un e, if_neg e]; exact h6 j hj
            · rw [wI_eq, pk_un (by decide), wI_ne (by decide)]; exact h8
          · rw [wI_ne (by decide), wI_ne (by decide), wI_ne (by decide), wI_ne (by decide)]; exact hC.2.2.1
        rcases (show q = 0 ∨ q = 1 by omega) with rfl | rfl
        · have e : nI s.c.M &&& (nI (2 ^ i) ^^^ (-1)) = nI (mkM s.c.M i 0) := by rw [xorK_I i (by omega), kn_and]; rfl
          refine ws_iload_1 1 rfl rfl ?_
          refine ws_bipush 3 rfl rfl kc_b11 ?_
          refine ws_invS2p 6 rfl rfl rfl (p1) rfl rfl rfl ?_
          refine ws_if_neb 11 9 rfl rfl rfl (fun h9 => ?_) (fun h9 => absurd h9 (by first | decide | simp_all))
          refine ws_iload_2 12 rfl rfl ?_
          refine ws_iconst 13 rfl rfl kc_i0 ?_
          refine ws_sipush 16 rfl rfl kc_s999 ?_
          refine ws_invS3p 19 rfl rfl rfl (p3) rfl rfl rfl ?_
          refine ws_if_neb 25 22 rfl rfl rfl (fun h9 => ?_) (fun h9 => absurd h9 (by first | decide | simp_all))
          refine ws_aload_0 26 rfl rfl ?_
          refine ws_getfr 29 rfl rfl rfl rfl rfl ?_
          refine ws_getfr 32 rfl rfl rfl rfl rfl ?_
          refine ws_iload_1 33 rfl rfl ?_
          refine ws_ialdn 34 rfl rfl rfl (by omega) (by omega) h6i ?_
          refine ws_istore_4 36 rfl rfl rfl rfl ?_
          refine ws_aload_0 37 rfl rfl ?_
          refine ws_getfr 40 rfl rfl rfl rfl rfl ?_
          refine ws_getfr 43 rfl rfl rfl rfl rfl ?_
          refine ws_iload_1 44 rfl rfl ?_
          refine ws_iload_2 45 rfl rfl ?_
          refine ws_iastn 46 rfl rfl rfl (by omega) (by omega) ?_
          refine ws_iconst 47 rfl rfl kc_i1 ?_
          refine ws_iload_1 48 rfl rfl ?_
          refine ws_ishl 49 rfl rfl (kn_shl (by omega) hpw) ?_
          rw [Nat.one_mul]
          refine ws_istore_5 51 rfl rfl rfl rfl ?_
          refine ws_aload_0 52 rfl rfl ?_
          refine ws_getfr 55 rfl rfl rfl rfl rfl ?_
          refine ws_iload_3 56 rfl rfl ?_
          refine ws_if_eqn 72 59 rfl rfl rfl (by omega) (fun h9 => ?_) (fun h9 => absurd h9 (by omega))
          refine ws_aload_0 73 rfl rfl ?_
          refine ws_getfr 76 rfl rfl rfl rfl rfl ?_
          refine ws_getfi 79 rfl rfl rfl rfl rfl h7' ?_
          refine ws_iload_5 81 rfl rfl ?_
          refine ws_iconst 82 rfl rfl kc_im1 ?_
          refine ws_ixor 83 rfl rfl rfl ?_
          refine ws_iand 84 rfl rfl e ?_
          exact fin _
        · have e : nI s.c.M ||| nI (2 ^ i) = nI (mkM s.c.M i 1) := by rw [kn_or]; rfl
          refine ws_iload_1 1 rfl rfl ?_
          refine ws_bipush 3 rfl rfl kc_b11 ?_
          refine ws_invS2p 6 rfl rfl rfl (p1) rfl rfl rfl ?_
          refine ws_if_neb 11 9 rfl rfl rfl (fun h9 => ?_) (fun h9 => absurd h9 (by first | decide | simp_all))
          refine ws_iload_2 12 rfl rfl ?_
          refine ws_iconst 13 rfl rfl kc_i0 ?_
          refine ws_sipush 16 rfl rfl kc_s999 ?_
          refine ws_invS3p 19 rfl rfl rfl (p3) rfl rfl rfl ?_
          refine ws_if_neb 25 22 rfl rfl rfl (fun h9 => ?_) (fun h9 => absurd h9 (by first | decide | simp_all))
          refine ws_aload_0 26 rfl rfl ?_
          refine ws_getfr 29 rfl rfl rfl rfl rfl ?_
          refine ws_getfr 32 rfl rfl rfl rfl rfl ?_
          refine ws_iload_1 33 rfl rfl ?_
          refine ws_ialdn 34 rfl rfl rfl (by omega) (by omega) h6i ?_
          refine ws_istore_4 36 rfl rfl rfl rfl ?_
          refine ws_aload_0 37 rfl rfl ?_
          refine ws_getfr 40 rfl rfl rfl rfl rfl ?_
          refine ws_getfr 43 rfl rfl rfl rfl rfl ?_
          refine ws_iload_1 44 rfl rfl ?_
          refine ws_iload_2 45 rfl rfl ?_
          refine ws_iastn 46 rfl rfl rfl (by omega) (by omega) ?_
          refine ws_iconst 47 rfl rfl kc_i1 ?_
          refine ws_iload_1 48 rfl rfl ?_
          refine ws_ishl 49 rfl rfl (kn_shl (by omega) hpw) ?_
          rw [Nat.one_mul]
          refine ws_istore_5 51 rfl rfl rfl rfl ?_
          refine ws_aload_0 52 rfl rfl ?_
          refine ws_getfr 55 rfl rfl rfl rfl rfl ?_
          refine ws_iload_3 56 rfl rfl ?_
          refine ws_if_eqn 72 59 rfl rfl rfl (by omega) (fun h9 => absurd h9 (by omega)) (fun h9 => ?_)
          refine ws_aload_0 60 rfl rfl ?_
          refine ws_getfr 63 rfl rfl rfl rfl rfl ?_
          refine ws_getfi 66 rfl rfl rfl rfl rfl h7' ?_
          refine ws_iload_5 68 rfl rfl ?_
          refine ws_ior 69 rfl rfl e ?_
          refine ws_goto 84 rfl rfl ?_
          exact fin _
      · refine xC.mk [some (.ref 42), some (.int (nI i)), some (.int (nI v)), some (.int (nI q)), none] rfl ?_
        obtain ⟨h1, h2, h3, h4, h5, h6, h7, h8, h9'⟩ := hR.1
        have h8i : I 50 i = nI (s.c.C i) := h8 i (by omega)
        refine ws_iload_1 1 rfl rfl ?_
        refine ws_iconst 2 rfl rfl kc_i0 ?_
        refine ws_bipush 4 rfl rfl kc_b10 ?_
        refine ws_invS3p 7 rfl rfl rfl (p2) rfl rfl rfl ?_
        refine ws_if_neb 12 10 rfl rfl rfl (fun h9 => ?_) (fun h9 => absurd h9 (by first | decide | simp_all))
        refine ws_iload_2 13 rfl rfl ?_
        refine ws_iconst 14 rfl rfl kc_i0 ?_
        refine ws_sipush 17 rfl rfl kc_s999 ?_
        refine ws_invS3p 20 rfl rfl rfl (p4) rfl rfl rfl ?_
        refine ws_if_neb 26 23 rfl rfl rfl (fun h9 => ?_) (fun h9 => absurd h9 (by first | decide | simp_all))
        refine ws_aload_0 27 rfl rfl ?_
        refine ws_getfr 30 rfl rfl rfl rfl rfl ?_
        refine ws_iload_1 31 rfl rfl ?_
        refine ws_ialdn 32 rfl rfl rfl (by omega) (by omega) h8i ?_
        refine ws_istore_4 34 rfl rfl rfl rfl ?_
        refine ws_aload_0 35 rfl rfl ?_
        refine ws_getfr 38 rfl rfl rfl rfl rfl ?_
        refine ws_iload_1 39 rfl rfl ?_
        refine ws_iload_2 40 rfl rfl ?_
        refine ws_iastn 41 rfl rfl rfl (by omega) (by omega) ?_
        refine ws_aload_0 42 rfl rfl ?_
        refine ws_getfr 45 rfl rfl rfl rfl rfl ?_
        refine ws_iload_1 46 rfl rfl ?_
        refine ws_iload_3 47 rfl rfl ?_
        refine ws_zastn 48 rfl rfl rfl (by omega) (by omega) hz ?_
        refine ws_iload_4 50 rfl rfl ?_
        refine ws_iret rfl rfl rfl (Nat.le_of_ble_eq_true rfl) ?_
        refine ⟨rfl, _, _, rfl, hR.sv ?_ rfl rfl ?_ (by rw [wI_ne (by decide), wI_ne (by decide)]) (fun a ha => by rw [wI_ne (by omega), wI_ne (by omega)]), fun a ha => by rw [wI_ne (by omega), wI_ne (by omega)]⟩
        · have hf : ∀ a, a ≠ 50 → a ≠ 51 → wI (wI I 50 i (nI v)) 51 i (nI q) a = I a := fun a a1 a2 => by rw [wI_ne a2, wI_ne a1]
          unfold rsn
          rw [hf 43 (by decide) (by decide), hf 44 (by decide) (by decide), hf 46 (by decide) (by decide), hf 47 (by decide) (by decide), hf 48 (by decide) (by decide), hf 49 (by decide) (by decide), hf 42 (by decide) (by decide)]
          refine ⟨h1, h2, h3, h4, h5, h6, h7, fun j hj => ?_, fun j hj => ?_⟩
          · rw [wI_ne (by decide), wI_eq]
            show _ = nI (if j = i then v else s.c.C j)
            by_cases e : j = i
            · rw [e, pk_us, if_pos rfl]
            · rw [pk_un e, if_neg e]; exact h8 j hj
          · show _ = nI (mkM s.c.M i q / 2 ^ j % 2)
            rw [wI_eq, mkM_b (by omega) hj hq]
            by_cases e : j = i
            · rw [e, pk_us, if_pos rfl]
            · rw [pk_un e, if_neg e, wI_ne (by decide)]; exact h9' j hj
        · rw [wI_ne (by decide), wI_ne (by decide), wI_ne (by decide), wI_ne (by decide)]; exact hR.2.2.1
/-- how many stand on the first k places -/
def cnz (b : Nat → Nat) : Nat → Nat
  | 0 => 0
  | k + 1 => cnz b k + (if b k = 0 then 0 else 1)
theorem cnz_le (b : Nat → Nat) : ∀ k, cnz b k ≤ k
  | 0 => Nat.le_refl 0
  | k + 1 => by
    have := cnz_le b k
    show cnz b k + _ ≤ _
    split <;> omega
theorem pop_orN : ∀ u, u < 32 → ∀ e, e < 5 → u / 2 ^ e % 2 = 0 → pop 5 (u ||| 2 ^ e) = pop 5 u + 1 := by decide +kernel
theorem pop_11 : ∀ u, u < 32 → pop 11 u = pop 5 u := by decide +kernel
theorem tin_pop {b : Nat → Nat} : ∀ {k s : Nat}, (∀ p, p < k → b p ≤ 5) → tin b k = some s → pop 5 s = cnz b k
  | 0, s, _, h => by
    have : 0 = s := Option.some.inj h
    subst this
    rfl
  | k + 1, s, hb, h => by
    unfold tin at h
    cases hq : tin b k with
    | none => rw [hq] at h; cases h
    | some u =>
      rw [hq] at h
      have ih := tin_pop (fun p hp => hb p (by omega)) hq
      have hu := tin_lt (fun p hp => hb p (by omega)) hq
      have hk := hb k (by omega)
      simp only at h
      show _ = cnz b k + _
      split at h
      · rename_i h0
        have := Option.some.inj h
        rw [if_pos h0, ← this, ih, Nat.add_zero]
      · rename_i h0
        split at h
        · cases h
        · rename_i h1
          have := Option.some.inj h
          rw [if_neg h0, ← this, pop_orN u hu _ (by omega) (by omega), ih]
/-- the window that a text becomes -/
def wnB (t : Nat → Nat) (n : Nat) : Nat → Nat := fun p => if p < n then (if t p = 45 then 0 else t p - 96) else 0
theorem wfa_tin {t : Nat → Nat} {n : Nat} : ∀ {m i u : Nat}, i + m = n → tin (wnB t n) i = some u → wfa t m i u = none → (m = 0 ∨ n ≤ 5) ∧ (∀ p, i ≤ p → p < n → t p = 45 ∨ (97 ≤ t p ∧ t p ≤ 101)) ∧ ∃ s, tin (wnB t n) n = some s
  | 0, i, u, hi, hu, _ => by
    have : i = n := by omega
    exact ⟨Or.inl rfl, fun p h1 h2 => by omega, u, by rw [this] at hu; exact hu⟩
  | m + 1, i, u, hi, hu, h => by
    unfold wfa at h
    split at h
    · cases h
    · rename_i h5
      have hin : i < n := by omega
      have ew : wnB t n i = if t i = 45 then 0 else t i - 96 := by unfold wnB; rw [if_pos hin]
      have et : tin (wnB t n) (i + 1) = if wnB t n i = 0 then some u else if u / 2 ^ (wnB t n i - 1) % 2 = 1 then none else some (u ||| 2 ^ (wnB t n i - 1)) := by rw [tin, hu]
      split at h
      · rename_i h45
        rw [ew, if_pos h45, if_pos rfl] at et
        obtain ⟨h1, h2, h3⟩ := wfa_tin (by omega) et h
        refine ⟨Or.inr (by omega), fun p p1 p2 => ?_, h3⟩
        rcases Nat.lt_or_ge i p with q | q
        · exact h2 p (by omega) p2
        · have : p = i := by omega
          rw [this]; exact Or.inl h45
      · rename_i h45
        split at h
        · rename_i hc
          rw [ew, if_neg h45, if_neg (by omega), show t i - 96 - 1 = t i - 97 by omega, if_neg (by omega)] at et
          obtain ⟨h1, h2, h3⟩ := wfa_tin (by omega) et h
          refine ⟨Or.inr (by omega), fun p p1 p2 => ?_, h3⟩
          rcases Nat.lt_or_ge i p with q | q
          · exact h2 p (by omega) p2
          · have : p = i := by omega
            rw [this]; exact Or.inr hc.1
        · cases h
theorem wnB_ok {t : Nat → Nat} {n : Nat} (h : wfa t n 0 0 = none) : n ≤ 5 ∧ (∀ p, p < n → t p = 45 ∨ (97 ≤ t p ∧ t p ≤ 101)) ∧ (∀ p, p < 5 → wnB t n p ≤ 5) ∧ ∃ s, tin (wnB t n) 5 = some s := by
  obtain ⟨h1, h2, s, h3⟩ := wfa_tin (t := t) (n := n) (i := 0) (m := n) (by omega) rfl h
  have hn : n ≤ 5 := by omega
  have hle : ∀ p, p < 5 → wnB t n p ≤ 5 := fun p _ => by
    unfold wnB
    split
    · rename_i hp
      have := h2 p (by omega) hp
      split <;> omega
    · omega
  refine ⟨hn, fun p hp => h2 p (by omega) hp, hle, s, ?_⟩
  have up : ∀ k, n + k ≤ 5 → tin (wnB t n) (n + k) = some s := by
    intro k
    induction k with
    | zero => intro _; exact h3
    | succ k ih =>
      intro hk
      show tin (wnB t n) (n + k + 1) = some s
      rw [tin, ih (by omega)]
      have : wnB t n (n + k) = 0 := by unfold wnB; rw [if_neg (by omega)]
      simp only
      rw [if_pos this]
  have := up (5 - n) (by omega)
  rw [show n + (5 - n) = 5 by omega] at this
  exact this
