/-! ===== the law ===== -/
theorem L_law {E : xEx} {n : Nat} {xs : Nat → Int32} {I : Nat → Nat → Int32} {L : Nat → Nat → Int64} (hE : xEok E) (he : E 0 = some (n, xs)) (hn : n ≤ 2560) (hz : zF 0 I L) : xW E 21 144 0 [some (.ref 1000), none, none, none] [] ([], I, L) 0 0 (fun r _ => r = some (.int (nI 1))) := by
  have loop : ∀ (m i : Nat) (s : xSt) (I : Nat → Nat → Int32) (L : Nat → Nat → Int64), i + m = n + 5 → OK s → CR s I → RR s I → xW E 21 144 18 [some (.ref 1000), some (.ref 0), some (.ref 42), some (.int (nI i))] [] (xS, I, L) 63 13466 (fun r _ => r = some (.int (nI 1))) := by
    intro m
    induction m using Nat.strongRecOn with
    | ind m ih =>
    intro i s I L hm hs hC hR
    by_cases hi : i + 5 ≤ n
    · have nx : ∀ (s' : xSt) (I' : Nat → Nat → Int32) (L' : Nat → Nat → Int64), OK s' → CR s' I' → RR s' I' → xW E 21 144 971 [some (.ref 1000), some (.ref 0), some (.ref 42), some (.int (nI i))] [] (xS, I', L') 63 13466 (fun r _ => r = some (.int (nI 1))) := by
        intro s' I' L' h1 h2 h3
        refine ws_iinc_3 974 rfl rfl (ki_5 _) rfl rfl ?_
        refine ws_goto 18 rfl rfl ?_
        exact ih (m - 5) (by omega) (i + 5) s' I' L' (by omega) h1 h2 h3
      refine ws_iload_3 19 rfl rfl ?_
      refine ws_aload_0 20 rfl rfl ?_
      refine ws_xlen 21 rfl rfl 0 rfl he rfl ?_
      refine ws_iconst 22 rfl rfl kc_i5 ?_
      refine ws_isub 23 rfl rfl (pk_sub (by omega)) ?_
      refine ws_icmp_gtn 977 26 rfl rfl rfl (by omega) (by omega) (fun h9 => absurd h9 (by omega)) (fun h9 => ?_)
      refine ws_aload_0 27 rfl rfl ?_
      refine ws_iload_3 28 rfl rfl ?_
      refine ws_xaldn 29 rfl rfl 0 rfl he (by omega) (by omega) rfl ?_
      refine ws_bipush 31 rfl rfl kc_b31 ?_
      sorry
    · have hgt : nI n - nI 5 < nI i := by
        rw [i32_lt, pk_sub_toInt (by omega) (by omega), nI_toInt (by omega)]
        omega
      refine ws_iload_3 19 rfl rfl ?_
      refine ws_aload_0 20 rfl rfl ?_
      refine ws_xlen 21 rfl rfl 0 rfl he rfl ?_
      refine ws_iconst 22 rfl rfl kc_i5 ?_
      refine ws_isub 23 rfl rfl rfl ?_
      refine ws_icmp_gt 977 26 rfl rfl rfl (fun h9 => ?_) (fun h9 => absurd h9 (not_not_intro hgt))
      refine ws_iconst 978 rfl rfl kc_i1 ?_
      refine ws_zret rfl rfl (by first | exact xb_01 _ | decide) rfl (Nat.le_of_ble_eq_true rfl) ?_
      exact rfl
  refine wn_new 3 0 rfl rfl rfl rfl hz (by decide) (Nat.le_of_ble_eq_true rfl) (Nat.le_of_ble_eq_true rfl) ?_
  refine ws_dup 4 rfl rfl rfl ?_
  refine ws_invI (As := []) 7 _ _ rfl rfl rfl (i_cls hE (hz.mono (by omega))) rfl rfl rfl ?_
  rintro _ _ ⟨rfl, I1, L1, rfl, hC1, hz1⟩
  refine ws_astore_1 8 rfl rfl rfl rfl ?_
  refine wn_new 11 42 rfl rfl rfl rfl hz1 (by decide) (Nat.le_of_ble_eq_true rfl) (Nat.le_of_ble_eq_true rfl) ?_
  refine ws_dup 12 rfl rfl rfl ?_
  refine ws_invI (As := []) 15 _ _ rfl rfl rfl (i_mod hz1) rfl rfl rfl ?_
  rintro _ _ ⟨rfl, I2, rfl, hR2, hf2⟩
  refine ws_astore_2 16 rfl rfl rfl rfl ?_
  refine ws_iconst 17 rfl rfl kc_i0 ?_
  refine ws_istore_3 18 rfl rfl rfl rfl ?_
  exact loop (n + 5) 0 s00 I2 L1 (by omega) OK00 (hC1.far hf2) hR2
