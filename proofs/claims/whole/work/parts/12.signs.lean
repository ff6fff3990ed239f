/-! ===== signs, counts of bits, digits ===== -/
def jn (c : Nat) : Bool := decide (c = 43) || (decide (c = 45) || (decide (c = 42) || decide (c = 109)))
def al (c : Nat) : Bool := (decide (48 ≤ c) && decide (c ≤ 57)) || (decide (c = 115) || (decide (c = 119) || decide (c = 104)))
theorem jn_al {c : Nat} (h : jn c = true) : al c = false := by
  simp only [jn, al, Bool.or_eq_true, decide_eq_true_eq] at h ⊢
  rcases h with rfl | rfl | rfl | rfl <;> decide
theorem p_joinsTwo (c : Nat) (hc : c < 1000) : xP 1 11 [.int (nI c)] (.int (xb (jn c))) := by
  intro E σ
  refine xC.mk [some (.int (nI c))] rfl ?_
  refine ws_iload_0 1 rfl rfl ?_
  refine ws_bipush 3 rfl rfl kc_b43 ?_
  refine ws_icmp_eqn 24 6 rfl rfl rfl (by omega) (by omega) (fun h3 => ?_) (fun h3 => ?_)
  · refine ws_iconst 25 rfl rfl kc_i1 ?_
    refine ws_goto 29 rfl rfl ?_
    refine ws_zret rfl rfl (by first | exact xb_01 _ | decide) rfl (Nat.le_of_ble_eq_true rfl) ?_
    exact ⟨by simp_all [jn, xb], rfl⟩
  · refine ws_iload_0 7 rfl rfl ?_
    refine ws_bipush 9 rfl rfl kc_b45 ?_
    refine ws_icmp_eqn 24 12 rfl rfl rfl (by omega) (by omega) (fun h9 => ?_) (fun h9 => ?_)
    · refine ws_iconst 25 rfl rfl kc_i1 ?_
      refine ws_goto 29 rfl rfl ?_
      refine ws_zret rfl rfl (by first | exact xb_01 _ | decide) rfl (Nat.le_of_ble_eq_true rfl) ?_
      exact ⟨by simp_all [jn, xb], rfl⟩
    · refine ws_iload_0 13 rfl rfl ?_
      refine ws_bipush 15 rfl rfl kc_b42 ?_
      refine ws_icmp_eqn 24 18 rfl rfl rfl (by omega) (by omega) (fun h15 => ?_) (fun h15 => ?_)
      · refine ws_iconst 25 rfl rfl kc_i1 ?_
        refine ws_goto 29 rfl rfl ?_
        refine ws_zret rfl rfl (by first | exact xb_01 _ | decide) rfl (Nat.le_of_ble_eq_true rfl) ?_
        exact ⟨by simp_all [jn, xb], rfl⟩
      · refine ws_iload_0 19 rfl rfl ?_
        refine ws_bipush 21 rfl rfl kc_b109 ?_
        refine ws_icmp_nen 28 24 rfl rfl rfl (by omega) (by omega) (fun h21 => ?_) (fun h21 => ?_)
        · refine ws_iconst 29 rfl rfl kc_i0 ?_
          refine ws_zret rfl rfl (by first | exact xb_01 _ | decide) rfl (Nat.le_of_ble_eq_true rfl) ?_
          exact ⟨by simp_all [jn, xb], rfl⟩
        · refine ws_iconst 25 rfl rfl kc_i1 ?_
          refine ws_goto 29 rfl rfl ?_
          refine ws_zret rfl rfl (by first | exact xb_01 _ | decide) rfl (Nat.le_of_ble_eq_true rfl) ?_
          exact ⟨by simp_all [jn, xb], rfl⟩
theorem al_rg {c : Nat} (hc : c < 1000) : al c = (rg 48 57 (nI c) || (decide (c = 115) || (decide (c = 119) || decide (c = 104)))) := by
  rw [rg_nI (by omega)]
  unfold al
  congr 2
  · simp; omega
  · simp; omega
theorem p_standsAlone (c : Nat) (hc : c < 1000) : xP 2 12 [.int (nI c)] (.int (xb (al c))) := by
  intro E σ
  rw [al_rg hc]
  refine xC.mk [some (.int (nI c))] rfl ?_
  refine ws_iload_0 1 rfl rfl ?_
  refine ws_bipush 3 rfl rfl kc_b48 ?_
  refine ws_bipush 5 rfl rfl kc_b57 ?_
  refine ws_invSN3p 8 rfl rfl rfl (p_between (nI c) (nI 48) (nI 57) 48 57 (by decide) (by decide)) rfl rfl rfl ?_
  refine ws_if_neb 29 11 rfl rfl rfl (fun h8 => ?_) (fun h8 => ?_)
  · refine ws_iconst 30 rfl rfl kc_i1 ?_
    refine ws_goto 34 rfl rfl ?_
    refine ws_zret rfl rfl (by first | exact xb_01 _ | decide) rfl (Nat.le_of_ble_eq_true rfl) ?_
    exact ⟨by simp_all [xb], rfl⟩
  · refine ws_iload_0 12 rfl rfl ?_
    refine ws_bipush 14 rfl rfl kc_b115 ?_
    refine ws_icmp_eqn 29 17 rfl rfl rfl (by omega) (by omega) (fun h14 => ?_) (fun h14 => ?_)
    · refine ws_iconst 30 rfl rfl kc_i1 ?_
      refine ws_goto 34 rfl rfl ?_
      refine ws_zret rfl rfl (by first | exact xb_01 _ | decide) rfl (Nat.le_of_ble_eq_true rfl) ?_
      exact ⟨by simp_all [xb], rfl⟩
    · refine ws_iload_0 18 rfl rfl ?_
      refine ws_bipush 20 rfl rfl kc_b119 ?_
      refine ws_icmp_eqn 29 23 rfl rfl rfl (by omega) (by omega) (fun h20 => ?_) (fun h20 => ?_)
      · refine ws_iconst 30 rfl rfl kc_i1 ?_
        refine ws_goto 34 rfl rfl ?_
        refine ws_zret rfl rfl (by first | exact xb_01 _ | decide) rfl (Nat.le_of_ble_eq_true rfl) ?_
        exact ⟨by simp_all [xb], rfl⟩
      · refine ws_iload_0 24 rfl rfl ?_
        refine ws_bipush 26 rfl rfl kc_b104 ?_
        refine ws_icmp_nen 33 29 rfl rfl rfl (by omega) (by omega) (fun h26 => ?_) (fun h26 => ?_)
        · refine ws_iconst 34 rfl rfl kc_i0 ?_
          refine ws_zret rfl rfl (by first | exact xb_01 _ | decide) rfl (Nat.le_of_ble_eq_true rfl) ?_
          exact ⟨by simp_all [xb], rfl⟩
        · refine ws_iconst 30 rfl rfl kc_i1 ?_
          refine ws_goto 34 rfl rfl ?_
          refine ws_zret rfl rfl (by first | exact xb_01 _ | decide) rfl (Nat.le_of_ble_eq_true rfl) ?_
          exact ⟨by simp_all [xb], rfl⟩
theorem p_partsOf (c : Nat) (hc : c < 1000) : xP 2 90 [.int (nI c)] (.int (bif al c then nI 0 else bif jn c then nI 2 else -6)) := by
  intro E σ
  rw [al_rg hc]
  refine xC.mk [some (.int (nI c))] rfl ?_
  refine ws_iload_0 1 rfl rfl ?_
  refine ws_bipush 3 rfl rfl kc_b48 ?_
  refine ws_bipush 5 rfl rfl kc_b57 ?_
  refine ws_invS3p 8 rfl rfl rfl (p_in (nI c) (nI 48) (nI 57) 48 57 (by decide) (by decide)) rfl rfl rfl ?_
  refine ws_if_neb 29 11 rfl rfl rfl (fun h8 => ?_) (fun h8 => ?_)
  · refine ws_iconst 30 rfl rfl kc_i0 ?_
    refine ws_goto 63 rfl rfl ?_
    refine ws_iret rfl rfl rfl (Nat.le_of_ble_eq_true rfl) ?_
    exact ⟨by simp_all [jn], rfl⟩
  · refine ws_iload_0 12 rfl rfl ?_
    refine ws_bipush 14 rfl rfl kc_b115 ?_
    refine ws_icmp_eqn 29 17 rfl rfl rfl (by omega) (by omega) (fun h14 => ?_) (fun h14 => ?_)
    · refine ws_iconst 30 rfl rfl kc_i0 ?_
      refine ws_goto 63 rfl rfl ?_
      refine ws_iret rfl rfl rfl (Nat.le_of_ble_eq_true rfl) ?_
      exact ⟨by simp_all [jn], rfl⟩
    · refine ws_iload_0 18 rfl rfl ?_
      refine ws_bipush 20 rfl rfl kc_b119 ?_
      refine ws_icmp_eqn 29 23 rfl rfl rfl (by omega) (by omega) (fun h20 => ?_) (fun h20 => ?_)
      · refine ws_iconst 30 rfl rfl kc_i0 ?_
        refine ws_goto 63 rfl rfl ?_
        refine ws_iret rfl rfl rfl (Nat.le_of_ble_eq_true rfl) ?_
        exact ⟨by simp_all [jn], rfl⟩
      · refine ws_iload_0 24 rfl rfl ?_
        refine ws_bipush 26 rfl rfl kc_b104 ?_
        refine ws_icmp_nen 33 29 rfl rfl rfl (by omega) (by omega) (fun h26 => ?_) (fun h26 => ?_)
        · refine ws_iload_0 34 rfl rfl ?_
          refine ws_bipush 36 rfl rfl kc_b43 ?_
          refine ws_icmp_eqn 57 39 rfl rfl rfl (by omega) (by omega) (fun h36 => ?_) (fun h36 => ?_)
          · refine ws_iconst 58 rfl rfl kc_i2 ?_
            refine ws_goto 63 rfl rfl ?_
            refine ws_iret rfl rfl rfl (Nat.le_of_ble_eq_true rfl) ?_
            exact ⟨by simp_all [jn], rfl⟩
          · refine ws_iload_0 40 rfl rfl ?_
            refine ws_bipush 42 rfl rfl kc_b45 ?_
            refine ws_icmp_eqn 57 45 rfl rfl rfl (by omega) (by omega) (fun h42 => ?_) (fun h42 => ?_)
            · refine ws_iconst 58 rfl rfl kc_i2 ?_
              refine ws_goto 63 rfl rfl ?_
              refine ws_iret rfl rfl rfl (Nat.le_of_ble_eq_true rfl) ?_
              exact ⟨by simp_all [jn], rfl⟩
            · refine ws_iload_0 46 rfl rfl ?_
              refine ws_bipush 48 rfl rfl kc_b42 ?_
              refine ws_icmp_eqn 57 51 rfl rfl rfl (by omega) (by omega) (fun h48 => ?_) (fun h48 => ?_)
              · refine ws_iconst 58 rfl rfl kc_i2 ?_
                refine ws_goto 63 rfl rfl ?_
                refine ws_iret rfl rfl rfl (Nat.le_of_ble_eq_true rfl) ?_
                exact ⟨by simp_all [jn], rfl⟩
              · refine ws_iload_0 52 rfl rfl ?_
                refine ws_bipush 54 rfl rfl kc_b109 ?_
                refine ws_icmp_nen 61 57 rfl rfl rfl (by omega) (by omega) (fun h54 => ?_) (fun h54 => ?_)
                · refine ws_bipush 63 rfl rfl kc_bm6 ?_
                  refine ws_iret rfl rfl rfl (Nat.le_of_ble_eq_true rfl) ?_
                  exact ⟨by simp_all [jn], rfl⟩
                · refine ws_iconst 58 rfl rfl kc_i2 ?_
                  refine ws_goto 63 rfl rfl ?_
                  refine ws_iret rfl rfl rfl (Nat.le_of_ble_eq_true rfl) ?_
                  exact ⟨by simp_all [jn], rfl⟩
        · refine ws_iconst 30 rfl rfl kc_i0 ?_
          refine ws_goto 63 rfl rfl ?_
          refine ws_iret rfl rfl rfl (Nat.le_of_ble_eq_true rfl) ?_
          exact ⟨by simp_all [jn], rfl⟩
def av (c s w : Nat) : Nat := if c = 115 then s else if c = 119 then w else if c = 104 then 100 else c - 48
theorem p_leastOf (c : Nat) (hc : c < 1000) : xP 1 99 [.int (nI c)] (.int (nI (if c = 1 ∨ c = 2 then 1 else 0))) := by
  intro E σ
  refine xC.mk [some (.int (nI c))] rfl ?_
  refine ws_iload_0 1 rfl rfl ?_
  refine ws_iconst 2 rfl rfl kc_i1 ?_
  refine ws_icmp_eqn 10 5 rfl rfl rfl (by omega) (by omega) (fun h2 => ?_) (fun h2 => ?_)
  · refine ws_iconst 11 rfl rfl kc_i1 ?_
    refine ws_goto 15 rfl rfl ?_
    refine ws_iret rfl rfl rfl (Nat.le_of_ble_eq_true rfl) ?_
    exact ⟨by simp_all, rfl⟩
  · refine ws_iload_0 6 rfl rfl ?_
    refine ws_iconst 7 rfl rfl kc_i2 ?_
    refine ws_icmp_nen 14 10 rfl rfl rfl (by omega) (by omega) (fun h7 => ?_) (fun h7 => ?_)
    · refine ws_iconst 15 rfl rfl kc_i0 ?_
      refine ws_iret rfl rfl rfl (Nat.le_of_ble_eq_true rfl) ?_
      exact ⟨by simp_all, rfl⟩
    · refine ws_iconst 11 rfl rfl kc_i1 ?_
      refine ws_goto 15 rfl rfl ?_
      refine ws_iret rfl rfl rfl (Nat.le_of_ble_eq_true rfl) ?_
      exact ⟨by simp_all, rfl⟩
def dg (code p : Nat) : Nat := code / 6 ^ (4 - p) % 6
theorem p_digit (code p : Nat) (hc : code < 7776) (hp : p < 5) : xP 1 117 [.int (nI code), .int (nI p)] (.int (nI (dg code p))) := by
  intro E σ
  refine xC.mk [some (.int (nI code)), some (.int (nI p))] rfl ?_
  have hq : p = 0 ∨ p = 1 ∨ p = 2 ∨ p = 3 ∨ p = 4 := by omega
  rcases hq with rfl | rfl | rfl | rfl | rfl
  · refine ws_iload_1 1 rfl rfl ?_
    refine ws_if_nen 12 4 rfl rfl rfl (by omega) (fun h9 => absurd h9 (by omega)) (fun h9 => ?_)
    refine ws_iload_0 5 rfl rfl ?_
    refine ws_sipush 8 rfl rfl kc_s1296 ?_
    refine ws_idiv 9 rfl rfl (kn_ne0 (by omega) (by omega)) (pk_div (by omega) (by omega) (by omega)) ?_
    refine ws_goto 50 rfl rfl ?_
    refine ws_bipush 52 rfl rfl kc_b6 ?_
    refine ws_irem 53 rfl rfl (kn_ne0 (by omega) (by omega)) (pk_rem (by omega) (by omega) (by omega)) ?_
    refine ws_iret rfl rfl rfl (Nat.le_of_ble_eq_true rfl) ?_
    exact ⟨by simp [dg], rfl⟩
  · refine ws_iload_1 1 rfl rfl ?_
    refine ws_if_nen 12 4 rfl rfl rfl (by omega) (fun h9 => ?_) (fun h9 => absurd h9 (by omega))
    refine ws_iload_1 13 rfl rfl ?_
    refine ws_iconst 14 rfl rfl kc_i1 ?_
    refine ws_icmp_nen 25 17 rfl rfl rfl (by omega) (by omega) (fun h9 => absurd h9 (by omega)) (fun h9 => ?_)
    refine ws_iload_0 18 rfl rfl ?_
    refine ws_sipush 21 rfl rfl kc_s216 ?_
    refine ws_idiv 22 rfl rfl (kn_ne0 (by omega) (by omega)) (pk_div (by omega) (by omega) (by omega)) ?_
    refine ws_goto 50 rfl rfl ?_
    refine ws_bipush 52 rfl rfl kc_b6 ?_
    refine ws_irem 53 rfl rfl (kn_ne0 (by omega) (by omega)) (pk_rem (by omega) (by omega) (by omega)) ?_
    refine ws_iret rfl rfl rfl (Nat.le_of_ble_eq_true rfl) ?_
    exact ⟨by simp [dg], rfl⟩
  · refine ws_iload_1 1 rfl rfl ?_
    refine ws_if_nen 12 4 rfl rfl rfl (by omega) (fun h9 => ?_) (fun h9 => absurd h9 (by omega))
    refine ws_iload_1 13 rfl rfl ?_
    refine ws_iconst 14 rfl rfl kc_i1 ?_
    refine ws_icmp_nen 25 17 rfl rfl rfl (by omega) (by omega) (fun h9 => ?_) (fun h9 => absurd h9 (by omega))
    refine ws_iload_1 26 rfl rfl ?_
    refine ws_iconst 27 rfl rfl kc_i2 ?_
    refine ws_icmp_nen 37 30 rfl rfl rfl (by omega) (by omega) (fun h9 => absurd h9 (by omega)) (fun h9 => ?_)
    refine ws_iload_0 31 rfl rfl ?_
    refine ws_bipush 33 rfl rfl kc_b36 ?_
    refine ws_idiv 34 rfl rfl (kn_ne0 (by omega) (by omega)) (pk_div (by omega) (by omega) (by omega)) ?_
    refine ws_goto 50 rfl rfl ?_
    refine ws_bipush 52 rfl rfl kc_b6 ?_
    refine ws_irem 53 rfl rfl (kn_ne0 (by omega) (by omega)) (pk_rem (by omega) (by omega) (by omega)) ?_
    refine ws_iret rfl rfl rfl (Nat.le_of_ble_eq_true rfl) ?_
    exact ⟨by simp [dg], rfl⟩
  · refine ws_iload_1 1 rfl rfl ?_
    refine ws_if_nen 12 4 rfl rfl rfl (by omega) (fun h9 => ?_) (fun h9 => absurd h9 (by omega))
    refine ws_iload_1 13 rfl rfl ?_
    refine ws_iconst 14 rfl rfl kc_i1 ?_
    refine ws_icmp_nen 25 17 rfl rfl rfl (by omega) (by omega) (fun h9 => ?_) (fun h9 => absurd h9 (by omega))
    refine ws_iload_1 26 rfl rfl ?_
    refine ws_iconst 27 rfl rfl kc_i2 ?_
    refine ws_icmp_nen 37 30 rfl rfl rfl (by omega) (by omega) (fun h9 => ?_) (fun h9 => absurd h9 (by omega))
    refine ws_iload_1 38 rfl rfl ?_
    refine ws_iconst 39 rfl rfl kc_i3 ?_
    refine ws_icmp_nen 49 42 rfl rfl rfl (by omega) (by omega) (fun h9 => absurd h9 (by omega)) (fun h9 => ?_)
    refine ws_iload_0 43 rfl rfl ?_
    refine ws_bipush 45 rfl rfl kc_b6 ?_
    refine ws_idiv 46 rfl rfl (kn_ne0 (by omega) (by omega)) (pk_div (by omega) (by omega) (by omega)) ?_
    refine ws_goto 50 rfl rfl ?_
    refine ws_bipush 52 rfl rfl kc_b6 ?_
    refine ws_irem 53 rfl rfl (kn_ne0 (by omega) (by omega)) (pk_rem (by omega) (by omega) (by omega)) ?_
    refine ws_iret rfl rfl rfl (Nat.le_of_ble_eq_true rfl) ?_
    exact ⟨by simp [dg], rfl⟩
  · refine ws_iload_1 1 rfl rfl ?_
    refine ws_if_nen 12 4 rfl rfl rfl (by omega) (fun h9 => ?_) (fun h9 => absurd h9 (by omega))
    refine ws_iload_1 13 rfl rfl ?_
    refine ws_iconst 14 rfl rfl kc_i1 ?_
    refine ws_icmp_nen 25 17 rfl rfl rfl (by omega) (by omega) (fun h9 => ?_) (fun h9 => absurd h9 (by omega))
    refine ws_iload_1 26 rfl rfl ?_
    refine ws_iconst 27 rfl rfl kc_i2 ?_
    refine ws_icmp_nen 37 30 rfl rfl rfl (by omega) (by omega) (fun h9 => ?_) (fun h9 => absurd h9 (by omega))
    refine ws_iload_1 38 rfl rfl ?_
    refine ws_iconst 39 rfl rfl kc_i3 ?_
    refine ws_icmp_nen 49 42 rfl rfl rfl (by omega) (by omega) (fun h9 => ?_) (fun h9 => absurd h9 (by omega))
    refine ws_iload_0 50 rfl rfl ?_
    refine ws_bipush 52 rfl rfl kc_b6 ?_
    refine ws_irem 53 rfl rfl (kn_ne0 (by omega) (by omega)) (pk_rem (by omega) (by omega) (by omega)) ?_
    refine ws_iret rfl rfl rfl (Nat.le_of_ble_eq_true rfl) ?_
    exact ⟨by simp [dg], rfl⟩
theorem p_power (p : Nat) (hp : p < 5) : xP 1 118 [.int (nI p)] (.int (nI (6 ^ (4 - p)))) := by
  intro E σ
  refine xC.mk [some (.int (nI p))] rfl ?_
  have hq : p = 0 ∨ p = 1 ∨ p = 2 ∨ p = 3 ∨ p = 4 := by omega
  rcases hq with rfl | rfl | rfl | rfl | rfl
  · refine ws_iload_0 1 rfl rfl ?_
    refine ws_if_nen 10 4 rfl rfl rfl (by omega) (fun h9 => absurd h9 (by omega)) (fun h9 => ?_)
    refine ws_sipush 7 rfl rfl kc_s1296 ?_
    refine ws_goto 42 rfl rfl ?_
    refine ws_iret rfl rfl rfl (Nat.le_of_ble_eq_true rfl) ?_
    exact ⟨rfl, rfl⟩
  · refine ws_iload_0 1 rfl rfl ?_
    refine ws_if_nen 10 4 rfl rfl rfl (by omega) (fun h9 => ?_) (fun h9 => absurd h9 (by omega))
    refine ws_iload_0 11 rfl rfl ?_
    refine ws_iconst 12 rfl rfl kc_i1 ?_
    refine ws_icmp_nen 21 15 rfl rfl rfl (by omega) (by omega) (fun h9 => absurd h9 (by omega)) (fun h9 => ?_)
    refine ws_sipush 18 rfl rfl kc_s216 ?_
    refine ws_goto 42 rfl rfl ?_
    refine ws_iret rfl rfl rfl (Nat.le_of_ble_eq_true rfl) ?_
    exact ⟨rfl, rfl⟩
  · refine ws_iload_0 1 rfl rfl ?_
    refine ws_if_nen 10 4 rfl rfl rfl (by omega) (fun h9 => ?_) (fun h9 => absurd h9 (by omega))
    refine ws_iload_0 11 rfl rfl ?_
    refine ws_iconst 12 rfl rfl kc_i1 ?_
    refine ws_icmp_nen 21 15 rfl rfl rfl (by omega) (by omega) (fun h9 => ?_) (fun h9 => absurd h9 (by omega))
    refine ws_iload_0 22 rfl rfl ?_
    refine ws_iconst 23 rfl rfl kc_i2 ?_
    refine ws_icmp_nen 31 26 rfl rfl rfl (by omega) (by omega) (fun h9 => absurd h9 (by omega)) (fun h9 => ?_)
    refine ws_bipush 28 rfl rfl kc_b36 ?_
    refine ws_goto 42 rfl rfl ?_
    refine ws_iret rfl rfl rfl (Nat.le_of_ble_eq_true rfl) ?_
    exact ⟨rfl, rfl⟩
  · refine ws_iload_0 1 rfl rfl ?_
    refine ws_if_nen 10 4 rfl rfl rfl (by omega) (fun h9 => ?_) (fun h9 => absurd h9 (by omega))
    refine ws_iload_0 11 rfl rfl ?_
    refine ws_iconst 12 rfl rfl kc_i1 ?_
    refine ws_icmp_nen 21 15 rfl rfl rfl (by omega) (by omega) (fun h9 => ?_) (fun h9 => absurd h9 (by omega))
    refine ws_iload_0 22 rfl rfl ?_
    refine ws_iconst 23 rfl rfl kc_i2 ?_
    refine ws_icmp_nen 31 26 rfl rfl rfl (by omega) (by omega) (fun h9 => ?_) (fun h9 => absurd h9 (by omega))
    refine ws_iload_0 32 rfl rfl ?_
    refine ws_iconst 33 rfl rfl kc_i3 ?_
    refine ws_icmp_nen 41 36 rfl rfl rfl (by omega) (by omega) (fun h9 => absurd h9 (by omega)) (fun h9 => ?_)
    refine ws_bipush 38 rfl rfl kc_b6 ?_
    refine ws_goto 42 rfl rfl ?_
    refine ws_iret rfl rfl rfl (Nat.le_of_ble_eq_true rfl) ?_
    exact ⟨rfl, rfl⟩
  · refine ws_iload_0 1 rfl rfl ?_
    refine ws_if_nen 10 4 rfl rfl rfl (by omega) (fun h9 => ?_) (fun h9 => absurd h9 (by omega))
    refine ws_iload_0 11 rfl rfl ?_
    refine ws_iconst 12 rfl rfl kc_i1 ?_
    refine ws_icmp_nen 21 15 rfl rfl rfl (by omega) (by omega) (fun h9 => ?_) (fun h9 => absurd h9 (by omega))
    refine ws_iload_0 22 rfl rfl ?_
    refine ws_iconst 23 rfl rfl kc_i2 ?_
    refine ws_icmp_nen 31 26 rfl rfl rfl (by omega) (by omega) (fun h9 => ?_) (fun h9 => absurd h9 (by omega))
    refine ws_iload_0 32 rfl rfl ?_
    refine ws_iconst 33 rfl rfl kc_i3 ?_
    refine ws_icmp_nen 41 36 rfl rfl rfl (by omega) (by omega) (fun h9 => ?_) (fun h9 => absurd h9 (by omega))
    refine ws_iconst 42 rfl rfl kc_i1 ?_
    refine ws_iret rfl rfl rfl (Nat.le_of_ble_eq_true rfl) ?_
    exact ⟨rfl, rfl⟩
/-- how many of the first bits are set -/
def pop : Nat → Nat → Nat
  | 0, _ => 0
  | k + 1, n => pop k n + n / 2 ^ k % 2
theorem pop_le (k n : Nat) : pop k n ≤ k := by
  induction k with
  | zero => exact Nat.le_refl 0
  | succ k ih => show pop k n + n / 2 ^ k % 2 ≤ k + 1; omega
theorem p_bits (n : Nat) (hn : n < 100000) : xP 1 110 [.int (nI n)] (.int (nI (pop 5 n))) := by
  intro E σ
  refine xC.mk [some (.int (nI n)), none, none] rfl ?_
  refine ws_iconst 1 rfl rfl kc_i0 ?_
  refine ws_istore_1 2 rfl rfl rfl rfl ?_
  refine ws_iconst 3 rfl rfl kc_i0 ?_
  refine ws_istore_2 4 rfl rfl rfl rfl ?_
  have loop : ∀ m k : Nat, k + m = 5 → xW E 1 110 4 [some (.int (nI n)), some (.int (nI (pop k n))), some (.int (nI k))] [] σ 0 0 (fun r t => r = some (.int (nI (pop 5 n))) ∧ t = σ) := by
    intro m
    induction m with
    | zero =>
      intro k hk
      obtain rfl : k = 5 := by omega
      refine ws_iload_2 5 rfl rfl ?_
      refine ws_iconst 6 rfl rfl kc_i5 ?_
      refine ws_icmp_gen 23 9 rfl rfl rfl (by omega) (by omega) (fun h9 => ?_) (fun h9 => absurd h9 (by omega))
      refine ws_iload_1 24 rfl rfl ?_
      refine ws_iret rfl rfl rfl (Nat.le_of_ble_eq_true rfl) ?_
      exact ⟨rfl, rfl⟩
    | succ m ih =>
      intro k hk
      have e : n / 2 ^ k &&& 1 = n / 2 ^ k % 2 := Nat.and_one_is_mod _
      refine ws_iload_2 5 rfl rfl ?_
      refine ws_iconst 6 rfl rfl kc_i5 ?_
      refine ws_icmp_gen 23 9 rfl rfl rfl (by omega) (by omega) (fun h9 => absurd h9 (by omega)) (fun h9 => ?_)
      refine ws_iload_1 10 rfl rfl ?_
      refine ws_iload_0 11 rfl rfl ?_
      refine ws_iload_2 12 rfl rfl ?_
      refine ws_ishr 13 rfl rfl (kn_shr (by omega) (by omega)) ?_
      refine ws_iconst 14 rfl rfl kc_i1 ?_
      refine ws_iand 15 rfl rfl (kn_and _ _) ?_
      refine ws_iadd 16 rfl rfl (nI_add _ _) ?_
      refine ws_istore_1 17 rfl rfl rfl rfl ?_
      refine ws_iinc_2 20 rfl rfl (ki_1 _) rfl rfl ?_
      refine ws_goto 4 rfl rfl ?_
      exact (by rw [e]; exact ih (k + 1) (by omega))
  exact loop 5 0 rfl
def bcI (i0 : Int32) : Int32 :=
  let u (x : Int32) (k : Int32) : Int32 := (x.toUInt32 >>> (k.toUInt32 &&& Int32.toUInt32 31)).toInt32
  let i1 := i0 - (u i0 (nI 1) &&& 1431655765)
  let i2 := (i1 &&& 858993459) + (u i1 (nI 2) &&& 858993459)
  let i3 := (i2 + u i2 (nI 4)) &&& 252645135
  let i4 := i3 + u i3 (nI 8)
  let i5 := i4 + u i4 (nI 16)
  i5 &&& nI 63
theorem bcI_pop : ∀ n, n < 2048 → bcI (nI n) = nI (pop 11 n) := by decide +kernel
theorem p_bitCount (n : Nat) (hn : n < 2048) : xP 1 138 [.int (nI n)] (.int (nI (pop 11 n))) := by
  intro E σ
  refine xC.mk [some (.int (nI n))] rfl ?_
  rw [← bcI_pop n hn]
  generalize nI n = x
  refine ws_iload_0 1 rfl rfl ?_
  refine ws_iload_0 2 rfl rfl ?_
  refine ws_iconst 3 rfl rfl kc_i1 ?_
  refine ws_iushr 4 rfl rfl rfl ?_
  refine ws_ldcw 7 rfl rfl rfl rfl ?_
  refine ws_iand 8 rfl rfl rfl ?_
  refine ws_isub 9 rfl rfl rfl ?_
  refine ws_istore_0 10 rfl rfl rfl rfl ?_
  refine ws_iload_0 11 rfl rfl ?_
  refine ws_ldcw 14 rfl rfl rfl rfl ?_
  refine ws_iand 15 rfl rfl rfl ?_
  refine ws_iload_0 16 rfl rfl ?_
  refine ws_iconst 17 rfl rfl kc_i2 ?_
  refine ws_iushr 18 rfl rfl rfl ?_
  refine ws_ldcw 21 rfl rfl rfl rfl ?_
  refine ws_iand 22 rfl rfl rfl ?_
  refine ws_iadd 23 rfl rfl rfl ?_
  refine ws_istore_0 24 rfl rfl rfl rfl ?_
  refine ws_iload_0 25 rfl rfl ?_
  refine ws_iload_0 26 rfl rfl ?_
  refine ws_iconst 27 rfl rfl kc_i4 ?_
  refine ws_iushr 28 rfl rfl rfl ?_
  refine ws_iadd 29 rfl rfl rfl ?_
  refine ws_ldcw 32 rfl rfl rfl rfl ?_
  refine ws_iand 33 rfl rfl rfl ?_
  refine ws_istore_0 34 rfl rfl rfl rfl ?_
  refine ws_iload_0 35 rfl rfl ?_
  refine ws_iload_0 36 rfl rfl ?_
  refine ws_bipush 38 rfl rfl kc_b8 ?_
  refine ws_iushr 39 rfl rfl rfl ?_
  refine ws_iadd 40 rfl rfl rfl ?_
  refine ws_istore_0 41 rfl rfl rfl rfl ?_
  refine ws_iload_0 42 rfl rfl ?_
  refine ws_iload_0 43 rfl rfl ?_
  refine ws_bipush 45 rfl rfl kc_b16 ?_
  refine ws_iushr 46 rfl rfl rfl ?_
  refine ws_iadd 47 rfl rfl rfl ?_
  refine ws_istore_0 48 rfl rfl rfl rfl ?_
  refine ws_iload_0 49 rfl rfl ?_
  refine ws_bipush 51 rfl rfl kc_b63 ?_
  refine ws_iand 52 rfl rfl rfl ?_
  refine ws_iret rfl rfl rfl (Nat.le_of_ble_eq_true rfl) ?_
  exact ⟨rfl, rfl⟩
