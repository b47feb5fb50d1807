section
variable {g : G0} {d : Nat} {P : Option Value → List SC → DD → Prop} {D : DD}
/-! the teller: cell 45 -/
def lv1 (t n : Int) : Int := 31 * t + n
theorem c_leave {n : Int} (hk : P none SH (st2 D 45 0 (lv1 (D 45 0) n))) : TM g mX5_leave d P [.ref 45, iI n] D := by
  refine T_aload_n dX5_leave_0 rfl ?_
  refine T_bipush dX5_leave_1 (by decide) ?_
  refine T_aload_n dX5_leave_3 rfl ?_
  refine T_getI dX5_leave_4 flX5_25 rfl rfl ?_
  refine T_imul dX5_leave_7 ?_
  refine T_iload_n dX5_leave_8 rfl ?_
  refine T_iadd dX5_leave_9 ?_
  refine T_putI dX5_leave_10 flX5_25 rfl rfl ?_
  refine T_vret dX5_leave_13 rfl ?_
  exact hk
theorem st2_st2 (D : DD) (i j : Nat) (v w : Int) : st2 (st2 D i j v) i j w = st2 D i j w := by
  funext a b
  by_cases h : a = i ∧ b = j <;> simp [st2, h]
theorem c_squareTells {n : Int} (hk : P (some (iI n)) SH (st2 D 45 0 (lv1 (D 45 0) 1))) : TM g mX5_squareTells (d + 1) P [.ref 45, iI n] D := by
  refine T_aload_n dX5_squareTells_0 rfl ?_
  refine T_iconst dX5_squareTells_1 ?_
  refine T_cV_1 dX5_squareTells_2 lkX5_21 rfl (Nat.le_of_ble_eq_true rfl) (RO_r (by decide)) (Nat.le_of_ble_eq_true rfl) ?_
  refine c_leave ?_
  refine T_iload_n dX5_squareTells_5 rfl ?_
  refine T_iret dX5_squareTells_6 rfl ?_
  exact hk
theorem c_stepsTells {n : Int} (hk : P (some (iI (n + 100))) SH (st2 D 45 0 (lv1 (lv1 (D 45 0) 2) 1))) : TM g mX5_stepsTells (d + 2) P [.ref 45, iI n] D := by
  rw [← st2_st2 D 45 0 (lv1 (D 45 0) 2)] at hk
  refine T_aload_n dX5_stepsTells_0 rfl ?_
  refine T_iconst dX5_stepsTells_1 ?_
  refine T_cV_1 dX5_stepsTells_2 lkX5_21 rfl (Nat.le_of_ble_eq_true rfl) (RO_r (by decide)) (Nat.le_of_ble_eq_true rfl) ?_
  refine c_leave ?_
  refine T_aload_n dX5_stepsTells_5 rfl ?_
  refine T_iload_n dX5_stepsTells_6 rfl ?_
  refine T_cV_1 dX5_stepsTells_7 lkX5_9 rfl (Nat.le_of_ble_eq_true rfl) (RO_r (by decide)) (Nat.le_of_ble_eq_true rfl) ?_
  refine c_squareTells ?_
  refine T_bipush dX5_stepsTells_10 (by decide) ?_
  refine T_iadd dX5_stepsTells_12 ?_
  refine T_iret dX5_stepsTells_13 rfl ?_
  rw [st2_at]; exact hk
theorem c_ferryTells {n : Int} (hk : P (some (iI (n + 100 + n))) SH (st2 D 45 0 (lv1 (lv1 (lv1 (lv1 (D 45 0) 3) 2) 1) 1))) : TM g mX5_ferryTells (d + 3) P [.ref 45, iI n] D := by
  refine T_aload_n dX5_ferryTells_0 rfl ?_
  refine T_iconst dX5_ferryTells_1 ?_
  refine T_cV_1 dX5_ferryTells_2 lkX5_21 rfl (Nat.le_of_ble_eq_true rfl) (RO_r (by decide)) (Nat.le_of_ble_eq_true rfl) ?_
  refine c_leave ?_
  refine T_aload_n dX5_ferryTells_5 rfl ?_
  refine T_iload_n dX5_ferryTells_6 rfl ?_
  refine T_cV_1 dX5_ferryTells_7 lkX5_15 rfl (Nat.le_of_ble_eq_true rfl) (RO_r (by decide)) (Nat.le_of_ble_eq_true rfl) ?_
  refine c_stepsTells ?_
  refine T_aload_n dX5_ferryTells_10 rfl ?_
  refine T_iload_n dX5_ferryTells_11 rfl ?_
  refine T_cV_1 dX5_ferryTells_12 lkX5_9 rfl (Nat.le_of_ble_eq_true rfl) (RO_r (by decide)) (Nat.le_of_ble_eq_true rfl) ?_
  refine c_squareTells ?_
  refine T_iadd dX5_ferryTells_15 ?_
  refine T_iret dX5_ferryTells_16 rfl ?_
  simp only [st2_at, st2_st2]; exact hk
theorem c_tellOf {kd n : Int} (hkd : InR kd) (k0 : kd = 0 → P (some (iI n)) SH (st2 D 45 0 (lv1 (D 45 0) 1))) (k1 : kd = 1 → P (some (iI (n + 100))) SH (st2 D 45 0 (lv1 (lv1 (D 45 0) 2) 1))) (k2 : kd ≠ 0 ∧ kd ≠ 1 → P (some (iI (n + 100 + n))) SH (st2 D 45 0 (lv1 (lv1 (lv1 (lv1 (D 45 0) 3) 2) 1) 1))) : TM g mX5_tellOf (d + 4) P [.ref 45, iI kd, iI n] D := by
  refine T_iload_n dX5_tellOf_0 rfl ?_
  refine T_lsw2 28 34 40 dX5_tellOf_1 hkd (by decide) (by decide) (fun hs1 => ?_) (fun hs1 => ?_) (fun hs1 => ?_)
  · refine T_aload_n dX5_tellOf_28 rfl ?_
    refine T_iload_n dX5_tellOf_29 rfl ?_
    refine T_cV_1 dX5_tellOf_30 lkX5_9 rfl (Nat.le_of_ble_eq_true rfl) (RO_r (by decide)) (Nat.le_of_ble_eq_true rfl) ?_
    refine c_squareTells ?_
    refine T_iret dX5_tellOf_33 rfl ?_
    exact k0 hs1
  · refine T_aload_n dX5_tellOf_34 rfl ?_
    refine T_iload_n dX5_tellOf_35 rfl ?_
    refine T_cV_1 dX5_tellOf_36 lkX5_15 rfl (Nat.le_of_ble_eq_true rfl) (RO_r (by decide)) (Nat.le_of_ble_eq_true rfl) ?_
    refine c_stepsTells ?_
    refine T_iret dX5_tellOf_39 rfl ?_
    exact k1 hs1
  · refine T_aload_n dX5_tellOf_40 rfl ?_
    refine T_iload_n dX5_tellOf_41 rfl ?_
    refine T_cV_1 dX5_tellOf_42 lkX5_18 rfl (Nat.le_of_ble_eq_true rfl) (RO_r (by decide)) (Nat.le_of_ble_eq_true rfl) ?_
    refine c_ferryTells ?_
    refine T_iret dX5_tellOf_45 rfl ?_
    exact k2 hs1
theorem c_ringOf {kd c : Int} (hkd : InR kd) (k0 : kd = 2 → P (some (iI 44)) SH (st2 D 45 0 (lv1 (D 45 0) 5))) (k1 : kd ≠ 2 → P (some (iI c)) SH (st2 D 45 0 (lv1 (D 45 0) 4))) : TM g mX5_ringOf (d + 1) P [.ref 45, iI kd, iI c] D := by
  unfold InR at hkd
  refine T_aload_n dX5_ringOf_0 rfl ?_
  refine T_iload_n dX5_ringOf_1 rfl ?_
  refine T_iconst dX5_ringOf_2 ?_
  refine T_icmp_ne 10 dX5_ringOf_3 (by decide) (by first | (unfold InR; omega) | (simp [st2, InR]; omega)) (by first | (unfold InR; omega) | (simp [st2, InR]; omega)) (fun hc3 => ?_) (fun hc3 => ?_)
  · refine T_iconst dX5_ringOf_10 ?_
    refine T_cV_1 dX5_ringOf_11 lkX5_21 rfl (Nat.le_of_ble_eq_true rfl) (RO_r (by decide)) (Nat.le_of_ble_eq_true rfl) ?_
    refine c_leave ?_
    refine T_iload_n dX5_ringOf_14 rfl ?_
    refine T_iconst dX5_ringOf_15 ?_
    refine T_icmp_ne 24 dX5_ringOf_16 (by decide) (by first | (unfold InR; omega) | (simp [st2, InR]; omega)) (by first | (unfold InR; omega) | (simp [st2, InR]; omega)) (fun hc16 => ?_) (fun hc16 => ?_)
    · refine T_iload_n dX5_ringOf_24 rfl ?_
      refine T_iret dX5_ringOf_25 rfl ?_
      first | exact k0 (by omega) | exact k1 (by omega) | (exfalso; omega)
    · refine T_bipush dX5_ringOf_19 (by decide) ?_
      refine T_goto (tgt := 25) dX5_ringOf_21 (by decide) ?_
      refine T_iret dX5_ringOf_25 rfl ?_
      first | exact k0 (by omega) | exact k1 (by omega) | (exfalso; omega)
  · refine T_iconst dX5_ringOf_6 ?_
    refine T_goto (tgt := 11) dX5_ringOf_7 (by decide) ?_
    refine T_cV_1 dX5_ringOf_11 lkX5_21 rfl (Nat.le_of_ble_eq_true rfl) (RO_r (by decide)) (Nat.le_of_ble_eq_true rfl) ?_
    refine c_leave ?_
    refine T_iload_n dX5_ringOf_14 rfl ?_
    refine T_iconst dX5_ringOf_15 ?_
    refine T_icmp_ne 24 dX5_ringOf_16 (by decide) (by first | (unfold InR; omega) | (simp [st2, InR]; omega)) (by first | (unfold InR; omega) | (simp [st2, InR]; omega)) (fun hc16 => ?_) (fun hc16 => ?_)
    · refine T_iload_n dX5_ringOf_24 rfl ?_
      refine T_iret dX5_ringOf_25 rfl ?_
      first | exact k0 (by omega) | exact k1 (by omega) | (exfalso; omega)
    · refine T_bipush dX5_ringOf_19 (by decide) ?_
      refine T_goto (tgt := 25) dX5_ringOf_21 (by decide) ?_
      refine T_iret dX5_ringOf_25 rfl ?_
      first | exact k0 (by omega) | exact k1 (by omega) | (exfalso; omega)
/-! a sheet: its object o, its cells o + 1 -/
def shAt (o : Nat) : Prop := SH[o]? = some (0, 4, [some (.ref (o + 1)), none, none, none]) ∧ SH[o + 1]? = some (1, 80, [])
theorem shAt49 : shAt 49 := ⟨rfl, rfl⟩
theorem shAt51 : shAt 51 := ⟨rfl, rfl⟩
theorem shAt53 : shAt 53 := ⟨rfl, rfl⟩
theorem shAt55 : shAt 55 := ⟨rfl, rfl⟩
theorem c_hasCell {o : Nat} (hs : shAt o) {i : Int} (hi : InR i) (hn : InR (D o 3)) (k1 : 0 ≤ i → i < D o 3 → P (some (iI 1)) SH D) (k0 : ¬ (0 ≤ i ∧ i < D o 3) → P (some (iI 0)) SH D) : TM g mX4_hasCell d P [.ref o, iI i] D := by
  unfold InR at hi hn
  refine T_iload_n dX4_hasCell_0 rfl ?_
  refine T_if_lt 16 dX4_hasCell_1 (by decide) (by first | (unfold InR; omega) | (simp [st2, InR]; omega)) (fun hc1 => ?_) (fun hc1 => ?_)
  · refine T_iconst dX4_hasCell_16 ?_
    refine T_zret dX4_hasCell_17 rfl (by decide) ?_
    first | exact k1 (by omega) (by omega) | exact k0 (by omega)
  · refine T_iload_n dX4_hasCell_4 rfl ?_
    refine T_aload_n dX4_hasCell_5 rfl ?_
    refine T_getI dX4_hasCell_6 flX4_23 hs.1 rfl ?_
    refine T_icmp_ge 16 dX4_hasCell_9 (by decide) (by first | (unfold InR; omega) | (simp [st2, InR]; omega)) (by first | (unfold InR; omega) | (simp [st2, InR]; omega)) (fun hc9 => ?_) (fun hc9 => ?_)
    · refine T_iconst dX4_hasCell_16 ?_
      refine T_zret dX4_hasCell_17 rfl (by decide) ?_
      first | exact k1 (by omega) (by omega) | exact k0 (by omega)
    · refine T_iconst dX4_hasCell_12 ?_
      refine T_goto (tgt := 17) dX4_hasCell_13 (by decide) ?_
      refine T_zret dX4_hasCell_17 rfl (by decide) ?_
      first | exact k1 (by omega) (by omega) | exact k0 (by omega)
theorem c_hasCells {o : Nat} (hs : shAt o) {i n : Int} (hi : InR i) (hnn : InR n) (hn : 0 ≤ D o 3 ∧ D o 3 ≤ 80) (k1 : 0 ≤ i → i ≤ D o 3 → n ≤ D o 3 - i → P (some (iI 1)) SH D) (k0 : ¬ (0 ≤ i ∧ i ≤ D o 3 ∧ n ≤ D o 3 - i) → P (some (iI 0)) SH D) : TM g mX4_hasCells d P [.ref o, iI i, iI n] D := by
  unfold InR at hi hnn
  refine T_iload_n dX4_hasCells_0 rfl ?_
  refine T_if_lt 26 dX4_hasCells_1 (by decide) (by first | (unfold InR; omega) | (simp [st2, InR]; omega)) (fun hc1 => ?_) (fun hc1 => ?_)
  · refine T_iconst dX4_hasCells_26 ?_
    refine T_zret dX4_hasCells_27 rfl (by decide) ?_
    first | exact k1 (by omega) (by omega) (by omega) | exact k0 (by omega)
  · refine T_iload_n dX4_hasCells_4 rfl ?_
    refine T_aload_n dX4_hasCells_5 rfl ?_
    refine T_getI dX4_hasCells_6 flX4_23 hs.1 rfl ?_
    refine T_icmp_gt 26 dX4_hasCells_9 (by decide) (by first | (unfold InR; omega) | (simp [st2, InR]; omega)) (by first | (unfold InR; omega) | (simp [st2, InR]; omega)) (fun hc9 => ?_) (fun hc9 => ?_)
    · refine T_iconst dX4_hasCells_26 ?_
      refine T_zret dX4_hasCells_27 rfl (by decide) ?_
      first | exact k1 (by omega) (by omega) (by omega) | exact k0 (by omega)
    · refine T_iload_n dX4_hasCells_12 rfl ?_
      refine T_aload_n dX4_hasCells_13 rfl ?_
      refine T_getI dX4_hasCells_14 flX4_23 hs.1 rfl ?_
      refine T_iload_n dX4_hasCells_17 rfl ?_
      refine T_isub dX4_hasCells_18 ?_
      refine T_icmp_gt 26 dX4_hasCells_19 (by decide) (by first | (unfold InR; omega) | (simp [st2, InR]; omega)) (by first | (unfold InR; omega) | (simp [st2, InR]; omega)) (fun hc19 => ?_) (fun hc19 => ?_)
      · refine T_iconst dX4_hasCells_26 ?_
        refine T_zret dX4_hasCells_27 rfl (by decide) ?_
        first | exact k1 (by omega) (by omega) (by omega) | exact k0 (by omega)
      · refine T_iconst dX4_hasCells_22 ?_
        refine T_goto (tgt := 27) dX4_hasCells_23 (by decide) ?_
        refine T_zret dX4_hasCells_27 rfl (by decide) ?_
        first | exact k1 (by omega) (by omega) (by omega) | exact k0 (by omega)
/-- what comes to a cell of a lane -/
def laned (lane v : Int) : Int := if lane = 0 then i2b v else if lane = 1 then i2s v else v
theorem c_setCell {o : Nat} (hs : shAt o) {i v : Int} (hi : 0 ≤ i ∧ i < 80) (hl : InR (D o 2)) (hk : P none SH (st2 D (o + 1) i.toNat (laned (D o 2) v))) : TM g mX4_setCell d P [.ref o, iI i, iI v] D := by
  unfold laned at hk
  refine T_aload_n dX4_setCell_0 rfl ?_
  refine T_getI dX4_setCell_1 flX4_19 hs.1 rfl ?_
  refine T_lsw2 32 43 54 dX4_setCell_4 hl (by decide) (by decide) (fun hs4 => ?_) (fun hs4 => ?_) (fun hs4 => ?_)
  · refine T_aload_n dX4_setCell_32 rfl ?_
    refine T_getR dX4_setCell_33 flX4_9 hs.1 rfl ?_
    refine T_iload_n dX4_setCell_36 rfl ?_
    refine T_iload_n dX4_setCell_37 rfl ?_
    refine T_i2b dX4_setCell_38 ?_
    refine T_iast dX4_setCell_39 hs.2 (by decide) (by omega) (by omega) ?_
    refine T_goto (tgt := 61) dX4_setCell_40 (by decide) ?_
    refine T_vret dX4_setCell_61 rfl ?_
    first | (rw [if_pos hs4] at hk; exact hk) | (rw [if_neg (by omega), if_pos hs4] at hk; exact hk) | (rw [if_neg hs4.1, if_neg hs4.2] at hk; exact hk)
  · refine T_aload_n dX4_setCell_43 rfl ?_
    refine T_getR dX4_setCell_44 flX4_9 hs.1 rfl ?_
    refine T_iload_n dX4_setCell_47 rfl ?_
    refine T_iload_n dX4_setCell_48 rfl ?_
    refine T_i2s dX4_setCell_49 ?_
    refine T_iast dX4_setCell_50 hs.2 (by decide) (by omega) (by omega) ?_
    refine T_goto (tgt := 61) dX4_setCell_51 (by decide) ?_
    refine T_vret dX4_setCell_61 rfl ?_
    first | (rw [if_pos hs4] at hk; exact hk) | (rw [if_neg (by omega), if_pos hs4] at hk; exact hk) | (rw [if_neg hs4.1, if_neg hs4.2] at hk; exact hk)
  · refine T_aload_n dX4_setCell_54 rfl ?_
    refine T_getR dX4_setCell_55 flX4_9 hs.1 rfl ?_
    refine T_iload_n dX4_setCell_58 rfl ?_
    refine T_iload_n dX4_setCell_59 rfl ?_
    refine T_iast dX4_setCell_60 hs.2 (by decide) (by omega) (by omega) ?_
    refine T_vret dX4_setCell_61 rfl ?_
    first | (rw [if_pos hs4] at hk; exact hk) | (rw [if_neg (by omega), if_pos hs4] at hk; exact hk) | (rw [if_neg hs4.1, if_neg hs4.2] at hk; exact hk)
theorem c_renew {o : Nat} (hs : shAt o) {l n : Int} (hk : ∀ D' : DD, (∀ j, j < 80 → D' (o + 1) j = 0) → (∀ a, a ≠ o → a ≠ o + 1 → D' a = D a) → D' o 1 = 1 → D' o 2 = l → D' o 3 = n → P none SH D') : TM g mX4_renew d P [.ref o, iI l, iI n] D := by
  have loop : ∀ (q : Nat) (i : Nat) (D1 : DD), q + i = 80 → (∀ j, j < i → D1 (o + 1) j = 0) → (∀ a, a ≠ o + 1 → D1 a = D a) → T g mX4_renew (rmd d 0 0) 0 0 (Qm g (rmd d 0 0) P) 2 [some (.ref o), some (iI l), some (iI n), some (iI i)] [] SH D1 := by
    intro q
    induction q with
    | zero =>
      intro i D1 hq h1 h2
      refine T_iload_n dX4_renew_2 rfl ?_
      refine T_aload_n dX4_renew_3 rfl ?_
      refine T_getR dX4_renew_4 flX4_9 hs.1 rfl ?_
      refine T_alen dX4_renew_7 hs.2 ?_
      refine T_icmp_ge 24 dX4_renew_8 (by decide) (by first | (unfold InR; omega) | (simp [st2, InR]; omega)) (by first | (unfold InR; omega) | (simp [st2, InR]; omega)) (fun hc8 => ?_) (fun hc8 => (by exfalso; omega))
      refine T_aload_n dX4_renew_24 rfl ?_
      refine T_iconst dX4_renew_25 ?_
      refine T_putZ dX4_renew_26 flX4_15 hs.1 rfl (by decide) ?_
      refine T_aload_n dX4_renew_29 rfl ?_
      refine T_iload_n dX4_renew_30 rfl ?_
      refine T_putI dX4_renew_31 flX4_19 hs.1 rfl ?_
      refine T_aload_n dX4_renew_34 rfl ?_
      refine T_iload_n dX4_renew_35 rfl ?_
      refine T_putI dX4_renew_36 flX4_23 hs.1 rfl ?_
      refine T_vret dX4_renew_39 rfl ?_
      exact hk _ (fun j hj => by rw [st2_row (by omega), st2_row (by omega), st2_row (by omega)]; exact h1 j (by omega)) (fun a h3 h4 => by rw [st2_row h3, st2_row h3, st2_row h3]; exact h2 a h4) (by simp [st2]) (by simp [st2]) (by simp [st2])
    | succ q ih =>
      intro i D1 hq h1 h2
      refine T_iload_n dX4_renew_2 rfl ?_
      refine T_aload_n dX4_renew_3 rfl ?_
      refine T_getR dX4_renew_4 flX4_9 hs.1 rfl ?_
      refine T_alen dX4_renew_7 hs.2 ?_
      refine T_icmp_ge 24 dX4_renew_8 (by decide) (by first | (unfold InR; omega) | (simp [st2, InR]; omega)) (by first | (unfold InR; omega) | (simp [st2, InR]; omega)) (fun hc8 => (by exfalso; omega)) (fun hc8 => ?_)
      refine T_aload_n dX4_renew_11 rfl ?_
      refine T_getR dX4_renew_12 flX4_9 hs.1 rfl ?_
      refine T_iload_n dX4_renew_15 rfl ?_
      refine T_iconst dX4_renew_16 ?_
      refine T_iast dX4_renew_17 hs.2 (by decide) (by omega) (by omega) ?_
      refine T_iinc dX4_renew_18 rfl (by decide) ?_
      refine T_goto (tgt := 2) dX4_renew_21 (by decide) ?_
      exact ih (i + 1) _ (by omega) (fun j hj => by
        by_cases h3 : j = i
        · subst h3; exact st2_at
        · rw [st2_ne (by omega)]; exact h1 j (by omega)) (fun a h3 => by rw [st2_row h3]; exact h2 a h3)
  refine T_iconst dX4_renew_0 ?_
  refine T_istore_n dX4_renew_1 (by decide) ?_
  exact loop 80 0 D rfl (fun j hj => by omega) (fun a _ => rfl)
end

