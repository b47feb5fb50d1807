section
variable {g : G0} {d : Nat} {P : Option Value → List SC → DD → Prop} {D : DD}
theorem c_hasHome {h : Int} (hh : InR h) (hN : 0 ≤ D 1 8 ∧ D 1 8 ≤ 10) (k1 : 0 ≤ h → h < D 1 8 → P (some (iI 1)) SH D) (k0 : ¬ (0 ≤ h ∧ h < D 1 8) → P (some (iI 0)) SH D) : TM g mX1_hasHome d P [.ref 1, iI h] D := by
  unfold InR at hh
  refine T_iload_n dX1_hasHome_0 rfl ?_
  refine T_if_lt 16 dX1_hasHome_1 (by decide) (by first | (unfold InR; omega) | (simp [st2, InR]; omega)) (fun hc1 => ?_) (fun hc1 => ?_)
  · refine T_iconst dX1_hasHome_16 ?_
    refine T_zret dX1_hasHome_17 rfl (by decide) ?_
    first | exact k1 (by omega) (by omega) | exact k0 (by omega)
  · refine T_iload_n dX1_hasHome_4 rfl ?_
    refine T_aload_n dX1_hasHome_5 rfl ?_
    refine T_getI dX1_hasHome_6 flX1_40 rfl rfl ?_
    refine T_icmp_ge 16 dX1_hasHome_9 (by decide) (by first | (unfold InR; omega) | (simp [st2, InR]; omega)) (by first | (unfold InR; omega) | (simp [st2, InR]; omega)) (fun hc9 => ?_) (fun hc9 => ?_)
    · refine T_iconst dX1_hasHome_16 ?_
      refine T_zret dX1_hasHome_17 rfl (by decide) ?_
      first | exact k1 (by omega) (by omega) | exact k0 (by omega)
    · refine T_iconst dX1_hasHome_12 ?_
      refine T_goto (tgt := 17) dX1_hasHome_13 (by decide) ?_
      refine T_zret dX1_hasHome_17 rfl (by decide) ?_
      first | exact k1 (by omega) (by omega) | exact k0 (by omega)
theorem c_hasChurch {c : Int} (hh : InR c) (hN : 0 ≤ D 1 9 ∧ D 1 9 ≤ 5) (k1 : 0 ≤ c → c < D 1 9 → P (some (iI 1)) SH D) (k0 : ¬ (0 ≤ c ∧ c < D 1 9) → P (some (iI 0)) SH D) : TM g mX1_hasChurch d P [.ref 1, iI c] D := by
  unfold InR at hh
  refine T_iload_n dX1_hasChurch_0 rfl ?_
  refine T_if_lt 16 dX1_hasChurch_1 (by decide) (by first | (unfold InR; omega) | (simp [st2, InR]; omega)) (fun hc1 => ?_) (fun hc1 => ?_)
  · refine T_iconst dX1_hasChurch_16 ?_
    refine T_zret dX1_hasChurch_17 rfl (by decide) ?_
    first | exact k1 (by omega) (by omega) | exact k0 (by omega)
  · refine T_iload_n dX1_hasChurch_4 rfl ?_
    refine T_aload_n dX1_hasChurch_5 rfl ?_
    refine T_getI dX1_hasChurch_6 flX1_43 rfl rfl ?_
    refine T_icmp_ge 16 dX1_hasChurch_9 (by decide) (by first | (unfold InR; omega) | (simp [st2, InR]; omega)) (by first | (unfold InR; omega) | (simp [st2, InR]; omega)) (fun hc9 => ?_) (fun hc9 => ?_)
    · refine T_iconst dX1_hasChurch_16 ?_
      refine T_zret dX1_hasChurch_17 rfl (by decide) ?_
      first | exact k1 (by omega) (by omega) | exact k0 (by omega)
    · refine T_iconst dX1_hasChurch_12 ?_
      refine T_goto (tgt := 17) dX1_hasChurch_13 (by decide) ?_
      refine T_zret dX1_hasChurch_17 rfl (by decide) ?_
      first | exact k1 (by omega) (by omega) | exact k0 (by omega)
theorem c_empty (hk : P none SH (st2 (st2 (st2 D 1 8 0) 1 9 0) 1 11 (D 1 11 + 1))) : TM g mX1_empty d P [.ref 1] D := by
  refine T_aload_n dX1_empty_0 rfl ?_
  refine T_iconst dX1_empty_1 ?_
  refine T_putI dX1_empty_2 flX1_40 rfl rfl ?_
  refine T_aload_n dX1_empty_5 rfl ?_
  refine T_iconst dX1_empty_6 ?_
  refine T_putI dX1_empty_7 flX1_43 rfl rfl ?_
  refine T_aload_n dX1_empty_10 rfl ?_
  refine T_dup dX1_empty_11 rfl ?_
  refine T_getI dX1_empty_12 flX1_46 rfl rfl ?_
  refine T_iconst dX1_empty_15 ?_
  refine T_iadd dX1_empty_16 ?_
  refine T_putI dX1_empty_17 flX1_46 rfl rfl ?_
  refine T_vret dX1_empty_20 rfl ?_
  exact hk
theorem c_addHome {x y n : Int} (hN : 0 ≤ D 1 8 ∧ D 1 8 < 10) (hk : P (some (iI (D 1 8))) SH (st2 (st2 (st2 (st2 (st2 (st2 D 2 (D 1 8).toNat x) 3 (D 1 8).toNat y) 4 (D 1 8).toNat n) 5 (D 1 8).toNat 0) 1 8 (D 1 8 + 1)) 1 11 (D 1 11 + 1))) : TM g mX1_addHome d P [.ref 1, iI x, iI y, iI n] D := by
  refine T_aload_n dX1_addHome_0 rfl ?_
  refine T_getI dX1_addHome_1 flX1_40 rfl rfl ?_
  refine T_istore dX1_addHome_4 (by decide) ?_
  refine T_aload_n dX1_addHome_6 rfl ?_
  refine T_getR dX1_addHome_7 flX1_9 rfl rfl ?_
  refine T_iload dX1_addHome_10 rfl ?_
  refine T_iload_n dX1_addHome_12 rfl ?_
  refine T_iast dX1_addHome_13 rfl (by first | decide | omega) (by first | omega | (simp [st2]; omega)) (by first | omega | (simp [st2]; omega)) ?_
  refine T_aload_n dX1_addHome_14 rfl ?_
  refine T_getR dX1_addHome_15 flX1_15 rfl rfl ?_
  refine T_iload dX1_addHome_18 rfl ?_
  refine T_iload_n dX1_addHome_20 rfl ?_
  refine T_iast dX1_addHome_21 rfl (by first | decide | omega) (by first | omega | (simp [st2]; omega)) (by first | omega | (simp [st2]; omega)) ?_
  refine T_aload_n dX1_addHome_22 rfl ?_
  refine T_getR dX1_addHome_23 flX1_18 rfl rfl ?_
  refine T_iload dX1_addHome_26 rfl ?_
  refine T_iload_n dX1_addHome_28 rfl ?_
  refine T_iast dX1_addHome_29 rfl (by first | decide | omega) (by first | omega | (simp [st2]; omega)) (by first | omega | (simp [st2]; omega)) ?_
  refine T_aload_n dX1_addHome_30 rfl ?_
  refine T_getR dX1_addHome_31 flX1_21 rfl rfl ?_
  refine T_iload dX1_addHome_34 rfl ?_
  refine T_iconst dX1_addHome_36 ?_
  refine T_iast dX1_addHome_37 rfl (by first | decide | omega) (by first | omega | (simp [st2]; omega)) (by first | omega | (simp [st2]; omega)) ?_
  refine T_aload_n dX1_addHome_38 rfl ?_
  refine T_dup dX1_addHome_39 rfl ?_
  refine T_getI dX1_addHome_40 flX1_40 rfl rfl ?_
  refine T_iconst dX1_addHome_43 ?_
  refine T_iadd dX1_addHome_44 ?_
  refine T_putI dX1_addHome_45 flX1_40 rfl rfl ?_
  refine T_aload_n dX1_addHome_48 rfl ?_
  refine T_dup dX1_addHome_49 rfl ?_
  refine T_getI dX1_addHome_50 flX1_46 rfl rfl ?_
  refine T_iconst dX1_addHome_53 ?_
  refine T_iadd dX1_addHome_54 ?_
  refine T_putI dX1_addHome_55 flX1_46 rfl rfl ?_
  refine T_iload dX1_addHome_58 rfl ?_
  refine T_iret dX1_addHome_60 rfl ?_
  exact hk
theorem c_addChurch {kd x y n : Int} (hN : 0 ≤ D 1 9 ∧ D 1 9 < 5) (hk : P (some (iI (D 1 9))) SH (st2 (st2 (st2 (st2 (st2 (st2 D 6 (D 1 9).toNat kd) 7 (D 1 9).toNat x) 8 (D 1 9).toNat y) 9 (D 1 9).toNat n) 1 9 (D 1 9 + 1)) 1 11 (D 1 11 + 1))) : TM g mX1_addChurch d P [.ref 1, iI kd, iI x, iI y, iI n] D := by
  refine T_aload_n dX1_addChurch_0 rfl ?_
  refine T_getI dX1_addChurch_1 flX1_43 rfl rfl ?_
  refine T_istore dX1_addChurch_4 (by decide) ?_
  refine T_aload_n dX1_addChurch_6 rfl ?_
  refine T_getR dX1_addChurch_7 flX1_24 rfl rfl ?_
  refine T_iload dX1_addChurch_10 rfl ?_
  refine T_iload_n dX1_addChurch_12 rfl ?_
  refine T_iast dX1_addChurch_13 rfl (by first | decide | omega) (by first | omega | (simp [st2]; omega)) (by first | omega | (simp [st2]; omega)) ?_
  refine T_aload_n dX1_addChurch_14 rfl ?_
  refine T_getR dX1_addChurch_15 flX1_27 rfl rfl ?_
  refine T_iload dX1_addChurch_18 rfl ?_
  refine T_iload_n dX1_addChurch_20 rfl ?_
  refine T_iast dX1_addChurch_21 rfl (by first | decide | omega) (by first | omega | (simp [st2]; omega)) (by first | omega | (simp [st2]; omega)) ?_
  refine T_aload_n dX1_addChurch_22 rfl ?_
  refine T_getR dX1_addChurch_23 flX1_30 rfl rfl ?_
  refine T_iload dX1_addChurch_26 rfl ?_
  refine T_iload_n dX1_addChurch_28 rfl ?_
  refine T_iast dX1_addChurch_29 rfl (by first | decide | omega) (by first | omega | (simp [st2]; omega)) (by first | omega | (simp [st2]; omega)) ?_
  refine T_aload_n dX1_addChurch_30 rfl ?_
  refine T_getR dX1_addChurch_31 flX1_33 rfl rfl ?_
  refine T_iload dX1_addChurch_34 rfl ?_
  refine T_iload dX1_addChurch_36 rfl ?_
  refine T_iast dX1_addChurch_38 rfl (by first | decide | omega) (by first | omega | (simp [st2]; omega)) (by first | omega | (simp [st2]; omega)) ?_
  refine T_aload_n dX1_addChurch_39 rfl ?_
  refine T_dup dX1_addChurch_40 rfl ?_
  refine T_getI dX1_addChurch_41 flX1_43 rfl rfl ?_
  refine T_iconst dX1_addChurch_44 ?_
  refine T_iadd dX1_addChurch_45 ?_
  refine T_putI dX1_addChurch_46 flX1_43 rfl rfl ?_
  refine T_aload_n dX1_addChurch_49 rfl ?_
  refine T_dup dX1_addChurch_50 rfl ?_
  refine T_getI dX1_addChurch_51 flX1_46 rfl rfl ?_
  refine T_iconst dX1_addChurch_54 ?_
  refine T_iadd dX1_addChurch_55 ?_
  refine T_putI dX1_addChurch_56 flX1_46 rfl rfl ?_
  refine T_iload dX1_addChurch_59 rfl ?_
  refine T_iret dX1_addChurch_61 rfl ?_
  exact hk
theorem inR_iand (a b : Int) : InR (iand a b) := by
  have h1 := Int32.le_toInt (Int32.ofInt a &&& Int32.ofInt b)
  have h2 := Int32.toInt_lt (Int32.ofInt a &&& Int32.ofInt b)
  unfold InR iand
  omega
abbrev bit (s c : Int) : Prop := iand (ishr s c) 1 = 1
theorem c_isBarred {h c : Int} (h0 : 0 ≤ h ∧ h < 10) (k1 : bit (D 5 h.toNat) c → P (some (iI 1)) SH D) (k0 : ¬ bit (D 5 h.toNat) c → P (some (iI 0)) SH D) : TM g mX1_isBarred d P [.ref 1, iI h, iI c] D := by
  refine T_aload_n dX1_isBarred_0 rfl ?_
  refine T_getR dX1_isBarred_1 flX1_21 rfl rfl ?_
  refine T_iload_n dX1_isBarred_4 rfl ?_
  refine T_iald dX1_isBarred_5 rfl (by first | decide | omega) (by first | omega | (simp [st2]; omega)) (by first | omega | (simp [st2]; omega)) ?_
  refine T_iload_n dX1_isBarred_6 rfl ?_
  refine T_ishr dX1_isBarred_7 ?_
  refine T_iconst dX1_isBarred_8 ?_
  refine T_iand dX1_isBarred_9 ?_
  refine T_iconst dX1_isBarred_10 ?_
  refine T_icmp_ne 18 dX1_isBarred_11 (by decide) (inR_iand _ _) (by first | (unfold InR; omega) | (simp [st2, InR]; omega)) (fun hc11 => ?_) (fun hc11 => ?_)
  · refine T_iconst dX1_isBarred_18 ?_
    refine T_zret dX1_isBarred_19 rfl (by decide) ?_
    first | exact k0 hc11 | exact k1 (Classical.not_not.mp hc11)
  · refine T_iconst dX1_isBarred_14 ?_
    refine T_goto (tgt := 19) dX1_isBarred_15 (by decide) ?_
    refine T_zret dX1_isBarred_19 rfl (by decide) ?_
    first | exact k0 hc11 | exact k1 (Classical.not_not.mp hc11)
theorem c_turnBar {h c : Int} (h0 : 0 ≤ h ∧ h < 10) (hk : P none SH (st2 (st2 D 5 h.toNat (ixor (D 5 h.toNat) (ishl 1 c))) 1 11 (D 1 11 + 1))) : TM g mX1_turnBar d P [.ref 1, iI h, iI c] D := by
  refine T_aload_n dX1_turnBar_0 rfl ?_
  refine T_getR dX1_turnBar_1 flX1_21 rfl rfl ?_
  refine T_iload_n dX1_turnBar_4 rfl ?_
  refine T_dup2 dX1_turnBar_5 rfl rfl ?_
  refine T_iald dX1_turnBar_6 rfl (by first | decide | omega) (by first | omega | (simp [st2]; omega)) (by first | omega | (simp [st2]; omega)) ?_
  refine T_iconst dX1_turnBar_7 ?_
  refine T_iload_n dX1_turnBar_8 rfl ?_
  refine T_ishl dX1_turnBar_9 ?_
  refine T_ixor dX1_turnBar_10 ?_
  refine T_iast dX1_turnBar_11 rfl (by first | decide | omega) (by first | omega | (simp [st2]; omega)) (by first | omega | (simp [st2]; omega)) ?_
  refine T_aload_n dX1_turnBar_12 rfl ?_
  refine T_dup dX1_turnBar_13 rfl ?_
  refine T_getI dX1_turnBar_14 flX1_46 rfl rfl ?_
  refine T_iconst dX1_turnBar_17 ?_
  refine T_iadd dX1_turnBar_18 ?_
  refine T_putI dX1_turnBar_19 flX1_46 rfl rfl ?_
  refine T_vret dX1_turnBar_22 rfl ?_
  exact hk
theorem c_changeSeats {c n : Int} (h0 : 0 ≤ c ∧ c < 5) (hk : P (some (iI (D 9 c.toNat))) SH (st2 (st2 D 9 c.toNat n) 1 11 (D 1 11 + 1))) : TM g mX1_changeSeats d P [.ref 1, iI c, iI n] D := by
  refine T_aload_n dX1_changeSeats_0 rfl ?_
  refine T_getR dX1_changeSeats_1 flX1_33 rfl rfl ?_
  refine T_iload_n dX1_changeSeats_4 rfl ?_
  refine T_iald dX1_changeSeats_5 rfl (by first | decide | omega) (by first | omega | (simp [st2]; omega)) (by first | omega | (simp [st2]; omega)) ?_
  refine T_istore_n dX1_changeSeats_6 (by decide) ?_
  refine T_aload_n dX1_changeSeats_7 rfl ?_
  refine T_getR dX1_changeSeats_8 flX1_33 rfl rfl ?_
  refine T_iload_n dX1_changeSeats_11 rfl ?_
  refine T_iload_n dX1_changeSeats_12 rfl ?_
  refine T_iast dX1_changeSeats_13 rfl (by first | decide | omega) (by first | omega | (simp [st2]; omega)) (by first | omega | (simp [st2]; omega)) ?_
  refine T_aload_n dX1_changeSeats_14 rfl ?_
  refine T_dup dX1_changeSeats_15 rfl ?_
  refine T_getI dX1_changeSeats_16 flX1_46 rfl rfl ?_
  refine T_iconst dX1_changeSeats_19 ?_
  refine T_iadd dX1_changeSeats_20 ?_
  refine T_putI dX1_changeSeats_21 flX1_46 rfl rfl ?_
  refine T_iload_n dX1_changeSeats_24 rfl ?_
  refine T_iret dX1_changeSeats_25 rfl ?_
  exact hk
theorem c_changeToll {v : Int} (hk : P (some (iI (D 1 10))) SH (st2 (st2 D 1 10 v) 1 11 (D 1 11 + 1))) : TM g mX1_changeToll d P [.ref 1, iI v] D := by
  refine T_aload_n dX1_changeToll_0 rfl ?_
  refine T_getI dX1_changeToll_1 flX1_36 rfl rfl ?_
  refine T_istore_n dX1_changeToll_4 (by decide) ?_
  refine T_aload_n dX1_changeToll_5 rfl ?_
  refine T_iload_n dX1_changeToll_6 rfl ?_
  refine T_putI dX1_changeToll_7 flX1_36 rfl rfl ?_
  refine T_aload_n dX1_changeToll_10 rfl ?_
  refine T_dup dX1_changeToll_11 rfl ?_
  refine T_getI dX1_changeToll_12 flX1_46 rfl rfl ?_
  refine T_iconst dX1_changeToll_15 ?_
  refine T_iadd dX1_changeToll_16 ?_
  refine T_putI dX1_changeToll_17 flX1_46 rfl rfl ?_
  refine T_iload_n dX1_changeToll_20 rfl ?_
  refine T_iret dX1_changeToll_21 rfl ?_
  exact hk
theorem c_moveChurch {c x y : Int} (h0 : 0 ≤ c ∧ c < 5) (hk : P none SH (st2 (st2 (st2 D 7 c.toNat x) 8 c.toNat y) 1 11 (D 1 11 + 1))) : TM g mX1_moveChurch d P [.ref 1, iI c, iI x, iI y] D := by
  refine T_aload_n dX1_moveChurch_0 rfl ?_
  refine T_getR dX1_moveChurch_1 flX1_27 rfl rfl ?_
  refine T_iload_n dX1_moveChurch_4 rfl ?_
  refine T_iload_n dX1_moveChurch_5 rfl ?_
  refine T_iast dX1_moveChurch_6 rfl (by first | decide | omega) (by first | omega | (simp [st2]; omega)) (by first | omega | (simp [st2]; omega)) ?_
  refine T_aload_n dX1_moveChurch_7 rfl ?_
  refine T_getR dX1_moveChurch_8 flX1_30 rfl rfl ?_
  refine T_iload_n dX1_moveChurch_11 rfl ?_
  refine T_iload_n dX1_moveChurch_12 rfl ?_
  refine T_iast dX1_moveChurch_13 rfl (by first | decide | omega) (by first | omega | (simp [st2]; omega)) (by first | omega | (simp [st2]; omega)) ?_
  refine T_aload_n dX1_moveChurch_14 rfl ?_
  refine T_dup dX1_moveChurch_15 rfl ?_
  refine T_getI dX1_moveChurch_16 flX1_46 rfl rfl ?_
  refine T_iconst dX1_moveChurch_19 ?_
  refine T_iadd dX1_moveChurch_20 ?_
  refine T_putI dX1_moveChurch_21 flX1_46 rfl rfl ?_
  refine T_vret dX1_moveChurch_24 rfl ?_
  exact hk
theorem c_atOneSpot {p q : Int} (hL : LK D) (h0 : 0 ≤ p ∧ p < 5) (h1 : 0 ≤ q ∧ q < 5) (k1 : D 7 p.toNat = D 7 q.toNat → D 8 p.toNat = D 8 q.toNat → P (some (iI 1)) SH D) (k0 : ¬ (D 7 p.toNat = D 7 q.toNat ∧ D 8 p.toNat = D 8 q.toNat) → P (some (iI 0)) SH D) : TM g mX1_atOneSpot d P [.ref 1, iI p, iI q] D := by
  obtain ⟨-, -, -, -, -, -, -, -, -, hx, hy, -⟩ := hL
  have := hx p.toNat; have := hx q.toNat; have := hy p.toNat; have := hy q.toNat
  refine T_aload_n dX1_atOneSpot_0 rfl ?_
  refine T_getR dX1_atOneSpot_1 flX1_27 rfl rfl ?_
  refine T_iload_n dX1_atOneSpot_4 rfl ?_
  refine T_iald dX1_atOneSpot_5 rfl (by first | decide | omega) (by first | omega | (simp [st2]; omega)) (by first | omega | (simp [st2]; omega)) ?_
  refine T_aload_n dX1_atOneSpot_6 rfl ?_
  refine T_getR dX1_atOneSpot_7 flX1_27 rfl rfl ?_
  refine T_iload_n dX1_atOneSpot_10 rfl ?_
  refine T_iald dX1_atOneSpot_11 rfl (by first | decide | omega) (by first | omega | (simp [st2]; omega)) (by first | omega | (simp [st2]; omega)) ?_
  refine T_icmp_ne 34 dX1_atOneSpot_12 (by decide) (by first | (unfold InR; omega) | (simp [st2, InR]; omega)) (by first | (unfold InR; omega) | (simp [st2, InR]; omega)) (fun hc12 => ?_) (fun hc12 => ?_)
  · refine T_iconst dX1_atOneSpot_34 ?_
    refine T_zret dX1_atOneSpot_35 rfl (by decide) ?_
    first | exact k1 (by omega) (by omega) | exact k0 (by omega)
  · refine T_aload_n dX1_atOneSpot_15 rfl ?_
    refine T_getR dX1_atOneSpot_16 flX1_30 rfl rfl ?_
    refine T_iload_n dX1_atOneSpot_19 rfl ?_
    refine T_iald dX1_atOneSpot_20 rfl (by first | decide | omega) (by first | omega | (simp [st2]; omega)) (by first | omega | (simp [st2]; omega)) ?_
    refine T_aload_n dX1_atOneSpot_21 rfl ?_
    refine T_getR dX1_atOneSpot_22 flX1_30 rfl rfl ?_
    refine T_iload_n dX1_atOneSpot_25 rfl ?_
    refine T_iald dX1_atOneSpot_26 rfl (by first | decide | omega) (by first | omega | (simp [st2]; omega)) (by first | omega | (simp [st2]; omega)) ?_
    refine T_icmp_ne 34 dX1_atOneSpot_27 (by decide) (by first | (unfold InR; omega) | (simp [st2, InR]; omega)) (by first | (unfold InR; omega) | (simp [st2, InR]; omega)) (fun hc27 => ?_) (fun hc27 => ?_)
    · refine T_iconst dX1_atOneSpot_34 ?_
      refine T_zret dX1_atOneSpot_35 rfl (by decide) ?_
      first | exact k1 (by omega) (by omega) | exact k0 (by omega)
    · refine T_iconst dX1_atOneSpot_30 ?_
      refine T_goto (tgt := 35) dX1_atOneSpot_31 (by decide) ?_
      refine T_zret dX1_atOneSpot_35 rfl (by decide) ?_
      first | exact k1 (by omega) (by omega) | exact k0 (by omega)
def ab (a : Int) : Int := if 0 ≤ a then a else -a
/-- FAR, of a kind, between two spots -/
def farK (kd x y tx ty toll : Int) : Int := if kd = 0 then ab (x - tx) * ab (x - tx) + ab (y - ty) * ab (y - ty) else 10 * (ab (x - tx) + ab (y - ty)) + (if kd = 2 ∧ ¬ ((x < 30) ↔ (tx < 30)) then toll else 0)
theorem c_farBetween {kd x y tx ty : Int} (hL : LK D) (hkd : 0 ≤ kd ∧ kd ≤ 2) (hx : 0 ≤ x ∧ x ≤ 60) (hy : 0 ≤ y ∧ y ≤ 60) (htx : 0 ≤ tx ∧ tx ≤ 60) (hty : 0 ≤ ty ∧ ty ≤ 60) (hk : P (some (iI (farK kd x y tx ty (D 1 10)))) SH D) : TM g mX1_farBetween d P [.ref 1, iI kd, iI x, iI y, iI tx, iI ty] D := by
  have ht := hL.2.2.1
  unfold farK at hk
  refine T_iload_n dX1_farBetween_0 rfl ?_
  refine T_iload dX1_farBetween_1 rfl ?_
  refine T_isub dX1_farBetween_3 ?_
  refine T_abs dX1_farBetween_4 lkX1_53 (by first | (unfold InR; omega) | (simp [st2, InR]; omega)) (Nat.le_of_ble_eq_true rfl) ⟨by show _ ≤ _; first | decide | (simp only [rmd]; omega) | omega, by show _ ≤ _; first | decide | (simp only [rmd]; omega) | omega⟩ ?_
  refine T_istore dX1_farBetween_7 (by decide) ?_
  refine T_iload_n dX1_farBetween_9 rfl ?_
  refine T_iload dX1_farBetween_10 rfl ?_
  refine T_isub dX1_farBetween_12 ?_
  refine T_abs dX1_farBetween_13 lkX1_53 (by first | (unfold InR; omega) | (simp [st2, InR]; omega)) (Nat.le_of_ble_eq_true rfl) ⟨by show _ ≤ _; first | decide | (simp only [rmd]; omega) | omega, by show _ ≤ _; first | decide | (simp only [rmd]; omega) | omega⟩ ?_
  refine T_istore dX1_farBetween_16 (by decide) ?_
  refine T_iload_n dX1_farBetween_18 rfl ?_
  refine T_if_ne 34 dX1_farBetween_19 (by decide) (by first | (unfold InR; omega) | (simp [st2, InR]; omega)) (fun hc19 => ?_) (fun hc19 => ?_)
  · refine T_iload_n dX1_farBetween_34 rfl ?_
    refine T_iconst dX1_farBetween_35 ?_
    refine T_icmp_ne 69 dX1_farBetween_36 (by decide) (by first | (unfold InR; omega) | (simp [st2, InR]; omega)) (by first | (unfold InR; omega) | (simp [st2, InR]; omega)) (fun hc36 => ?_) (fun hc36 => ?_)
    · refine T_iconst dX1_farBetween_69 ?_
      refine T_istore dX1_farBetween_70 (by decide) ?_
      refine T_bipush dX1_farBetween_72 (by decide) ?_
      refine T_iload dX1_farBetween_74 rfl ?_
      refine T_iload dX1_farBetween_76 rfl ?_
      refine T_iadd dX1_farBetween_78 ?_
      refine T_imul dX1_farBetween_79 ?_
      refine T_iload dX1_farBetween_80 rfl ?_
      refine T_if_eq 92 dX1_farBetween_82 (by decide) (by unfold InR; decide) (fun _ => ?_) (fun h => absurd (by decide) h)
      refine T_iconst dX1_farBetween_92 ?_
      refine T_iadd dX1_farBetween_93 ?_
      refine T_iret dX1_farBetween_94 rfl ?_
      first | (rw [if_neg (show ¬ kd = 0 by omega), if_pos (show kd = 2 ∧ ¬ ((x < 30) ↔ (tx < 30)) by omega)] at hk; exact hk) | (rw [if_neg (show ¬ kd = 0 by omega), if_neg (show ¬ (kd = 2 ∧ ¬ ((x < 30) ↔ (tx < 30))) by omega)] at hk; exact hk)
    · refine T_iload_n dX1_farBetween_39 rfl ?_
      refine T_bipush dX1_farBetween_40 (by decide) ?_
      refine T_icmp_ge 49 dX1_farBetween_42 (by decide) (by first | (unfold InR; omega) | (simp [st2, InR]; omega)) (by first | (unfold InR; omega) | (simp [st2, InR]; omega)) (fun hc42 => ?_) (fun hc42 => ?_)
      · refine T_iconst dX1_farBetween_49 ?_
        refine T_iload dX1_farBetween_50 rfl ?_
        refine T_bipush dX1_farBetween_52 (by decide) ?_
        refine T_icmp_ge 61 dX1_farBetween_54 (by decide) (by first | (unfold InR; omega) | (simp [st2, InR]; omega)) (by first | (unfold InR; omega) | (simp [st2, InR]; omega)) (fun hc54 => ?_) (fun hc54 => ?_)
        · refine T_iconst dX1_farBetween_61 ?_
          refine T_icmp_eq 69 dX1_farBetween_62 (by decide) (by unfold InR; decide) (by unfold InR; decide) (fun _ => ?_) (fun h => absurd (by decide) h)
          refine T_iconst dX1_farBetween_69 ?_
          refine T_istore dX1_farBetween_70 (by decide) ?_
          refine T_bipush dX1_farBetween_72 (by decide) ?_
          refine T_iload dX1_farBetween_74 rfl ?_
          refine T_iload dX1_farBetween_76 rfl ?_
          refine T_iadd dX1_farBetween_78 ?_
          refine T_imul dX1_farBetween_79 ?_
          refine T_iload dX1_farBetween_80 rfl ?_
          refine T_if_eq 92 dX1_farBetween_82 (by decide) (by unfold InR; decide) (fun _ => ?_) (fun h => absurd (by decide) h)
          refine T_iconst dX1_farBetween_92 ?_
          refine T_iadd dX1_farBetween_93 ?_
          refine T_iret dX1_farBetween_94 rfl ?_
          first | (rw [if_neg (show ¬ kd = 0 by omega), if_pos (show kd = 2 ∧ ¬ ((x < 30) ↔ (tx < 30)) by omega)] at hk; exact hk) | (rw [if_neg (show ¬ kd = 0 by omega), if_neg (show ¬ (kd = 2 ∧ ¬ ((x < 30) ↔ (tx < 30))) by omega)] at hk; exact hk)
        · refine T_iconst dX1_farBetween_57 ?_
          refine T_goto (tgt := 62) dX1_farBetween_58 (by decide) ?_
          refine T_icmp_eq 69 dX1_farBetween_62 (by decide) (by unfold InR; decide) (by unfold InR; decide) (fun h => absurd h (by decide)) (fun _ => ?_)
          refine T_iconst dX1_farBetween_65 ?_
          refine T_goto (tgt := 70) dX1_farBetween_66 (by decide) ?_
          refine T_istore dX1_farBetween_70 (by decide) ?_
          refine T_bipush dX1_farBetween_72 (by decide) ?_
          refine T_iload dX1_farBetween_74 rfl ?_
          refine T_iload dX1_farBetween_76 rfl ?_
          refine T_iadd dX1_farBetween_78 ?_
          refine T_imul dX1_farBetween_79 ?_
          refine T_iload dX1_farBetween_80 rfl ?_
          refine T_if_eq 92 dX1_farBetween_82 (by decide) (by unfold InR; decide) (fun h => absurd h (by decide)) (fun _ => ?_)
          refine T_aload_n dX1_farBetween_85 rfl ?_
          refine T_getI dX1_farBetween_86 flX1_36 rfl rfl ?_
          refine T_goto (tgt := 93) dX1_farBetween_89 (by decide) ?_
          refine T_iadd dX1_farBetween_93 ?_
          refine T_iret dX1_farBetween_94 rfl ?_
          first | (rw [if_neg (show ¬ kd = 0 by omega), if_pos (show kd = 2 ∧ ¬ ((x < 30) ↔ (tx < 30)) by omega)] at hk; exact hk) | (rw [if_neg (show ¬ kd = 0 by omega), if_neg (show ¬ (kd = 2 ∧ ¬ ((x < 30) ↔ (tx < 30))) by omega)] at hk; exact hk)
      · refine T_iconst dX1_farBetween_45 ?_
        refine T_goto (tgt := 50) dX1_farBetween_46 (by decide) ?_
        refine T_iload dX1_farBetween_50 rfl ?_
        refine T_bipush dX1_farBetween_52 (by decide) ?_
        refine T_icmp_ge 61 dX1_farBetween_54 (by decide) (by first | (unfold InR; omega) | (simp [st2, InR]; omega)) (by first | (unfold InR; omega) | (simp [st2, InR]; omega)) (fun hc54 => ?_) (fun hc54 => ?_)
        · refine T_iconst dX1_farBetween_61 ?_
          refine T_icmp_eq 69 dX1_farBetween_62 (by decide) (by unfold InR; decide) (by unfold InR; decide) (fun h => absurd h (by decide)) (fun _ => ?_)
          refine T_iconst dX1_farBetween_65 ?_
          refine T_goto (tgt := 70) dX1_farBetween_66 (by decide) ?_
          refine T_istore dX1_farBetween_70 (by decide) ?_
          refine T_bipush dX1_farBetween_72 (by decide) ?_
          refine T_iload dX1_farBetween_74 rfl ?_
          refine T_iload dX1_farBetween_76 rfl ?_
          refine T_iadd dX1_farBetween_78 ?_
          refine T_imul dX1_farBetween_79 ?_
          refine T_iload dX1_farBetween_80 rfl ?_
          refine T_if_eq 92 dX1_farBetween_82 (by decide) (by unfold InR; decide) (fun h => absurd h (by decide)) (fun _ => ?_)
          refine T_aload_n dX1_farBetween_85 rfl ?_
          refine T_getI dX1_farBetween_86 flX1_36 rfl rfl ?_
          refine T_goto (tgt := 93) dX1_farBetween_89 (by decide) ?_
          refine T_iadd dX1_farBetween_93 ?_
          refine T_iret dX1_farBetween_94 rfl ?_
          first | (rw [if_neg (show ¬ kd = 0 by omega), if_pos (show kd = 2 ∧ ¬ ((x < 30) ↔ (tx < 30)) by omega)] at hk; exact hk) | (rw [if_neg (show ¬ kd = 0 by omega), if_neg (show ¬ (kd = 2 ∧ ¬ ((x < 30) ↔ (tx < 30))) by omega)] at hk; exact hk)
        · refine T_iconst dX1_farBetween_57 ?_
          refine T_goto (tgt := 62) dX1_farBetween_58 (by decide) ?_
          refine T_icmp_eq 69 dX1_farBetween_62 (by decide) (by unfold InR; decide) (by unfold InR; decide) (fun _ => ?_) (fun h => absurd (by decide) h)
          refine T_iconst dX1_farBetween_69 ?_
          refine T_istore dX1_farBetween_70 (by decide) ?_
          refine T_bipush dX1_farBetween_72 (by decide) ?_
          refine T_iload dX1_farBetween_74 rfl ?_
          refine T_iload dX1_farBetween_76 rfl ?_
          refine T_iadd dX1_farBetween_78 ?_
          refine T_imul dX1_farBetween_79 ?_
          refine T_iload dX1_farBetween_80 rfl ?_
          refine T_if_eq 92 dX1_farBetween_82 (by decide) (by unfold InR; decide) (fun _ => ?_) (fun h => absurd (by decide) h)
          refine T_iconst dX1_farBetween_92 ?_
          refine T_iadd dX1_farBetween_93 ?_
          refine T_iret dX1_farBetween_94 rfl ?_
          first | (rw [if_neg (show ¬ kd = 0 by omega), if_pos (show kd = 2 ∧ ¬ ((x < 30) ↔ (tx < 30)) by omega)] at hk; exact hk) | (rw [if_neg (show ¬ kd = 0 by omega), if_neg (show ¬ (kd = 2 ∧ ¬ ((x < 30) ↔ (tx < 30))) by omega)] at hk; exact hk)
  · refine T_iload dX1_farBetween_22 rfl ?_
    refine T_iload dX1_farBetween_24 rfl ?_
    refine T_imul dX1_farBetween_26 ?_
    refine T_iload dX1_farBetween_27 rfl ?_
    refine T_iload dX1_farBetween_29 rfl ?_
    refine T_imul dX1_farBetween_31 ?_
    refine T_iadd dX1_farBetween_32 ?_
    refine T_iret dX1_farBetween_33 rfl ?_
    rw [if_pos (show kd = 0 by omega)] at hk; exact hk
theorem c_farTo {c x y : Int} (hL : LK D) (hc : 0 ≤ c ∧ c < 5) (hx : 0 ≤ x ∧ x ≤ 60) (hy : 0 ≤ y ∧ y ≤ 60) (hk : P (some (iI (farK (D 6 c.toNat) x y (D 7 c.toNat) (D 8 c.toNat) (D 1 10)))) SH D) : TM g mX1_farTo (d + 1) P [.ref 1, iI c, iI x, iI y] D := by
  refine T_aload_n dX1_farTo_0 rfl ?_
  refine T_aload_n dX1_farTo_1 rfl ?_
  refine T_getR dX1_farTo_2 flX1_24 rfl rfl ?_
  refine T_iload_n dX1_farTo_5 rfl ?_
  refine T_iald dX1_farTo_6 rfl (by first | decide | omega) (by first | omega | (simp [st2]; omega)) (by first | omega | (simp [st2]; omega)) ?_
  refine T_iload_n dX1_farTo_7 rfl ?_
  refine T_iload_n dX1_farTo_8 rfl ?_
  refine T_aload_n dX1_farTo_9 rfl ?_
  refine T_getR dX1_farTo_10 flX1_27 rfl rfl ?_
  refine T_iload_n dX1_farTo_13 rfl ?_
  refine T_iald dX1_farTo_14 rfl (by first | decide | omega) (by first | omega | (simp [st2]; omega)) (by first | omega | (simp [st2]; omega)) ?_
  refine T_aload_n dX1_farTo_15 rfl ?_
  refine T_getR dX1_farTo_16 flX1_30 rfl rfl ?_
  refine T_iload_n dX1_farTo_19 rfl ?_
  refine T_iald dX1_farTo_20 rfl (by first | decide | omega) (by first | omega | (simp [st2]; omega)) (by first | omega | (simp [st2]; omega)) ?_
  refine T_cV_5 dX1_farTo_21 lkX1_49 rfl (Nat.le_of_ble_eq_true rfl) (RO_r (by decide)) (Nat.le_of_ble_eq_true rfl) ?_
  refine c_farBetween hL (hL.2.2.2.2.2.2.2.2.1 _) hx hy (hL.2.2.2.2.2.2.2.2.2.1 _) (hL.2.2.2.2.2.2.2.2.2.2.1 _) ?_
  refine T_iret dX1_farTo_24 rfl ?_
  exact hk
end

