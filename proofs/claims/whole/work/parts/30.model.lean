/-- the land's cells, as the reference has them -/
def MK (D : DD) : Prop := (0 ≤ D 57 1 ∧ D 57 1 ≤ 10) ∧ (0 ≤ D 57 5 ∧ D 57 5 ≤ 5) ∧ (0 ≤ D 57 11 ∧ D 57 11 ≤ 999) ∧ (∀ j, 0 ≤ D 58 j ∧ D 58 j ≤ 60) ∧ (∀ j, 0 ≤ D 59 j ∧ D 59 j ≤ 60) ∧ (∀ j, 0 ≤ D 60 j ∧ D 60 j ≤ 5) ∧ (∀ j, 0 ≤ D 61 j ∧ D 61 j ≤ 2) ∧ (∀ j, 0 ≤ D 62 j ∧ D 62 j ≤ 60) ∧ (∀ j, 0 ≤ D 63 j ∧ D 63 j ≤ 60) ∧ (∀ j, 0 ≤ D 64 j ∧ D 64 j ≤ 50) ∧ (∀ j, 0 ≤ D 65 j ∧ D 65 j ≤ 1)
theorem lc_ge {a b : Int} : 0 ≤ lc a b ↔ b ≤ a := by unfold lc; (split <;> first | omega | (split <;> omega))
theorem lc_gt {a b : Int} : 0 < lc a b ↔ b < a := by unfold lc; (split <;> first | omega | (split <;> omega))
theorem in64_of {a : Int} (h : InR a) : In64 a := by unfold InR at h; unfold In64; omega
section
variable {g : G0} {d : Nat} {P : Option Value → List SC → DD → Prop} {D : DD}
theorem r_in {v a b : Int} (hv : In64 v) (ha : In64 a) (hb : In64 b) (k1 : a ≤ v → v ≤ b → P (some (iI 1)) SH D) (k0 : ¬ (a ≤ v ∧ v ≤ b) → P (some (iI 0)) SH D) : TM g mX7_in d P [lI v, lI a, lI b] D := by
  refine T_lload_n dX7_in_0 rfl ?_
  refine T_lload_n dX7_in_1 rfl ?_
  refine T_lcmp dX7_in_2 hv ha ?_
  refine T_if_lt 17 dX7_in_3 (by decide) (inR_lc _ _) (fun hc3 => ?_) (fun hc3 => ?_)
  · rw [lc_lt] at hc3
    refine T_iconst dX7_in_17 ?_
    refine T_zret dX7_in_18 rfl (by decide) ?_
    first | exact k1 (by omega) (by omega) | exact k0 (by omega)
  · rw [lc_lt] at hc3
    refine T_lload_n dX7_in_6 rfl ?_
    refine T_lload dX7_in_7 rfl ?_
    refine T_lcmp dX7_in_9 hv hb ?_
    refine T_if_gt 17 dX7_in_10 (by decide) (inR_lc _ _) (fun hc10 => ?_) (fun hc10 => ?_)
    · rw [lc_gt] at hc10
      refine T_iconst dX7_in_17 ?_
      refine T_zret dX7_in_18 rfl (by decide) ?_
      first | exact k1 (by omega) (by omega) | exact k0 (by omega)
    · rw [lc_gt] at hc10
      refine T_iconst dX7_in_13 ?_
      refine T_goto (tgt := 18) dX7_in_14 (by decide) ?_
      refine T_zret dX7_in_18 rfl (by decide) ?_
      first | exact k1 (by omega) (by omega) | exact k0 (by omega)
theorem r_lost (hk : P (some (lI (-9223372036854775808))) SH D) : TM g mX7_lost d P [] D := by
  refine T_ldc2 (n := -9223372036854775808) dX7_lost_0 (by rw [show Int64.ofInt (-9223372036854775808) = (-9223372036854775808 : Int64) by decide]; exact tk_1073) ?_
  refine T_lret dX7_lost_3 rfl ?_
  exact hk
theorem r_hasBit {s k : Int} (k1 : bit s k → P (some (iI 1)) SH D) (k0 : ¬ bit s k → P (some (iI 0)) SH D) : TM g mX7_hasBit d P [iI s, iI k] D := by
  refine T_iload_n dX7_hasBit_0 rfl ?_
  refine T_iload_n dX7_hasBit_1 rfl ?_
  refine T_ishr dX7_hasBit_2 ?_
  refine T_iconst dX7_hasBit_3 ?_
  refine T_iand dX7_hasBit_4 ?_
  refine T_iconst dX7_hasBit_5 ?_
  refine T_icmp_ne 13 dX7_hasBit_6 (by decide) (inR_iand _ _) (by first | (unfold InR; omega) | (simp [st2, InR]; omega)) (fun hc6 => ?_) (fun hc6 => ?_)
  · refine T_iconst dX7_hasBit_13 ?_
    refine T_zret dX7_hasBit_14 rfl (by decide) ?_
    first | exact k0 hc6 | exact k1 (Classical.not_not.mp hc6)
  · refine T_iconst dX7_hasBit_9 ?_
    refine T_goto (tgt := 14) dX7_hasBit_10 (by decide) ?_
    refine T_zret dX7_hasBit_14 rfl (by decide) ?_
    first | exact k0 hc6 | exact k1 (Classical.not_not.mp hc6)
theorem r_sizeOf {v : Int} (hv : InR v) (hk : P (some (iI (ab v))) SH D) : TM g mX7_sizeOf d P [iI v] D := by
  unfold ab at hk
  refine T_iload_n dX7_sizeOf_0 rfl ?_
  refine T_if_ge 9 dX7_sizeOf_1 (by decide) hv (fun hc1 => ?_) (fun hc1 => ?_)
  · refine T_iload_n dX7_sizeOf_9 rfl ?_
    refine T_iret dX7_sizeOf_10 rfl ?_
    first | (rw [if_pos (show 0 ≤ v by omega)] at hk; exact hk) | (rw [if_neg (show ¬ 0 ≤ v by omega)] at hk; exact hk)
  · refine T_iload_n dX7_sizeOf_4 rfl ?_
    refine T_ineg dX7_sizeOf_5 ?_
    refine T_goto (tgt := 10) dX7_sizeOf_6 (by decide) ?_
    refine T_iret dX7_sizeOf_10 rfl ?_
    first | (rw [if_pos (show 0 ≤ v by omega)] at hk; exact hk) | (rw [if_neg (show ¬ 0 ≤ v by omega)] at hk; exact hk)
theorem r_isSpot {x y : Int} (hx : InR x) (hy : InR y) (k1 : 0 ≤ x → x ≤ 60 → 0 ≤ y → y ≤ 60 → P (some (iI 1)) SH D) (k0 : ¬ (0 ≤ x ∧ x ≤ 60 ∧ 0 ≤ y ∧ y ≤ 60) → P (some (iI 0)) SH D) : TM g mX7_isSpot (d + 1) P [iI x, iI y] D := by
  refine T_iload_n dX7_isSpot_0 rfl ?_
  refine T_i2l dX7_isSpot_1 hx ?_
  refine T_lconst (a := 0) dX7_isSpot_2 (by decide) ?_
  refine T_ldc2 (n := 60) dX7_isSpot_3 tk_879 ?_
  refine T_cS_3 dX7_isSpot_6 lkX7_88 (Nat.le_of_ble_eq_true rfl) (RO_r (by decide)) (Nat.le_of_ble_eq_true rfl) ?_
  refine r_in (in64_of (by first | exact hx | exact hy)) (by first | (unfold In64; omega) | (simp [st2, In64]; omega)) (by first | (unfold In64; omega) | (simp [st2, In64]; omega)) (fun hw1 hw2 => ?_) (fun hw1 => ?_)
  · refine T_if_eq 28 dX7_isSpot_9 (by decide) (by unfold InR; decide) (fun h => absurd h (by decide)) (fun _ => ?_)
    refine T_iload_n dX7_isSpot_12 rfl ?_
    refine T_i2l dX7_isSpot_13 hy ?_
    refine T_lconst (a := 0) dX7_isSpot_14 (by decide) ?_
    refine T_ldc2 (n := 60) dX7_isSpot_15 tk_879 ?_
    refine T_cS_3 dX7_isSpot_18 lkX7_88 (Nat.le_of_ble_eq_true rfl) (RO_r (by decide)) (Nat.le_of_ble_eq_true rfl) ?_
    refine r_in (in64_of (by first | exact hx | exact hy)) (by first | (unfold In64; omega) | (simp [st2, In64]; omega)) (by first | (unfold In64; omega) | (simp [st2, In64]; omega)) (fun hw1 hw2 => ?_) (fun hw1 => ?_)
    · refine T_if_eq 28 dX7_isSpot_21 (by decide) (by unfold InR; decide) (fun h => absurd h (by decide)) (fun _ => ?_)
      refine T_iconst dX7_isSpot_24 ?_
      refine T_goto (tgt := 29) dX7_isSpot_25 (by decide) ?_
      refine T_zret dX7_isSpot_29 rfl (by decide) ?_
      first | exact k1 (by omega) (by omega) (by omega) (by omega) | exact k0 (by omega)
    · refine T_if_eq 28 dX7_isSpot_21 (by decide) (by unfold InR; decide) (fun _ => ?_) (fun h => absurd (by decide) h)
      refine T_iconst dX7_isSpot_28 ?_
      refine T_zret dX7_isSpot_29 rfl (by decide) ?_
      first | exact k1 (by omega) (by omega) (by omega) (by omega) | exact k0 (by omega)
  · refine T_if_eq 28 dX7_isSpot_9 (by decide) (by unfold InR; decide) (fun _ => ?_) (fun h => absurd (by decide) h)
    refine T_iconst dX7_isSpot_28 ?_
    refine T_zret dX7_isSpot_29 rfl (by decide) ?_
    first | exact k1 (by omega) (by omega) (by omega) (by omega) | exact k0 (by omega)
theorem r_refused {c : Int} (hk : P (some (iI c)) SH (st2 D 57 0 0)) : TM g mX7_refused d P [.ref 57, iI c] D := by
  refine T_aload_n dX7_refused_0 rfl ?_
  refine T_iconst dX7_refused_1 ?_
  refine T_putI dX7_refused_2 flX7_92 rfl rfl ?_
  refine T_iload_n dX7_refused_5 rfl ?_
  refine T_iret dX7_refused_6 rfl ?_
  exact hk
theorem r_failed {f : Int} (hk : P (some (iI (-10 - f))) SH (st2 D 57 0 f)) : TM g mX7_failed d P [.ref 57, iI f] D := by
  refine T_aload_n dX7_failed_0 rfl ?_
  refine T_iload_n dX7_failed_1 rfl ?_
  refine T_putI dX7_failed_2 flX7_92 rfl rfl ?_
  refine T_bipush dX7_failed_5 (by decide) ?_
  refine T_iload_n dX7_failed_7 rfl ?_
  refine T_isub dX7_failed_8 ?_
  refine T_iret dX7_failed_9 rfl ?_
  exact hk
theorem r_failedLong {f : Int} (hk : P (some (lI (-9223372036854775808))) SH (st2 D 57 0 f)) : TM g mX7_failedLong (d + 1) P [.ref 57, iI f] D := by
  refine T_aload_n dX7_failedLong_0 rfl ?_
  refine T_iload_n dX7_failedLong_1 rfl ?_
  refine T_putI dX7_failedLong_2 flX7_92 rfl rfl ?_
  refine T_cS_0 dX7_failedLong_5 lkX7_95 (Nat.le_of_ble_eq_true rfl) (RO_r (by decide)) (Nat.le_of_ble_eq_true rfl) ?_
  refine r_lost ?_
  refine T_lret dX7_failedLong_8 rfl ?_
  exact hk
theorem r_noHome {h : Int} (hh : InR h) (hN : 0 ≤ D 57 1 ∧ D 57 1 ≤ 10) (k0 : 0 ≤ h → h < D 57 1 → P (some (iI 0)) SH D) (k1 : ¬ (0 ≤ h ∧ h < D 57 1) → P (some (iI 1)) SH D) : TM g mX7_noHome (d + 1) P [.ref 57, iI h] D := by
  refine T_iload_n dX7_noHome_0 rfl ?_
  refine T_i2l dX7_noHome_1 hh ?_
  refine T_lconst (a := 0) dX7_noHome_2 (by decide) ?_
  refine T_aload_n dX7_noHome_3 rfl ?_
  refine T_getI dX7_noHome_4 flX7_112 rfl rfl ?_
  refine T_i2l dX7_noHome_7 (by first | (unfold InR; omega) | (simp [st2, InR]; omega)) ?_
  refine T_lconst (a := 1) dX7_noHome_8 (by decide) ?_
  refine T_lsub dX7_noHome_9 ?_
  refine T_cS_3 dX7_noHome_10 lkX7_88 (Nat.le_of_ble_eq_true rfl) (RO_r (by decide)) (Nat.le_of_ble_eq_true rfl) ?_
  refine r_in (in64_of hh) (by first | (unfold In64; omega) | (simp [st2, In64]; omega)) (by first | (unfold In64; omega) | (simp [st2, In64]; omega)) (fun hw1 hw2 => ?_) (fun hw1 => ?_)
  · refine T_if_ne 20 dX7_noHome_13 (by decide) (by unfold InR; decide) (fun _ => ?_) (fun h => absurd (by decide) h)
    refine T_iconst dX7_noHome_20 ?_
    refine T_zret dX7_noHome_21 rfl (by decide) ?_
    first | exact k0 (by omega) (by omega) | exact k1 (by omega)
  · refine T_if_ne 20 dX7_noHome_13 (by decide) (by unfold InR; decide) (fun h => absurd h (by decide)) (fun _ => ?_)
    refine T_iconst dX7_noHome_16 ?_
    refine T_goto (tgt := 21) dX7_noHome_17 (by decide) ?_
    refine T_zret dX7_noHome_21 rfl (by decide) ?_
    first | exact k0 (by omega) (by omega) | exact k1 (by omega)
theorem r_noChurch {h : Int} (hh : InR h) (hN : 0 ≤ D 57 5 ∧ D 57 5 ≤ 5) (k0 : 0 ≤ h → h < D 57 5 → P (some (iI 0)) SH D) (k1 : ¬ (0 ≤ h ∧ h < D 57 5) → P (some (iI 1)) SH D) : TM g mX7_noChurch (d + 1) P [.ref 57, iI h] D := by
  refine T_iload_n dX7_noChurch_0 rfl ?_
  refine T_i2l dX7_noChurch_1 hh ?_
  refine T_lconst (a := 0) dX7_noChurch_2 (by decide) ?_
  refine T_aload_n dX7_noChurch_3 rfl ?_
  refine T_getI dX7_noChurch_4 flX7_115 rfl rfl ?_
  refine T_i2l dX7_noChurch_7 (by first | (unfold InR; omega) | (simp [st2, InR]; omega)) ?_
  refine T_lconst (a := 1) dX7_noChurch_8 (by decide) ?_
  refine T_lsub dX7_noChurch_9 ?_
  refine T_cS_3 dX7_noChurch_10 lkX7_88 (Nat.le_of_ble_eq_true rfl) (RO_r (by decide)) (Nat.le_of_ble_eq_true rfl) ?_
  refine r_in (in64_of hh) (by first | (unfold In64; omega) | (simp [st2, In64]; omega)) (by first | (unfold In64; omega) | (simp [st2, In64]; omega)) (fun hw1 hw2 => ?_) (fun hw1 => ?_)
  · refine T_if_ne 20 dX7_noChurch_13 (by decide) (by unfold InR; decide) (fun _ => ?_) (fun h => absurd (by decide) h)
    refine T_iconst dX7_noChurch_20 ?_
    refine T_zret dX7_noChurch_21 rfl (by decide) ?_
    first | exact k0 (by omega) (by omega) | exact k1 (by omega)
  · refine T_if_ne 20 dX7_noChurch_13 (by decide) (by unfold InR; decide) (fun h => absurd h (by decide)) (fun _ => ?_)
    refine T_iconst dX7_noChurch_16 ?_
    refine T_goto (tgt := 21) dX7_noChurch_17 (by decide) ?_
    refine T_zret dX7_noChurch_21 rfl (by decide) ?_
    first | exact k0 (by omega) (by omega) | exact k1 (by omega)
theorem r_addHome {x y n : Int} (hN : 0 ≤ D 57 1 ∧ D 57 1 < 10) (hk : P none SH (st2 (st2 (st2 (st2 D 58 (D 57 1).toNat x) 59 (D 57 1).toNat y) 60 (D 57 1).toNat n) 57 1 (D 57 1 + 1))) : TM g mX7_addHome d P [.ref 57, iI x, iI y, iI n] D := by
  refine T_aload_n dX7_addHome_0 rfl ?_
  refine T_getR dX7_addHome_1 flX7_7 rfl rfl ?_
  refine T_aload_n dX7_addHome_4 rfl ?_
  refine T_getI dX7_addHome_5 flX7_112 rfl rfl ?_
  refine T_iload_n dX7_addHome_8 rfl ?_
  refine T_iast dX7_addHome_9 rfl (by first | decide | omega) (by first | omega | (simp [st2]; omega)) (by first | omega | (simp [st2]; omega)) ?_
  refine T_aload_n dX7_addHome_10 rfl ?_
  refine T_getR dX7_addHome_11 flX7_13 rfl rfl ?_
  refine T_aload_n dX7_addHome_14 rfl ?_
  refine T_getI dX7_addHome_15 flX7_112 rfl rfl ?_
  refine T_iload_n dX7_addHome_18 rfl ?_
  refine T_iast dX7_addHome_19 rfl (by first | decide | omega) (by first | omega | (simp [st2]; omega)) (by first | omega | (simp [st2]; omega)) ?_
  refine T_aload_n dX7_addHome_20 rfl ?_
  refine T_getR dX7_addHome_21 flX7_16 rfl rfl ?_
  refine T_aload_n dX7_addHome_24 rfl ?_
  refine T_getI dX7_addHome_25 flX7_112 rfl rfl ?_
  refine T_iload_n dX7_addHome_28 rfl ?_
  refine T_iast dX7_addHome_29 rfl (by first | decide | omega) (by first | omega | (simp [st2]; omega)) (by first | omega | (simp [st2]; omega)) ?_
  refine T_aload_n dX7_addHome_30 rfl ?_
  refine T_dup dX7_addHome_31 rfl ?_
  refine T_getI dX7_addHome_32 flX7_112 rfl rfl ?_
  refine T_iconst dX7_addHome_35 ?_
  refine T_iadd dX7_addHome_36 ?_
  refine T_putI dX7_addHome_37 flX7_112 rfl rfl ?_
  refine T_vret dX7_addHome_40 rfl ?_
  exact hk
theorem r_addChurch {kd x y n : Int} (hN : 0 ≤ D 57 5 ∧ D 57 5 < 5) (hk : P none SH (st2 (st2 (st2 (st2 (st2 D 61 (D 57 5).toNat kd) 62 (D 57 5).toNat x) 63 (D 57 5).toNat y) 64 (D 57 5).toNat n) 57 5 (D 57 5 + 1))) : TM g mX7_addChurch d P [.ref 57, iI kd, iI x, iI y, iI n] D := by
  refine T_aload_n dX7_addChurch_0 rfl ?_
  refine T_getR dX7_addChurch_1 flX7_19 rfl rfl ?_
  refine T_aload_n dX7_addChurch_4 rfl ?_
  refine T_getI dX7_addChurch_5 flX7_115 rfl rfl ?_
  refine T_iload_n dX7_addChurch_8 rfl ?_
  refine T_iast dX7_addChurch_9 rfl (by first | decide | omega) (by first | omega | (simp [st2]; omega)) (by first | omega | (simp [st2]; omega)) ?_
  refine T_aload_n dX7_addChurch_10 rfl ?_
  refine T_getR dX7_addChurch_11 flX7_22 rfl rfl ?_
  refine T_aload_n dX7_addChurch_14 rfl ?_
  refine T_getI dX7_addChurch_15 flX7_115 rfl rfl ?_
  refine T_iload_n dX7_addChurch_18 rfl ?_
  refine T_iast dX7_addChurch_19 rfl (by first | decide | omega) (by first | omega | (simp [st2]; omega)) (by first | omega | (simp [st2]; omega)) ?_
  refine T_aload_n dX7_addChurch_20 rfl ?_
  refine T_getR dX7_addChurch_21 flX7_25 rfl rfl ?_
  refine T_aload_n dX7_addChurch_24 rfl ?_
  refine T_getI dX7_addChurch_25 flX7_115 rfl rfl ?_
  refine T_iload_n dX7_addChurch_28 rfl ?_
  refine T_iast dX7_addChurch_29 rfl (by first | decide | omega) (by first | omega | (simp [st2]; omega)) (by first | omega | (simp [st2]; omega)) ?_
  refine T_aload_n dX7_addChurch_30 rfl ?_
  refine T_getR dX7_addChurch_31 flX7_28 rfl rfl ?_
  refine T_aload_n dX7_addChurch_34 rfl ?_
  refine T_getI dX7_addChurch_35 flX7_115 rfl rfl ?_
  refine T_iload dX7_addChurch_38 rfl ?_
  refine T_iast dX7_addChurch_40 rfl (by first | decide | omega) (by first | omega | (simp [st2]; omega)) (by first | omega | (simp [st2]; omega)) ?_
  refine T_aload_n dX7_addChurch_41 rfl ?_
  refine T_dup dX7_addChurch_42 rfl ?_
  refine T_getI dX7_addChurch_43 flX7_115 rfl rfl ?_
  refine T_iconst dX7_addChurch_46 ?_
  refine T_iadd dX7_addChurch_47 ?_
  refine T_putI dX7_addChurch_48 flX7_115 rfl rfl ?_
  refine T_vret dX7_addChurch_51 rfl ?_
  exact hk
theorem r_home {x y n : Int} (hL : MK D) (hx : InR x) (hy : InR y) (hn : InR n) (kO : ¬ (0 ≤ x ∧ x ≤ 60 ∧ 0 ≤ y ∧ y ≤ 60 ∧ 1 ≤ n ∧ n ≤ 5) → P (some (iI (-2))) SH D) (kF : (0 ≤ x ∧ x ≤ 60 ∧ 0 ≤ y ∧ y ≤ 60 ∧ 1 ≤ n ∧ n ≤ 5) → D 57 1 = 10 → P (some (iI (-4))) SH D)
    (kk : (0 ≤ x ∧ x ≤ 60 ∧ 0 ≤ y ∧ y ≤ 60 ∧ 1 ≤ n ∧ n ≤ 5) → D 57 1 < 10 → P (some (iI (D 57 1 + 1 - 1))) SH (st2 (st2 (st2 (st2 D 58 (D 57 1).toNat x) 59 (D 57 1).toNat y) 60 (D 57 1).toNat n) 57 1 (D 57 1 + 1))) : TM g mX7_home (d + 2) P [.ref 57, iI x, iI y, iI n] D := by
  have hN := hL.1
  refine T_iload_n dX7_home_0 rfl ?_
  refine T_iload_n dX7_home_1 rfl ?_
  refine T_cS_2 dX7_home_2 lkX7_118 (Nat.le_of_ble_eq_true rfl) (RO_r (by decide)) (Nat.le_of_ble_eq_true rfl) ?_
  refine r_isSpot hx hy (fun h1 h2 h3 h4 => ?_) (fun h1 => ?_)
  · refine T_if_eq 20 dX7_home_5 (by decide) (by unfold InR; decide) (fun h => absurd h (by decide)) (fun _ => ?_)
    refine T_iload_n dX7_home_8 rfl ?_
    refine T_i2l dX7_home_9 hn ?_
    refine T_lconst (a := 1) dX7_home_10 (by decide) ?_
    refine T_ldc2 (n := 5) dX7_home_11 tk_883 ?_
    refine T_cS_3 dX7_home_14 lkX7_88 (Nat.le_of_ble_eq_true rfl) (RO_r (by decide)) (Nat.le_of_ble_eq_true rfl) ?_
    refine r_in (in64_of hn) (by first | (unfold In64; omega) | (simp [st2, In64]; omega)) (by first | (unfold In64; omega) | (simp [st2, In64]; omega)) (fun h5 h6 => ?_) (fun h5 => ?_)
    · refine T_if_ne 23 dX7_home_17 (by decide) (by unfold InR; decide) (fun _ => ?_) (fun h => absurd (by decide) h)
      refine T_aload_n dX7_home_23 rfl ?_
      refine T_getI dX7_home_24 flX7_112 rfl rfl ?_
      refine T_bipush dX7_home_27 (by decide) ?_
      refine T_icmp_ne 35 dX7_home_29 (by decide) (by first | (unfold InR; omega) | (simp [st2, InR]; omega)) (by first | (unfold InR; omega) | (simp [st2, InR]; omega)) (fun hc29 => ?_) (fun hc29 => ?_)
      · refine T_aload_n dX7_home_35 rfl ?_
        refine T_iload_n dX7_home_36 rfl ?_
        refine T_iload_n dX7_home_37 rfl ?_
        refine T_iload_n dX7_home_38 rfl ?_
        refine T_cV_3 dX7_home_39 lkX7_124 rfl (Nat.le_of_ble_eq_true rfl) (RO_r (by decide)) (Nat.le_of_ble_eq_true rfl) ?_
        refine r_addHome ⟨hN.1, by omega⟩ ?_
        refine T_aload_n dX7_home_42 rfl ?_
        refine T_getI dX7_home_43 flX7_112 rfl rfl ?_
        refine T_iconst dX7_home_46 ?_
        refine T_isub dX7_home_47 ?_
        refine T_iret dX7_home_48 rfl ?_
        first | exact kO (by omega) | exact kF (by omega) (by omega) | exact kk (by omega) (by omega)
      · refine T_bipush dX7_home_32 (by decide) ?_
        refine T_iret dX7_home_34 rfl ?_
        first | exact kO (by omega) | exact kF (by omega) (by omega) | exact kk (by omega) (by omega)
    · refine T_if_ne 23 dX7_home_17 (by decide) (by unfold InR; decide) (fun h => absurd h (by decide)) (fun _ => ?_)
      refine T_bipush dX7_home_20 (by decide) ?_
      refine T_iret dX7_home_22 rfl ?_
      first | exact kO (by omega) | exact kF (by omega) (by omega) | exact kk (by omega) (by omega)
  · refine T_if_eq 20 dX7_home_5 (by decide) (by unfold InR; decide) (fun _ => ?_) (fun h => absurd (by decide) h)
    refine T_bipush dX7_home_20 (by decide) ?_
    refine T_iret dX7_home_22 rfl ?_
    first | exact kO (by omega) | exact kF (by omega) (by omega) | exact kk (by omega) (by omega)
theorem r_church {kd x y n : Int} (hL : MK D) (hkd : InR kd) (hx : InR x) (hy : InR y) (hn : InR n) (kO : ¬ (0 ≤ kd ∧ kd ≤ 2 ∧ 0 ≤ x ∧ x ≤ 60 ∧ 0 ≤ y ∧ y ≤ 60 ∧ 0 ≤ n ∧ n ≤ 50) → P (some (iI (-2))) SH D) (kF : (0 ≤ kd ∧ kd ≤ 2 ∧ 0 ≤ x ∧ x ≤ 60 ∧ 0 ≤ y ∧ y ≤ 60 ∧ 0 ≤ n ∧ n ≤ 50) → D 57 5 = 5 → P (some (iI (-4))) SH D)
    (kk : (0 ≤ kd ∧ kd ≤ 2 ∧ 0 ≤ x ∧ x ≤ 60 ∧ 0 ≤ y ∧ y ≤ 60 ∧ 0 ≤ n ∧ n ≤ 50) → D 57 5 < 5 → P (some (iI (D 57 5 + 1 - 1))) SH (st2 (st2 (st2 (st2 (st2 D 61 (D 57 5).toNat kd) 62 (D 57 5).toNat x) 63 (D 57 5).toNat y) 64 (D 57 5).toNat n) 57 5 (D 57 5 + 1))) : TM g mX7_church (d + 2) P [.ref 57, iI kd, iI x, iI y, iI n] D := by
  have hN := hL.2.1
  refine T_iload_n dX7_church_0 rfl ?_
  refine T_i2l dX7_church_1 hkd ?_
  refine T_lconst (a := 0) dX7_church_2 (by decide) ?_
  refine T_ldc2 (n := 2) dX7_church_3 tk_892 ?_
  refine T_cS_3 dX7_church_6 lkX7_88 (Nat.le_of_ble_eq_true rfl) (RO_r (by decide)) (Nat.le_of_ble_eq_true rfl) ?_
  refine r_in (in64_of hkd) (by first | (unfold In64; omega) | (simp [st2, In64]; omega)) (by first | (unfold In64; omega) | (simp [st2, In64]; omega)) (fun h7 h8 => ?_) (fun h7 => ?_)
  · refine T_if_eq 33 dX7_church_9 (by decide) (by unfold InR; decide) (fun h => absurd h (by decide)) (fun _ => ?_)
    refine T_iload_n dX7_church_12 rfl ?_
    refine T_iload_n dX7_church_13 rfl ?_
    refine T_cS_2 dX7_church_14 lkX7_118 (Nat.le_of_ble_eq_true rfl) (RO_r (by decide)) (Nat.le_of_ble_eq_true rfl) ?_
    refine r_isSpot hx hy (fun h1 h2 h3 h4 => ?_) (fun h1 => ?_)
    · refine T_if_eq 33 dX7_church_17 (by decide) (by unfold InR; decide) (fun h => absurd h (by decide)) (fun _ => ?_)
      refine T_iload dX7_church_20 rfl ?_
      refine T_i2l dX7_church_22 hn ?_
      refine T_lconst (a := 0) dX7_church_23 (by decide) ?_
      refine T_ldc2 (n := 50) dX7_church_24 tk_893 ?_
      refine T_cS_3 dX7_church_27 lkX7_88 (Nat.le_of_ble_eq_true rfl) (RO_r (by decide)) (Nat.le_of_ble_eq_true rfl) ?_
      refine r_in (in64_of hn) (by first | (unfold In64; omega) | (simp [st2, In64]; omega)) (by first | (unfold In64; omega) | (simp [st2, In64]; omega)) (fun h5 h6 => ?_) (fun h5 => ?_)
      · refine T_if_ne 36 dX7_church_30 (by decide) (by unfold InR; decide) (fun _ => ?_) (fun h => absurd (by decide) h)
        refine T_aload_n dX7_church_36 rfl ?_
        refine T_getI dX7_church_37 flX7_115 rfl rfl ?_
        refine T_iconst dX7_church_40 ?_
        refine T_icmp_ne 47 dX7_church_41 (by decide) (by first | (unfold InR; omega) | (simp [st2, InR]; omega)) (by first | (unfold InR; omega) | (simp [st2, InR]; omega)) (fun hc41 => ?_) (fun hc41 => ?_)
        · refine T_aload_n dX7_church_47 rfl ?_
          refine T_iload_n dX7_church_48 rfl ?_
          refine T_iload_n dX7_church_49 rfl ?_
          refine T_iload_n dX7_church_50 rfl ?_
          refine T_iload dX7_church_51 rfl ?_
          refine T_cV_4 dX7_church_53 lkX7_130 rfl (Nat.le_of_ble_eq_true rfl) (RO_r (by decide)) (Nat.le_of_ble_eq_true rfl) ?_
          refine r_addChurch ⟨hN.1, by omega⟩ ?_
          refine T_aload_n dX7_church_56 rfl ?_
          refine T_getI dX7_church_57 flX7_115 rfl rfl ?_
          refine T_iconst dX7_church_60 ?_
          refine T_isub dX7_church_61 ?_
          refine T_iret dX7_church_62 rfl ?_
          first | exact kO (by omega) | exact kF (by omega) (by omega) | exact kk (by omega) (by omega)
        · refine T_bipush dX7_church_44 (by decide) ?_
          refine T_iret dX7_church_46 rfl ?_
          first | exact kO (by omega) | exact kF (by omega) (by omega) | exact kk (by omega) (by omega)
      · refine T_if_ne 36 dX7_church_30 (by decide) (by unfold InR; decide) (fun h => absurd h (by decide)) (fun _ => ?_)
        refine T_bipush dX7_church_33 (by decide) ?_
        refine T_iret dX7_church_35 rfl ?_
        first | exact kO (by omega) | exact kF (by omega) (by omega) | exact kk (by omega) (by omega)
    · refine T_if_eq 33 dX7_church_17 (by decide) (by unfold InR; decide) (fun _ => ?_) (fun h => absurd (by decide) h)
      refine T_bipush dX7_church_33 (by decide) ?_
      refine T_iret dX7_church_35 rfl ?_
      first | exact kO (by omega) | exact kF (by omega) (by omega) | exact kk (by omega) (by omega)
  · refine T_if_eq 33 dX7_church_9 (by decide) (by unfold InR; decide) (fun _ => ?_) (fun h => absurd (by decide) h)
    refine T_bipush dX7_church_33 (by decide) ?_
    refine T_iret dX7_church_35 rfl ?_
    first | exact kO (by omega) | exact kF (by omega) (by omega) | exact kk (by omega) (by omega)
theorem r_ofHome {h w : Int} (hL : MK D) (hh : InR h) (hw : InR w) (kU : ¬ (0 ≤ h ∧ h < D 57 1) → P (some (iI (-1))) SH D) (k0 : 0 ≤ h → h < D 57 1 → w = 0 → P (some (iI (D 58 h.toNat))) SH D) (k1 : 0 ≤ h → h < D 57 1 → w = 1 → P (some (iI (D 59 h.toNat))) SH D) (k2 : 0 ≤ h → h < D 57 1 → w = 2 → P (some (iI (D 60 h.toNat))) SH D) (kO : 0 ≤ h → h < D 57 1 → w < 0 ∨ 2 < w → P (some (iI (-2))) SH D) : TM g mX7_ofHome (d + 2) P [.ref 57, iI h, iI w] D := by
  have hN := hL.1
  unfold InR at hw
  refine T_aload_n dX7_ofHome_0 rfl ?_
  refine T_iload_n dX7_ofHome_1 rfl ?_
  refine T_cV_1 dX7_ofHome_2 lkX7_170 rfl (Nat.le_of_ble_eq_true rfl) (RO_r (by decide)) (Nat.le_of_ble_eq_true rfl) ?_
  refine r_noHome hh hN (fun h1 h2 => ?_) (fun h1 => ?_)
  · refine T_if_eq 10 dX7_ofHome_5 (by decide) (by unfold InR; decide) (fun _ => ?_) (fun h => absurd (by decide) h)
    refine T_iload_n dX7_ofHome_10 rfl ?_
    refine T_if_ne 23 dX7_ofHome_11 (by decide) (by first | (unfold InR; omega) | (simp [st2, InR]; omega)) (fun hc11 => ?_) (fun hc11 => ?_)
    · refine T_iload_n dX7_ofHome_23 rfl ?_
      refine T_iconst dX7_ofHome_24 ?_
      refine T_icmp_ne 37 dX7_ofHome_25 (by decide) (by first | (unfold InR; omega) | (simp [st2, InR]; omega)) (by first | (unfold InR; omega) | (simp [st2, InR]; omega)) (fun hc25 => ?_) (fun hc25 => ?_)
      · refine T_iload_n dX7_ofHome_37 rfl ?_
        refine T_iconst dX7_ofHome_38 ?_
        refine T_icmp_ne 51 dX7_ofHome_39 (by decide) (by first | (unfold InR; omega) | (simp [st2, InR]; omega)) (by first | (unfold InR; omega) | (simp [st2, InR]; omega)) (fun hc39 => ?_) (fun hc39 => ?_)
        · refine T_bipush dX7_ofHome_51 (by decide) ?_
          refine T_iret dX7_ofHome_53 rfl ?_
          first | exact kU (by omega) | exact k0 h1 h2 (by omega) | exact k1 h1 h2 (by omega) | exact k2 h1 h2 (by omega) | exact kO h1 h2 (by omega)
        · refine T_aload_n dX7_ofHome_42 rfl ?_
          refine T_getR dX7_ofHome_43 flX7_16 rfl rfl ?_
          refine T_iload_n dX7_ofHome_46 rfl ?_
          refine T_iald dX7_ofHome_47 rfl (by first | decide | omega) (by first | omega | (simp [st2]; omega)) (by first | omega | (simp [st2]; omega)) ?_
          refine T_goto (tgt := 53) dX7_ofHome_48 (by decide) ?_
          refine T_iret dX7_ofHome_53 rfl ?_
          first | exact kU (by omega) | exact k0 h1 h2 (by omega) | exact k1 h1 h2 (by omega) | exact k2 h1 h2 (by omega) | exact kO h1 h2 (by omega)
      · refine T_aload_n dX7_ofHome_28 rfl ?_
        refine T_getR dX7_ofHome_29 flX7_13 rfl rfl ?_
        refine T_iload_n dX7_ofHome_32 rfl ?_
        refine T_iald dX7_ofHome_33 rfl (by first | decide | omega) (by first | omega | (simp [st2]; omega)) (by first | omega | (simp [st2]; omega)) ?_
        refine T_goto (tgt := 53) dX7_ofHome_34 (by decide) ?_
        refine T_iret dX7_ofHome_53 rfl ?_
        first | exact kU (by omega) | exact k0 h1 h2 (by omega) | exact k1 h1 h2 (by omega) | exact k2 h1 h2 (by omega) | exact kO h1 h2 (by omega)
    · refine T_aload_n dX7_ofHome_14 rfl ?_
      refine T_getR dX7_ofHome_15 flX7_7 rfl rfl ?_
      refine T_iload_n dX7_ofHome_18 rfl ?_
      refine T_iald dX7_ofHome_19 rfl (by first | decide | omega) (by first | omega | (simp [st2]; omega)) (by first | omega | (simp [st2]; omega)) ?_
      refine T_goto (tgt := 53) dX7_ofHome_20 (by decide) ?_
      refine T_iret dX7_ofHome_53 rfl ?_
      first | exact kU (by omega) | exact k0 h1 h2 (by omega) | exact k1 h1 h2 (by omega) | exact k2 h1 h2 (by omega) | exact kO h1 h2 (by omega)
  · refine T_if_eq 10 dX7_ofHome_5 (by decide) (by unfold InR; decide) (fun h => absurd h (by decide)) (fun _ => ?_)
    refine T_iconst dX7_ofHome_8 ?_
    refine T_iret dX7_ofHome_9 rfl ?_
    first | exact kU (by omega) | exact k0 h1 h2 (by omega) | exact k1 h1 h2 (by omega) | exact k2 h1 h2 (by omega) | exact kO h1 h2 (by omega)
theorem r_ofChurch {c w : Int} (hL : MK D) (hh : InR c) (hw : InR w) (kU : ¬ (0 ≤ c ∧ c < D 57 5) → P (some (iI (-1))) SH D) (k0 : 0 ≤ c → c < D 57 5 → w = 0 → P (some (iI (D 61 c.toNat))) SH D) (k1 : 0 ≤ c → c < D 57 5 → w = 1 → P (some (iI (D 62 c.toNat))) SH D) (k2 : 0 ≤ c → c < D 57 5 → w = 2 → P (some (iI (D 63 c.toNat))) SH D) (k3 : 0 ≤ c → c < D 57 5 → w = 3 → P (some (iI (D 64 c.toNat))) SH D) (kO : 0 ≤ c → c < D 57 5 → w < 0 ∨ 3 < w → P (some (iI (-2))) SH D) : TM g mX7_ofChurch (d + 2) P [.ref 57, iI c, iI w] D := by
  have hN := hL.2.1
  unfold InR at hw
  refine T_aload_n dX7_ofChurch_0 rfl ?_
  refine T_iload_n dX7_ofChurch_1 rfl ?_
  refine T_cV_1 dX7_ofChurch_2 lkX7_173 rfl (Nat.le_of_ble_eq_true rfl) (RO_r (by decide)) (Nat.le_of_ble_eq_true rfl) ?_
  refine r_noChurch hh hN (fun h1 h2 => ?_) (fun h1 => ?_)
  · refine T_if_eq 10 dX7_ofChurch_5 (by decide) (by unfold InR; decide) (fun _ => ?_) (fun h => absurd (by decide) h)
    refine T_iload_n dX7_ofChurch_10 rfl ?_
    refine T_if_ne 23 dX7_ofChurch_11 (by decide) (by first | (unfold InR; omega) | (simp [st2, InR]; omega)) (fun hc11 => ?_) (fun hc11 => ?_)
    · refine T_iload_n dX7_ofChurch_23 rfl ?_
      refine T_iconst dX7_ofChurch_24 ?_
      refine T_icmp_ne 37 dX7_ofChurch_25 (by decide) (by first | (unfold InR; omega) | (simp [st2, InR]; omega)) (by first | (unfold InR; omega) | (simp [st2, InR]; omega)) (fun hc25 => ?_) (fun hc25 => ?_)
      · refine T_iload_n dX7_ofChurch_37 rfl ?_
        refine T_iconst dX7_ofChurch_38 ?_
        refine T_icmp_ne 51 dX7_ofChurch_39 (by decide) (by first | (unfold InR; omega) | (simp [st2, InR]; omega)) (by first | (unfold InR; omega) | (simp [st2, InR]; omega)) (fun hc39 => ?_) (fun hc39 => ?_)
        · refine T_iload_n dX7_ofChurch_51 rfl ?_
          refine T_iconst dX7_ofChurch_52 ?_
          refine T_icmp_ne 65 dX7_ofChurch_53 (by decide) (by first | (unfold InR; omega) | (simp [st2, InR]; omega)) (by first | (unfold InR; omega) | (simp [st2, InR]; omega)) (fun hc53 => ?_) (fun hc53 => ?_)
          · refine T_bipush dX7_ofChurch_65 (by decide) ?_
            refine T_iret dX7_ofChurch_67 rfl ?_
            first | exact kU (by omega) | exact k0 h1 h2 (by omega) | exact k1 h1 h2 (by omega) | exact k2 h1 h2 (by omega) | exact k3 h1 h2 (by omega) | exact kO h1 h2 (by omega)
          · refine T_aload_n dX7_ofChurch_56 rfl ?_
            refine T_getR dX7_ofChurch_57 flX7_28 rfl rfl ?_
            refine T_iload_n dX7_ofChurch_60 rfl ?_
            refine T_iald dX7_ofChurch_61 rfl (by first | decide | omega) (by first | omega | (simp [st2]; omega)) (by first | omega | (simp [st2]; omega)) ?_
            refine T_goto (tgt := 67) dX7_ofChurch_62 (by decide) ?_
            refine T_iret dX7_ofChurch_67 rfl ?_
            first | exact kU (by omega) | exact k0 h1 h2 (by omega) | exact k1 h1 h2 (by omega) | exact k2 h1 h2 (by omega) | exact k3 h1 h2 (by omega) | exact kO h1 h2 (by omega)
        · refine T_aload_n dX7_ofChurch_42 rfl ?_
          refine T_getR dX7_ofChurch_43 flX7_25 rfl rfl ?_
          refine T_iload_n dX7_ofChurch_46 rfl ?_
          refine T_iald dX7_ofChurch_47 rfl (by first | decide | omega) (by first | omega | (simp [st2]; omega)) (by first | omega | (simp [st2]; omega)) ?_
          refine T_goto (tgt := 67) dX7_ofChurch_48 (by decide) ?_
          refine T_iret dX7_ofChurch_67 rfl ?_
          first | exact kU (by omega) | exact k0 h1 h2 (by omega) | exact k1 h1 h2 (by omega) | exact k2 h1 h2 (by omega) | exact k3 h1 h2 (by omega) | exact kO h1 h2 (by omega)
      · refine T_aload_n dX7_ofChurch_28 rfl ?_
        refine T_getR dX7_ofChurch_29 flX7_22 rfl rfl ?_
        refine T_iload_n dX7_ofChurch_32 rfl ?_
        refine T_iald dX7_ofChurch_33 rfl (by first | decide | omega) (by first | omega | (simp [st2]; omega)) (by first | omega | (simp [st2]; omega)) ?_
        refine T_goto (tgt := 67) dX7_ofChurch_34 (by decide) ?_
        refine T_iret dX7_ofChurch_67 rfl ?_
        first | exact kU (by omega) | exact k0 h1 h2 (by omega) | exact k1 h1 h2 (by omega) | exact k2 h1 h2 (by omega) | exact k3 h1 h2 (by omega) | exact kO h1 h2 (by omega)
    · refine T_aload_n dX7_ofChurch_14 rfl ?_
      refine T_getR dX7_ofChurch_15 flX7_19 rfl rfl ?_
      refine T_iload_n dX7_ofChurch_18 rfl ?_
      refine T_iald dX7_ofChurch_19 rfl (by first | decide | omega) (by first | omega | (simp [st2]; omega)) (by first | omega | (simp [st2]; omega)) ?_
      refine T_goto (tgt := 67) dX7_ofChurch_20 (by decide) ?_
      refine T_iret dX7_ofChurch_67 rfl ?_
      first | exact kU (by omega) | exact k0 h1 h2 (by omega) | exact k1 h1 h2 (by omega) | exact k2 h1 h2 (by omega) | exact k3 h1 h2 (by omega) | exact kO h1 h2 (by omega)
  · refine T_if_eq 10 dX7_ofChurch_5 (by decide) (by unfold InR; decide) (fun h => absurd h (by decide)) (fun _ => ?_)
    refine T_iconst dX7_ofChurch_8 ?_
    refine T_iret dX7_ofChurch_9 rfl ?_
    first | exact kU (by omega) | exact k0 h1 h2 (by omega) | exact k1 h1 h2 (by omega) | exact k2 h1 h2 (by omega) | exact k3 h1 h2 (by omega) | exact kO h1 h2 (by omega)
theorem r_bar {h c w : Int} (hL : MK D) (hh : InR h) (hc : InR c) (hw : w = 0 ∨ w = 1) (kU : ¬ (0 ≤ h ∧ h < D 57 1 ∧ 0 ≤ c ∧ c < D 57 5) → P (some (iI (-1))) SH D) (kk : (0 ≤ h ∧ h < D 57 1 ∧ 0 ≤ c ∧ c < D 57 5) → P (some (iI (if D 65 (5 * h + c).toNat = w then 0 else 1))) SH (st2 D 65 (5 * h + c).toNat w)) : TM g mX7_bar (d + 2) P [.ref 57, iI h, iI c, iI w] D := by
  have hN := hL.1
  have hM := hL.2.1
  have hb := hL.2.2.2.2.2.2.2.2.2.2 (5 * h + c).toNat
  refine T_aload_n dX7_bar_0 rfl ?_
  refine T_iload_n dX7_bar_1 rfl ?_
  refine T_cV_1 dX7_bar_2 lkX7_170 rfl (Nat.le_of_ble_eq_true rfl) (RO_r (by decide)) (Nat.le_of_ble_eq_true rfl) ?_
  refine r_noHome hh hN (fun h1 h2 => ?_) (fun h1 => ?_)
  · refine T_if_ne 16 dX7_bar_5 (by decide) (by unfold InR; decide) (fun h => absurd h (by decide)) (fun _ => ?_)
    refine T_aload_n dX7_bar_8 rfl ?_
    refine T_iload_n dX7_bar_9 rfl ?_
    refine T_cV_1 dX7_bar_10 lkX7_173 rfl (Nat.le_of_ble_eq_true rfl) (RO_r (by decide)) (Nat.le_of_ble_eq_true rfl) ?_
    refine r_noChurch hc hM (fun h3 h4 => ?_) (fun h3 => ?_)
    · refine T_if_eq 18 dX7_bar_13 (by decide) (by unfold InR; decide) (fun _ => ?_) (fun h => absurd (by decide) h)
      refine T_aload_n dX7_bar_18 rfl ?_
      refine T_getR dX7_bar_19 flX7_31 rfl rfl ?_
      refine T_iconst dX7_bar_22 ?_
      refine T_iload_n dX7_bar_23 rfl ?_
      refine T_imul dX7_bar_24 ?_
      refine T_iload_n dX7_bar_25 rfl ?_
      refine T_iadd dX7_bar_26 ?_
      refine T_zald dX7_bar_27 rfl (by first | decide | omega) (by first | omega | (simp [st2]; omega)) (by first | omega | (simp [st2]; omega)) ?_
      refine T_istore dX7_bar_28 (by decide) ?_
      refine T_aload_n dX7_bar_30 rfl ?_
      refine T_getR dX7_bar_31 flX7_31 rfl rfl ?_
      refine T_iconst dX7_bar_34 ?_
      refine T_iload_n dX7_bar_35 rfl ?_
      refine T_imul dX7_bar_36 ?_
      refine T_iload_n dX7_bar_37 rfl ?_
      refine T_iadd dX7_bar_38 ?_
      refine T_iload_n dX7_bar_39 rfl ?_
      refine T_zast dX7_bar_40 rfl (by first | decide | omega) (by first | omega | (simp [st2]; omega)) (by first | omega | (simp [st2]; omega)) hw ?_
      refine T_iload dX7_bar_41 rfl ?_
      refine T_iload_n dX7_bar_43 rfl ?_
      refine T_icmp_ne 51 dX7_bar_44 (by decide) (by first | (unfold InR; omega) | (simp [st2, InR]; omega)) (by first | (unfold InR; omega) | (simp [st2, InR]; omega)) (fun hc44 => ?_) (fun hc44 => ?_)
      · refine T_iconst dX7_bar_51 ?_
        refine T_iret dX7_bar_52 rfl ?_
        first | exact kU (by omega) | (have kk := kk ⟨h1, h2, h3, h4⟩; first | (rw [if_pos (by omega)] at kk; exact kk) | (rw [if_neg (by omega)] at kk; exact kk))
      · refine T_iconst dX7_bar_47 ?_
        refine T_goto (tgt := 52) dX7_bar_48 (by decide) ?_
        refine T_iret dX7_bar_52 rfl ?_
        first | exact kU (by omega) | (have kk := kk ⟨h1, h2, h3, h4⟩; first | (rw [if_pos (by omega)] at kk; exact kk) | (rw [if_neg (by omega)] at kk; exact kk))
    · refine T_if_eq 18 dX7_bar_13 (by decide) (by unfold InR; decide) (fun h => absurd h (by decide)) (fun _ => ?_)
      refine T_iconst dX7_bar_16 ?_
      refine T_iret dX7_bar_17 rfl ?_
      first | exact kU (by omega) | (have kk := kk ⟨h1, h2, h3, h4⟩; first | (rw [if_pos (by omega)] at kk; exact kk) | (rw [if_neg (by omega)] at kk; exact kk))
  · refine T_if_ne 16 dX7_bar_5 (by decide) (by unfold InR; decide) (fun _ => ?_) (fun h => absurd (by decide) h)
    refine T_iconst dX7_bar_16 ?_
    refine T_iret dX7_bar_17 rfl ?_
    first | exact kU (by omega) | (have kk := kk ⟨h1, h2, h3, h4⟩; first | (rw [if_pos (by omega)] at kk; exact kk) | (rw [if_neg (by omega)] at kk; exact kk))
theorem r_seats {c n : Int} (hL : MK D) (hc : InR c) (hn : InR n) (kU : ¬ (0 ≤ c ∧ c < D 57 5) → P (some (iI (-1))) SH D) (kO : 0 ≤ c → c < D 57 5 → ¬ (0 ≤ n ∧ n ≤ 50) → P (some (iI (-2))) SH D) (kk : 0 ≤ c → c < D 57 5 → 0 ≤ n → n ≤ 50 → P (some (iI (D 64 c.toNat))) SH (st2 D 64 c.toNat n)) : TM g mX7_seats (d + 2) P [.ref 57, iI c, iI n] D := by
  have hM := hL.2.1
  refine T_aload_n dX7_seats_0 rfl ?_
  refine T_iload_n dX7_seats_1 rfl ?_
  refine T_cV_1 dX7_seats_2 lkX7_173 rfl (Nat.le_of_ble_eq_true rfl) (RO_r (by decide)) (Nat.le_of_ble_eq_true rfl) ?_
  refine r_noChurch hc hM (fun h3 h4 => ?_) (fun h3 => ?_)
  · refine T_if_eq 10 dX7_seats_5 (by decide) (by unfold InR; decide) (fun _ => ?_) (fun h => absurd (by decide) h)
    refine T_iload_n dX7_seats_10 rfl ?_
    refine T_i2l dX7_seats_11 hn ?_
    refine T_lconst (a := 0) dX7_seats_12 (by decide) ?_
    refine T_ldc2 (n := 50) dX7_seats_13 tk_893 ?_
    refine T_cS_3 dX7_seats_16 lkX7_88 (Nat.le_of_ble_eq_true rfl) (RO_r (by decide)) (Nat.le_of_ble_eq_true rfl) ?_
    refine r_in (in64_of hn) (by first | (unfold In64; omega) | (simp [st2, In64]; omega)) (by first | (unfold In64; omega) | (simp [st2, In64]; omega)) (fun h5 h6 => ?_) (fun h5 => ?_)
    · refine T_if_ne 25 dX7_seats_19 (by decide) (by unfold InR; decide) (fun _ => ?_) (fun h => absurd (by decide) h)
      refine T_aload_n dX7_seats_25 rfl ?_
      refine T_getR dX7_seats_26 flX7_28 rfl rfl ?_
      refine T_iload_n dX7_seats_29 rfl ?_
      refine T_iald dX7_seats_30 rfl (by first | decide | omega) (by first | omega | (simp [st2]; omega)) (by first | omega | (simp [st2]; omega)) ?_
      refine T_istore_n dX7_seats_31 (by decide) ?_
      refine T_aload_n dX7_seats_32 rfl ?_
      refine T_getR dX7_seats_33 flX7_28 rfl rfl ?_
      refine T_iload_n dX7_seats_36 rfl ?_
      refine T_iload_n dX7_seats_37 rfl ?_
      refine T_iast dX7_seats_38 rfl (by first | decide | omega) (by first | omega | (simp [st2]; omega)) (by first | omega | (simp [st2]; omega)) ?_
      refine T_iload_n dX7_seats_39 rfl ?_
      refine T_iret dX7_seats_40 rfl ?_
      first | exact kU (by omega) | exact kO h3 h4 (by omega) | exact kk h3 h4 h5 h6
    · refine T_if_ne 25 dX7_seats_19 (by decide) (by unfold InR; decide) (fun h => absurd h (by decide)) (fun _ => ?_)
      refine T_bipush dX7_seats_22 (by decide) ?_
      refine T_iret dX7_seats_24 rfl ?_
      first | exact kU (by omega) | exact kO h3 h4 (by omega) | exact kk h3 h4 h5 h6
  · refine T_if_eq 10 dX7_seats_5 (by decide) (by unfold InR; decide) (fun h => absurd h (by decide)) (fun _ => ?_)
    refine T_iconst dX7_seats_8 ?_
    refine T_iret dX7_seats_9 rfl ?_
    first | exact kU (by omega) | exact kO h3 h4 (by omega) | exact kk h3 h4 h5 h6
theorem r_toll {v : Int} (hv : InR v) (kO : ¬ (0 ≤ v ∧ v ≤ 999) → P (some (iI (-2))) SH D) (kk : 0 ≤ v → v ≤ 999 → P (some (iI (D 57 11))) SH (st2 D 57 11 v)) : TM g mX7_toll (d + 1) P [.ref 57, iI v] D := by
  refine T_iload_n dX7_toll_0 rfl ?_
  refine T_i2l dX7_toll_1 hv ?_
  refine T_lconst (a := 0) dX7_toll_2 (by decide) ?_
  refine T_ldc2 (n := 999) dX7_toll_3 tk_970 ?_
  refine T_cS_3 dX7_toll_6 lkX7_88 (Nat.le_of_ble_eq_true rfl) (RO_r (by decide)) (Nat.le_of_ble_eq_true rfl) ?_
  refine r_in (in64_of hv) (by first | (unfold In64; omega) | (simp [st2, In64]; omega)) (by first | (unfold In64; omega) | (simp [st2, In64]; omega)) (fun h5 h6 => ?_) (fun h5 => ?_)
  · refine T_if_ne 15 dX7_toll_9 (by decide) (by unfold InR; decide) (fun _ => ?_) (fun h => absurd (by decide) h)
    refine T_aload_n dX7_toll_15 rfl ?_
    refine T_getI dX7_toll_16 flX7_80 rfl rfl ?_
    refine T_istore_n dX7_toll_19 (by decide) ?_
    refine T_aload_n dX7_toll_20 rfl ?_
    refine T_iload_n dX7_toll_21 rfl ?_
    refine T_putI dX7_toll_22 flX7_80 rfl rfl ?_
    refine T_iload_n dX7_toll_25 rfl ?_
    refine T_iret dX7_toll_26 rfl ?_
    first | exact kO (by omega) | exact kk (by omega) (by omega)
  · refine T_if_ne 15 dX7_toll_9 (by decide) (by unfold InR; decide) (fun h => absurd h (by decide)) (fun _ => ?_)
    refine T_bipush dX7_toll_12 (by decide) ?_
    refine T_iret dX7_toll_14 rfl ?_
    first | exact kO (by omega) | exact kk (by omega) (by omega)
theorem r_farOf {x y c : Int} (hL : MK D) (hc : 0 ≤ c ∧ c < 5) (hx : 0 ≤ x ∧ x ≤ 60) (hy : 0 ≤ y ∧ y ≤ 60) (hk : P (some (iI (farK (D 61 c.toNat) x y (D 62 c.toNat) (D 63 c.toNat) (D 57 11)))) SH D) : TM g mX7_farOf (d + 1) P [.ref 57, iI x, iI y, iI c] D := by
  have ht := hL.2.2.1
  have hkd := hL.2.2.2.2.2.2.1 c.toNat
  have htx := hL.2.2.2.2.2.2.2.1 c.toNat
  have hty := hL.2.2.2.2.2.2.2.2.1 c.toNat
  unfold farK at hk
  refine T_iload_n dX7_farOf_0 rfl ?_
  refine T_aload_n dX7_farOf_1 rfl ?_
  refine T_getR dX7_farOf_2 flX7_22 rfl rfl ?_
  refine T_iload_n dX7_farOf_5 rfl ?_
  refine T_iald dX7_farOf_6 rfl (by first | decide | omega) (by first | omega | (simp [st2]; omega)) (by first | omega | (simp [st2]; omega)) ?_
  refine T_isub dX7_farOf_7 ?_
  refine T_cS_1 dX7_farOf_8 lkX7_178 (Nat.le_of_ble_eq_true rfl) (RO_r (by decide)) (Nat.le_of_ble_eq_true rfl) ?_
  refine r_sizeOf (by first | (unfold InR; omega) | (simp [st2, InR]; omega)) ?_
  refine T_istore dX7_farOf_11 (by decide) ?_
  refine T_iload_n dX7_farOf_13 rfl ?_
  refine T_aload_n dX7_farOf_14 rfl ?_
  refine T_getR dX7_farOf_15 flX7_25 rfl rfl ?_
  refine T_iload_n dX7_farOf_18 rfl ?_
  refine T_iald dX7_farOf_19 rfl (by first | decide | omega) (by first | omega | (simp [st2]; omega)) (by first | omega | (simp [st2]; omega)) ?_
  refine T_isub dX7_farOf_20 ?_
  refine T_cS_1 dX7_farOf_21 lkX7_178 (Nat.le_of_ble_eq_true rfl) (RO_r (by decide)) (Nat.le_of_ble_eq_true rfl) ?_
  refine r_sizeOf (by first | (unfold InR; omega) | (simp [st2, InR]; omega)) ?_
  refine T_istore dX7_farOf_24 (by decide) ?_
  refine T_aload_n dX7_farOf_26 rfl ?_
  refine T_getR dX7_farOf_27 flX7_19 rfl rfl ?_
  refine T_iload_n dX7_farOf_30 rfl ?_
  refine T_iald dX7_farOf_31 rfl (by first | decide | omega) (by first | omega | (simp [st2]; omega)) (by first | omega | (simp [st2]; omega)) ?_
  refine T_if_ne 47 dX7_farOf_32 (by decide) (by first | (unfold InR; omega) | (simp [st2, InR]; omega)) (fun hc32 => ?_) (fun hc32 => ?_)
  · refine T_aload_n dX7_farOf_47 rfl ?_
    refine T_getR dX7_farOf_48 flX7_19 rfl rfl ?_
    refine T_iload_n dX7_farOf_51 rfl ?_
    refine T_iald dX7_farOf_52 rfl (by first | decide | omega) (by first | omega | (simp [st2]; omega)) (by first | omega | (simp [st2]; omega)) ?_
    refine T_iconst dX7_farOf_53 ?_
    refine T_icmp_ne 91 dX7_farOf_54 (by decide) (by first | (unfold InR; omega) | (simp [st2, InR]; omega)) (by first | (unfold InR; omega) | (simp [st2, InR]; omega)) (fun hc54 => ?_) (fun hc54 => ?_)
    · refine T_iconst dX7_farOf_91 ?_
      refine T_istore dX7_farOf_92 (by decide) ?_
      refine T_bipush dX7_farOf_94 (by decide) ?_
      refine T_iload dX7_farOf_96 rfl ?_
      refine T_iload dX7_farOf_98 rfl ?_
      refine T_iadd dX7_farOf_100 ?_
      refine T_imul dX7_farOf_101 ?_
      refine T_iload dX7_farOf_102 rfl ?_
      refine T_if_eq 114 dX7_farOf_104 (by decide) (by unfold InR; decide) (fun _ => ?_) (fun h => absurd (by decide) h)
      refine T_iconst dX7_farOf_114 ?_
      refine T_iadd dX7_farOf_115 ?_
      refine T_iret dX7_farOf_116 rfl ?_
      first | (rw [if_neg (show ¬ D 61 c.toNat = 0 by omega), if_pos (show D 61 c.toNat = 2 ∧ ¬ ((x < 30) ↔ (D 62 c.toNat < 30)) by omega)] at hk; exact hk) | (rw [if_neg (show ¬ D 61 c.toNat = 0 by omega), if_neg (show ¬ (D 61 c.toNat = 2 ∧ ¬ ((x < 30) ↔ (D 62 c.toNat < 30))) by omega)] at hk; exact hk)
    · refine T_iload_n dX7_farOf_57 rfl ?_
      refine T_bipush dX7_farOf_58 (by decide) ?_
      refine T_icmp_ge 67 dX7_farOf_60 (by decide) (by first | (unfold InR; omega) | (simp [st2, InR]; omega)) (by first | (unfold InR; omega) | (simp [st2, InR]; omega)) (fun hc60 => ?_) (fun hc60 => ?_)
      · refine T_iconst dX7_farOf_67 ?_
        refine T_aload_n dX7_farOf_68 rfl ?_
        refine T_getR dX7_farOf_69 flX7_22 rfl rfl ?_
        refine T_iload_n dX7_farOf_72 rfl ?_
        refine T_iald dX7_farOf_73 rfl (by first | decide | omega) (by first | omega | (simp [st2]; omega)) (by first | omega | (simp [st2]; omega)) ?_
        refine T_bipush dX7_farOf_74 (by decide) ?_
        refine T_icmp_ge 83 dX7_farOf_76 (by decide) (by first | (unfold InR; omega) | (simp [st2, InR]; omega)) (by first | (unfold InR; omega) | (simp [st2, InR]; omega)) (fun hc76 => ?_) (fun hc76 => ?_)
        · refine T_iconst dX7_farOf_83 ?_
          refine T_icmp_eq 91 dX7_farOf_84 (by decide) (by unfold InR; decide) (by unfold InR; decide) (fun _ => ?_) (fun h => absurd (by decide) h)
          refine T_iconst dX7_farOf_91 ?_
          refine T_istore dX7_farOf_92 (by decide) ?_
          refine T_bipush dX7_farOf_94 (by decide) ?_
          refine T_iload dX7_farOf_96 rfl ?_
          refine T_iload dX7_farOf_98 rfl ?_
          refine T_iadd dX7_farOf_100 ?_
          refine T_imul dX7_farOf_101 ?_
          refine T_iload dX7_farOf_102 rfl ?_
          refine T_if_eq 114 dX7_farOf_104 (by decide) (by unfold InR; decide) (fun _ => ?_) (fun h => absurd (by decide) h)
          refine T_iconst dX7_farOf_114 ?_
          refine T_iadd dX7_farOf_115 ?_
          refine T_iret dX7_farOf_116 rfl ?_
          first | (rw [if_neg (show ¬ D 61 c.toNat = 0 by omega), if_pos (show D 61 c.toNat = 2 ∧ ¬ ((x < 30) ↔ (D 62 c.toNat < 30)) by omega)] at hk; exact hk) | (rw [if_neg (show ¬ D 61 c.toNat = 0 by omega), if_neg (show ¬ (D 61 c.toNat = 2 ∧ ¬ ((x < 30) ↔ (D 62 c.toNat < 30))) by omega)] at hk; exact hk)
        · refine T_iconst dX7_farOf_79 ?_
          refine T_goto (tgt := 84) dX7_farOf_80 (by decide) ?_
          refine T_icmp_eq 91 dX7_farOf_84 (by decide) (by unfold InR; decide) (by unfold InR; decide) (fun h => absurd h (by decide)) (fun _ => ?_)
          refine T_iconst dX7_farOf_87 ?_
          refine T_goto (tgt := 92) dX7_farOf_88 (by decide) ?_
          refine T_istore dX7_farOf_92 (by decide) ?_
          refine T_bipush dX7_farOf_94 (by decide) ?_
          refine T_iload dX7_farOf_96 rfl ?_
          refine T_iload dX7_farOf_98 rfl ?_
          refine T_iadd dX7_farOf_100 ?_
          refine T_imul dX7_farOf_101 ?_
          refine T_iload dX7_farOf_102 rfl ?_
          refine T_if_eq 114 dX7_farOf_104 (by decide) (by unfold InR; decide) (fun h => absurd h (by decide)) (fun _ => ?_)
          refine T_aload_n dX7_farOf_107 rfl ?_
          refine T_getI dX7_farOf_108 flX7_80 rfl rfl ?_
          refine T_goto (tgt := 115) dX7_farOf_111 (by decide) ?_
          refine T_iadd dX7_farOf_115 ?_
          refine T_iret dX7_farOf_116 rfl ?_
          first | (rw [if_neg (show ¬ D 61 c.toNat = 0 by omega), if_pos (show D 61 c.toNat = 2 ∧ ¬ ((x < 30) ↔ (D 62 c.toNat < 30)) by omega)] at hk; exact hk) | (rw [if_neg (show ¬ D 61 c.toNat = 0 by omega), if_neg (show ¬ (D 61 c.toNat = 2 ∧ ¬ ((x < 30) ↔ (D 62 c.toNat < 30))) by omega)] at hk; exact hk)
      · refine T_iconst dX7_farOf_63 ?_
        refine T_goto (tgt := 68) dX7_farOf_64 (by decide) ?_
        refine T_aload_n dX7_farOf_68 rfl ?_
        refine T_getR dX7_farOf_69 flX7_22 rfl rfl ?_
        refine T_iload_n dX7_farOf_72 rfl ?_
        refine T_iald dX7_farOf_73 rfl (by first | decide | omega) (by first | omega | (simp [st2]; omega)) (by first | omega | (simp [st2]; omega)) ?_
        refine T_bipush dX7_farOf_74 (by decide) ?_
        refine T_icmp_ge 83 dX7_farOf_76 (by decide) (by first | (unfold InR; omega) | (simp [st2, InR]; omega)) (by first | (unfold InR; omega) | (simp [st2, InR]; omega)) (fun hc76 => ?_) (fun hc76 => ?_)
        · refine T_iconst dX7_farOf_83 ?_
          refine T_icmp_eq 91 dX7_farOf_84 (by decide) (by unfold InR; decide) (by unfold InR; decide) (fun h => absurd h (by decide)) (fun _ => ?_)
          refine T_iconst dX7_farOf_87 ?_
          refine T_goto (tgt := 92) dX7_farOf_88 (by decide) ?_
          refine T_istore dX7_farOf_92 (by decide) ?_
          refine T_bipush dX7_farOf_94 (by decide) ?_
          refine T_iload dX7_farOf_96 rfl ?_
          refine T_iload dX7_farOf_98 rfl ?_
          refine T_iadd dX7_farOf_100 ?_
          refine T_imul dX7_farOf_101 ?_
          refine T_iload dX7_farOf_102 rfl ?_
          refine T_if_eq 114 dX7_farOf_104 (by decide) (by unfold InR; decide) (fun h => absurd h (by decide)) (fun _ => ?_)
          refine T_aload_n dX7_farOf_107 rfl ?_
          refine T_getI dX7_farOf_108 flX7_80 rfl rfl ?_
          refine T_goto (tgt := 115) dX7_farOf_111 (by decide) ?_
          refine T_iadd dX7_farOf_115 ?_
          refine T_iret dX7_farOf_116 rfl ?_
          first | (rw [if_neg (show ¬ D 61 c.toNat = 0 by omega), if_pos (show D 61 c.toNat = 2 ∧ ¬ ((x < 30) ↔ (D 62 c.toNat < 30)) by omega)] at hk; exact hk) | (rw [if_neg (show ¬ D 61 c.toNat = 0 by omega), if_neg (show ¬ (D 61 c.toNat = 2 ∧ ¬ ((x < 30) ↔ (D 62 c.toNat < 30))) by omega)] at hk; exact hk)
        · refine T_iconst dX7_farOf_79 ?_
          refine T_goto (tgt := 84) dX7_farOf_80 (by decide) ?_
          refine T_icmp_eq 91 dX7_farOf_84 (by decide) (by unfold InR; decide) (by unfold InR; decide) (fun _ => ?_) (fun h => absurd (by decide) h)
          refine T_iconst dX7_farOf_91 ?_
          refine T_istore dX7_farOf_92 (by decide) ?_
          refine T_bipush dX7_farOf_94 (by decide) ?_
          refine T_iload dX7_farOf_96 rfl ?_
          refine T_iload dX7_farOf_98 rfl ?_
          refine T_iadd dX7_farOf_100 ?_
          refine T_imul dX7_farOf_101 ?_
          refine T_iload dX7_farOf_102 rfl ?_
          refine T_if_eq 114 dX7_farOf_104 (by decide) (by unfold InR; decide) (fun _ => ?_) (fun h => absurd (by decide) h)
          refine T_iconst dX7_farOf_114 ?_
          refine T_iadd dX7_farOf_115 ?_
          refine T_iret dX7_farOf_116 rfl ?_
          first | (rw [if_neg (show ¬ D 61 c.toNat = 0 by omega), if_pos (show D 61 c.toNat = 2 ∧ ¬ ((x < 30) ↔ (D 62 c.toNat < 30)) by omega)] at hk; exact hk) | (rw [if_neg (show ¬ D 61 c.toNat = 0 by omega), if_neg (show ¬ (D 61 c.toNat = 2 ∧ ¬ ((x < 30) ↔ (D 62 c.toNat < 30))) by omega)] at hk; exact hk)
  · refine T_iload dX7_farOf_35 rfl ?_
    refine T_iload dX7_farOf_37 rfl ?_
    refine T_imul dX7_farOf_39 ?_
    refine T_iload dX7_farOf_40 rfl ?_
    refine T_iload dX7_farOf_42 rfl ?_
    refine T_imul dX7_farOf_44 ?_
    refine T_iadd dX7_farOf_45 ?_
    refine T_iret dX7_farOf_46 rfl ?_
    rw [if_pos (show D 61 c.toNat = 0 by omega)] at hk; exact hk
theorem r_far {x y c : Int} (hL : MK D) (hx : InR x) (hy : InR y) (hc : InR c) (kU : ¬ (0 ≤ c ∧ c < D 57 5) → P (some (iI (-1))) SH D) (kO : 0 ≤ c → c < D 57 5 → ¬ (0 ≤ x ∧ x ≤ 60 ∧ 0 ≤ y ∧ y ≤ 60) → P (some (iI (-2))) SH D) (kk : 0 ≤ c → c < D 57 5 → (0 ≤ x ∧ x ≤ 60 ∧ 0 ≤ y ∧ y ≤ 60) → P (some (iI (farK (D 61 c.toNat) x y (D 62 c.toNat) (D 63 c.toNat) (D 57 11)))) SH D) : TM g mX7_far (d + 2) P [.ref 57, iI x, iI y, iI c] D := by
  have hM := hL.2.1
  refine T_aload_n dX7_far_0 rfl ?_
  refine T_iload_n dX7_far_1 rfl ?_
  refine T_cV_1 dX7_far_2 lkX7_173 rfl (Nat.le_of_ble_eq_true rfl) (RO_r (by decide)) (Nat.le_of_ble_eq_true rfl) ?_
  refine r_noChurch hc hM (fun h3 h4 => ?_) (fun h3 => ?_)
  · refine T_if_eq 10 dX7_far_5 (by decide) (by unfold InR; decide) (fun _ => ?_) (fun h => absurd (by decide) h)
    refine T_iload_n dX7_far_10 rfl ?_
    refine T_iload_n dX7_far_11 rfl ?_
    refine T_cS_2 dX7_far_12 lkX7_118 (Nat.le_of_ble_eq_true rfl) (RO_r (by decide)) (Nat.le_of_ble_eq_true rfl) ?_
    refine r_isSpot hx hy (fun h5 h6 h7 h8 => ?_) (fun h5 => ?_)
    · refine T_if_eq 28 dX7_far_15 (by decide) (by unfold InR; decide) (fun h => absurd h (by decide)) (fun _ => ?_)
      refine T_aload_n dX7_far_18 rfl ?_
      refine T_iload_n dX7_far_19 rfl ?_
      refine T_iload_n dX7_far_20 rfl ?_
      refine T_iload_n dX7_far_21 rfl ?_
      refine T_cV_3 dX7_far_22 lkX7_181 rfl (Nat.le_of_ble_eq_true rfl) (RO_r (by decide)) (Nat.le_of_ble_eq_true rfl) ?_
      refine r_farOf hL ⟨h3, by omega⟩ ⟨h5, h6⟩ ⟨h7, h8⟩ ?_
      refine T_goto (tgt := 30) dX7_far_25 (by decide) ?_
      refine T_iret dX7_far_30 rfl ?_
      first | exact kU (by omega) | exact kO h3 h4 (by omega) | exact kk h3 h4 ⟨h5, h6, h7, h8⟩
    · refine T_if_eq 28 dX7_far_15 (by decide) (by unfold InR; decide) (fun _ => ?_) (fun h => absurd (by decide) h)
      refine T_bipush dX7_far_28 (by decide) ?_
      refine T_iret dX7_far_30 rfl ?_
      first | exact kU (by omega) | exact kO h3 h4 (by omega) | exact kk h3 h4 ⟨h5, h6, h7, h8⟩
  · refine T_if_eq 10 dX7_far_5 (by decide) (by unfold InR; decide) (fun h => absurd h (by decide)) (fun _ => ?_)
    refine T_iconst dX7_far_8 ?_
    refine T_iret dX7_far_9 rfl ?_
    first | exact kU (by omega) | exact kO h3 h4 (by omega) | exact kk h3 h4 ⟨h5, h6, h7, h8⟩
theorem r_place {x y : Int} (hp : 0 ≤ D 57 23 ∧ D 57 23 ≤ 8) (hx : InR x) (hy : InR y) (kO : ¬ (0 ≤ x ∧ x ≤ 60 ∧ 0 ≤ y ∧ y ≤ 60) → P (some (iI (-2))) SH D) (kF : (0 ≤ x ∧ x ≤ 60 ∧ 0 ≤ y ∧ y ≤ 60) → D 57 23 = 8 → P (some (iI (-4))) SH D) (kk : (0 ≤ x ∧ x ≤ 60 ∧ 0 ≤ y ∧ y ≤ 60) → D 57 23 < 8 → P (some (iI (D 57 23 + 1 - 1))) SH (st2 (st2 (st2 D 75 (D 57 23).toNat x) 76 (D 57 23).toNat y) 57 23 (D 57 23 + 1))) : TM g mX7_place (d + 2) P [.ref 57, iI x, iI y] D := by
  refine T_iload_n dX7_place_0 rfl ?_
  refine T_iload_n dX7_place_1 rfl ?_
  refine T_cS_2 dX7_place_2 lkX7_118 (Nat.le_of_ble_eq_true rfl) (RO_r (by decide)) (Nat.le_of_ble_eq_true rfl) ?_
  refine r_isSpot hx hy (fun h5 h6 h7 h8 => ?_) (fun h5 => ?_)
  · refine T_if_ne 11 dX7_place_5 (by decide) (by unfold InR; decide) (fun _ => ?_) (fun h => absurd (by decide) h)
    refine T_aload_n dX7_place_11 rfl ?_
    refine T_getI dX7_place_12 flX7_239 rfl rfl ?_
    refine T_bipush dX7_place_15 (by decide) ?_
    refine T_icmp_ne 23 dX7_place_17 (by decide) (by first | (unfold InR; omega) | (simp [st2, InR]; omega)) (by first | (unfold InR; omega) | (simp [st2, InR]; omega)) (fun hc17 => ?_) (fun hc17 => ?_)
    · refine T_aload_n dX7_place_23 rfl ?_
      refine T_getR dX7_place_24 flX7_62 rfl rfl ?_
      refine T_aload_n dX7_place_27 rfl ?_
      refine T_getI dX7_place_28 flX7_239 rfl rfl ?_
      refine T_iload_n dX7_place_31 rfl ?_
      refine T_iast dX7_place_32 rfl (by first | decide | omega) (by first | omega | (simp [st2]; omega)) (by first | omega | (simp [st2]; omega)) ?_
      refine T_aload_n dX7_place_33 rfl ?_
      refine T_getR dX7_place_34 flX7_65 rfl rfl ?_
      refine T_aload_n dX7_place_37 rfl ?_
      refine T_getI dX7_place_38 flX7_239 rfl rfl ?_
      refine T_iload_n dX7_place_41 rfl ?_
      refine T_iast dX7_place_42 rfl (by first | decide | omega) (by first | omega | (simp [st2]; omega)) (by first | omega | (simp [st2]; omega)) ?_
      refine T_aload_n dX7_place_43 rfl ?_
      refine T_dup dX7_place_44 rfl ?_
      refine T_getI dX7_place_45 flX7_239 rfl rfl ?_
      refine T_iconst dX7_place_48 ?_
      refine T_iadd dX7_place_49 ?_
      refine T_putI dX7_place_50 flX7_239 rfl rfl ?_
      refine T_aload_n dX7_place_53 rfl ?_
      refine T_getI dX7_place_54 flX7_239 rfl rfl ?_
      refine T_iconst dX7_place_57 ?_
      refine T_isub dX7_place_58 ?_
      refine T_iret dX7_place_59 rfl ?_
      first | exact kO (by omega) | exact kF (by omega) (by omega) | exact kk (by omega) (by omega)
    · refine T_bipush dX7_place_20 (by decide) ?_
      refine T_iret dX7_place_22 rfl ?_
      first | exact kO (by omega) | exact kF (by omega) (by omega) | exact kk (by omega) (by omega)
  · refine T_if_ne 11 dX7_place_5 (by decide) (by unfold InR; decide) (fun h => absurd h (by decide)) (fun _ => ?_)
    refine T_bipush dX7_place_8 (by decide) ?_
    refine T_iret dX7_place_10 rfl ?_
    first | exact kO (by omega) | exact kF (by omega) (by omega) | exact kk (by omega) (by omega)
theorem r_traced {n : Int} (hk : P none SH (st2 D 57 30 (lv1 (D 57 30) n))) : TM g mX7_traced d P [.ref 57, iI n] D := by
  refine T_aload_n dX7_traced_0 rfl ?_
  refine T_bipush dX7_traced_1 (by decide) ?_
  refine T_aload_n dX7_traced_3 rfl ?_
  refine T_getI dX7_traced_4 flX7_257 rfl rfl ?_
  refine T_imul dX7_traced_7 ?_
  refine T_iload_n dX7_traced_8 rfl ?_
  refine T_iadd dX7_traced_9 ?_
  refine T_putI dX7_traced_10 flX7_257 rfl rfl ?_
  refine T_vret dX7_traced_13 rfl ?_
  exact hk
theorem r_tell {c : Int} (hL : MK D) (hc : InR c) (kU : ¬ (0 ≤ c ∧ c < D 57 5) → P (some (iI (-1))) SH D) (k0 : 0 ≤ c → c < D 57 5 → D 61 c.toNat = 0 → P (some (iI (D 64 c.toNat))) SH (st2 D 57 30 (lv1 (D 57 30) 1))) (k1 : 0 ≤ c → c < D 57 5 → D 61 c.toNat = 1 → P (some (iI (D 64 c.toNat + 100))) SH (st2 D 57 30 (lv1 (lv1 (D 57 30) 2) 1))) (k2 : 0 ≤ c → c < D 57 5 → D 61 c.toNat = 2 → P (some (iI (2 * D 64 c.toNat + 100))) SH (st2 D 57 30 (lv1 (lv1 (lv1 (lv1 (D 57 30) 3) 2) 1) 1))) : TM g mX7_tell (d + 2) P [.ref 57, iI c] D := by
  have hM := hL.2.1
  have hkd := hL.2.2.2.2.2.2.1 c.toNat
  refine T_aload_n dX7_tell_0 rfl ?_
  refine T_iload_n dX7_tell_1 rfl ?_
  refine T_cV_1 dX7_tell_2 lkX7_173 rfl (Nat.le_of_ble_eq_true rfl) (RO_r (by decide)) (Nat.le_of_ble_eq_true rfl) ?_
  refine r_noChurch hc hM (fun h3 h4 => ?_) (fun h3 => ?_)
  · refine T_if_eq 10 dX7_tell_5 (by decide) (by unfold InR; decide) (fun _ => ?_) (fun h => absurd (by decide) h)
    refine T_aload_n dX7_tell_10 rfl ?_
    refine T_getR dX7_tell_11 flX7_19 rfl rfl ?_
    refine T_iload_n dX7_tell_14 rfl ?_
    refine T_iald dX7_tell_15 rfl (by first | decide | omega) (by first | omega | (simp [st2]; omega)) (by first | omega | (simp [st2]; omega)) ?_
    refine T_istore_n dX7_tell_16 (by decide) ?_
    refine T_iload_n dX7_tell_17 rfl ?_
    refine T_iconst dX7_tell_18 ?_
    refine T_icmp_ne 27 dX7_tell_19 (by decide) (by first | (unfold InR; omega) | (simp [st2, InR]; omega)) (by first | (unfold InR; omega) | (simp [st2, InR]; omega)) (fun hc19 => ?_) (fun hc19 => ?_)
    · refine T_iload_n dX7_tell_27 rfl ?_
      refine T_if_le 36 dX7_tell_28 (by decide) (by first | (unfold InR; omega) | (simp [st2, InR]; omega)) (fun hc28 => ?_) (fun hc28 => ?_)
      · refine T_aload_n dX7_tell_36 rfl ?_
        refine T_iconst dX7_tell_37 ?_
        refine T_cV_1 dX7_tell_38 lkX7_260 rfl (Nat.le_of_ble_eq_true rfl) (RO_r (by decide)) (Nat.le_of_ble_eq_true rfl) ?_
        refine r_traced ?_
        refine T_iload_n dX7_tell_41 rfl ?_
        refine T_iconst dX7_tell_42 ?_
        refine T_icmp_ne 51 dX7_tell_43 (by decide) (by first | (unfold InR; omega) | (simp [st2, InR]; omega)) (by first | (unfold InR; omega) | (simp [st2, InR]; omega)) (fun hc43 => ?_) (fun hc43 => ?_)
        · refine T_iload_n dX7_tell_51 rfl ?_
          refine T_if_ne 64 dX7_tell_52 (by decide) (by first | (unfold InR; omega) | (simp [st2, InR]; omega)) (fun hc52 => ?_) (fun hc52 => ?_)
          · refine T_iload_n dX7_tell_64 rfl ?_
            refine T_iconst dX7_tell_65 ?_
            refine T_icmp_ne 81 dX7_tell_66 (by decide) (by first | (unfold InR; omega) | (simp [st2, InR]; omega)) (by first | (unfold InR; omega) | (simp [st2, InR]; omega)) (fun hc66 => ?_) (fun hc66 => ?_)
            · refine T_iconst dX7_tell_81 ?_
              refine T_aload_n dX7_tell_82 rfl ?_
              refine T_getR dX7_tell_83 flX7_28 rfl rfl ?_
              refine T_iload_n dX7_tell_86 rfl ?_
              refine T_iald dX7_tell_87 rfl (by first | decide | omega) (by first | omega | (simp [st2]; omega)) (by first | omega | (simp [st2]; omega)) ?_
              refine T_imul dX7_tell_88 ?_
              refine T_bipush dX7_tell_89 (by decide) ?_
              refine T_iadd dX7_tell_91 ?_
              refine T_iret dX7_tell_92 rfl ?_
              first | exact kU (by omega) | (exfalso; omega) | ((try simp only [st2_at, st2_st2]); first | exact k0 h3 h4 (by omega) | exact k1 h3 h4 (by omega) | exact k2 h3 h4 (by omega))
            · refine T_aload_n dX7_tell_69 rfl ?_
              refine T_getR dX7_tell_70 flX7_28 rfl rfl ?_
              refine T_iload_n dX7_tell_73 rfl ?_
              refine T_iald dX7_tell_74 rfl (by first | decide | omega) (by first | omega | (simp [st2]; omega)) (by first | omega | (simp [st2]; omega)) ?_
              refine T_bipush dX7_tell_75 (by decide) ?_
              refine T_iadd dX7_tell_77 ?_
              refine T_goto (tgt := 92) dX7_tell_78 (by decide) ?_
              refine T_iret dX7_tell_92 rfl ?_
              first | exact kU (by omega) | (exfalso; omega) | ((try simp only [st2_at, st2_st2]); first | exact k0 h3 h4 (by omega) | exact k1 h3 h4 (by omega) | exact k2 h3 h4 (by omega))
          · refine T_aload_n dX7_tell_55 rfl ?_
            refine T_getR dX7_tell_56 flX7_28 rfl rfl ?_
            refine T_iload_n dX7_tell_59 rfl ?_
            refine T_iald dX7_tell_60 rfl (by first | decide | omega) (by first | omega | (simp [st2]; omega)) (by first | omega | (simp [st2]; omega)) ?_
            refine T_goto (tgt := 92) dX7_tell_61 (by decide) ?_
            refine T_iret dX7_tell_92 rfl ?_
            first | exact kU (by omega) | (exfalso; omega) | ((try simp only [st2_at, st2_st2]); first | exact k0 h3 h4 (by omega) | exact k1 h3 h4 (by omega) | exact k2 h3 h4 (by omega))
        · refine T_aload_n dX7_tell_46 rfl ?_
          refine T_iconst dX7_tell_47 ?_
          refine T_cV_1 dX7_tell_48 lkX7_260 rfl (Nat.le_of_ble_eq_true rfl) (RO_r (by decide)) (Nat.le_of_ble_eq_true rfl) ?_
          refine r_traced ?_
          refine T_iload_n dX7_tell_51 rfl ?_
          refine T_if_ne 64 dX7_tell_52 (by decide) (by first | (unfold InR; omega) | (simp [st2, InR]; omega)) (fun hc52 => ?_) (fun hc52 => ?_)
          · refine T_iload_n dX7_tell_64 rfl ?_
            refine T_iconst dX7_tell_65 ?_
            refine T_icmp_ne 81 dX7_tell_66 (by decide) (by first | (unfold InR; omega) | (simp [st2, InR]; omega)) (by first | (unfold InR; omega) | (simp [st2, InR]; omega)) (fun hc66 => ?_) (fun hc66 => ?_)
            · refine T_iconst dX7_tell_81 ?_
              refine T_aload_n dX7_tell_82 rfl ?_
              refine T_getR dX7_tell_83 flX7_28 rfl rfl ?_
              refine T_iload_n dX7_tell_86 rfl ?_
              refine T_iald dX7_tell_87 rfl (by first | decide | omega) (by first | omega | (simp [st2]; omega)) (by first | omega | (simp [st2]; omega)) ?_
              refine T_imul dX7_tell_88 ?_
              refine T_bipush dX7_tell_89 (by decide) ?_
              refine T_iadd dX7_tell_91 ?_
              refine T_iret dX7_tell_92 rfl ?_
              first | exact kU (by omega) | (exfalso; omega) | ((try simp only [st2_at, st2_st2]); first | exact k0 h3 h4 (by omega) | exact k1 h3 h4 (by omega) | exact k2 h3 h4 (by omega))
            · refine T_aload_n dX7_tell_69 rfl ?_
              refine T_getR dX7_tell_70 flX7_28 rfl rfl ?_
              refine T_iload_n dX7_tell_73 rfl ?_
              refine T_iald dX7_tell_74 rfl (by first | decide | omega) (by first | omega | (simp [st2]; omega)) (by first | omega | (simp [st2]; omega)) ?_
              refine T_bipush dX7_tell_75 (by decide) ?_
              refine T_iadd dX7_tell_77 ?_
              refine T_goto (tgt := 92) dX7_tell_78 (by decide) ?_
              refine T_iret dX7_tell_92 rfl ?_
              first | exact kU (by omega) | (exfalso; omega) | ((try simp only [st2_at, st2_st2]); first | exact k0 h3 h4 (by omega) | exact k1 h3 h4 (by omega) | exact k2 h3 h4 (by omega))
          · refine T_aload_n dX7_tell_55 rfl ?_
            refine T_getR dX7_tell_56 flX7_28 rfl rfl ?_
            refine T_iload_n dX7_tell_59 rfl ?_
            refine T_iald dX7_tell_60 rfl (by first | decide | omega) (by first | omega | (simp [st2]; omega)) (by first | omega | (simp [st2]; omega)) ?_
            refine T_goto (tgt := 92) dX7_tell_61 (by decide) ?_
            refine T_iret dX7_tell_92 rfl ?_
            first | exact kU (by omega) | (exfalso; omega) | ((try simp only [st2_at, st2_st2]); first | exact k0 h3 h4 (by omega) | exact k1 h3 h4 (by omega) | exact k2 h3 h4 (by omega))
      · refine T_aload_n dX7_tell_31 rfl ?_
        refine T_iconst dX7_tell_32 ?_
        refine T_cV_1 dX7_tell_33 lkX7_260 rfl (Nat.le_of_ble_eq_true rfl) (RO_r (by decide)) (Nat.le_of_ble_eq_true rfl) ?_
        refine r_traced ?_
        refine T_aload_n dX7_tell_36 rfl ?_
        refine T_iconst dX7_tell_37 ?_
        refine T_cV_1 dX7_tell_38 lkX7_260 rfl (Nat.le_of_ble_eq_true rfl) (RO_r (by decide)) (Nat.le_of_ble_eq_true rfl) ?_
        refine r_traced ?_
        refine T_iload_n dX7_tell_41 rfl ?_
        refine T_iconst dX7_tell_42 ?_
        refine T_icmp_ne 51 dX7_tell_43 (by decide) (by first | (unfold InR; omega) | (simp [st2, InR]; omega)) (by first | (unfold InR; omega) | (simp [st2, InR]; omega)) (fun hc43 => ?_) (fun hc43 => ?_)
        · refine T_iload_n dX7_tell_51 rfl ?_
          refine T_if_ne 64 dX7_tell_52 (by decide) (by first | (unfold InR; omega) | (simp [st2, InR]; omega)) (fun hc52 => ?_) (fun hc52 => ?_)
          · refine T_iload_n dX7_tell_64 rfl ?_
            refine T_iconst dX7_tell_65 ?_
            refine T_icmp_ne 81 dX7_tell_66 (by decide) (by first | (unfold InR; omega) | (simp [st2, InR]; omega)) (by first | (unfold InR; omega) | (simp [st2, InR]; omega)) (fun hc66 => ?_) (fun hc66 => ?_)
            · refine T_iconst dX7_tell_81 ?_
              refine T_aload_n dX7_tell_82 rfl ?_
              refine T_getR dX7_tell_83 flX7_28 rfl rfl ?_
              refine T_iload_n dX7_tell_86 rfl ?_
              refine T_iald dX7_tell_87 rfl (by first | decide | omega) (by first | omega | (simp [st2]; omega)) (by first | omega | (simp [st2]; omega)) ?_
              refine T_imul dX7_tell_88 ?_
              refine T_bipush dX7_tell_89 (by decide) ?_
              refine T_iadd dX7_tell_91 ?_
              refine T_iret dX7_tell_92 rfl ?_
              first | exact kU (by omega) | (exfalso; omega) | ((try simp only [st2_at, st2_st2]); first | exact k0 h3 h4 (by omega) | exact k1 h3 h4 (by omega) | exact k2 h3 h4 (by omega))
            · refine T_aload_n dX7_tell_69 rfl ?_
              refine T_getR dX7_tell_70 flX7_28 rfl rfl ?_
              refine T_iload_n dX7_tell_73 rfl ?_
              refine T_iald dX7_tell_74 rfl (by first | decide | omega) (by first | omega | (simp [st2]; omega)) (by first | omega | (simp [st2]; omega)) ?_
              refine T_bipush dX7_tell_75 (by decide) ?_
              refine T_iadd dX7_tell_77 ?_
              refine T_goto (tgt := 92) dX7_tell_78 (by decide) ?_
              refine T_iret dX7_tell_92 rfl ?_
              first | exact kU (by omega) | (exfalso; omega) | ((try simp only [st2_at, st2_st2]); first | exact k0 h3 h4 (by omega) | exact k1 h3 h4 (by omega) | exact k2 h3 h4 (by omega))
          · refine T_aload_n dX7_tell_55 rfl ?_
            refine T_getR dX7_tell_56 flX7_28 rfl rfl ?_
            refine T_iload_n dX7_tell_59 rfl ?_
            refine T_iald dX7_tell_60 rfl (by first | decide | omega) (by first | omega | (simp [st2]; omega)) (by first | omega | (simp [st2]; omega)) ?_
            refine T_goto (tgt := 92) dX7_tell_61 (by decide) ?_
            refine T_iret dX7_tell_92 rfl ?_
            first | exact kU (by omega) | (exfalso; omega) | ((try simp only [st2_at, st2_st2]); first | exact k0 h3 h4 (by omega) | exact k1 h3 h4 (by omega) | exact k2 h3 h4 (by omega))
        · refine T_aload_n dX7_tell_46 rfl ?_
          refine T_iconst dX7_tell_47 ?_
          refine T_cV_1 dX7_tell_48 lkX7_260 rfl (Nat.le_of_ble_eq_true rfl) (RO_r (by decide)) (Nat.le_of_ble_eq_true rfl) ?_
          refine r_traced ?_
          refine T_iload_n dX7_tell_51 rfl ?_
          refine T_if_ne 64 dX7_tell_52 (by decide) (by first | (unfold InR; omega) | (simp [st2, InR]; omega)) (fun hc52 => ?_) (fun hc52 => ?_)
          · refine T_iload_n dX7_tell_64 rfl ?_
            refine T_iconst dX7_tell_65 ?_
            refine T_icmp_ne 81 dX7_tell_66 (by decide) (by first | (unfold InR; omega) | (simp [st2, InR]; omega)) (by first | (unfold InR; omega) | (simp [st2, InR]; omega)) (fun hc66 => ?_) (fun hc66 => ?_)
            · refine T_iconst dX7_tell_81 ?_
              refine T_aload_n dX7_tell_82 rfl ?_
              refine T_getR dX7_tell_83 flX7_28 rfl rfl ?_
              refine T_iload_n dX7_tell_86 rfl ?_
              refine T_iald dX7_tell_87 rfl (by first | decide | omega) (by first | omega | (simp [st2]; omega)) (by first | omega | (simp [st2]; omega)) ?_
              refine T_imul dX7_tell_88 ?_
              refine T_bipush dX7_tell_89 (by decide) ?_
              refine T_iadd dX7_tell_91 ?_
              refine T_iret dX7_tell_92 rfl ?_
              first | exact kU (by omega) | (exfalso; omega) | ((try simp only [st2_at, st2_st2]); first | exact k0 h3 h4 (by omega) | exact k1 h3 h4 (by omega) | exact k2 h3 h4 (by omega))
            · refine T_aload_n dX7_tell_69 rfl ?_
              refine T_getR dX7_tell_70 flX7_28 rfl rfl ?_
              refine T_iload_n dX7_tell_73 rfl ?_
              refine T_iald dX7_tell_74 rfl (by first | decide | omega) (by first | omega | (simp [st2]; omega)) (by first | omega | (simp [st2]; omega)) ?_
              refine T_bipush dX7_tell_75 (by decide) ?_
              refine T_iadd dX7_tell_77 ?_
              refine T_goto (tgt := 92) dX7_tell_78 (by decide) ?_
              refine T_iret dX7_tell_92 rfl ?_
              first | exact kU (by omega) | (exfalso; omega) | ((try simp only [st2_at, st2_st2]); first | exact k0 h3 h4 (by omega) | exact k1 h3 h4 (by omega) | exact k2 h3 h4 (by omega))
          · refine T_aload_n dX7_tell_55 rfl ?_
            refine T_getR dX7_tell_56 flX7_28 rfl rfl ?_
            refine T_iload_n dX7_tell_59 rfl ?_
            refine T_iald dX7_tell_60 rfl (by first | decide | omega) (by first | omega | (simp [st2]; omega)) (by first | omega | (simp [st2]; omega)) ?_
            refine T_goto (tgt := 92) dX7_tell_61 (by decide) ?_
            refine T_iret dX7_tell_92 rfl ?_
            first | exact kU (by omega) | (exfalso; omega) | ((try simp only [st2_at, st2_st2]); first | exact k0 h3 h4 (by omega) | exact k1 h3 h4 (by omega) | exact k2 h3 h4 (by omega))
    · refine T_aload_n dX7_tell_22 rfl ?_
      refine T_iconst dX7_tell_23 ?_
      refine T_cV_1 dX7_tell_24 lkX7_260 rfl (Nat.le_of_ble_eq_true rfl) (RO_r (by decide)) (Nat.le_of_ble_eq_true rfl) ?_
      refine r_traced ?_
      refine T_iload_n dX7_tell_27 rfl ?_
      refine T_if_le 36 dX7_tell_28 (by decide) (by first | (unfold InR; omega) | (simp [st2, InR]; omega)) (fun hc28 => ?_) (fun hc28 => ?_)
      · refine T_aload_n dX7_tell_36 rfl ?_
        refine T_iconst dX7_tell_37 ?_
        refine T_cV_1 dX7_tell_38 lkX7_260 rfl (Nat.le_of_ble_eq_true rfl) (RO_r (by decide)) (Nat.le_of_ble_eq_true rfl) ?_
        refine r_traced ?_
        refine T_iload_n dX7_tell_41 rfl ?_
        refine T_iconst dX7_tell_42 ?_
        refine T_icmp_ne 51 dX7_tell_43 (by decide) (by first | (unfold InR; omega) | (simp [st2, InR]; omega)) (by first | (unfold InR; omega) | (simp [st2, InR]; omega)) (fun hc43 => ?_) (fun hc43 => ?_)
        · refine T_iload_n dX7_tell_51 rfl ?_
          refine T_if_ne 64 dX7_tell_52 (by decide) (by first | (unfold InR; omega) | (simp [st2, InR]; omega)) (fun hc52 => ?_) (fun hc52 => ?_)
          · refine T_iload_n dX7_tell_64 rfl ?_
            refine T_iconst dX7_tell_65 ?_
            refine T_icmp_ne 81 dX7_tell_66 (by decide) (by first | (unfold InR; omega) | (simp [st2, InR]; omega)) (by first | (unfold InR; omega) | (simp [st2, InR]; omega)) (fun hc66 => ?_) (fun hc66 => ?_)
            · refine T_iconst dX7_tell_81 ?_
              refine T_aload_n dX7_tell_82 rfl ?_
              refine T_getR dX7_tell_83 flX7_28 rfl rfl ?_
              refine T_iload_n dX7_tell_86 rfl ?_
              refine T_iald dX7_tell_87 rfl (by first | decide | omega) (by first | omega | (simp [st2]; omega)) (by first | omega | (simp [st2]; omega)) ?_
              refine T_imul dX7_tell_88 ?_
              refine T_bipush dX7_tell_89 (by decide) ?_
              refine T_iadd dX7_tell_91 ?_
              refine T_iret dX7_tell_92 rfl ?_
              first | exact kU (by omega) | (exfalso; omega) | ((try simp only [st2_at, st2_st2]); first | exact k0 h3 h4 (by omega) | exact k1 h3 h4 (by omega) | exact k2 h3 h4 (by omega))
            · refine T_aload_n dX7_tell_69 rfl ?_
              refine T_getR dX7_tell_70 flX7_28 rfl rfl ?_
              refine T_iload_n dX7_tell_73 rfl ?_
              refine T_iald dX7_tell_74 rfl (by first | decide | omega) (by first | omega | (simp [st2]; omega)) (by first | omega | (simp [st2]; omega)) ?_
              refine T_bipush dX7_tell_75 (by decide) ?_
              refine T_iadd dX7_tell_77 ?_
              refine T_goto (tgt := 92) dX7_tell_78 (by decide) ?_
              refine T_iret dX7_tell_92 rfl ?_
              first | exact kU (by omega) | (exfalso; omega) | ((try simp only [st2_at, st2_st2]); first | exact k0 h3 h4 (by omega) | exact k1 h3 h4 (by omega) | exact k2 h3 h4 (by omega))
          · refine T_aload_n dX7_tell_55 rfl ?_
            refine T_getR dX7_tell_56 flX7_28 rfl rfl ?_
            refine T_iload_n dX7_tell_59 rfl ?_
            refine T_iald dX7_tell_60 rfl (by first | decide | omega) (by first | omega | (simp [st2]; omega)) (by first | omega | (simp [st2]; omega)) ?_
            refine T_goto (tgt := 92) dX7_tell_61 (by decide) ?_
            refine T_iret dX7_tell_92 rfl ?_
            first | exact kU (by omega) | (exfalso; omega) | ((try simp only [st2_at, st2_st2]); first | exact k0 h3 h4 (by omega) | exact k1 h3 h4 (by omega) | exact k2 h3 h4 (by omega))
        · refine T_aload_n dX7_tell_46 rfl ?_
          refine T_iconst dX7_tell_47 ?_
          refine T_cV_1 dX7_tell_48 lkX7_260 rfl (Nat.le_of_ble_eq_true rfl) (RO_r (by decide)) (Nat.le_of_ble_eq_true rfl) ?_
          refine r_traced ?_
          refine T_iload_n dX7_tell_51 rfl ?_
          refine T_if_ne 64 dX7_tell_52 (by decide) (by first | (unfold InR; omega) | (simp [st2, InR]; omega)) (fun hc52 => ?_) (fun hc52 => ?_)
          · refine T_iload_n dX7_tell_64 rfl ?_
            refine T_iconst dX7_tell_65 ?_
            refine T_icmp_ne 81 dX7_tell_66 (by decide) (by first | (unfold InR; omega) | (simp [st2, InR]; omega)) (by first | (unfold InR; omega) | (simp [st2, InR]; omega)) (fun hc66 => ?_) (fun hc66 => ?_)
            · refine T_iconst dX7_tell_81 ?_
              refine T_aload_n dX7_tell_82 rfl ?_
              refine T_getR dX7_tell_83 flX7_28 rfl rfl ?_
              refine T_iload_n dX7_tell_86 rfl ?_
              refine T_iald dX7_tell_87 rfl (by first | decide | omega) (by first | omega | (simp [st2]; omega)) (by first | omega | (simp [st2]; omega)) ?_
              refine T_imul dX7_tell_88 ?_
              refine T_bipush dX7_tell_89 (by decide) ?_
              refine T_iadd dX7_tell_91 ?_
              refine T_iret dX7_tell_92 rfl ?_
              first | exact kU (by omega) | (exfalso; omega) | ((try simp only [st2_at, st2_st2]); first | exact k0 h3 h4 (by omega) | exact k1 h3 h4 (by omega) | exact k2 h3 h4 (by omega))
            · refine T_aload_n dX7_tell_69 rfl ?_
              refine T_getR dX7_tell_70 flX7_28 rfl rfl ?_
              refine T_iload_n dX7_tell_73 rfl ?_
              refine T_iald dX7_tell_74 rfl (by first | decide | omega) (by first | omega | (simp [st2]; omega)) (by first | omega | (simp [st2]; omega)) ?_
              refine T_bipush dX7_tell_75 (by decide) ?_
              refine T_iadd dX7_tell_77 ?_
              refine T_goto (tgt := 92) dX7_tell_78 (by decide) ?_
              refine T_iret dX7_tell_92 rfl ?_
              first | exact kU (by omega) | (exfalso; omega) | ((try simp only [st2_at, st2_st2]); first | exact k0 h3 h4 (by omega) | exact k1 h3 h4 (by omega) | exact k2 h3 h4 (by omega))
          · refine T_aload_n dX7_tell_55 rfl ?_
            refine T_getR dX7_tell_56 flX7_28 rfl rfl ?_
            refine T_iload_n dX7_tell_59 rfl ?_
            refine T_iald dX7_tell_60 rfl (by first | decide | omega) (by first | omega | (simp [st2]; omega)) (by first | omega | (simp [st2]; omega)) ?_
            refine T_goto (tgt := 92) dX7_tell_61 (by decide) ?_
            refine T_iret dX7_tell_92 rfl ?_
            first | exact kU (by omega) | (exfalso; omega) | ((try simp only [st2_at, st2_st2]); first | exact k0 h3 h4 (by omega) | exact k1 h3 h4 (by omega) | exact k2 h3 h4 (by omega))
      · refine T_aload_n dX7_tell_31 rfl ?_
        refine T_iconst dX7_tell_32 ?_
        refine T_cV_1 dX7_tell_33 lkX7_260 rfl (Nat.le_of_ble_eq_true rfl) (RO_r (by decide)) (Nat.le_of_ble_eq_true rfl) ?_
        refine r_traced ?_
        refine T_aload_n dX7_tell_36 rfl ?_
        refine T_iconst dX7_tell_37 ?_
        refine T_cV_1 dX7_tell_38 lkX7_260 rfl (Nat.le_of_ble_eq_true rfl) (RO_r (by decide)) (Nat.le_of_ble_eq_true rfl) ?_
        refine r_traced ?_
        refine T_iload_n dX7_tell_41 rfl ?_
        refine T_iconst dX7_tell_42 ?_
        refine T_icmp_ne 51 dX7_tell_43 (by decide) (by first | (unfold InR; omega) | (simp [st2, InR]; omega)) (by first | (unfold InR; omega) | (simp [st2, InR]; omega)) (fun hc43 => ?_) (fun hc43 => ?_)
        · refine T_iload_n dX7_tell_51 rfl ?_
          refine T_if_ne 64 dX7_tell_52 (by decide) (by first | (unfold InR; omega) | (simp [st2, InR]; omega)) (fun hc52 => ?_) (fun hc52 => ?_)
          · refine T_iload_n dX7_tell_64 rfl ?_
            refine T_iconst dX7_tell_65 ?_
            refine T_icmp_ne 81 dX7_tell_66 (by decide) (by first | (unfold InR; omega) | (simp [st2, InR]; omega)) (by first | (unfold InR; omega) | (simp [st2, InR]; omega)) (fun hc66 => ?_) (fun hc66 => ?_)
            · refine T_iconst dX7_tell_81 ?_
              refine T_aload_n dX7_tell_82 rfl ?_
              refine T_getR dX7_tell_83 flX7_28 rfl rfl ?_
              refine T_iload_n dX7_tell_86 rfl ?_
              refine T_iald dX7_tell_87 rfl (by first | decide | omega) (by first | omega | (simp [st2]; omega)) (by first | omega | (simp [st2]; omega)) ?_
              refine T_imul dX7_tell_88 ?_
              refine T_bipush dX7_tell_89 (by decide) ?_
              refine T_iadd dX7_tell_91 ?_
              refine T_iret dX7_tell_92 rfl ?_
              first | exact kU (by omega) | (exfalso; omega) | ((try simp only [st2_at, st2_st2]); first | exact k0 h3 h4 (by omega) | exact k1 h3 h4 (by omega) | exact k2 h3 h4 (by omega))
            · refine T_aload_n dX7_tell_69 rfl ?_
              refine T_getR dX7_tell_70 flX7_28 rfl rfl ?_
              refine T_iload_n dX7_tell_73 rfl ?_
              refine T_iald dX7_tell_74 rfl (by first | decide | omega) (by first | omega | (simp [st2]; omega)) (by first | omega | (simp [st2]; omega)) ?_
              refine T_bipush dX7_tell_75 (by decide) ?_
              refine T_iadd dX7_tell_77 ?_
              refine T_goto (tgt := 92) dX7_tell_78 (by decide) ?_
              refine T_iret dX7_tell_92 rfl ?_
              first | exact kU (by omega) | (exfalso; omega) | ((try simp only [st2_at, st2_st2]); first | exact k0 h3 h4 (by omega) | exact k1 h3 h4 (by omega) | exact k2 h3 h4 (by omega))
          · refine T_aload_n dX7_tell_55 rfl ?_
            refine T_getR dX7_tell_56 flX7_28 rfl rfl ?_
            refine T_iload_n dX7_tell_59 rfl ?_
            refine T_iald dX7_tell_60 rfl (by first | decide | omega) (by first | omega | (simp [st2]; omega)) (by first | omega | (simp [st2]; omega)) ?_
            refine T_goto (tgt := 92) dX7_tell_61 (by decide) ?_
            refine T_iret dX7_tell_92 rfl ?_
            first | exact kU (by omega) | (exfalso; omega) | ((try simp only [st2_at, st2_st2]); first | exact k0 h3 h4 (by omega) | exact k1 h3 h4 (by omega) | exact k2 h3 h4 (by omega))
        · refine T_aload_n dX7_tell_46 rfl ?_
          refine T_iconst dX7_tell_47 ?_
          refine T_cV_1 dX7_tell_48 lkX7_260 rfl (Nat.le_of_ble_eq_true rfl) (RO_r (by decide)) (Nat.le_of_ble_eq_true rfl) ?_
          refine r_traced ?_
          refine T_iload_n dX7_tell_51 rfl ?_
          refine T_if_ne 64 dX7_tell_52 (by decide) (by first | (unfold InR; omega) | (simp [st2, InR]; omega)) (fun hc52 => ?_) (fun hc52 => ?_)
          · refine T_iload_n dX7_tell_64 rfl ?_
            refine T_iconst dX7_tell_65 ?_
            refine T_icmp_ne 81 dX7_tell_66 (by decide) (by first | (unfold InR; omega) | (simp [st2, InR]; omega)) (by first | (unfold InR; omega) | (simp [st2, InR]; omega)) (fun hc66 => ?_) (fun hc66 => ?_)
            · refine T_iconst dX7_tell_81 ?_
              refine T_aload_n dX7_tell_82 rfl ?_
              refine T_getR dX7_tell_83 flX7_28 rfl rfl ?_
              refine T_iload_n dX7_tell_86 rfl ?_
              refine T_iald dX7_tell_87 rfl (by first | decide | omega) (by first | omega | (simp [st2]; omega)) (by first | omega | (simp [st2]; omega)) ?_
              refine T_imul dX7_tell_88 ?_
              refine T_bipush dX7_tell_89 (by decide) ?_
              refine T_iadd dX7_tell_91 ?_
              refine T_iret dX7_tell_92 rfl ?_
              first | exact kU (by omega) | (exfalso; omega) | ((try simp only [st2_at, st2_st2]); first | exact k0 h3 h4 (by omega) | exact k1 h3 h4 (by omega) | exact k2 h3 h4 (by omega))
            · refine T_aload_n dX7_tell_69 rfl ?_
              refine T_getR dX7_tell_70 flX7_28 rfl rfl ?_
              refine T_iload_n dX7_tell_73 rfl ?_
              refine T_iald dX7_tell_74 rfl (by first | decide | omega) (by first | omega | (simp [st2]; omega)) (by first | omega | (simp [st2]; omega)) ?_
              refine T_bipush dX7_tell_75 (by decide) ?_
              refine T_iadd dX7_tell_77 ?_
              refine T_goto (tgt := 92) dX7_tell_78 (by decide) ?_
              refine T_iret dX7_tell_92 rfl ?_
              first | exact kU (by omega) | (exfalso; omega) | ((try simp only [st2_at, st2_st2]); first | exact k0 h3 h4 (by omega) | exact k1 h3 h4 (by omega) | exact k2 h3 h4 (by omega))
          · refine T_aload_n dX7_tell_55 rfl ?_
            refine T_getR dX7_tell_56 flX7_28 rfl rfl ?_
            refine T_iload_n dX7_tell_59 rfl ?_
            refine T_iald dX7_tell_60 rfl (by first | decide | omega) (by first | omega | (simp [st2]; omega)) (by first | omega | (simp [st2]; omega)) ?_
            refine T_goto (tgt := 92) dX7_tell_61 (by decide) ?_
            refine T_iret dX7_tell_92 rfl ?_
            first | exact kU (by omega) | (exfalso; omega) | ((try simp only [st2_at, st2_st2]); first | exact k0 h3 h4 (by omega) | exact k1 h3 h4 (by omega) | exact k2 h3 h4 (by omega))
  · refine T_if_eq 10 dX7_tell_5 (by decide) (by unfold InR; decide) (fun h => absurd h (by decide)) (fun _ => ?_)
    refine T_iconst dX7_tell_8 ?_
    refine T_iret dX7_tell_9 rfl ?_
    first | exact kU (by omega) | (exfalso; omega) | ((try simp only [st2_at, st2_st2]); first | exact k0 h3 h4 (by omega) | exact k1 h3 h4 (by omega) | exact k2 h3 h4 (by omega))
theorem r_ring {c : Int} (hL : MK D) (hc : InR c) (kU : ¬ (0 ≤ c ∧ c < D 57 5) → P (some (iI (-1))) SH D) (k0 : 0 ≤ c → c < D 57 5 → D 61 c.toNat = 2 → P (some (iI 44)) SH (st2 D 57 30 (lv1 (D 57 30) 5))) (k1 : 0 ≤ c → c < D 57 5 → D 61 c.toNat ≠ 2 → P (some (iI c)) SH (st2 D 57 30 (lv1 (D 57 30) 4))) : TM g mX7_ring (d + 2) P [.ref 57, iI c] D := by
  have hM := hL.2.1
  have hkd := hL.2.2.2.2.2.2.1 c.toNat
  have e5 : st2 D 57 30 (lv1 (D 57 30) 5) 61 = D 61 := st2_row (by decide)
  have e4 : st2 D 57 30 (lv1 (D 57 30) 4) 61 = D 61 := st2_row (by decide)
  refine T_aload_n dX7_ring_0 rfl ?_
  refine T_iload_n dX7_ring_1 rfl ?_
  refine T_cV_1 dX7_ring_2 lkX7_173 rfl (Nat.le_of_ble_eq_true rfl) (RO_r (by decide)) (Nat.le_of_ble_eq_true rfl) ?_
  refine r_noChurch hc hM (fun h3 h4 => ?_) (fun h3 => ?_)
  · refine T_if_eq 10 dX7_ring_5 (by decide) (by unfold InR; decide) (fun _ => ?_) (fun h => absurd (by decide) h)
    refine T_aload_n dX7_ring_10 rfl ?_
    refine T_aload_n dX7_ring_11 rfl ?_
    refine T_getR dX7_ring_12 flX7_19 rfl rfl ?_
    refine T_iload_n dX7_ring_15 rfl ?_
    refine T_iald dX7_ring_16 rfl (by first | decide | omega) (by first | omega | (simp [st2]; omega)) (by first | omega | (simp [st2]; omega)) ?_
    refine T_iconst dX7_ring_17 ?_
    refine T_icmp_ne 25 dX7_ring_18 (by decide) (by first | (unfold InR; omega) | (simp [st2, InR]; omega)) (by first | (unfold InR; omega) | (simp [st2, InR]; omega)) (fun hc18 => ?_) (fun hc18 => ?_)
    · refine T_iconst dX7_ring_25 ?_
      refine T_cV_1 dX7_ring_26 lkX7_260 rfl (Nat.le_of_ble_eq_true rfl) (RO_r (by decide)) (Nat.le_of_ble_eq_true rfl) ?_
      refine r_traced ?_
      refine T_aload_n dX7_ring_29 rfl ?_
      refine T_getR dX7_ring_30 flX7_19 rfl rfl ?_
      refine T_iload_n dX7_ring_33 rfl ?_
      refine T_iald dX7_ring_34 rfl (by first | decide | omega) (by first | omega | (simp [st2]; omega)) (by first | omega | (simp [st2]; omega)) ?_
      refine T_iconst dX7_ring_35 ?_
      refine T_icmp_ne 44 dX7_ring_36 (by decide) (by first | (unfold InR; omega) | (simp [st2, InR]; omega)) (by first | (unfold InR; omega) | (simp [st2, InR]; omega)) (fun hc36 => ?_) (fun hc36 => ?_)
      · refine T_iload_n dX7_ring_44 rfl ?_
        refine T_iret dX7_ring_45 rfl ?_
        first | exact kU (by omega) | exact k0 h3 h4 (by omega) | exact k1 h3 h4 (by omega) | (exfalso; simp only [e5, e4] at *; omega)
      · refine T_bipush dX7_ring_39 (by decide) ?_
        refine T_goto (tgt := 45) dX7_ring_41 (by decide) ?_
        refine T_iret dX7_ring_45 rfl ?_
        first | exact kU (by omega) | exact k0 h3 h4 (by omega) | exact k1 h3 h4 (by omega) | (exfalso; simp only [e5, e4] at *; omega)
    · refine T_iconst dX7_ring_21 ?_
      refine T_goto (tgt := 26) dX7_ring_22 (by decide) ?_
      refine T_cV_1 dX7_ring_26 lkX7_260 rfl (Nat.le_of_ble_eq_true rfl) (RO_r (by decide)) (Nat.le_of_ble_eq_true rfl) ?_
      refine r_traced ?_
      refine T_aload_n dX7_ring_29 rfl ?_
      refine T_getR dX7_ring_30 flX7_19 rfl rfl ?_
      refine T_iload_n dX7_ring_33 rfl ?_
      refine T_iald dX7_ring_34 rfl (by first | decide | omega) (by first | omega | (simp [st2]; omega)) (by first | omega | (simp [st2]; omega)) ?_
      refine T_iconst dX7_ring_35 ?_
      refine T_icmp_ne 44 dX7_ring_36 (by decide) (by first | (unfold InR; omega) | (simp [st2, InR]; omega)) (by first | (unfold InR; omega) | (simp [st2, InR]; omega)) (fun hc36 => ?_) (fun hc36 => ?_)
      · refine T_iload_n dX7_ring_44 rfl ?_
        refine T_iret dX7_ring_45 rfl ?_
        first | exact kU (by omega) | exact k0 h3 h4 (by omega) | exact k1 h3 h4 (by omega) | (exfalso; simp only [e5, e4] at *; omega)
      · refine T_bipush dX7_ring_39 (by decide) ?_
        refine T_goto (tgt := 45) dX7_ring_41 (by decide) ?_
        refine T_iret dX7_ring_45 rfl ?_
        first | exact kU (by omega) | exact k0 h3 h4 (by omega) | exact k1 h3 h4 (by omega) | (exfalso; simp only [e5, e4] at *; omega)
  · refine T_if_eq 10 dX7_ring_5 (by decide) (by unfold InR; decide) (fun h => absurd h (by decide)) (fun _ => ?_)
    refine T_iconst dX7_ring_8 ?_
    refine T_iret dX7_ring_9 rfl ?_
    first | exact kU (by omega) | exact k0 h3 h4 (by omega) | exact k1 h3 h4 (by omega) | (exfalso; simp only [e5, e4] at *; omega)
theorem r_as {c kd : Int} (hL : MK D) (hc : InR c) (hk : InR kd) (kU : ¬ (0 ≤ c ∧ c < D 57 5) → P (some (iI (-1))) SH (st2 D 57 0 0)) (kO : 0 ≤ c → c < D 57 5 → ¬ (0 ≤ kd ∧ kd ≤ 2) → P (some (iI (-2))) SH (st2 D 57 0 0)) (kC : 0 ≤ c → c < D 57 5 → 0 ≤ kd ∧ kd ≤ 2 → D 61 c.toNat < kd → P (some (iI (-12))) SH (st2 D 57 0 2)) (kk : 0 ≤ c → c < D 57 5 → 0 ≤ kd ∧ kd ≤ 2 → kd ≤ D 61 c.toNat → P (some (iI 1)) SH (st2 D 57 0 0)) : TM g mX7_as (d + 2) P [.ref 57, iI c, iI kd] D := by
  have hM := hL.2.1
  have hkd := hL.2.2.2.2.2.2.1 c.toNat
  refine T_aload_n dX7_as_0 rfl ?_
  refine T_iload_n dX7_as_1 rfl ?_
  refine T_cV_1 dX7_as_2 lkX7_173 rfl (Nat.le_of_ble_eq_true rfl) (RO_r (by decide)) (Nat.le_of_ble_eq_true rfl) ?_
  refine r_noChurch hc hM (fun h3 h4 => ?_) (fun h3 => ?_)
  · refine T_if_eq 14 dX7_as_5 (by decide) (by unfold InR; decide) (fun _ => ?_) (fun h => absurd (by decide) h)
    refine T_iload_n dX7_as_14 rfl ?_
    refine T_i2l dX7_as_15 hk ?_
    refine T_lconst (a := 0) dX7_as_16 (by decide) ?_
    refine T_ldc2 (n := 2) dX7_as_17 tk_892 ?_
    refine T_cS_3 dX7_as_20 lkX7_88 (Nat.le_of_ble_eq_true rfl) (RO_r (by decide)) (Nat.le_of_ble_eq_true rfl) ?_
    refine r_in (in64_of hk) (by first | (unfold In64; omega) | (simp [st2, In64]; omega)) (by first | (unfold In64; omega) | (simp [st2, In64]; omega)) (fun h5 h6 => ?_) (fun h5 => ?_)
    · refine T_if_ne 33 dX7_as_23 (by decide) (by unfold InR; decide) (fun _ => ?_) (fun h => absurd (by decide) h)
      refine T_aload_n dX7_as_33 rfl ?_
      refine T_getR dX7_as_34 flX7_19 rfl rfl ?_
      refine T_iload_n dX7_as_37 rfl ?_
      refine T_iald dX7_as_38 rfl (by first | decide | omega) (by first | omega | (simp [st2]; omega)) (by first | omega | (simp [st2]; omega)) ?_
      refine T_iload_n dX7_as_39 rfl ?_
      refine T_icmp_lt 51 dX7_as_40 (by decide) (by first | (unfold InR; omega) | (simp [st2, InR]; omega)) (by first | (unfold InR; omega) | (simp [st2, InR]; omega)) (fun hc40 => ?_) (fun hc40 => ?_)
      · refine T_aload_n dX7_as_51 rfl ?_
        refine T_iconst dX7_as_52 ?_
        refine T_cV_1 dX7_as_53 lkX7_105 rfl (Nat.le_of_ble_eq_true rfl) (RO_r (by decide)) (Nat.le_of_ble_eq_true rfl) ?_
        refine r_failed ?_
        refine T_iret dX7_as_56 rfl ?_
        first | exact kU (by omega) | exact kO h3 h4 (by omega) | exact kC h3 h4 (by omega) (by omega) | exact kk h3 h4 (by omega) (by omega)
      · refine T_aload_n dX7_as_43 rfl ?_
        refine T_iconst dX7_as_44 ?_
        refine T_cV_1 dX7_as_45 lkX7_101 rfl (Nat.le_of_ble_eq_true rfl) (RO_r (by decide)) (Nat.le_of_ble_eq_true rfl) ?_
        refine r_refused ?_
        refine T_goto (tgt := 56) dX7_as_48 (by decide) ?_
        refine T_iret dX7_as_56 rfl ?_
        first | exact kU (by omega) | exact kO h3 h4 (by omega) | exact kC h3 h4 (by omega) (by omega) | exact kk h3 h4 (by omega) (by omega)
    · refine T_if_ne 33 dX7_as_23 (by decide) (by unfold InR; decide) (fun h => absurd h (by decide)) (fun _ => ?_)
      refine T_aload_n dX7_as_26 rfl ?_
      refine T_bipush dX7_as_27 (by decide) ?_
      refine T_cV_1 dX7_as_29 lkX7_101 rfl (Nat.le_of_ble_eq_true rfl) (RO_r (by decide)) (Nat.le_of_ble_eq_true rfl) ?_
      refine r_refused ?_
      refine T_iret dX7_as_32 rfl ?_
      first | exact kU (by omega) | exact kO h3 h4 (by omega) | exact kC h3 h4 (by omega) (by omega) | exact kk h3 h4 (by omega) (by omega)
  · refine T_if_eq 14 dX7_as_5 (by decide) (by unfold InR; decide) (fun h => absurd h (by decide)) (fun _ => ?_)
    refine T_aload_n dX7_as_8 rfl ?_
    refine T_iconst dX7_as_9 ?_
    refine T_cV_1 dX7_as_10 lkX7_101 rfl (Nat.le_of_ble_eq_true rfl) (RO_r (by decide)) (Nat.le_of_ble_eq_true rfl) ?_
    refine r_refused ?_
    refine T_iret dX7_as_13 rfl ?_
    first | exact kU (by omega) | exact kO h3 h4 (by omega) | exact kC h3 h4 (by omega) (by omega) | exact kk h3 h4 (by omega) (by omega)
theorem r_trace (hk : P (some (iI (D 57 30))) SH D) : TM g mX7_trace d P [.ref 57] D := by
  refine T_aload_n dX7_trace_0 rfl ?_
  refine T_getI dX7_trace_1 flX7_257 rfl rfl ?_
  refine T_iret dX7_trace_4 rfl ?_
  exact hk
theorem r_fault (hk : P (some (iI (D 57 0))) SH D) : TM g mX7_fault d P [.ref 57] D := by
  refine T_aload_n dX7_fault_0 rfl ?_
  refine T_getI dX7_fault_1 flX7_92 rfl rfl ?_
  refine T_iret dX7_fault_4 rfl ?_
  exact hk
theorem r_many {w : Int} (hL : MK D) (hw : InR w) (k0 : w = 0 → P (some (iI (D 57 1))) SH D) (k1 : w = 1 → P (some (iI (D 57 5))) SH D) (k2 : w = 2 → P (some (iI (D 57 23))) SH D) (k3 : w = 3 → P (some (iI (sm (D 57 1).toNat (D 60)))) SH D) (k4 : w = 4 → P (some (iI (sm (D 57 5).toNat (D 64)))) SH D) (kO : w < 0 ∨ 4 < w → P (some (iI (-2))) SH D) : TM g mX7_many d P [.ref 57, iI w] D := by
  have hN := hL.1
  have hM := hL.2.1
  unfold InR at hw
  have loop2 : ∀ (q j : Nat), q + j = (D 57 5).toNat → T g mX7_many (rmd d 0 0) 0 0 (Qm g (rmd d 0 0) P) 35 [some (.ref 57), some (iI w), some (iI (sm (D 57 1).toNat (D 60))), some (iI (sm j (D 64))), some (iI j)] [] SH D := by
    intro q
    induction q with
    | zero =>
      intro j hq
      obtain rfl : j = (D 57 5).toNat := by omega
      refine T_iload dX7_many_35 rfl ?_
      refine T_aload_n dX7_many_37 rfl ?_
      refine T_getI dX7_many_38 flX7_115 rfl rfl ?_
      refine T_icmp_ge 60 dX7_many_41 (by decide) (by first | (unfold InR; omega) | (simp [st2, InR]; omega)) (by first | (unfold InR; omega) | (simp [st2, InR]; omega)) (fun hc41 => ?_) (fun hc41 => (by exfalso; omega))
      refine T_iload_n dX7_many_60 rfl ?_
      refine T_if_ne 71 dX7_many_61 (by decide) (by first | (unfold InR; omega) | (simp [st2, InR]; omega)) (fun hc61 => ?_) (fun hc61 => ?_)
      · refine T_iload_n dX7_many_71 rfl ?_
        refine T_iconst dX7_many_72 ?_
        refine T_icmp_ne 83 dX7_many_73 (by decide) (by first | (unfold InR; omega) | (simp [st2, InR]; omega)) (by first | (unfold InR; omega) | (simp [st2, InR]; omega)) (fun hc73 => ?_) (fun hc73 => ?_)
        · refine T_iload_n dX7_many_83 rfl ?_
          refine T_iconst dX7_many_84 ?_
          refine T_icmp_ne 95 dX7_many_85 (by decide) (by first | (unfold InR; omega) | (simp [st2, InR]; omega)) (by first | (unfold InR; omega) | (simp [st2, InR]; omega)) (fun hc85 => ?_) (fun hc85 => ?_)
          · refine T_iload_n dX7_many_95 rfl ?_
            refine T_iconst dX7_many_96 ?_
            refine T_icmp_ne 104 dX7_many_97 (by decide) (by first | (unfold InR; omega) | (simp [st2, InR]; omega)) (by first | (unfold InR; omega) | (simp [st2, InR]; omega)) (fun hc97 => ?_) (fun hc97 => ?_)
            · refine T_iload_n dX7_many_104 rfl ?_
              refine T_iconst dX7_many_105 ?_
              refine T_icmp_ne 113 dX7_many_106 (by decide) (by first | (unfold InR; omega) | (simp [st2, InR]; omega)) (by first | (unfold InR; omega) | (simp [st2, InR]; omega)) (fun hc106 => ?_) (fun hc106 => ?_)
              · refine T_bipush dX7_many_113 (by decide) ?_
                refine T_iret dX7_many_115 rfl ?_
                first | exact k0 (by omega) | exact k1 (by omega) | exact k2 (by omega) | exact k3 (by omega) | exact k4 (by omega) | exact kO (by omega)
              · refine T_iload_n dX7_many_109 rfl ?_
                refine T_goto (tgt := 115) dX7_many_110 (by decide) ?_
                refine T_iret dX7_many_115 rfl ?_
                first | exact k0 (by omega) | exact k1 (by omega) | exact k2 (by omega) | exact k3 (by omega) | exact k4 (by omega) | exact kO (by omega)
            · refine T_iload_n dX7_many_100 rfl ?_
              refine T_goto (tgt := 115) dX7_many_101 (by decide) ?_
              refine T_iret dX7_many_115 rfl ?_
              first | exact k0 (by omega) | exact k1 (by omega) | exact k2 (by omega) | exact k3 (by omega) | exact k4 (by omega) | exact kO (by omega)
          · refine T_aload_n dX7_many_88 rfl ?_
            refine T_getI dX7_many_89 flX7_239 rfl rfl ?_
            refine T_goto (tgt := 115) dX7_many_92 (by decide) ?_
            refine T_iret dX7_many_115 rfl ?_
            first | exact k0 (by omega) | exact k1 (by omega) | exact k2 (by omega) | exact k3 (by omega) | exact k4 (by omega) | exact kO (by omega)
        · refine T_aload_n dX7_many_76 rfl ?_
          refine T_getI dX7_many_77 flX7_115 rfl rfl ?_
          refine T_goto (tgt := 115) dX7_many_80 (by decide) ?_
          refine T_iret dX7_many_115 rfl ?_
          first | exact k0 (by omega) | exact k1 (by omega) | exact k2 (by omega) | exact k3 (by omega) | exact k4 (by omega) | exact kO (by omega)
      · refine T_aload_n dX7_many_64 rfl ?_
        refine T_getI dX7_many_65 flX7_112 rfl rfl ?_
        refine T_goto (tgt := 115) dX7_many_68 (by decide) ?_
        refine T_iret dX7_many_115 rfl ?_
        first | exact k0 (by omega) | exact k1 (by omega) | exact k2 (by omega) | exact k3 (by omega) | exact k4 (by omega) | exact kO (by omega)
    | succ q ih =>
      intro j hq
      refine T_iload dX7_many_35 rfl ?_
      refine T_aload_n dX7_many_37 rfl ?_
      refine T_getI dX7_many_38 flX7_115 rfl rfl ?_
      refine T_icmp_ge 60 dX7_many_41 (by decide) (by first | (unfold InR; omega) | (simp [st2, InR]; omega)) (by first | (unfold InR; omega) | (simp [st2, InR]; omega)) (fun hc41 => (by exfalso; omega)) (fun hc41 => ?_)
      refine T_iload_n dX7_many_44 rfl ?_
      refine T_aload_n dX7_many_45 rfl ?_
      refine T_getR dX7_many_46 flX7_28 rfl rfl ?_
      refine T_iload dX7_many_49 rfl ?_
      refine T_iald dX7_many_51 rfl (by first | decide | omega) (by first | omega | (simp [st2]; omega)) (by first | omega | (simp [st2]; omega)) ?_
      refine T_iadd dX7_many_52 ?_
      refine T_istore_n dX7_many_53 (by decide) ?_
      refine T_iinc dX7_many_54 rfl (by decide) ?_
      refine T_goto (tgt := 35) dX7_many_57 (by decide) ?_
      exact ih (j + 1) (by omega)
  have loop1 : ∀ (q j : Nat), q + j = (D 57 1).toNat → T g mX7_many (rmd d 0 0) 0 0 (Qm g (rmd d 0 0) P) 7 [some (.ref 57), some (iI w), some (iI (sm j (D 60))), some (iI 0), some (iI j)] [] SH D := by
    intro q
    induction q with
    | zero =>
      intro j hq
      obtain rfl : j = (D 57 1).toNat := by omega
      refine T_iload dX7_many_7 rfl ?_
      refine T_aload_n dX7_many_9 rfl ?_
      refine T_getI dX7_many_10 flX7_112 rfl rfl ?_
      refine T_icmp_ge 32 dX7_many_13 (by decide) (by first | (unfold InR; omega) | (simp [st2, InR]; omega)) (by first | (unfold InR; omega) | (simp [st2, InR]; omega)) (fun hc13 => ?_) (fun hc13 => (by exfalso; omega))
      refine T_iconst dX7_many_32 ?_
      refine T_istore dX7_many_33 (by decide) ?_
      exact loop2 (D 57 5).toNat 0 (by omega)
    | succ q ih =>
      intro j hq
      refine T_iload dX7_many_7 rfl ?_
      refine T_aload_n dX7_many_9 rfl ?_
      refine T_getI dX7_many_10 flX7_112 rfl rfl ?_
      refine T_icmp_ge 32 dX7_many_13 (by decide) (by first | (unfold InR; omega) | (simp [st2, InR]; omega)) (by first | (unfold InR; omega) | (simp [st2, InR]; omega)) (fun hc13 => (by exfalso; omega)) (fun hc13 => ?_)
      refine T_iload_n dX7_many_16 rfl ?_
      refine T_aload_n dX7_many_17 rfl ?_
      refine T_getR dX7_many_18 flX7_16 rfl rfl ?_
      refine T_iload dX7_many_21 rfl ?_
      refine T_iald dX7_many_23 rfl (by first | decide | omega) (by first | omega | (simp [st2]; omega)) (by first | omega | (simp [st2]; omega)) ?_
      refine T_iadd dX7_many_24 ?_
      refine T_istore_n dX7_many_25 (by decide) ?_
      refine T_iinc dX7_many_26 rfl (by decide) ?_
      refine T_goto (tgt := 7) dX7_many_29 (by decide) ?_
      exact ih (j + 1) (by omega)
  refine T_iconst dX7_many_0 ?_
  refine T_istore_n dX7_many_1 (by decide) ?_
  refine T_iconst dX7_many_2 ?_
  refine T_istore_n dX7_many_3 (by decide) ?_
  refine T_iconst dX7_many_4 ?_
  refine T_istore dX7_many_5 (by decide) ?_
  exact loop1 (D 57 1).toNat 0 (by omega)
end

