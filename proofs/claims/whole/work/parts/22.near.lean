def sm : Nat → (Nat → Int) → Int
  | 0, _ => 0
  | n + 1, f => sm n f + f n
theorem sm_bd {f : Nat → Int} {a b : Int} : ∀ n : Nat, (∀ j, j < n → a ≤ f j ∧ f j ≤ b) → (n : Int) * a ≤ sm n f ∧ sm n f ≤ n * b
  | 0, _ => by simp [sm]
  | n + 1, h => by
    have h1 := sm_bd n (fun j hj => h j (by omega))
    have h2 := h n (by omega)
    have e1 : ((n + 1 : Nat) : Int) * a = n * a + a := by rw [Int.natCast_add, Int.add_mul]; simp
    have e2 : ((n + 1 : Nat) : Int) * b = n * b + b := by rw [Int.natCast_add, Int.add_mul]; simp
    rw [e1, e2]
    simp only [sm]
    omega
section
variable {g : G0} {d : Nat} {P : Option Value → List SC → DD → Prop} {D : DD}
theorem c_isWithin {v a b : Int} (hv : InR v) (ha : InR a) (hb : InR b) (k1 : a ≤ v → v ≤ b → P (some (iI 1)) SH D) (k0 : ¬ (a ≤ v ∧ v ≤ b) → P (some (iI 0)) SH D) : TM g mX6_isWithin d P [iI v, iI a, iI b] D := by
  refine T_iload_n dX6_isWithin_0 rfl ?_
  refine T_iload_n dX6_isWithin_1 rfl ?_
  refine T_icmp_lt 14 dX6_isWithin_2 (by decide) hv ha (fun hc2 => ?_) (fun hc2 => ?_)
  · refine T_iconst dX6_isWithin_14 ?_
    refine T_zret dX6_isWithin_15 rfl (by decide) ?_
    first | exact k1 (by omega) (by omega) | exact k0 (by omega)
  · refine T_iload_n dX6_isWithin_5 rfl ?_
    refine T_iload_n dX6_isWithin_6 rfl ?_
    refine T_icmp_gt 14 dX6_isWithin_7 (by decide) hv hb (fun hc7 => ?_) (fun hc7 => ?_)
    · refine T_iconst dX6_isWithin_14 ?_
      refine T_zret dX6_isWithin_15 rfl (by decide) ?_
      first | exact k1 (by omega) (by omega) | exact k0 (by omega)
    · refine T_iconst dX6_isWithin_10 ?_
      refine T_goto (tgt := 15) dX6_isWithin_11 (by decide) ?_
      refine T_zret dX6_isWithin_15 rfl (by decide) ?_
      first | exact k1 (by omega) (by omega) | exact k0 (by omega)
theorem c_isSpot {x y : Int} (hx : InR x) (hy : InR y) (k1 : 0 ≤ x → x ≤ 60 → 0 ≤ y → y ≤ 60 → P (some (iI 1)) SH D) (k0 : ¬ (0 ≤ x ∧ x ≤ 60 ∧ 0 ≤ y ∧ y ≤ 60) → P (some (iI 0)) SH D) : TM g mX6_isSpot (d + 1) P [iI x, iI y] D := by
  refine T_iload_n dX6_isSpot_0 rfl ?_
  refine T_iconst dX6_isSpot_1 ?_
  refine T_bipush dX6_isSpot_2 (by decide) ?_
  refine T_cS_3 dX6_isSpot_4 lkX6_77 (Nat.le_of_ble_eq_true rfl) (RO_r (by decide)) (Nat.le_of_ble_eq_true rfl) ?_
  refine c_isWithin (by first | exact hx | exact hy) (by first | (unfold InR; omega) | (simp [st2, InR]; omega)) (by first | (unfold InR; omega) | (simp [st2, InR]; omega)) (fun hw1 hw2 => ?_) (fun hw1 => ?_)
  · refine T_if_eq 24 dX6_isSpot_7 (by decide) (by unfold InR; decide) (fun h => absurd h (by decide)) (fun _ => ?_)
    refine T_iload_n dX6_isSpot_10 rfl ?_
    refine T_iconst dX6_isSpot_11 ?_
    refine T_bipush dX6_isSpot_12 (by decide) ?_
    refine T_cS_3 dX6_isSpot_14 lkX6_77 (Nat.le_of_ble_eq_true rfl) (RO_r (by decide)) (Nat.le_of_ble_eq_true rfl) ?_
    refine c_isWithin (by first | exact hx | exact hy) (by first | (unfold InR; omega) | (simp [st2, InR]; omega)) (by first | (unfold InR; omega) | (simp [st2, InR]; omega)) (fun hw1 hw2 => ?_) (fun hw1 => ?_)
    · refine T_if_eq 24 dX6_isSpot_17 (by decide) (by unfold InR; decide) (fun h => absurd h (by decide)) (fun _ => ?_)
      refine T_iconst dX6_isSpot_20 ?_
      refine T_goto (tgt := 25) dX6_isSpot_21 (by decide) ?_
      refine T_zret dX6_isSpot_25 rfl (by decide) ?_
      first | exact k1 (by omega) (by omega) (by omega) (by omega) | exact k0 (by omega)
    · refine T_if_eq 24 dX6_isSpot_17 (by decide) (by unfold InR; decide) (fun _ => ?_) (fun h => absurd (by decide) h)
      refine T_iconst dX6_isSpot_24 ?_
      refine T_zret dX6_isSpot_25 rfl (by decide) ?_
      first | exact k1 (by omega) (by omega) (by omega) (by omega) | exact k0 (by omega)
  · refine T_if_eq 24 dX6_isSpot_7 (by decide) (by unfold InR; decide) (fun _ => ?_) (fun h => absurd (by decide) h)
    refine T_iconst dX6_isSpot_24 ?_
    refine T_zret dX6_isSpot_25 rfl (by decide) ?_
    first | exact k1 (by omega) (by omega) (by omega) (by omega) | exact k0 (by omega)
theorem c_isSheet {k : Int} (hk : InR k) (k1 : 0 ≤ k → k ≤ 3 → P (some (iI 1)) SH D) (k0 : ¬ (0 ≤ k ∧ k ≤ 3) → P (some (iI 0)) SH D) : TM g mX6_isSheet (d + 1) P [iI k] D := by
  refine T_iload_n dX6_isSheet_0 rfl ?_
  refine T_iconst dX6_isSheet_1 ?_
  refine T_iconst dX6_isSheet_2 ?_
  refine T_cS_3 dX6_isSheet_3 lkX6_77 (Nat.le_of_ble_eq_true rfl) (RO_r (by decide)) (Nat.le_of_ble_eq_true rfl) ?_
  refine c_isWithin hk (by first | (unfold InR; omega) | (simp [st2, InR]; omega)) (by first | (unfold InR; omega) | (simp [st2, InR]; omega)) (fun hw1 hw2 => ?_) (fun hw1 => ?_)
  · refine T_zret dX6_isSheet_6 rfl (by decide) ?_
    first | exact k1 (by omega) (by omega) | exact k0 (by omega)
  · refine T_zret dX6_isSheet_6 rfl (by decide) ?_
    first | exact k1 (by omega) (by omega) | exact k0 (by omega)
theorem c_isLane {k : Int} (hk : InR k) (k1 : 0 ≤ k → k ≤ 2 → P (some (iI 1)) SH D) (k0 : ¬ (0 ≤ k ∧ k ≤ 2) → P (some (iI 0)) SH D) : TM g mX6_isLane (d + 1) P [iI k] D := by
  refine T_iload_n dX6_isLane_0 rfl ?_
  refine T_iconst dX6_isLane_1 ?_
  refine T_iconst dX6_isLane_2 ?_
  refine T_cS_3 dX6_isLane_3 lkX6_77 (Nat.le_of_ble_eq_true rfl) (RO_r (by decide)) (Nat.le_of_ble_eq_true rfl) ?_
  refine c_isWithin hk (by first | (unfold InR; omega) | (simp [st2, InR]; omega)) (by first | (unfold InR; omega) | (simp [st2, InR]; omega)) (fun hw1 hw2 => ?_) (fun hw1 => ?_)
  · refine T_zret dX6_isLane_6 rfl (by decide) ?_
    first | exact k1 (by omega) (by omega) | exact k0 (by omega)
  · refine T_zret dX6_isLane_6 rfl (by decide) ?_
    first | exact k1 (by omega) (by omega) | exact k0 (by omega)
theorem c_faulty {n : Int} (hk : P (some (iI (-10 - n))) SH (st2 D 0 10 n)) : TM g mX6_faulty d P [.ref 0, iI n] D := by
  refine T_aload_n dX6_faulty_0 rfl ?_
  refine T_iload_n dX6_faulty_1 rfl ?_
  refine T_putI dX6_faulty_2 flX6_224 rfl rfl ?_
  refine T_bipush dX6_faulty_5 (by decide) ?_
  refine T_iload_n dX6_faulty_7 rfl ?_
  refine T_isub dX6_faulty_8 ?_
  refine T_iret dX6_faulty_9 rfl ?_
  exact hk
theorem c_sumOf {i len : Nat} {n : Int} (hS : SH[i]? = some (1, len, [])) (hl : len ≤ 10) (hn : 0 ≤ n ∧ n ≤ len) (hk : P (some (iI (sm n.toNat (D i)))) SH D) : TM g mX6_sumOf d P [.ref i, iI n] D := by
  have loop : ∀ (q j : Nat), q + j = n.toNat → T g mX6_sumOf (rmd d 0 0) 0 0 (Qm g (rmd d 0 0) P) 4 [some (.ref i), some (iI n), some (iI (sm j (D i))), some (iI j)] [] SH D := by
    intro q
    induction q with
    | zero =>
      intro j hq
      refine T_iload_n dX6_sumOf_4 rfl ?_
      refine T_iload_n dX6_sumOf_5 rfl ?_
      refine T_icmp_ge 27 dX6_sumOf_6 (by decide) (by first | (unfold InR; omega) | (simp [st2, InR]; omega)) (by first | (unfold InR; omega) | (simp [st2, InR]; omega)) (fun hc6 => ?_) (fun hc6 => (by exfalso; omega))
      refine T_iload_n dX6_sumOf_27 rfl ?_
      refine T_iret dX6_sumOf_28 rfl ?_
      rw [show j = n.toNat by omega]; exact hk
    | succ q ih =>
      intro j hq
      refine T_iload_n dX6_sumOf_4 rfl ?_
      refine T_iload_n dX6_sumOf_5 rfl ?_
      refine T_icmp_ge 27 dX6_sumOf_6 (by decide) (by first | (unfold InR; omega) | (simp [st2, InR]; omega)) (by first | (unfold InR; omega) | (simp [st2, InR]; omega)) (fun hc6 => (by exfalso; omega)) (fun hc6 => ?_)
      refine T_iload_n dX6_sumOf_9 rfl ?_
      refine T_aload_n dX6_sumOf_10 rfl ?_
      refine T_alen dX6_sumOf_11 hS ?_
      refine T_icmp_ge 27 dX6_sumOf_12 (by decide) (by first | (unfold InR; omega) | (simp [st2, InR]; omega)) (by first | (unfold InR; omega) | (simp [st2, InR]; omega)) (fun hc12 => (by exfalso; omega)) (fun hc12 => ?_)
      refine T_iload_n dX6_sumOf_15 rfl ?_
      refine T_aload_n dX6_sumOf_16 rfl ?_
      refine T_iload_n dX6_sumOf_17 rfl ?_
      refine T_iald dX6_sumOf_18 hS (by first | decide | omega) (by first | omega | (simp [st2]; omega)) (by first | omega | (simp [st2]; omega)) ?_
      refine T_iadd dX6_sumOf_19 ?_
      refine T_istore_n dX6_sumOf_20 (by decide) ?_
      refine T_iinc dX6_sumOf_21 rfl (by decide) ?_
      refine T_goto (tgt := 4) dX6_sumOf_24 (by decide) ?_
      have e : sm (j + 1) (D i) = sm j (D i) + D i (j : Int).toNat := by simp [sm]
      rw [← e]
      exact ih (j + 1) (by omega)
  refine T_iconst dX6_sumOf_0 ?_
  refine T_istore_n dX6_sumOf_1 (by decide) ?_
  refine T_iconst dX6_sumOf_2 ?_
  refine T_istore_n dX6_sumOf_3 (by decide) ?_
  exact loop n.toNat 0 (by omega)
theorem c_home {x y n : Int} (hL : LK D) (hx : InR x) (hy : InR y) (hn : InR n) (kO : ¬ (0 ≤ x ∧ x ≤ 60 ∧ 0 ≤ y ∧ y ≤ 60 ∧ 1 ≤ n ∧ n ≤ 5) → P (some (iI (-2))) SH D) (kF : (0 ≤ x ∧ x ≤ 60 ∧ 0 ≤ y ∧ y ≤ 60 ∧ 1 ≤ n ∧ n ≤ 5) → D 1 8 = 10 → P (some (iI (-4))) SH D)
    (kk : (0 ≤ x ∧ x ≤ 60 ∧ 0 ≤ y ∧ y ≤ 60 ∧ 1 ≤ n ∧ n ≤ 5) → D 1 8 < 10 → P (some (iI (D 1 8))) SH (st2 (st2 (st2 (st2 (st2 (st2 D 2 (D 1 8).toNat x) 3 (D 1 8).toNat y) 4 (D 1 8).toNat n) 5 (D 1 8).toNat 0) 1 8 (D 1 8 + 1)) 1 11 (D 1 11 + 1))) : TM g mX6_home (d + 2) P [.ref 0, iI x, iI y, iI n] D := by
  have hN := hL.1
  refine T_iload_n dX6_home_0 rfl ?_
  refine T_iload_n dX6_home_1 rfl ?_
  refine T_cS_2 dX6_home_2 lkX6_73 (Nat.le_of_ble_eq_true rfl) (RO_r (by decide)) (Nat.le_of_ble_eq_true rfl) ?_
  refine c_isSpot hx hy (fun h1 h2 h3 h4 => ?_) (fun h1 => ?_)
  · refine T_if_eq 17 dX6_home_5 (by decide) (by unfold InR; decide) (fun h => absurd h (by decide)) (fun _ => ?_)
    refine T_iload_n dX6_home_8 rfl ?_
    refine T_iconst dX6_home_9 ?_
    refine T_iconst dX6_home_10 ?_
    refine T_cS_3 dX6_home_11 lkX6_77 (Nat.le_of_ble_eq_true rfl) (RO_r (by decide)) (Nat.le_of_ble_eq_true rfl) ?_
    refine c_isWithin hn (by first | (unfold InR; omega) | (simp [st2, InR]; omega)) (by first | (unfold InR; omega) | (simp [st2, InR]; omega)) (fun h5 h6 => ?_) (fun h5 => ?_)
    · refine T_if_ne 20 dX6_home_14 (by decide) (by unfold InR; decide) (fun _ => ?_) (fun h => absurd (by decide) h)
      refine T_aload_n dX6_home_20 rfl ?_
      refine T_getR dX6_home_21 flX6_12 rfl rfl ?_
      refine T_getI dX6_home_24 flX6_81 rfl rfl ?_
      refine T_bipush dX6_home_27 (by decide) ?_
      refine T_icmp_lt 37 dX6_home_29 (by decide) (by first | (unfold InR; omega) | (simp [st2, InR]; omega)) (by first | (unfold InR; omega) | (simp [st2, InR]; omega)) (fun hc29 => ?_) (fun hc29 => ?_)
      · refine T_aload_n dX6_home_37 rfl ?_
        refine T_getR dX6_home_38 flX6_12 rfl rfl ?_
        refine T_iload_n dX6_home_41 rfl ?_
        refine T_iload_n dX6_home_42 rfl ?_
        refine T_iload_n dX6_home_43 rfl ?_
        refine T_cV_3 dX6_home_44 lkX6_84 rfl (Nat.le_of_ble_eq_true rfl) (RO_r (by decide)) (Nat.le_of_ble_eq_true rfl) ?_
        refine c_addHome ⟨hN.1, by omega⟩ ?_
        refine T_iret dX6_home_47 rfl ?_
        first | exact kO (by omega) | exact kF (by omega) (by omega) | exact kk (by omega) (by omega)
      · refine T_bipush dX6_home_32 (by decide) ?_
        refine T_goto (tgt := 47) dX6_home_34 (by decide) ?_
        refine T_iret dX6_home_47 rfl ?_
        first | exact kO (by omega) | exact kF (by omega) (by omega) | exact kk (by omega) (by omega)
    · refine T_if_ne 20 dX6_home_14 (by decide) (by unfold InR; decide) (fun h => absurd h (by decide)) (fun _ => ?_)
      refine T_bipush dX6_home_17 (by decide) ?_
      refine T_iret dX6_home_19 rfl ?_
      first | exact kO (by omega) | exact kF (by omega) (by omega) | exact kk (by omega) (by omega)
  · refine T_if_eq 17 dX6_home_5 (by decide) (by unfold InR; decide) (fun _ => ?_) (fun h => absurd (by decide) h)
    refine T_bipush dX6_home_17 (by decide) ?_
    refine T_iret dX6_home_19 rfl ?_
    first | exact kO (by omega) | exact kF (by omega) (by omega) | exact kk (by omega) (by omega)
theorem c_church {kd x y n : Int} (hL : LK D) (hkd : InR kd) (hx : InR x) (hy : InR y) (hn : InR n) (kO : ¬ (0 ≤ kd ∧ kd ≤ 2 ∧ 0 ≤ x ∧ x ≤ 60 ∧ 0 ≤ y ∧ y ≤ 60 ∧ 0 ≤ n ∧ n ≤ 50) → P (some (iI (-2))) SH D) (kF : (0 ≤ kd ∧ kd ≤ 2 ∧ 0 ≤ x ∧ x ≤ 60 ∧ 0 ≤ y ∧ y ≤ 60 ∧ 0 ≤ n ∧ n ≤ 50) → D 1 9 = 5 → P (some (iI (-4))) SH D)
    (kk : (0 ≤ kd ∧ kd ≤ 2 ∧ 0 ≤ x ∧ x ≤ 60 ∧ 0 ≤ y ∧ y ≤ 60 ∧ 0 ≤ n ∧ n ≤ 50) → D 1 9 < 5 → P (some (iI (D 1 9))) SH (st2 (st2 (st2 (st2 (st2 (st2 D 6 (D 1 9).toNat kd) 7 (D 1 9).toNat x) 8 (D 1 9).toNat y) 9 (D 1 9).toNat n) 1 9 (D 1 9 + 1)) 1 11 (D 1 11 + 1))) : TM g mX6_church (d + 2) P [.ref 0, iI kd, iI x, iI y, iI n] D := by
  have hN := hL.2.1
  refine T_iload_n dX6_church_0 rfl ?_
  refine T_iconst dX6_church_1 ?_
  refine T_iconst dX6_church_2 ?_
  refine T_cS_3 dX6_church_3 lkX6_77 (Nat.le_of_ble_eq_true rfl) (RO_r (by decide)) (Nat.le_of_ble_eq_true rfl) ?_
  refine c_isWithin hkd (by first | (unfold InR; omega) | (simp [st2, InR]; omega)) (by first | (unfold InR; omega) | (simp [st2, InR]; omega)) (fun h7 h8 => ?_) (fun h7 => ?_)
  · refine T_if_eq 28 dX6_church_6 (by decide) (by unfold InR; decide) (fun h => absurd h (by decide)) (fun _ => ?_)
    refine T_iload_n dX6_church_9 rfl ?_
    refine T_iload_n dX6_church_10 rfl ?_
    refine T_cS_2 dX6_church_11 lkX6_73 (Nat.le_of_ble_eq_true rfl) (RO_r (by decide)) (Nat.le_of_ble_eq_true rfl) ?_
    refine c_isSpot hx hy (fun h1 h2 h3 h4 => ?_) (fun h1 => ?_)
    · refine T_if_eq 28 dX6_church_14 (by decide) (by unfold InR; decide) (fun h => absurd h (by decide)) (fun _ => ?_)
      refine T_iload dX6_church_17 rfl ?_
      refine T_iconst dX6_church_19 ?_
      refine T_bipush dX6_church_20 (by decide) ?_
      refine T_cS_3 dX6_church_22 lkX6_77 (Nat.le_of_ble_eq_true rfl) (RO_r (by decide)) (Nat.le_of_ble_eq_true rfl) ?_
      refine c_isWithin hn (by first | (unfold InR; omega) | (simp [st2, InR]; omega)) (by first | (unfold InR; omega) | (simp [st2, InR]; omega)) (fun h5 h6 => ?_) (fun h5 => ?_)
      · refine T_if_ne 31 dX6_church_25 (by decide) (by unfold InR; decide) (fun _ => ?_) (fun h => absurd (by decide) h)
        refine T_aload_n dX6_church_31 rfl ?_
        refine T_getR dX6_church_32 flX6_12 rfl rfl ?_
        refine T_getI dX6_church_35 flX6_88 rfl rfl ?_
        refine T_iconst dX6_church_38 ?_
        refine T_icmp_lt 47 dX6_church_39 (by decide) (by first | (unfold InR; omega) | (simp [st2, InR]; omega)) (by first | (unfold InR; omega) | (simp [st2, InR]; omega)) (fun hc39 => ?_) (fun hc39 => ?_)
        · refine T_aload_n dX6_church_47 rfl ?_
          refine T_getR dX6_church_48 flX6_12 rfl rfl ?_
          refine T_iload_n dX6_church_51 rfl ?_
          refine T_iload_n dX6_church_52 rfl ?_
          refine T_iload_n dX6_church_53 rfl ?_
          refine T_iload dX6_church_54 rfl ?_
          refine T_cV_4 dX6_church_56 lkX6_91 rfl (Nat.le_of_ble_eq_true rfl) (RO_r (by decide)) (Nat.le_of_ble_eq_true rfl) ?_
          refine c_addChurch ⟨hN.1, by omega⟩ ?_
          refine T_iret dX6_church_59 rfl ?_
          first | exact kO (by omega) | exact kF (by omega) (by omega) | exact kk (by omega) (by omega)
        · refine T_bipush dX6_church_42 (by decide) ?_
          refine T_goto (tgt := 59) dX6_church_44 (by decide) ?_
          refine T_iret dX6_church_59 rfl ?_
          first | exact kO (by omega) | exact kF (by omega) (by omega) | exact kk (by omega) (by omega)
      · refine T_if_ne 31 dX6_church_25 (by decide) (by unfold InR; decide) (fun h => absurd h (by decide)) (fun _ => ?_)
        refine T_bipush dX6_church_28 (by decide) ?_
        refine T_iret dX6_church_30 rfl ?_
        first | exact kO (by omega) | exact kF (by omega) (by omega) | exact kk (by omega) (by omega)
    · refine T_if_eq 28 dX6_church_14 (by decide) (by unfold InR; decide) (fun _ => ?_) (fun h => absurd (by decide) h)
      refine T_bipush dX6_church_28 (by decide) ?_
      refine T_iret dX6_church_30 rfl ?_
      first | exact kO (by omega) | exact kF (by omega) (by omega) | exact kk (by omega) (by omega)
  · refine T_if_eq 28 dX6_church_6 (by decide) (by unfold InR; decide) (fun _ => ?_) (fun h => absurd (by decide) h)
    refine T_bipush dX6_church_28 (by decide) ?_
    refine T_iret dX6_church_30 rfl ?_
    first | exact kO (by omega) | exact kF (by omega) (by omega) | exact kk (by omega) (by omega)
theorem c_ofHome {h w : Int} (hL : LK D) (hh : InR h) (hw : InR w) (kU : ¬ (0 ≤ h ∧ h < D 1 8) → P (some (iI (-1))) SH D) (k0 : 0 ≤ h → h < D 1 8 → w = 0 → P (some (iI (D 2 h.toNat))) SH D) (k1 : 0 ≤ h → h < D 1 8 → w = 1 → P (some (iI (D 3 h.toNat))) SH D) (k2 : 0 ≤ h → h < D 1 8 → w = 2 → P (some (iI (D 4 h.toNat))) SH D) (kO : 0 ≤ h → h < D 1 8 → w < 0 ∨ 2 < w → P (some (iI (-2))) SH D) : TM g mX6_ofHome (d + 1) P [.ref 0, iI h, iI w] D := by
  have hN := hL.1
  refine T_aload_n dX6_ofHome_0 rfl ?_
  refine T_getR dX6_ofHome_1 flX6_12 rfl rfl ?_
  refine T_iload_n dX6_ofHome_4 rfl ?_
  refine T_cV_1 dX6_ofHome_5 lkX6_112 rfl (Nat.le_of_ble_eq_true rfl) (RO_r (by decide)) (Nat.le_of_ble_eq_true rfl) ?_
  refine c_hasHome hh hN (fun h1 h2 => ?_) (fun h1 => ?_)
  · refine T_if_ne 13 dX6_ofHome_8 (by decide) (by unfold InR; decide) (fun _ => ?_) (fun h => absurd (by decide) h)
    refine T_iload_n dX6_ofHome_13 rfl ?_
    refine T_tsw3 40 50 60 70 dX6_ofHome_14 hw (by decide) (by decide) (fun hs14 => ?_) (fun hs14 => ?_) (fun hs14 => ?_) (fun hs14 => ?_)
    · refine T_aload_n dX6_ofHome_40 rfl ?_
      refine T_getR dX6_ofHome_41 flX6_12 rfl rfl ?_
      refine T_getR dX6_ofHome_44 flX6_116 rfl rfl ?_
      refine T_iload_n dX6_ofHome_47 rfl ?_
      refine T_iald dX6_ofHome_48 rfl (by first | decide | omega) (by first | omega | (simp [st2]; omega)) (by first | omega | (simp [st2]; omega)) ?_
      refine T_iret dX6_ofHome_49 rfl ?_
      first | exact kU (by omega) | exact k0 h1 h2 hs14 | exact k1 h1 h2 hs14 | exact k2 h1 h2 hs14 | exact kO h1 h2 hs14
    · refine T_aload_n dX6_ofHome_50 rfl ?_
      refine T_getR dX6_ofHome_51 flX6_12 rfl rfl ?_
      refine T_getR dX6_ofHome_54 flX6_119 rfl rfl ?_
      refine T_iload_n dX6_ofHome_57 rfl ?_
      refine T_iald dX6_ofHome_58 rfl (by first | decide | omega) (by first | omega | (simp [st2]; omega)) (by first | omega | (simp [st2]; omega)) ?_
      refine T_iret dX6_ofHome_59 rfl ?_
      first | exact kU (by omega) | exact k0 h1 h2 hs14 | exact k1 h1 h2 hs14 | exact k2 h1 h2 hs14 | exact kO h1 h2 hs14
    · refine T_aload_n dX6_ofHome_60 rfl ?_
      refine T_getR dX6_ofHome_61 flX6_12 rfl rfl ?_
      refine T_getR dX6_ofHome_64 flX6_122 rfl rfl ?_
      refine T_iload_n dX6_ofHome_67 rfl ?_
      refine T_iald dX6_ofHome_68 rfl (by first | decide | omega) (by first | omega | (simp [st2]; omega)) (by first | omega | (simp [st2]; omega)) ?_
      refine T_iret dX6_ofHome_69 rfl ?_
      first | exact kU (by omega) | exact k0 h1 h2 hs14 | exact k1 h1 h2 hs14 | exact k2 h1 h2 hs14 | exact kO h1 h2 hs14
    · refine T_bipush dX6_ofHome_70 (by decide) ?_
      refine T_iret dX6_ofHome_72 rfl ?_
      first | exact kU (by omega) | exact k0 h1 h2 hs14 | exact k1 h1 h2 hs14 | exact k2 h1 h2 hs14 | exact kO h1 h2 hs14
  · refine T_if_ne 13 dX6_ofHome_8 (by decide) (by unfold InR; decide) (fun h => absurd h (by decide)) (fun _ => ?_)
    refine T_iconst dX6_ofHome_11 ?_
    refine T_iret dX6_ofHome_12 rfl ?_
    first | exact kU (by omega) | exact k0 h1 h2 hs14 | exact k1 h1 h2 hs14 | exact k2 h1 h2 hs14 | exact kO h1 h2 hs14
theorem c_ofChurch {c w : Int} (hL : LK D) (hh : InR c) (hw : InR w) (kU : ¬ (0 ≤ c ∧ c < D 1 9) → P (some (iI (-1))) SH D) (k0 : 0 ≤ c → c < D 1 9 → w = 0 → P (some (iI (D 6 c.toNat))) SH D) (k1 : 0 ≤ c → c < D 1 9 → w = 1 → P (some (iI (D 7 c.toNat))) SH D) (k2 : 0 ≤ c → c < D 1 9 → w = 2 → P (some (iI (D 8 c.toNat))) SH D) (k3 : 0 ≤ c → c < D 1 9 → w = 3 → P (some (iI (D 9 c.toNat))) SH D) (kO : 0 ≤ c → c < D 1 9 → w < 0 ∨ 3 < w → P (some (iI (-2))) SH D) : TM g mX6_ofChurch (d + 1) P [.ref 0, iI c, iI w] D := by
  have hN := hL.2.1
  refine T_aload_n dX6_ofChurch_0 rfl ?_
  refine T_getR dX6_ofChurch_1 flX6_12 rfl rfl ?_
  refine T_iload_n dX6_ofChurch_4 rfl ?_
  refine T_cV_1 dX6_ofChurch_5 lkX6_125 rfl (Nat.le_of_ble_eq_true rfl) (RO_r (by decide)) (Nat.le_of_ble_eq_true rfl) ?_
  refine c_hasChurch hh hN (fun h1 h2 => ?_) (fun h1 => ?_)
  · refine T_if_ne 13 dX6_ofChurch_8 (by decide) (by unfold InR; decide) (fun _ => ?_) (fun h => absurd (by decide) h)
    refine T_iload_n dX6_ofChurch_13 rfl ?_
    refine T_tsw4 44 54 64 74 84 dX6_ofChurch_14 hw (by decide) (by decide) (fun hs14 => ?_) (fun hs14 => ?_) (fun hs14 => ?_) (fun hs14 => ?_) (fun hs14 => ?_)
    · refine T_aload_n dX6_ofChurch_44 rfl ?_
      refine T_getR dX6_ofChurch_45 flX6_12 rfl rfl ?_
      refine T_getR dX6_ofChurch_48 flX6_128 rfl rfl ?_
      refine T_iload_n dX6_ofChurch_51 rfl ?_
      refine T_iald dX6_ofChurch_52 rfl (by first | decide | omega) (by first | omega | (simp [st2]; omega)) (by first | omega | (simp [st2]; omega)) ?_
      refine T_iret dX6_ofChurch_53 rfl ?_
      first | exact kU (by omega) | exact k0 h1 h2 hs14 | exact k1 h1 h2 hs14 | exact k2 h1 h2 hs14 | exact k3 h1 h2 hs14 | exact kO h1 h2 hs14
    · refine T_aload_n dX6_ofChurch_54 rfl ?_
      refine T_getR dX6_ofChurch_55 flX6_12 rfl rfl ?_
      refine T_getR dX6_ofChurch_58 flX6_131 rfl rfl ?_
      refine T_iload_n dX6_ofChurch_61 rfl ?_
      refine T_iald dX6_ofChurch_62 rfl (by first | decide | omega) (by first | omega | (simp [st2]; omega)) (by first | omega | (simp [st2]; omega)) ?_
      refine T_iret dX6_ofChurch_63 rfl ?_
      first | exact kU (by omega) | exact k0 h1 h2 hs14 | exact k1 h1 h2 hs14 | exact k2 h1 h2 hs14 | exact k3 h1 h2 hs14 | exact kO h1 h2 hs14
    · refine T_aload_n dX6_ofChurch_64 rfl ?_
      refine T_getR dX6_ofChurch_65 flX6_12 rfl rfl ?_
      refine T_getR dX6_ofChurch_68 flX6_134 rfl rfl ?_
      refine T_iload_n dX6_ofChurch_71 rfl ?_
      refine T_iald dX6_ofChurch_72 rfl (by first | decide | omega) (by first | omega | (simp [st2]; omega)) (by first | omega | (simp [st2]; omega)) ?_
      refine T_iret dX6_ofChurch_73 rfl ?_
      first | exact kU (by omega) | exact k0 h1 h2 hs14 | exact k1 h1 h2 hs14 | exact k2 h1 h2 hs14 | exact k3 h1 h2 hs14 | exact kO h1 h2 hs14
    · refine T_aload_n dX6_ofChurch_74 rfl ?_
      refine T_getR dX6_ofChurch_75 flX6_12 rfl rfl ?_
      refine T_getR dX6_ofChurch_78 flX6_137 rfl rfl ?_
      refine T_iload_n dX6_ofChurch_81 rfl ?_
      refine T_iald dX6_ofChurch_82 rfl (by first | decide | omega) (by first | omega | (simp [st2]; omega)) (by first | omega | (simp [st2]; omega)) ?_
      refine T_iret dX6_ofChurch_83 rfl ?_
      first | exact kU (by omega) | exact k0 h1 h2 hs14 | exact k1 h1 h2 hs14 | exact k2 h1 h2 hs14 | exact k3 h1 h2 hs14 | exact kO h1 h2 hs14
    · refine T_bipush dX6_ofChurch_84 (by decide) ?_
      refine T_iret dX6_ofChurch_86 rfl ?_
      first | exact kU (by omega) | exact k0 h1 h2 hs14 | exact k1 h1 h2 hs14 | exact k2 h1 h2 hs14 | exact k3 h1 h2 hs14 | exact kO h1 h2 hs14
  · refine T_if_ne 13 dX6_ofChurch_8 (by decide) (by unfold InR; decide) (fun h => absurd h (by decide)) (fun _ => ?_)
    refine T_iconst dX6_ofChurch_11 ?_
    refine T_iret dX6_ofChurch_12 rfl ?_
    first | exact kU (by omega) | exact k0 h1 h2 hs14 | exact k1 h1 h2 hs14 | exact k2 h1 h2 hs14 | exact k3 h1 h2 hs14 | exact kO h1 h2 hs14
theorem c_bar {h c w : Int} (hL : LK D) (hh : InR h) (hc : InR c) (hw : w = 0 ∨ w = 1) (kU : ¬ (0 ≤ h ∧ h < D 1 8 ∧ 0 ≤ c ∧ c < D 1 9) → P (some (iI (-1))) SH D) (k0 : (0 ≤ h ∧ h < D 1 8 ∧ 0 ≤ c ∧ c < D 1 9) → (bit (D 5 h.toNat) c ↔ w = 1) → P (some (iI 0)) SH D) (k1 : (0 ≤ h ∧ h < D 1 8 ∧ 0 ≤ c ∧ c < D 1 9) → ¬ (bit (D 5 h.toNat) c ↔ w = 1) → P (some (iI 1)) SH (st2 (st2 D 5 h.toNat (ixor (D 5 h.toNat) (ishl 1 c))) 1 11 (D 1 11 + 1))) : TM g mX6_bar (d + 1) P [.ref 0, iI h, iI c, iI w] D := by
  have hN := hL.1
  have hM := hL.2.1
  refine T_aload_n dX6_bar_0 rfl ?_
  refine T_getR dX6_bar_1 flX6_12 rfl rfl ?_
  refine T_iload_n dX6_bar_4 rfl ?_
  refine T_cV_1 dX6_bar_5 lkX6_112 rfl (Nat.le_of_ble_eq_true rfl) (RO_r (by decide)) (Nat.le_of_ble_eq_true rfl) ?_
  refine c_hasHome hh hN (fun h1 h2 => ?_) (fun h1 => ?_)
  · refine T_if_eq 22 dX6_bar_8 (by decide) (by unfold InR; decide) (fun h => absurd h (by decide)) (fun _ => ?_)
    refine T_aload_n dX6_bar_11 rfl ?_
    refine T_getR dX6_bar_12 flX6_12 rfl rfl ?_
    refine T_iload_n dX6_bar_15 rfl ?_
    refine T_cV_1 dX6_bar_16 lkX6_125 rfl (Nat.le_of_ble_eq_true rfl) (RO_r (by decide)) (Nat.le_of_ble_eq_true rfl) ?_
    refine c_hasChurch hc hM (fun h3 h4 => ?_) (fun h3 => ?_)
    · refine T_if_ne 24 dX6_bar_19 (by decide) (by unfold InR; decide) (fun _ => ?_) (fun h => absurd (by decide) h)
      refine T_aload_n dX6_bar_24 rfl ?_
      refine T_getR dX6_bar_25 flX6_12 rfl rfl ?_
      refine T_iload_n dX6_bar_28 rfl ?_
      refine T_iload_n dX6_bar_29 rfl ?_
      refine T_cV_2 dX6_bar_30 lkX6_140 rfl (Nat.le_of_ble_eq_true rfl) (RO_r (by decide)) (Nat.le_of_ble_eq_true rfl) ?_
      refine c_isBarred ⟨h1, by omega⟩ (fun h5 => ?_) (fun h5 => ?_)
      · refine T_iload_n dX6_bar_33 rfl ?_
        refine T_icmp_ne 39 dX6_bar_34 (by decide) (by first | (unfold InR; omega) | (simp [st2, InR]; omega)) (by first | (unfold InR; omega) | (simp [st2, InR]; omega)) (fun hc34 => ?_) (fun hc34 => ?_)
        · refine T_aload_n dX6_bar_39 rfl ?_
          refine T_getR dX6_bar_40 flX6_12 rfl rfl ?_
          refine T_iload_n dX6_bar_43 rfl ?_
          refine T_iload_n dX6_bar_44 rfl ?_
          refine T_cV_2 dX6_bar_45 lkX6_143 rfl (Nat.le_of_ble_eq_true rfl) (RO_r (by decide)) (Nat.le_of_ble_eq_true rfl) ?_
          refine c_turnBar ⟨h1, by omega⟩ ?_
          refine T_iconst dX6_bar_48 ?_
          refine T_iret dX6_bar_49 rfl ?_
          first | exact kU (by omega) | exact k0 ⟨h1, h2, h3, h4⟩ ⟨fun _ => (by omega), fun _ => h5⟩ | exact k0 ⟨h1, h2, h3, h4⟩ ⟨fun q => absurd q h5, fun q => (by omega)⟩ | exact k1 ⟨h1, h2, h3, h4⟩ (fun q => by have := q.mp h5; omega) | exact k1 ⟨h1, h2, h3, h4⟩ (fun q => h5 (q.mpr (by omega)))
        · refine T_iconst dX6_bar_37 ?_
          refine T_iret dX6_bar_38 rfl ?_
          first | exact kU (by omega) | exact k0 ⟨h1, h2, h3, h4⟩ ⟨fun _ => (by omega), fun _ => h5⟩ | exact k0 ⟨h1, h2, h3, h4⟩ ⟨fun q => absurd q h5, fun q => (by omega)⟩ | exact k1 ⟨h1, h2, h3, h4⟩ (fun q => by have := q.mp h5; omega) | exact k1 ⟨h1, h2, h3, h4⟩ (fun q => h5 (q.mpr (by omega)))
      · refine T_iload_n dX6_bar_33 rfl ?_
        refine T_icmp_ne 39 dX6_bar_34 (by decide) (by first | (unfold InR; omega) | (simp [st2, InR]; omega)) (by first | (unfold InR; omega) | (simp [st2, InR]; omega)) (fun hc34 => ?_) (fun hc34 => ?_)
        · refine T_aload_n dX6_bar_39 rfl ?_
          refine T_getR dX6_bar_40 flX6_12 rfl rfl ?_
          refine T_iload_n dX6_bar_43 rfl ?_
          refine T_iload_n dX6_bar_44 rfl ?_
          refine T_cV_2 dX6_bar_45 lkX6_143 rfl (Nat.le_of_ble_eq_true rfl) (RO_r (by decide)) (Nat.le_of_ble_eq_true rfl) ?_
          refine c_turnBar ⟨h1, by omega⟩ ?_
          refine T_iconst dX6_bar_48 ?_
          refine T_iret dX6_bar_49 rfl ?_
          first | exact kU (by omega) | exact k0 ⟨h1, h2, h3, h4⟩ ⟨fun _ => (by omega), fun _ => h5⟩ | exact k0 ⟨h1, h2, h3, h4⟩ ⟨fun q => absurd q h5, fun q => (by omega)⟩ | exact k1 ⟨h1, h2, h3, h4⟩ (fun q => by have := q.mp h5; omega) | exact k1 ⟨h1, h2, h3, h4⟩ (fun q => h5 (q.mpr (by omega)))
        · refine T_iconst dX6_bar_37 ?_
          refine T_iret dX6_bar_38 rfl ?_
          first | exact kU (by omega) | exact k0 ⟨h1, h2, h3, h4⟩ ⟨fun _ => (by omega), fun _ => h5⟩ | exact k0 ⟨h1, h2, h3, h4⟩ ⟨fun q => absurd q h5, fun q => (by omega)⟩ | exact k1 ⟨h1, h2, h3, h4⟩ (fun q => by have := q.mp h5; omega) | exact k1 ⟨h1, h2, h3, h4⟩ (fun q => h5 (q.mpr (by omega)))
    · refine T_if_ne 24 dX6_bar_19 (by decide) (by unfold InR; decide) (fun h => absurd h (by decide)) (fun _ => ?_)
      refine T_iconst dX6_bar_22 ?_
      refine T_iret dX6_bar_23 rfl ?_
      first | exact kU (by omega) | exact k0 ⟨h1, h2, h3, h4⟩ ⟨fun _ => (by omega), fun _ => h5⟩ | exact k0 ⟨h1, h2, h3, h4⟩ ⟨fun q => absurd q h5, fun q => (by omega)⟩ | exact k1 ⟨h1, h2, h3, h4⟩ (fun q => by have := q.mp h5; omega) | exact k1 ⟨h1, h2, h3, h4⟩ (fun q => h5 (q.mpr (by omega)))
  · refine T_if_eq 22 dX6_bar_8 (by decide) (by unfold InR; decide) (fun _ => ?_) (fun h => absurd (by decide) h)
    refine T_iconst dX6_bar_22 ?_
    refine T_iret dX6_bar_23 rfl ?_
    first | exact kU (by omega) | exact k0 ⟨h1, h2, h3, h4⟩ ⟨fun _ => (by omega), fun _ => h5⟩ | exact k0 ⟨h1, h2, h3, h4⟩ ⟨fun q => absurd q h5, fun q => (by omega)⟩ | exact k1 ⟨h1, h2, h3, h4⟩ (fun q => by have := q.mp h5; omega) | exact k1 ⟨h1, h2, h3, h4⟩ (fun q => h5 (q.mpr (by omega)))
theorem c_seats {c n : Int} (hL : LK D) (hc : InR c) (hn : InR n) (kU : ¬ (0 ≤ c ∧ c < D 1 9) → P (some (iI (-1))) SH D) (kO : 0 ≤ c → c < D 1 9 → ¬ (0 ≤ n ∧ n ≤ 50) → P (some (iI (-2))) SH D) (kk : 0 ≤ c → c < D 1 9 → 0 ≤ n → n ≤ 50 → P (some (iI (D 9 c.toNat))) SH (st2 (st2 D 9 c.toNat n) 1 11 (D 1 11 + 1))) : TM g mX6_seats (d + 1) P [.ref 0, iI c, iI n] D := by
  have hM := hL.2.1
  refine T_aload_n dX6_seats_0 rfl ?_
  refine T_getR dX6_seats_1 flX6_12 rfl rfl ?_
  refine T_iload_n dX6_seats_4 rfl ?_
  refine T_cV_1 dX6_seats_5 lkX6_125 rfl (Nat.le_of_ble_eq_true rfl) (RO_r (by decide)) (Nat.le_of_ble_eq_true rfl) ?_
  refine c_hasChurch hc hM (fun h3 h4 => ?_) (fun h3 => ?_)
  · refine T_if_ne 13 dX6_seats_8 (by decide) (by unfold InR; decide) (fun _ => ?_) (fun h => absurd (by decide) h)
    refine T_iload_n dX6_seats_13 rfl ?_
    refine T_iconst dX6_seats_14 ?_
    refine T_bipush dX6_seats_15 (by decide) ?_
    refine T_cS_3 dX6_seats_17 lkX6_77 (Nat.le_of_ble_eq_true rfl) (RO_r (by decide)) (Nat.le_of_ble_eq_true rfl) ?_
    refine c_isWithin hn (by first | (unfold InR; omega) | (simp [st2, InR]; omega)) (by first | (unfold InR; omega) | (simp [st2, InR]; omega)) (fun h5 h6 => ?_) (fun h5 => ?_)
    · refine T_if_eq 35 dX6_seats_20 (by decide) (by unfold InR; decide) (fun h => absurd h (by decide)) (fun _ => ?_)
      refine T_aload_n dX6_seats_23 rfl ?_
      refine T_getR dX6_seats_24 flX6_12 rfl rfl ?_
      refine T_iload_n dX6_seats_27 rfl ?_
      refine T_iload_n dX6_seats_28 rfl ?_
      refine T_cV_2 dX6_seats_29 lkX6_147 rfl (Nat.le_of_ble_eq_true rfl) (RO_r (by decide)) (Nat.le_of_ble_eq_true rfl) ?_
      refine c_changeSeats ⟨h3, by omega⟩ ?_
      refine T_goto (tgt := 37) dX6_seats_32 (by decide) ?_
      refine T_iret dX6_seats_37 rfl ?_
      first | exact kU (by omega) | exact kO h3 h4 (by omega) | exact kk h3 h4 h5 h6
    · refine T_if_eq 35 dX6_seats_20 (by decide) (by unfold InR; decide) (fun _ => ?_) (fun h => absurd (by decide) h)
      refine T_bipush dX6_seats_35 (by decide) ?_
      refine T_iret dX6_seats_37 rfl ?_
      first | exact kU (by omega) | exact kO h3 h4 (by omega) | exact kk h3 h4 h5 h6
  · refine T_if_ne 13 dX6_seats_8 (by decide) (by unfold InR; decide) (fun h => absurd h (by decide)) (fun _ => ?_)
    refine T_iconst dX6_seats_11 ?_
    refine T_iret dX6_seats_12 rfl ?_
    first | exact kU (by omega) | exact kO h3 h4 (by omega) | exact kk h3 h4 h5 h6
theorem c_toll {v : Int} (hv : InR v) (kO : ¬ (0 ≤ v ∧ v ≤ 999) → P (some (iI (-2))) SH D) (kk : 0 ≤ v → v ≤ 999 → P (some (iI (D 1 10))) SH (st2 (st2 D 1 10 v) 1 11 (D 1 11 + 1))) : TM g mX6_toll (d + 1) P [.ref 0, iI v] D := by
  refine T_iload_n dX6_toll_0 rfl ?_
  refine T_iconst dX6_toll_1 ?_
  refine T_sipush dX6_toll_2 (by decide) ?_
  refine T_cS_3 dX6_toll_5 lkX6_77 (Nat.le_of_ble_eq_true rfl) (RO_r (by decide)) (Nat.le_of_ble_eq_true rfl) ?_
  refine c_isWithin hv (by first | (unfold InR; omega) | (simp [st2, InR]; omega)) (by first | (unfold InR; omega) | (simp [st2, InR]; omega)) (fun h5 h6 => ?_) (fun h5 => ?_)
  · refine T_if_eq 22 dX6_toll_8 (by decide) (by unfold InR; decide) (fun h => absurd h (by decide)) (fun _ => ?_)
    refine T_aload_n dX6_toll_11 rfl ?_
    refine T_getR dX6_toll_12 flX6_12 rfl rfl ?_
    refine T_iload_n dX6_toll_15 rfl ?_
    refine T_cV_1 dX6_toll_16 lkX6_151 rfl (Nat.le_of_ble_eq_true rfl) (RO_r (by decide)) (Nat.le_of_ble_eq_true rfl) ?_
    refine c_changeToll ?_
    refine T_goto (tgt := 24) dX6_toll_19 (by decide) ?_
    refine T_iret dX6_toll_24 rfl ?_
    first | exact kO (by omega) | exact kk (by omega) (by omega)
  · refine T_if_eq 22 dX6_toll_8 (by decide) (by unfold InR; decide) (fun _ => ?_) (fun h => absurd (by decide) h)
    refine T_bipush dX6_toll_22 (by decide) ?_
    refine T_iret dX6_toll_24 rfl ?_
    first | exact kO (by omega) | exact kk (by omega) (by omega)
theorem c_far {x y c : Int} (hL : LK D) (hx : InR x) (hy : InR y) (hc : InR c) (kU : ¬ (0 ≤ c ∧ c < D 1 9) → P (some (iI (-1))) SH D) (kO : 0 ≤ c → c < D 1 9 → ¬ (0 ≤ x ∧ x ≤ 60 ∧ 0 ≤ y ∧ y ≤ 60) → P (some (iI (-2))) SH D) (kk : 0 ≤ c → c < D 1 9 → (0 ≤ x ∧ x ≤ 60 ∧ 0 ≤ y ∧ y ≤ 60) → P (some (iI (farK (D 6 c.toNat) x y (D 7 c.toNat) (D 8 c.toNat) (D 1 10)))) SH D) : TM g mX6_far (d + 2) P [.ref 0, iI x, iI y, iI c] D := by
  have hM := hL.2.1
  refine T_aload_n dX6_far_0 rfl ?_
  refine T_getR dX6_far_1 flX6_12 rfl rfl ?_
  refine T_iload_n dX6_far_4 rfl ?_
  refine T_cV_1 dX6_far_5 lkX6_125 rfl (Nat.le_of_ble_eq_true rfl) (RO_r (by decide)) (Nat.le_of_ble_eq_true rfl) ?_
  refine c_hasChurch hc hM (fun h3 h4 => ?_) (fun h3 => ?_)
  · refine T_if_ne 13 dX6_far_8 (by decide) (by unfold InR; decide) (fun _ => ?_) (fun h => absurd (by decide) h)
    refine T_iload_n dX6_far_13 rfl ?_
    refine T_iload_n dX6_far_14 rfl ?_
    refine T_cS_2 dX6_far_15 lkX6_73 (Nat.le_of_ble_eq_true rfl) (RO_r (by decide)) (Nat.le_of_ble_eq_true rfl) ?_
    refine c_isSpot hx hy (fun h5 h6 h7 h8 => ?_) (fun h5 => ?_)
    · refine T_if_eq 34 dX6_far_18 (by decide) (by unfold InR; decide) (fun h => absurd h (by decide)) (fun _ => ?_)
      refine T_aload_n dX6_far_21 rfl ?_
      refine T_getR dX6_far_22 flX6_12 rfl rfl ?_
      refine T_iload_n dX6_far_25 rfl ?_
      refine T_iload_n dX6_far_26 rfl ?_
      refine T_iload_n dX6_far_27 rfl ?_
      refine T_cV_3 dX6_far_28 lkX6_155 rfl (Nat.le_of_ble_eq_true rfl) (RO_r (by decide)) (Nat.le_of_ble_eq_true rfl) ?_
      refine c_farTo hL ⟨h3, by omega⟩ ⟨h5, h6⟩ ⟨h7, h8⟩ ?_
      refine T_goto (tgt := 36) dX6_far_31 (by decide) ?_
      refine T_iret dX6_far_36 rfl ?_
      first | exact kU (by omega) | exact kO h3 h4 (by omega) | exact kk h3 h4 ⟨h5, h6, h7, h8⟩
    · refine T_if_eq 34 dX6_far_18 (by decide) (by unfold InR; decide) (fun _ => ?_) (fun h => absurd (by decide) h)
      refine T_bipush dX6_far_34 (by decide) ?_
      refine T_iret dX6_far_36 rfl ?_
      first | exact kU (by omega) | exact kO h3 h4 (by omega) | exact kk h3 h4 ⟨h5, h6, h7, h8⟩
  · refine T_if_ne 13 dX6_far_8 (by decide) (by unfold InR; decide) (fun h => absurd h (by decide)) (fun _ => ?_)
    refine T_iconst dX6_far_11 ?_
    refine T_iret dX6_far_12 rfl ?_
    first | exact kU (by omega) | exact kO h3 h4 (by omega) | exact kk h3 h4 ⟨h5, h6, h7, h8⟩
theorem c_place {x y : Int} (hp : 0 ≤ D 0 9 ∧ D 0 9 ≤ 8) (hx : InR x) (hy : InR y) (kO : ¬ (0 ≤ x ∧ x ≤ 60 ∧ 0 ≤ y ∧ y ≤ 60) → P (some (iI (-2))) SH D) (kF : (0 ≤ x ∧ x ≤ 60 ∧ 0 ≤ y ∧ y ≤ 60) → D 0 9 = 8 → P (some (iI (-4))) SH D) (kk : (0 ≤ x ∧ x ≤ 60 ∧ 0 ≤ y ∧ y ≤ 60) → D 0 9 < 8 → P (some (iI (D 0 9))) SH (st2 (st2 (st2 D 47 (D 0 9).toNat x) 48 (D 0 9).toNat y) 0 9 (D 0 9 + 1))) : TM g mX6_place (d + 2) P [.ref 0, iI x, iI y] D := by
  refine T_iload_n dX6_place_0 rfl ?_
  refine T_iload_n dX6_place_1 rfl ?_
  refine T_cS_2 dX6_place_2 lkX6_73 (Nat.le_of_ble_eq_true rfl) (RO_r (by decide)) (Nat.le_of_ble_eq_true rfl) ?_
  refine c_isSpot hx hy (fun h5 h6 h7 h8 => ?_) (fun h5 => ?_)
  · refine T_if_ne 11 dX6_place_5 (by decide) (by unfold InR; decide) (fun _ => ?_) (fun h => absurd (by decide) h)
    refine T_aload_n dX6_place_11 rfl ?_
    refine T_getI dX6_place_12 flX6_206 rfl rfl ?_
    refine T_bipush dX6_place_15 (by decide) ?_
    refine T_icmp_lt 23 dX6_place_17 (by decide) (by first | (unfold InR; omega) | (simp [st2, InR]; omega)) (by first | (unfold InR; omega) | (simp [st2, InR]; omega)) (fun hc17 => ?_) (fun hc17 => ?_)
    · refine T_aload_n dX6_place_23 rfl ?_
      refine T_getR dX6_place_24 flX6_55 rfl rfl ?_
      refine T_aload_n dX6_place_27 rfl ?_
      refine T_getI dX6_place_28 flX6_206 rfl rfl ?_
      refine T_iload_n dX6_place_31 rfl ?_
      refine T_iast dX6_place_32 rfl (by first | decide | omega) (by first | omega | (simp [st2]; omega)) (by first | omega | (simp [st2]; omega)) ?_
      refine T_aload_n dX6_place_33 rfl ?_
      refine T_getR dX6_place_34 flX6_59 rfl rfl ?_
      refine T_aload_n dX6_place_37 rfl ?_
      refine T_getI dX6_place_38 flX6_206 rfl rfl ?_
      refine T_iload_n dX6_place_41 rfl ?_
      refine T_iast dX6_place_42 rfl (by first | decide | omega) (by first | omega | (simp [st2]; omega)) (by first | omega | (simp [st2]; omega)) ?_
      refine T_aload_n dX6_place_43 rfl ?_
      refine T_dup dX6_place_44 rfl ?_
      refine T_getI dX6_place_45 flX6_206 rfl rfl ?_
      refine T_dup_x1 dX6_place_48 rfl rfl ?_
      refine T_iconst dX6_place_49 ?_
      refine T_iadd dX6_place_50 ?_
      refine T_putI dX6_place_51 flX6_206 rfl rfl ?_
      refine T_iret dX6_place_54 rfl ?_
      first | exact kO (by omega) | exact kF (by omega) (by omega) | exact kk (by omega) (by omega)
    · refine T_bipush dX6_place_20 (by decide) ?_
      refine T_iret dX6_place_22 rfl ?_
      first | exact kO (by omega) | exact kF (by omega) (by omega) | exact kk (by omega) (by omega)
  · refine T_if_ne 11 dX6_place_5 (by decide) (by unfold InR; decide) (fun h => absurd h (by decide)) (fun _ => ?_)
    refine T_bipush dX6_place_8 (by decide) ?_
    refine T_iret dX6_place_10 rfl ?_
    first | exact kO (by omega) | exact kF (by omega) (by omega) | exact kk (by omega) (by omega)
theorem c_tell {c : Int} (hL : LK D) (hc : InR c) (kU : ¬ (0 ≤ c ∧ c < D 1 9) → P (some (iI (-1))) SH D) (k0 : 0 ≤ c → c < D 1 9 → D 6 c.toNat = 0 → P (some (iI (D 9 c.toNat))) SH (st2 D 45 0 (lv1 (D 45 0) 1))) (k1 : 0 ≤ c → c < D 1 9 → D 6 c.toNat = 1 → P (some (iI (D 9 c.toNat + 100))) SH (st2 D 45 0 (lv1 (lv1 (D 45 0) 2) 1))) (k2 : 0 ≤ c → c < D 1 9 → D 6 c.toNat = 2 → P (some (iI (D 9 c.toNat + 100 + D 9 c.toNat))) SH (st2 D 45 0 (lv1 (lv1 (lv1 (lv1 (D 45 0) 3) 2) 1) 1))) : TM g mX6_tell (d + 5) P [.ref 0, iI c] D := by
  have hM := hL.2.1
  have hkd := hL.2.2.2.2.2.2.2.2.1 c.toNat
  refine T_aload_n dX6_tell_0 rfl ?_
  refine T_getR dX6_tell_1 flX6_12 rfl rfl ?_
  refine T_iload_n dX6_tell_4 rfl ?_
  refine T_cV_1 dX6_tell_5 lkX6_125 rfl (Nat.le_of_ble_eq_true rfl) (RO_r (by decide)) (Nat.le_of_ble_eq_true rfl) ?_
  refine c_hasChurch hc hM (fun h3 h4 => ?_) (fun h3 => ?_)
  · refine T_if_eq 39 dX6_tell_8 (by decide) (by unfold InR; decide) (fun h => absurd h (by decide)) (fun _ => ?_)
    refine T_aload_n dX6_tell_11 rfl ?_
    refine T_getR dX6_tell_12 flX6_45 rfl rfl ?_
    refine T_aload_n dX6_tell_15 rfl ?_
    refine T_getR dX6_tell_16 flX6_12 rfl rfl ?_
    refine T_getR dX6_tell_19 flX6_128 rfl rfl ?_
    refine T_iload_n dX6_tell_22 rfl ?_
    refine T_iald dX6_tell_23 rfl (by first | decide | omega) (by first | omega | (simp [st2]; omega)) (by first | omega | (simp [st2]; omega)) ?_
    refine T_aload_n dX6_tell_24 rfl ?_
    refine T_getR dX6_tell_25 flX6_12 rfl rfl ?_
    refine T_getR dX6_tell_28 flX6_137 rfl rfl ?_
    refine T_iload_n dX6_tell_31 rfl ?_
    refine T_iald dX6_tell_32 rfl (by first | decide | omega) (by first | omega | (simp [st2]; omega)) (by first | omega | (simp [st2]; omega)) ?_
    refine T_cV_2 dX6_tell_33 lkX6_261 rfl (Nat.le_of_ble_eq_true rfl) (RO_r (by decide)) (Nat.le_of_ble_eq_true rfl) ?_
    refine c_tellOf (by first | (unfold InR; omega) | (simp [st2, InR]; omega)) (fun h5 => ?_) (fun h5 => ?_) (fun h5 => ?_)
    · refine T_goto (tgt := 40) dX6_tell_36 (by decide) ?_
      refine T_iret dX6_tell_40 rfl ?_
      first | exact kU (by omega) | exact k0 h3 h4 h5 | exact k1 h3 h4 h5 | exact k2 h3 h4 (by omega)
    · refine T_goto (tgt := 40) dX6_tell_36 (by decide) ?_
      refine T_iret dX6_tell_40 rfl ?_
      first | exact kU (by omega) | exact k0 h3 h4 h5 | exact k1 h3 h4 h5 | exact k2 h3 h4 (by omega)
    · refine T_goto (tgt := 40) dX6_tell_36 (by decide) ?_
      refine T_iret dX6_tell_40 rfl ?_
      first | exact kU (by omega) | exact k0 h3 h4 h5 | exact k1 h3 h4 h5 | exact k2 h3 h4 (by omega)
  · refine T_if_eq 39 dX6_tell_8 (by decide) (by unfold InR; decide) (fun _ => ?_) (fun h => absurd (by decide) h)
    refine T_iconst dX6_tell_39 ?_
    refine T_iret dX6_tell_40 rfl ?_
    first | exact kU (by omega) | exact k0 h3 h4 h5 | exact k1 h3 h4 h5 | exact k2 h3 h4 (by omega)
theorem c_ring {c : Int} (hL : LK D) (hc : InR c) (kU : ¬ (0 ≤ c ∧ c < D 1 9) → P (some (iI (-1))) SH D) (k0 : 0 ≤ c → c < D 1 9 → D 6 c.toNat = 2 → P (some (iI 44)) SH (st2 D 45 0 (lv1 (D 45 0) 5))) (k1 : 0 ≤ c → c < D 1 9 → D 6 c.toNat ≠ 2 → P (some (iI c)) SH (st2 D 45 0 (lv1 (D 45 0) 4))) : TM g mX6_ring (d + 2) P [.ref 0, iI c] D := by
  have hM := hL.2.1
  have hkd := hL.2.2.2.2.2.2.2.2.1 c.toNat
  refine T_aload_n dX6_ring_0 rfl ?_
  refine T_getR dX6_ring_1 flX6_12 rfl rfl ?_
  refine T_iload_n dX6_ring_4 rfl ?_
  refine T_cV_1 dX6_ring_5 lkX6_125 rfl (Nat.le_of_ble_eq_true rfl) (RO_r (by decide)) (Nat.le_of_ble_eq_true rfl) ?_
  refine c_hasChurch hc hM (fun h3 h4 => ?_) (fun h3 => ?_)
  · refine T_if_eq 31 dX6_ring_8 (by decide) (by unfold InR; decide) (fun h => absurd h (by decide)) (fun _ => ?_)
    refine T_aload_n dX6_ring_11 rfl ?_
    refine T_getR dX6_ring_12 flX6_45 rfl rfl ?_
    refine T_aload_n dX6_ring_15 rfl ?_
    refine T_getR dX6_ring_16 flX6_12 rfl rfl ?_
    refine T_getR dX6_ring_19 flX6_128 rfl rfl ?_
    refine T_iload_n dX6_ring_22 rfl ?_
    refine T_iald dX6_ring_23 rfl (by first | decide | omega) (by first | omega | (simp [st2]; omega)) (by first | omega | (simp [st2]; omega)) ?_
    refine T_iload_n dX6_ring_24 rfl ?_
    refine T_cV_2 dX6_ring_25 lkX6_264 rfl (Nat.le_of_ble_eq_true rfl) (RO_r (by decide)) (Nat.le_of_ble_eq_true rfl) ?_
    refine c_ringOf (by first | (unfold InR; omega) | (simp [st2, InR]; omega)) (fun h5 => ?_) (fun h5 => ?_)
    · refine T_goto (tgt := 32) dX6_ring_28 (by decide) ?_
      refine T_iret dX6_ring_32 rfl ?_
      first | exact kU (by omega) | exact k0 h3 h4 h5 | exact k1 h3 h4 h5
    · refine T_goto (tgt := 32) dX6_ring_28 (by decide) ?_
      refine T_iret dX6_ring_32 rfl ?_
      first | exact kU (by omega) | exact k0 h3 h4 h5 | exact k1 h3 h4 h5
  · refine T_if_eq 31 dX6_ring_8 (by decide) (by unfold InR; decide) (fun _ => ?_) (fun h => absurd (by decide) h)
    refine T_iconst dX6_ring_31 ?_
    refine T_iret dX6_ring_32 rfl ?_
    first | exact kU (by omega) | exact k0 h3 h4 h5 | exact k1 h3 h4 h5
theorem c_as {c kd : Int} (hL : LK D) (hc : InR c) (hk : InR kd) (kU : ¬ (0 ≤ c ∧ c < D 1 9) → P (some (iI (-1))) SH (st2 D 0 10 0)) (kO : 0 ≤ c → c < D 1 9 → ¬ (0 ≤ kd ∧ kd ≤ 2) → P (some (iI (-2))) SH (st2 D 0 10 0)) (kC : 0 ≤ c → c < D 1 9 → 0 ≤ kd ∧ kd ≤ 2 → D 6 c.toNat < kd → P (some (iI (-12))) SH (st2 D 0 10 2)) (kk : 0 ≤ c → c < D 1 9 → 0 ≤ kd ∧ kd ≤ 2 → kd ≤ D 6 c.toNat → P (some (iI 1)) SH (st2 D 0 10 0)) : TM g mX6_as (d + 1) P [.ref 0, iI c, iI kd] D := by
  have hM := hL.2.1
  have hkd := hL.2.2.2.2.2.2.2.2.1 c.toNat
  rw [← st2_st2 D 0 10 0 2] at kC
  refine T_aload_n dX6_as_0 rfl ?_
  refine T_iconst dX6_as_1 ?_
  refine T_putI dX6_as_2 flX6_224 rfl rfl ?_
  refine T_aload_n dX6_as_5 rfl ?_
  refine T_getR dX6_as_6 flX6_12 rfl rfl ?_
  refine T_iload_n dX6_as_9 rfl ?_
  refine T_cV_1 dX6_as_10 lkX6_125 rfl (Nat.le_of_ble_eq_true rfl) (RO_r (by decide)) (Nat.le_of_ble_eq_true rfl) ?_
  refine c_hasChurch hc hM (fun h3 h4 => ?_) (fun h3 => ?_)
  · refine T_if_ne 18 dX6_as_13 (by decide) (by unfold InR; decide) (fun _ => ?_) (fun h => absurd (by decide) h)
    refine T_iload_n dX6_as_18 rfl ?_
    refine T_iconst dX6_as_19 ?_
    refine T_iconst dX6_as_20 ?_
    refine T_cS_3 dX6_as_21 lkX6_77 (Nat.le_of_ble_eq_true rfl) (RO_r (by decide)) (Nat.le_of_ble_eq_true rfl) ?_
    have h4 : c < D 1 9 := h4
    refine c_isWithin hk (by first | (unfold InR; omega) | (simp [st2, InR]; omega)) (by first | (unfold InR; omega) | (simp [st2, InR]; omega)) (fun h5 h6 => ?_) (fun h5 => ?_)
    · refine T_if_ne 30 dX6_as_24 (by decide) (by unfold InR; decide) (fun _ => ?_) (fun h => absurd (by decide) h)
      refine T_aload_n dX6_as_30 rfl ?_
      refine T_getR dX6_as_31 flX6_12 rfl rfl ?_
      refine T_getR dX6_as_34 flX6_128 rfl rfl ?_
      refine T_iload_n dX6_as_37 rfl ?_
      refine T_iald dX6_as_38 rfl (by first | decide | omega) (by omega) (by omega) ?_
      refine T_iload_n dX6_as_39 rfl ?_
      refine T_icmp_ge 51 dX6_as_40 (by decide) (show InR (D 6 c.toNat) by first | (unfold InR; omega) | (simp [st2, InR]; omega)) hk (fun hc40 => ?_) (fun hc40 => ?_)
      · refine T_iconst dX6_as_51 ?_
        refine T_iret dX6_as_52 rfl ?_
        first | exact kk h3 h4 ⟨h5, h6⟩ hc40 | exact kC h3 h4 ⟨h5, h6⟩ (by have h7 : ¬ kd ≤ D 6 c.toNat := hc40; omega)
      · refine T_aload_n dX6_as_43 rfl ?_
        refine T_iconst dX6_as_44 ?_
        refine T_cV_1 dX6_as_45 lkX6_233 rfl (Nat.le_of_ble_eq_true rfl) (RO_r (by decide)) (Nat.le_of_ble_eq_true rfl) ?_
        refine c_faulty ?_
        refine T_goto (tgt := 52) dX6_as_48 (by decide) ?_
        refine T_iret dX6_as_52 rfl ?_
        first | exact kk h3 h4 ⟨h5, h6⟩ hc40 | exact kC h3 h4 ⟨h5, h6⟩ (by have h7 : ¬ kd ≤ D 6 c.toNat := hc40; omega)
    · refine T_if_ne 30 dX6_as_24 (by decide) (by unfold InR; decide) (fun h => absurd h (by decide)) (fun _ => ?_)
      refine T_bipush dX6_as_27 (by decide) ?_
      refine T_iret dX6_as_29 rfl ?_
      exact kO h3 h4 (by omega)
  · refine T_if_ne 18 dX6_as_13 (by decide) (by unfold InR; decide) (fun h => absurd h (by decide)) (fun _ => ?_)
    refine T_iconst dX6_as_16 ?_
    refine T_iret dX6_as_17 rfl ?_
    exact kU h3
theorem c_trace (hk : P (some (iI (D 45 0))) SH D) : TM g mX6_trace d P [.ref 0] D := by
  refine T_aload_n dX6_trace_0 rfl ?_
  refine T_getR dX6_trace_1 flX6_45 rfl rfl ?_
  refine T_getI dX6_trace_4 flX6_267 rfl rfl ?_
  refine T_iret dX6_trace_7 rfl ?_
  exact hk
theorem c_fault (hk : P (some (iI (D 0 10))) SH D) : TM g mX6_fault d P [.ref 0] D := by
  refine T_aload_n dX6_fault_0 rfl ?_
  refine T_getI dX6_fault_1 flX6_224 rfl rfl ?_
  refine T_iret dX6_fault_4 rfl ?_
  exact hk
theorem c_many {w : Int} (hL : LK D) (hw : InR w) (k0 : w = 0 → P (some (iI (D 1 8))) SH D) (k1 : w = 1 → P (some (iI (D 1 9))) SH D) (k2 : w = 2 → P (some (iI (D 0 9))) SH D) (k3 : w = 3 → P (some (iI (sm (D 1 8).toNat (D 4)))) SH D) (k4 : w = 4 → P (some (iI (sm (D 1 9).toNat (D 9)))) SH D) (kO : w < 0 ∨ 4 < w → P (some (iI (-2))) SH D) : TM g mX6_many (d + 1) P [.ref 0, iI w] D := by
  have hN := hL.1
  have hM := hL.2.1
  refine T_iload_n dX6_many_0 rfl ?_
  refine T_tsw5 36 44 52 57 75 93 dX6_many_1 hw (by decide) (by decide) (fun hs1 => ?_) (fun hs1 => ?_) (fun hs1 => ?_) (fun hs1 => ?_) (fun hs1 => ?_) (fun hs1 => ?_)
  · refine T_aload_n dX6_many_36 rfl ?_
    refine T_getR dX6_many_37 flX6_12 rfl rfl ?_
    refine T_getI dX6_many_40 flX6_81 rfl rfl ?_
    refine T_iret dX6_many_43 rfl ?_
    first | exact k0 hs1 | exact k1 hs1 | exact k2 hs1 | exact k3 hs1 | exact k4 hs1 | exact kO hs1
  · refine T_aload_n dX6_many_44 rfl ?_
    refine T_getR dX6_many_45 flX6_12 rfl rfl ?_
    refine T_getI dX6_many_48 flX6_88 rfl rfl ?_
    refine T_iret dX6_many_51 rfl ?_
    first | exact k0 hs1 | exact k1 hs1 | exact k2 hs1 | exact k3 hs1 | exact k4 hs1 | exact kO hs1
  · refine T_aload_n dX6_many_52 rfl ?_
    refine T_getI dX6_many_53 flX6_206 rfl rfl ?_
    refine T_iret dX6_many_56 rfl ?_
    first | exact k0 hs1 | exact k1 hs1 | exact k2 hs1 | exact k3 hs1 | exact k4 hs1 | exact kO hs1
  · refine T_aload_n dX6_many_57 rfl ?_
    refine T_getR dX6_many_58 flX6_12 rfl rfl ?_
    refine T_getR dX6_many_61 flX6_122 rfl rfl ?_
    refine T_aload_n dX6_many_64 rfl ?_
    refine T_getR dX6_many_65 flX6_12 rfl rfl ?_
    refine T_getI dX6_many_68 flX6_81 rfl rfl ?_
    refine T_cS_2 dX6_many_71 lkX6_270 (Nat.le_of_ble_eq_true rfl) (RO_r (by decide)) (Nat.le_of_ble_eq_true rfl) ?_
    refine c_sumOf rfl (by decide) (by omega) ?_
    refine T_iret dX6_many_74 rfl ?_
    first | exact k0 hs1 | exact k1 hs1 | exact k2 hs1 | exact k3 hs1 | exact k4 hs1 | exact kO hs1
  · refine T_aload_n dX6_many_75 rfl ?_
    refine T_getR dX6_many_76 flX6_12 rfl rfl ?_
    refine T_getR dX6_many_79 flX6_137 rfl rfl ?_
    refine T_aload_n dX6_many_82 rfl ?_
    refine T_getR dX6_many_83 flX6_12 rfl rfl ?_
    refine T_getI dX6_many_86 flX6_88 rfl rfl ?_
    refine T_cS_2 dX6_many_89 lkX6_270 (Nat.le_of_ble_eq_true rfl) (RO_r (by decide)) (Nat.le_of_ble_eq_true rfl) ?_
    refine c_sumOf rfl (by decide) (by omega) ?_
    refine T_iret dX6_many_92 rfl ?_
    first | exact k0 hs1 | exact k1 hs1 | exact k2 hs1 | exact k3 hs1 | exact k4 hs1 | exact kO hs1
  · refine T_bipush dX6_many_93 (by decide) ?_
    refine T_iret dX6_many_95 rfl ?_
    first | exact k0 hs1 | exact k1 hs1 | exact k2 hs1 | exact k3 hs1 | exact k4 hs1 | exact kO hs1
end

