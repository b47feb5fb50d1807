section
variable {g : G0} {d : Nat} {P : Option Value → List SC → DD → Prop} {D : DD} {n p : Nat} {co : Nat → Int} {F : Int}
theorem c_readKind {item hc cc : Nat} (hK : TxK D n co) (hT : TS D (-1) p) (hp : p ≤ 900) (hi : item < 15) (h7 : D 10 7 = hc) (h8 : D 10 8 = cc) (hb : hc ≤ 10 ∧ cc ≤ 5) (hk : ∀ D' : DD, (∀ r, r ≠ 10 → r ≠ 11 → D' r = D r) → D' 10 5 = D 10 5 → D' 11 item = kC (co p) → (∀ j, j ≠ item → D' 11 j = D 11 j) → D' 10 7 = hc + (if kdR (co p) = 3 then 1 else 0) → D' 10 8 = cc + (if kdR (co p) = 3 then 0 else 1) → TS D' (fs (-1) (kOk (kdR (co p)) hc cc) p) (p + 1) → P none SH D') : TM g mX2_readKind (d + 1) P [.ref 10, iI item] D := by
  have h6 := hT.1
  have ii := hK.2.2.2.2 p
  obtain ⟨c1, c2, c3, c4, c5⟩ := kC_eq (co p)
  have kb := kdR_bd (co p)
  have ei : (item : Int).toNat = item := Int.toNat_natCast item
  have e1 : ((p + 1 : Nat) : Int) = (p : Int) + 1 := by omega
  have fin : ∀ (D1 : DD), (∀ r, r ≠ 10 → r ≠ 11 → D1 r = D r) → D1 10 5 = D 10 5 → D1 11 item = kC (co p) → (∀ j, j ≠ item → D1 11 j = D 11 j) → D1 10 7 = hc + (if kdR (co p) = 3 then 1 else 0) → D1 10 8 = cc + (if kdR (co p) = 3 then 0 else 1) → TS D1 (-1) p → T g mX2_readKind (rmd (d + 1) 0 0) 0 0 (Qm g (rmd (d + 1) 0 0) P) 44 [some (.ref 10), some (iI item), some (iI (co p))] [] SH D1 := by
    intro D1 f1 f2 f3 f4 f5 f6 t1
    have g6 := t1.1
    have e11 : D1 11 (item : Int).toNat = kC (co p) := by rw [ei]; exact f3
    have last : ∀ (D2 : DD) (F : Int), FrT D1 D2 → TS D2 F p → F = fs (-1) (kOk (kdR (co p)) hc cc) p → T g mX2_readKind (rmd (d + 1) 0 0) 0 0 (Qm g (rmd (d + 1) 0 0) P) 80 [some (.ref 10), some (iI item), some (iI (co p))] [] SH D2 := by
      intro D2 F fr t2 hF
      have k6 := t2.1
      subst hF
      refine T_aload_n dX2_readKind_80 rfl ?_
      refine T_dup dX2_readKind_81 rfl ?_
      refine T_getI dX2_readKind_82 flX2_39 rfl rfl ?_
      refine T_iconst dX2_readKind_85 ?_
      refine T_iadd dX2_readKind_86 ?_
      refine T_putI dX2_readKind_87 flX2_39 rfl rfl ?_
      refine T_vret dX2_readKind_90 rfl ?_
      rw [k6, ← e1]
      refine hk _ (fun r a b => ?_) ?_ ?_ (fun j hj => ?_) ?_ ?_ t2.mv
      · rw [st2_row a, fr.1 r a]; exact f1 r a b
      · rw [st2_ne (by decide), fr.2 5 (by decide) (by decide) (by decide)]; exact f2
      · rw [st2_row (by decide), fr.1 11 (by decide)]; exact f3
      · rw [st2_row (by decide), fr.1 11 (by decide)]; exact f4 j hj
      · rw [st2_ne (by decide), fr.2 7 (by decide) (by decide) (by decide)]; exact f5
      · rw [st2_ne (by decide), fr.2 8 (by decide) (by decide) (by decide)]; exact f6
    by_cases hk3 : kdR (co p) = 3
    · rw [if_pos hk3] at f5 f6
      refine T_aload_n dX2_readKind_44 rfl ?_
      refine T_getR dX2_readKind_45 flX2_9 rfl rfl ?_
      refine T_iload_n dX2_readKind_48 rfl ?_
      refine T_iald dX2_readKind_49 rfl (by first | decide | omega) (by first | omega | (simp [st2]; omega)) (by first | omega | (simp [st2]; omega)) ?_
      refine T_bipush dX2_readKind_50 (by decide) ?_
      refine T_icmp_eq 72 dX2_readKind_52 (by decide) (by rw [e11]; unfold InR; omega) (by first | (unfold InR; omega) | (simp [st2, InR]; omega)) (fun hc52 => ?_) (fun hc52 => ?_)
      · rw [e11] at hc52
        refine T_aload_n dX2_readKind_72 rfl ?_
        refine T_aload_n dX2_readKind_73 rfl ?_
        refine T_getI dX2_readKind_74 flX2_39 rfl rfl ?_
        rw [g6]
        refine T_cV_1 dX2_readKind_77 lkX2_46 rfl (Nat.le_of_ble_eq_true rfl) (RO_r (by decide)) (Nat.le_of_ble_eq_true rfl) ?_
        refine c_failAt t1 (fun D2 fr t2 => ?_)
        first
        | (exfalso; omega)
        | exact last D1 (-1) FrT.rf t1 (by rw [fs_go (by unfold kOk; omega)])
        | exact last D2 _ fr t2 (fs_and (by unfold kOk; omega))
      · rw [e11] at hc52
        refine T_aload_n dX2_readKind_55 rfl ?_
        refine T_getI dX2_readKind_56 flX2_58 rfl rfl ?_
        refine T_bipush dX2_readKind_59 (by decide) ?_
        refine T_icmp_gt 72 dX2_readKind_61 (by decide) (by first | (unfold InR; omega) | (simp [st2, InR]; omega)) (by first | (unfold InR; omega) | (simp [st2, InR]; omega)) (fun hc61 => ?_) (fun hc61 => ?_)
        · refine T_aload_n dX2_readKind_72 rfl ?_
          refine T_aload_n dX2_readKind_73 rfl ?_
          refine T_getI dX2_readKind_74 flX2_39 rfl rfl ?_
          rw [g6]
          refine T_cV_1 dX2_readKind_77 lkX2_46 rfl (Nat.le_of_ble_eq_true rfl) (RO_r (by decide)) (Nat.le_of_ble_eq_true rfl) ?_
          refine c_failAt t1 (fun D2 fr t2 => ?_)
          first
          | (exfalso; omega)
          | exact last D1 (-1) FrT.rf t1 (by rw [fs_go (by unfold kOk; omega)])
          | exact last D2 _ fr t2 (fs_and (by unfold kOk; omega))
        · refine T_aload_n dX2_readKind_64 rfl ?_
          refine T_getI dX2_readKind_65 flX2_61 rfl rfl ?_
          refine T_iconst dX2_readKind_68 ?_
          refine T_icmp_le 80 dX2_readKind_69 (by decide) (by first | (unfold InR; omega) | (simp [st2, InR]; omega)) (by first | (unfold InR; omega) | (simp [st2, InR]; omega)) (fun hc69 => ?_) (fun hc69 => ?_)
          · first
            | (exfalso; omega)
            | exact last D1 (-1) FrT.rf t1 (by rw [fs_go (by unfold kOk; omega)])
            | exact last D2 _ fr t2 (fs_and (by unfold kOk; omega))
          · refine T_aload_n dX2_readKind_72 rfl ?_
            refine T_aload_n dX2_readKind_73 rfl ?_
            refine T_getI dX2_readKind_74 flX2_39 rfl rfl ?_
            rw [g6]
            refine T_cV_1 dX2_readKind_77 lkX2_46 rfl (Nat.le_of_ble_eq_true rfl) (RO_r (by decide)) (Nat.le_of_ble_eq_true rfl) ?_
            refine c_failAt t1 (fun D2 fr t2 => ?_)
            first
            | (exfalso; omega)
            | exact last D1 (-1) FrT.rf t1 (by rw [fs_go (by unfold kOk; omega)])
            | exact last D2 _ fr t2 (fs_and (by unfold kOk; omega))
    · rw [if_neg hk3] at f5 f6
      refine T_aload_n dX2_readKind_44 rfl ?_
      refine T_getR dX2_readKind_45 flX2_9 rfl rfl ?_
      refine T_iload_n dX2_readKind_48 rfl ?_
      refine T_iald dX2_readKind_49 rfl (by first | decide | omega) (by first | omega | (simp [st2]; omega)) (by first | omega | (simp [st2]; omega)) ?_
      refine T_bipush dX2_readKind_50 (by decide) ?_
      refine T_icmp_eq 72 dX2_readKind_52 (by decide) (by rw [e11]; unfold InR; omega) (by first | (unfold InR; omega) | (simp [st2, InR]; omega)) (fun hc52 => ?_) (fun hc52 => ?_)
      · rw [e11] at hc52
        refine T_aload_n dX2_readKind_72 rfl ?_
        refine T_aload_n dX2_readKind_73 rfl ?_
        refine T_getI dX2_readKind_74 flX2_39 rfl rfl ?_
        rw [g6]
        refine T_cV_1 dX2_readKind_77 lkX2_46 rfl (Nat.le_of_ble_eq_true rfl) (RO_r (by decide)) (Nat.le_of_ble_eq_true rfl) ?_
        refine c_failAt t1 (fun D2 fr t2 => ?_)
        first
        | (exfalso; omega)
        | exact last D1 (-1) FrT.rf t1 (by rw [fs_go (by unfold kOk; omega)])
        | exact last D2 _ fr t2 (fs_and (by unfold kOk; omega))
      · rw [e11] at hc52
        refine T_aload_n dX2_readKind_55 rfl ?_
        refine T_getI dX2_readKind_56 flX2_58 rfl rfl ?_
        refine T_bipush dX2_readKind_59 (by decide) ?_
        refine T_icmp_gt 72 dX2_readKind_61 (by decide) (by first | (unfold InR; omega) | (simp [st2, InR]; omega)) (by first | (unfold InR; omega) | (simp [st2, InR]; omega)) (fun hc61 => ?_) (fun hc61 => ?_)
        · refine T_aload_n dX2_readKind_72 rfl ?_
          refine T_aload_n dX2_readKind_73 rfl ?_
          refine T_getI dX2_readKind_74 flX2_39 rfl rfl ?_
          rw [g6]
          refine T_cV_1 dX2_readKind_77 lkX2_46 rfl (Nat.le_of_ble_eq_true rfl) (RO_r (by decide)) (Nat.le_of_ble_eq_true rfl) ?_
          refine c_failAt t1 (fun D2 fr t2 => ?_)
          first
          | (exfalso; omega)
          | exact last D1 (-1) FrT.rf t1 (by rw [fs_go (by unfold kOk; omega)])
          | exact last D2 _ fr t2 (fs_and (by unfold kOk; omega))
        · refine T_aload_n dX2_readKind_64 rfl ?_
          refine T_getI dX2_readKind_65 flX2_61 rfl rfl ?_
          refine T_iconst dX2_readKind_68 ?_
          refine T_icmp_le 80 dX2_readKind_69 (by decide) (by first | (unfold InR; omega) | (simp [st2, InR]; omega)) (by first | (unfold InR; omega) | (simp [st2, InR]; omega)) (fun hc69 => ?_) (fun hc69 => ?_)
          · first
            | (exfalso; omega)
            | exact last D1 (-1) FrT.rf t1 (by rw [fs_go (by unfold kOk; omega)])
            | exact last D2 _ fr t2 (fs_and (by unfold kOk; omega))
          · refine T_aload_n dX2_readKind_72 rfl ?_
            refine T_aload_n dX2_readKind_73 rfl ?_
            refine T_getI dX2_readKind_74 flX2_39 rfl rfl ?_
            rw [g6]
            refine T_cV_1 dX2_readKind_77 lkX2_46 rfl (Nat.le_of_ble_eq_true rfl) (RO_r (by decide)) (Nat.le_of_ble_eq_true rfl) ?_
            refine c_failAt t1 (fun D2 fr t2 => ?_)
            first
            | (exfalso; omega)
            | exact last D1 (-1) FrT.rf t1 (by rw [fs_go (by unfold kOk; omega)])
            | exact last D2 _ fr t2 (fs_and (by unfold kOk; omega))
  have rw7 : ∀ v, st2 D 11 item v 10 7 = hc := fun v => by rw [st2_row (by decide)]; exact h7
  have rw8 : ∀ v, st2 D 11 item v 10 8 = cc := fun v => by rw [st2_row (by decide)]; exact h8
  refine T_aload_n dX2_readKind_0 rfl ?_
  refine T_cV_0 dX2_readKind_1 lkX2_84 rfl (Nat.le_of_ble_eq_true rfl) (RO_r (by decide)) (Nat.le_of_ble_eq_true rfl) ?_
  refine c_codeHere hK h6 (by omega) ?_
  refine T_istore_n dX2_readKind_4 (by decide) ?_
  refine T_aload_n dX2_readKind_5 rfl ?_
  refine T_getR dX2_readKind_6 flX2_9 rfl rfl ?_
  refine T_iload_n dX2_readKind_9 rfl ?_
  refine T_iload_n dX2_readKind_10 rfl ?_
  refine T_cS_1 dX2_readKind_11 lkX2_88 (Nat.le_of_ble_eq_true rfl) (RO_r (by decide)) (Nat.le_of_ble_eq_true rfl) ?_
  refine c_kindOf ii ?_
  refine T_iast dX2_readKind_14 rfl (by first | decide | omega) (by first | omega | (simp [st2]; omega)) (by first | omega | (simp [st2]; omega)) ?_
  rw [ei]
  refine T_iload_n dX2_readKind_15 rfl ?_
  refine T_bipush dX2_readKind_16 (by decide) ?_
  refine T_icmp_ne 34 dX2_readKind_18 (by decide) ii (by first | (unfold InR; omega) | (simp [st2, InR]; omega)) (fun hc18 => ?_) (fun hc18 => ?_)
  · refine T_aload_n dX2_readKind_34 rfl ?_
    refine T_dup dX2_readKind_35 rfl ?_
    refine T_getI dX2_readKind_36 flX2_61 rfl rfl ?_
    refine T_iconst dX2_readKind_39 ?_
    refine T_iadd dX2_readKind_40 ?_
    refine T_putI dX2_readKind_41 flX2_61 rfl rfl ?_
    first
    | (have hk3 : kdR (co p) = 3 := by omega
       rw [rw7]
       refine fin _ (fun r a b => by rw [st2_row a, st2_row b]) (by rw [st2_ne (by decide), st2_row (by decide)]) (by rw [st2_row (by decide), st2_at]) (fun j hj => by rw [st2_row (by decide), st2_ne hj]) (by rw [st2_at, if_pos hk3]) (by rw [st2_ne (by decide), rw8, if_pos hk3]; omega) ⟨by rw [st2_ne (by decide), st2_row (by decide)]; exact h6, ?_⟩
       rw [st2_ne (by decide), st2_row (by decide), st2_ne (by decide), st2_row (by decide)]
       exact hT.2)
    | (have hk3 : ¬ kdR (co p) = 3 := by omega
       rw [rw8]
       refine fin _ (fun r a b => by rw [st2_row a, st2_row b]) (by rw [st2_ne (by decide), st2_row (by decide)]) (by rw [st2_row (by decide), st2_at]) (fun j hj => by rw [st2_row (by decide), st2_ne hj]) (by rw [st2_ne (by decide), rw7, if_neg hk3]; omega) (by rw [st2_at, if_neg hk3]) ⟨by rw [st2_ne (by decide), st2_row (by decide)]; exact h6, ?_⟩
       rw [st2_ne (by decide), st2_row (by decide), st2_ne (by decide), st2_row (by decide)]
       exact hT.2)
  · refine T_aload_n dX2_readKind_21 rfl ?_
    refine T_dup dX2_readKind_22 rfl ?_
    refine T_getI dX2_readKind_23 flX2_58 rfl rfl ?_
    refine T_iconst dX2_readKind_26 ?_
    refine T_iadd dX2_readKind_27 ?_
    refine T_putI dX2_readKind_28 flX2_58 rfl rfl ?_
    refine T_goto (tgt := 44) dX2_readKind_31 (by decide) ?_
    first
    | (have hk3 : kdR (co p) = 3 := by omega
       rw [rw7]
       refine fin _ (fun r a b => by rw [st2_row a, st2_row b]) (by rw [st2_ne (by decide), st2_row (by decide)]) (by rw [st2_row (by decide), st2_at]) (fun j hj => by rw [st2_row (by decide), st2_ne hj]) (by rw [st2_at, if_pos hk3]) (by rw [st2_ne (by decide), rw8, if_pos hk3]; omega) ⟨by rw [st2_ne (by decide), st2_row (by decide)]; exact h6, ?_⟩
       rw [st2_ne (by decide), st2_row (by decide), st2_ne (by decide), st2_row (by decide)]
       exact hT.2)
    | (have hk3 : ¬ kdR (co p) = 3 := by omega
       rw [rw8]
       refine fin _ (fun r a b => by rw [st2_row a, st2_row b]) (by rw [st2_ne (by decide), st2_row (by decide)]) (by rw [st2_row (by decide), st2_at]) (fun j hj => by rw [st2_row (by decide), st2_ne hj]) (by rw [st2_ne (by decide), rw7, if_neg hk3]; omega) (by rw [st2_at, if_neg hk3]) ⟨by rw [st2_ne (by decide), st2_row (by decide)]; exact h6, ?_⟩
       rw [st2_ne (by decide), st2_row (by decide), st2_ne (by decide), st2_row (by decide)]
       exact hT.2)
/-- an item of the text stands in the class's rows -/
def ItC (D : DD) (item : Nat) (k x y v : Int) : Prop := D 11 item = k ∧ D 12 item = x ∧ D 13 item = y ∧ D 14 item = v
theorem c_readItem {item hc cc : Nat} (hK : TxK D n co) (hT : TS D (-1) p) (hp : p ≤ 800) (hi : item < 15) (h7 : D 10 7 = hc) (h8 : D 10 8 = cc) (hb : hc ≤ 10 ∧ cc ≤ 5) (hk : ∀ D' : DD, (∀ r, (r < 10 ∨ 14 < r) → D' r = D r) → D' 10 5 = D 10 5 → ItC D' item (kC (co p)) (nVal co (p + 1)) (nVal co (q2 co p + 1)) (nVal co (q4 co p + 1)) → (∀ j, j ≠ item → D' 11 j = D 11 j ∧ D' 12 j = D 12 j ∧ D' 13 j = D 13 j ∧ D' 14 j = D 14 j) → D' 10 7 = hc + (if kdR (co p) = 3 then 1 else 0) → D' 10 8 = cc + (if kdR (co p) = 3 then 0 else 1) → TS D' (itF co p hc cc) (itE co p) → P none SH D') : TM g mX2_readItem (d + 3) P [.ref 10, iI item] D := by
  obtain ⟨c1, c2, c3, c4, c5⟩ := kC_eq (co p)
  have ei : (item : Int).toNat = item := Int.toNat_natCast item
  have le := itE_le co p
  have l1 := nLen_le co (p + 1)
  refine T_aload_n dX2_readItem_0 rfl ?_
  refine T_iload_n dX2_readItem_1 rfl ?_
  refine T_cV_1 dX2_readItem_2 lkX2_77 rfl (Nat.le_of_ble_eq_true rfl) (RO_r (by decide)) (Nat.le_of_ble_eq_true rfl) ?_
  refine c_readKind hK hT (by omega) hi h7 h8 hb (fun D1 f1 f2 f3 f4 f5 f6 t1 => ?_)
  have hK1 : TxK D1 n co := hK.of f2 (f1 15 (by decide) (by decide))
  refine T_aload_n dX2_readItem_5 rfl ?_
  refine T_getR dX2_readItem_6 flX2_15 rfl rfl ?_
  refine T_iload_n dX2_readItem_9 rfl ?_
  refine T_aload_n dX2_readItem_10 rfl ?_
  refine T_iconst dX2_readItem_11 ?_
  refine T_bipush dX2_readItem_12 (by decide) ?_
  refine T_cV_2 dX2_readItem_14 lkX2_80 rfl (Nat.le_of_ble_eq_true rfl) (RO_r (by decide)) (Nat.le_of_ble_eq_true rfl) ?_
  refine c_readNumber hK1 t1 (by omega) (by first | (unfold InR; omega) | (simp [st2, InR]; omega)) (by first | (unfold InR; omega) | (simp [st2, InR]; omega)) (fun D2 fr2 t2 => ?_)
  refine T_iast dX2_readItem_17 rfl (by first | decide | omega) (by first | omega | (simp [st2]; omega)) (by first | omega | (simp [st2]; omega)) ?_
  rw [ei]
  have hK3 : TxK (st2 D2 12 item (nVal co (p + 1))) n co := (hK1.fr fr2).of (by rw [st2_row (by decide)]) (st2_row (by decide))
  have t3 : TS (st2 D2 12 item (nVal co (p + 1))) (fs (fs (-1) (kOk (kdR (co p)) hc cc) p) (nOk co (p + 1) 0 60) (p + 1)) (q2 co p) := t2
  refine T_aload_n dX2_readItem_18 rfl ?_
  refine T_bipush dX2_readItem_19 (by decide) ?_
  refine T_cV_1 dX2_readItem_21 lkX2_49 rfl (Nat.le_of_ble_eq_true rfl) (RO_r (by decide)) (Nat.le_of_ble_eq_true rfl) ?_
  refine c_takeCode hK3 t3 (by omega) (by first | (unfold InR; omega) | (simp [st2, InR]; omega)) (fun D4 fr4 t4 => ?_)
  have hK4 := hK3.fr fr4
  refine T_aload_n dX2_readItem_24 rfl ?_
  refine T_getR dX2_readItem_25 flX2_18 rfl rfl ?_
  refine T_iload_n dX2_readItem_28 rfl ?_
  refine T_aload_n dX2_readItem_29 rfl ?_
  refine T_iconst dX2_readItem_30 ?_
  refine T_bipush dX2_readItem_31 (by decide) ?_
  refine T_cV_2 dX2_readItem_33 lkX2_80 rfl (Nat.le_of_ble_eq_true rfl) (RO_r (by decide)) (Nat.le_of_ble_eq_true rfl) ?_
  refine c_readNumber hK4 t4 (by omega) (by first | (unfold InR; omega) | (simp [st2, InR]; omega)) (by first | (unfold InR; omega) | (simp [st2, InR]; omega)) (fun D5 fr5 t5 => ?_)
  refine T_iast dX2_readItem_36 rfl (by first | decide | omega) (by first | omega | (simp [st2]; omega)) (by first | omega | (simp [st2]; omega)) ?_
  rw [ei]
  have hK6 : TxK (st2 D5 13 item (nVal co (q2 co p + 1))) n co := (hK4.fr fr5).of (by rw [st2_row (by decide)]) (st2_row (by decide))
  have t6 : TS (st2 D5 13 item (nVal co (q2 co p + 1))) (fs (itF3 co p hc cc) (nOk co (q2 co p + 1) 0 60) (q2 co p + 1)) (q4 co p) := t5
  have e11 : st2 D5 13 item (nVal co (q2 co p + 1)) 11 (item : Int).toNat = kC (co p) := by rw [ei, st2_row (by decide), fr5.1 11 (by decide), fr4.1 11 (by decide), st2_row (by decide), fr2.1 11 (by decide)]; exact f3
  refine T_aload_n dX2_readItem_37 rfl ?_
  refine T_getR dX2_readItem_38 flX2_9 rfl rfl ?_
  refine T_iload_n dX2_readItem_41 rfl ?_
  refine T_iald dX2_readItem_42 rfl (by first | decide | omega) (by first | omega | (simp [st2]; omega)) (by first | omega | (simp [st2]; omega)) ?_
  refine T_iconst dX2_readItem_43 ?_
  refine T_icmp_ne 68 dX2_readItem_44 (by decide) (by rw [e11]; unfold InR; omega) (by first | (unfold InR; omega) | (simp [st2, InR]; omega)) (fun hc44 => ?_) (fun hc44 => ?_)
  · rw [e11] at hc44
    have k3 : ¬ kdR (co p) = 3 := by omega
    have s1 : sgn (kdR (co p)) = 61 := by unfold sgn; rw [if_neg k3]
    have s2 : loT (kdR (co p)) = 0 := by unfold loT; rw [if_neg k3]
    have s3 : hiT (kdR (co p)) = 50 := by unfold hiT; rw [if_neg k3]
    refine T_aload_n dX2_readItem_68 rfl ?_
    refine T_bipush dX2_readItem_69 (by decide) ?_
    refine T_cV_1 dX2_readItem_71 lkX2_49 rfl (Nat.le_of_ble_eq_true rfl) (RO_r (by decide)) (Nat.le_of_ble_eq_true rfl) ?_
    refine c_takeCode hK6 t6 (by omega) (by first | (unfold InR; omega) | (simp [st2, InR]; omega)) (fun D7 fr7 t7 => ?_)
    have hK7 := hK6.fr fr7
    refine T_aload_n dX2_readItem_74 rfl ?_
    refine T_getR dX2_readItem_75 flX2_21 rfl rfl ?_
    refine T_iload_n dX2_readItem_78 rfl ?_
    refine T_aload_n dX2_readItem_79 rfl ?_
    refine T_iconst dX2_readItem_80 ?_
    refine T_bipush dX2_readItem_81 (by decide) ?_
    refine T_cV_2 dX2_readItem_83 lkX2_80 rfl (Nat.le_of_ble_eq_true rfl) (RO_r (by decide)) (Nat.le_of_ble_eq_true rfl) ?_
    refine c_readNumber hK7 t7 (by omega) (by first | (unfold InR; omega) | (simp [st2, InR]; omega)) (by first | (unfold InR; omega) | (simp [st2, InR]; omega)) (fun D8 fr8 t8 => ?_)
    refine T_iast dX2_readItem_86 rfl (by first | decide | omega) (by first | omega | (simp [st2]; omega)) (by first | omega | (simp [st2]; omega)) ?_
    refine T_vret dX2_readItem_87 rfl ?_
    rw [ei]
    have t9 : TS (st2 D8 14 item (nVal co (q4 co p + 1))) (itF co p hc cc) (itE co p) := by unfold itF; rw [s1, s2, s3]; exact t8
    have row : ∀ r, r ≠ 10 → r ≠ 12 → r ≠ 13 → r ≠ 14 → st2 D8 14 item (nVal co (q4 co p + 1)) r = D1 r := fun r a b c e => by
      rw [st2_row e, fr8.1 r a, fr7.1 r a, st2_row c, fr5.1 r a, fr4.1 r a, st2_row b, fr2.1 r a]
    have row10 : ∀ j, j ≠ 6 → j ≠ 9 → j ≠ 10 → st2 D8 14 item (nVal co (q4 co p + 1)) 10 j = D1 10 j := fun j a b c => by
      rw [st2_row (by decide), fr8.2 j a b c, fr7.2 j a b c, st2_row (by decide), fr5.2 j a b c, fr4.2 j a b c, st2_row (by decide), fr2.2 j a b c]
    have r12 : st2 D8 14 item (nVal co (q4 co p + 1)) 12 = st2 D2 12 item (nVal co (p + 1)) 12 := by
      rw [st2_row (by decide), fr8.1 12 (by decide), fr7.1 12 (by decide), st2_row (by decide), fr5.1 12 (by decide), fr4.1 12 (by decide)]
    have r13 : st2 D8 14 item (nVal co (q4 co p + 1)) 13 = st2 D5 13 item (nVal co (q2 co p + 1)) 13 := by
      rw [st2_row (by decide), fr8.1 13 (by decide), fr7.1 13 (by decide)]
    refine hk _ (fun r hr => ?_) ?_ ⟨?_, ?_, ?_, st2_at⟩ (fun j hj => ⟨?_, ?_, ?_, ?_⟩) ?_ ?_ t9
    · rw [row r (by omega) (by omega) (by omega) (by omega)]; exact f1 r (by omega) (by omega)
    · rw [row10 5 (by decide) (by decide) (by decide)]; exact f2
    · rw [row 11 (by decide) (by decide) (by decide) (by decide)]; exact f3
    · rw [r12, st2_at]
    · rw [r13, st2_at]
    · rw [row 11 (by decide) (by decide) (by decide) (by decide)]; exact f4 j hj
    · rw [r12, st2_ne hj, fr2.1 12 (by decide), f1 12 (by decide) (by decide)]
    · rw [r13, st2_ne hj, fr5.1 13 (by decide), fr4.1 13 (by decide), st2_row (by decide), fr2.1 13 (by decide), f1 13 (by decide) (by decide)]
    · rw [st2_ne hj, fr8.1 14 (by decide), fr7.1 14 (by decide), st2_row (by decide), fr5.1 14 (by decide), fr4.1 14 (by decide), st2_row (by decide), fr2.1 14 (by decide), f1 14 (by decide) (by decide)]
    · rw [row10 7 (by decide) (by decide) (by decide)]; exact f5
    · rw [row10 8 (by decide) (by decide) (by decide)]; exact f6
  · rw [e11] at hc44
    have k3 : kdR (co p) = 3 := by omega
    have s1 : sgn (kdR (co p)) = 42 := by unfold sgn; rw [if_pos k3]
    have s2 : loT (kdR (co p)) = 1 := by unfold loT; rw [if_pos k3]
    have s3 : hiT (kdR (co p)) = 5 := by unfold hiT; rw [if_pos k3]
    refine T_aload_n dX2_readItem_47 rfl ?_
    refine T_bipush dX2_readItem_48 (by decide) ?_
    refine T_cV_1 dX2_readItem_50 lkX2_49 rfl (Nat.le_of_ble_eq_true rfl) (RO_r (by decide)) (Nat.le_of_ble_eq_true rfl) ?_
    refine c_takeCode hK6 t6 (by omega) (by first | (unfold InR; omega) | (simp [st2, InR]; omega)) (fun D7 fr7 t7 => ?_)
    have hK7 := hK6.fr fr7
    refine T_aload_n dX2_readItem_53 rfl ?_
    refine T_getR dX2_readItem_54 flX2_21 rfl rfl ?_
    refine T_iload_n dX2_readItem_57 rfl ?_
    refine T_aload_n dX2_readItem_58 rfl ?_
    refine T_iconst dX2_readItem_59 ?_
    refine T_iconst dX2_readItem_60 ?_
    refine T_cV_2 dX2_readItem_61 lkX2_80 rfl (Nat.le_of_ble_eq_true rfl) (RO_r (by decide)) (Nat.le_of_ble_eq_true rfl) ?_
    refine c_readNumber hK7 t7 (by omega) (by first | (unfold InR; omega) | (simp [st2, InR]; omega)) (by first | (unfold InR; omega) | (simp [st2, InR]; omega)) (fun D8 fr8 t8 => ?_)
    refine T_iast dX2_readItem_64 rfl (by first | decide | omega) (by first | omega | (simp [st2]; omega)) (by first | omega | (simp [st2]; omega)) ?_
    refine T_goto (tgt := 87) dX2_readItem_65 (by decide) ?_
    refine T_vret dX2_readItem_87 rfl ?_
    rw [ei]
    have t9 : TS (st2 D8 14 item (nVal co (q4 co p + 1))) (itF co p hc cc) (itE co p) := by unfold itF; rw [s1, s2, s3]; exact t8
    have row : ∀ r, r ≠ 10 → r ≠ 12 → r ≠ 13 → r ≠ 14 → st2 D8 14 item (nVal co (q4 co p + 1)) r = D1 r := fun r a b c e => by
      rw [st2_row e, fr8.1 r a, fr7.1 r a, st2_row c, fr5.1 r a, fr4.1 r a, st2_row b, fr2.1 r a]
    have row10 : ∀ j, j ≠ 6 → j ≠ 9 → j ≠ 10 → st2 D8 14 item (nVal co (q4 co p + 1)) 10 j = D1 10 j := fun j a b c => by
      rw [st2_row (by decide), fr8.2 j a b c, fr7.2 j a b c, st2_row (by decide), fr5.2 j a b c, fr4.2 j a b c, st2_row (by decide), fr2.2 j a b c]
    have r12 : st2 D8 14 item (nVal co (q4 co p + 1)) 12 = st2 D2 12 item (nVal co (p + 1)) 12 := by
      rw [st2_row (by decide), fr8.1 12 (by decide), fr7.1 12 (by decide), st2_row (by decide), fr5.1 12 (by decide), fr4.1 12 (by decide)]
    have r13 : st2 D8 14 item (nVal co (q4 co p + 1)) 13 = st2 D5 13 item (nVal co (q2 co p + 1)) 13 := by
      rw [st2_row (by decide), fr8.1 13 (by decide), fr7.1 13 (by decide)]
    refine hk _ (fun r hr => ?_) ?_ ⟨?_, ?_, ?_, st2_at⟩ (fun j hj => ⟨?_, ?_, ?_, ?_⟩) ?_ ?_ t9
    · rw [row r (by omega) (by omega) (by omega) (by omega)]; exact f1 r (by omega) (by omega)
    · rw [row10 5 (by decide) (by decide) (by decide)]; exact f2
    · rw [row 11 (by decide) (by decide) (by decide) (by decide)]; exact f3
    · rw [r12, st2_at]
    · rw [r13, st2_at]
    · rw [row 11 (by decide) (by decide) (by decide) (by decide)]; exact f4 j hj
    · rw [r12, st2_ne hj, fr2.1 12 (by decide), f1 12 (by decide) (by decide)]
    · rw [r13, st2_ne hj, fr5.1 13 (by decide), fr4.1 13 (by decide), st2_row (by decide), fr2.1 13 (by decide), f1 13 (by decide) (by decide)]
    · rw [st2_ne hj, fr8.1 14 (by decide), fr7.1 14 (by decide), st2_row (by decide), fr5.1 14 (by decide), fr4.1 14 (by decide), st2_row (by decide), fr2.1 14 (by decide), f1 14 (by decide) (by decide)]
    · rw [row10 7 (by decide) (by decide) (by decide)]; exact f5
    · rw [row10 8 (by decide) (by decide) (by decide)]; exact f6
end

