theorem sheet_at {k : Int} (h0 : 0 ≤ k) (h1 : k ≤ 3) : ([some (.ref 49), some (.ref 51), some (.ref 53), some (.ref 55)] : List (Option Value))[k.toNat]? = some (some (.ref (49 + 2 * k.toNat))) := by
  have h : k.toNat = 0 ∨ k.toNat = 1 ∨ k.toNat = 2 ∨ k.toNat = 3 := by omega
  rcases h with h | h | h | h <;> rw [h] <;> rfl
theorem shAt_k {n : Nat} (h : n < 4) : shAt (49 + 2 * n) := by
  have h : n = 0 ∨ n = 1 ∨ n = 2 ∨ n = 3 := by omega
  rcases h with h | h | h | h <;> subst h <;> exact ⟨rfl, rfl⟩
/-- the sheets, as the class has them -/
def SK (D : DD) : Prop := ∀ n : Nat, n < 4 → (D (49 + 2 * n) 1 = 0 ∨ D (49 + 2 * n) 1 = 1) ∧ (0 ≤ D (49 + 2 * n) 2 ∧ D (49 + 2 * n) 2 ≤ 2) ∧ (0 ≤ D (49 + 2 * n) 3 ∧ D (49 + 2 * n) 3 ≤ 80) ∧ ∀ j, InR (D (49 + 2 * n + 1) j)
/-- what a row of a lane answers, before its text is read: the answer and the fault -/
def rowR (has lane size l i n : Int) : Int × Int := if ¬ (0 ≤ l ∧ l ≤ 2) then (-2, 0) else if has = 0 then (-11, 1) else if lane ≠ l then (-12, 2) else if n < 0 then (-14, 4) else if 0 ≤ i ∧ i ≤ size ∧ n ≤ size - i then (0, 0) else (-13, 3)
section
variable {g : G0} {d : Nat} {P : Option Value → List SC → DD → Prop} {D : DD}
theorem c_refusalOfRow {k l i n : Int} (hS : SK D) (hk : InR k) (hl : InR l) (hi : InR i) (hn : InR n) (kU : ¬ (0 ≤ k ∧ k ≤ 3) → P (some (iI (-1))) SH (st2 D 0 10 0)) (kk : 0 ≤ k → k ≤ 3 → P (some (iI (rowR (D (49 + 2 * k.toNat) 1) (D (49 + 2 * k.toNat) 2) (D (49 + 2 * k.toNat) 3) l i n).1)) SH (st2 D 0 10 (rowR (D (49 + 2 * k.toNat) 1) (D (49 + 2 * k.toNat) 2) (D (49 + 2 * k.toNat) 3) l i n).2)) : TM g mX6_refusalOfRow (d + 2) P [.ref 0, iI k, iI l, iI i, iI n] D := by
  unfold rowR at kk
  have hn2 := hn
  have hl2 := hl
  unfold InR at hn2 hl2
  refine T_aload_n dX6_refusalOfRow_0 rfl ?_
  refine T_iconst dX6_refusalOfRow_1 ?_
  refine T_putI dX6_refusalOfRow_2 flX6_224 rfl rfl ?_
  refine T_iload_n dX6_refusalOfRow_5 rfl ?_
  refine T_cS_1 dX6_refusalOfRow_6 lkX6_227 (Nat.le_of_ble_eq_true rfl) (RO_r (by decide)) (Nat.le_of_ble_eq_true rfl) ?_
  refine c_isSheet hk (fun h1 h2 => ?_) (fun h1 => ?_)
  · refine T_if_ne 14 dX6_refusalOfRow_9 (by decide) (by unfold InR; decide) (fun _ => ?_) (fun h => absurd (by decide) h)
    refine T_iload_n dX6_refusalOfRow_14 rfl ?_
    refine T_cS_1 dX6_refusalOfRow_15 lkX6_230 (Nat.le_of_ble_eq_true rfl) (RO_r (by decide)) (Nat.le_of_ble_eq_true rfl) ?_
    refine c_isLane hl (fun h3 h4 => ?_) (fun h3 => ?_)
    · refine T_if_ne 24 dX6_refusalOfRow_18 (by decide) (by unfold InR; decide) (fun _ => ?_) (fun h => absurd (by decide) h)
      have hsh := shAt_k (n := k.toNat) (by omega)
      have kk := kk h1 h2
      rw [if_neg (by omega)] at kk
      obtain ⟨s1, s2, s3, -⟩ := hS k.toNat (by omega)
      generalize hD1 : st2 D 0 10 0 = D1
      have eo : D1 (49 + 2 * k.toNat) = D (49 + 2 * k.toNat) := by rw [← hD1]; exact st2_row (by omega)
      have e1 : D1 (49 + 2 * k.toNat) 1 = D (49 + 2 * k.toNat) 1 := by rw [eo]
      have e2 : D1 (49 + 2 * k.toNat) 2 = D (49 + 2 * k.toNat) 2 := by rw [eo]
      have e3 : D1 (49 + 2 * k.toNat) 3 = D (49 + 2 * k.toNat) 3 := by rw [eo]
      refine T_aload_n dX6_refusalOfRow_24 rfl ?_
      refine T_getR dX6_refusalOfRow_25 flX6_51 rfl rfl ?_
      refine T_iload_n dX6_refusalOfRow_28 rfl ?_
      refine T_aald dX6_refusalOfRow_29 rfl (by decide) (by first | omega | (simp [st2]; omega)) (by first | omega | (simp [st2]; omega)) (sheet_at h1 h2) ?_
      refine T_astore dX6_refusalOfRow_30 (by decide) ?_
      refine T_aload dX6_refusalOfRow_32 rfl ?_
      refine T_getI dX6_refusalOfRow_34 flX6_239 hsh.1 rfl ?_
      refine T_if_ne 46 dX6_refusalOfRow_37 (by decide) (by first | (unfold InR; omega) | (simp [st2, InR]; omega)) (fun hc37 => ?_) (fun hc37 => ?_)
      · refine T_aload dX6_refusalOfRow_46 rfl ?_
        refine T_getI dX6_refusalOfRow_48 flX6_249 hsh.1 rfl ?_
        refine T_iload_n dX6_refusalOfRow_51 rfl ?_
        refine T_icmp_eq 61 dX6_refusalOfRow_52 (by decide) (by first | (unfold InR; omega) | (simp [st2, InR]; omega)) (by first | (unfold InR; omega) | (simp [st2, InR]; omega)) (fun hc52 => ?_) (fun hc52 => ?_)
        · refine T_iload dX6_refusalOfRow_61 rfl ?_
          refine T_if_ge 72 dX6_refusalOfRow_63 (by decide) (by first | (unfold InR; omega) | (simp [st2, InR]; omega)) (fun hc63 => ?_) (fun hc63 => ?_)
          · refine T_aload dX6_refusalOfRow_72 rfl ?_
            refine T_iload_n dX6_refusalOfRow_74 rfl ?_
            refine T_iload dX6_refusalOfRow_75 rfl ?_
            refine T_cV_2 dX6_refusalOfRow_77 lkX6_252 hsh.1 (Nat.le_of_ble_eq_true rfl) (RO_r (by decide)) (Nat.le_of_ble_eq_true rfl) ?_
            refine c_hasCells hsh hi hn (by omega) (fun h5 h6 h7 => ?_) (fun h5 => ?_)
            · refine T_if_eq 87 dX6_refusalOfRow_80 (by decide) (by unfold InR; decide) (fun h => absurd h (by decide)) (fun _ => ?_)
              refine T_iconst dX6_refusalOfRow_83 ?_
              refine T_goto (tgt := 92) dX6_refusalOfRow_84 (by decide) ?_
              refine T_iret dX6_refusalOfRow_92 rfl ?_
              rw [if_neg (by omega), if_neg (by omega), if_neg (by omega)] at kk
              first | (rw [if_pos (by omega)] at kk; rw [← hD1]; exact kk) | (rw [if_neg (by omega)] at kk; rw [← hD1, st2_st2]; exact kk)
            · refine T_if_eq 87 dX6_refusalOfRow_80 (by decide) (by unfold InR; decide) (fun _ => ?_) (fun h => absurd (by decide) h)
              refine T_aload_n dX6_refusalOfRow_87 rfl ?_
              refine T_iconst dX6_refusalOfRow_88 ?_
              refine T_cV_1 dX6_refusalOfRow_89 lkX6_233 rfl (Nat.le_of_ble_eq_true rfl) (RO_r (by decide)) (Nat.le_of_ble_eq_true rfl) ?_
              refine c_faulty ?_
              refine T_iret dX6_refusalOfRow_92 rfl ?_
              rw [if_neg (by omega), if_neg (by omega), if_neg (by omega)] at kk
              first | (rw [if_pos (by omega)] at kk; rw [← hD1]; exact kk) | (rw [if_neg (by omega)] at kk; rw [← hD1, st2_st2]; exact kk)
          · refine T_aload_n dX6_refusalOfRow_66 rfl ?_
            refine T_iconst dX6_refusalOfRow_67 ?_
            refine T_cV_1 dX6_refusalOfRow_68 lkX6_233 rfl (Nat.le_of_ble_eq_true rfl) (RO_r (by decide)) (Nat.le_of_ble_eq_true rfl) ?_
            refine c_faulty ?_
            refine T_iret dX6_refusalOfRow_71 rfl ?_
            rw [if_neg (by omega), if_neg (by omega), if_pos (by omega)] at kk; rw [← hD1, st2_st2]; exact kk
        · refine T_aload_n dX6_refusalOfRow_55 rfl ?_
          refine T_iconst dX6_refusalOfRow_56 ?_
          refine T_cV_1 dX6_refusalOfRow_57 lkX6_233 rfl (Nat.le_of_ble_eq_true rfl) (RO_r (by decide)) (Nat.le_of_ble_eq_true rfl) ?_
          refine c_faulty ?_
          refine T_iret dX6_refusalOfRow_60 rfl ?_
          rw [if_neg (by omega), if_pos (by omega)] at kk; rw [← hD1, st2_st2]; exact kk
      · refine T_aload_n dX6_refusalOfRow_40 rfl ?_
        refine T_iconst dX6_refusalOfRow_41 ?_
        refine T_cV_1 dX6_refusalOfRow_42 lkX6_233 rfl (Nat.le_of_ble_eq_true rfl) (RO_r (by decide)) (Nat.le_of_ble_eq_true rfl) ?_
        refine c_faulty ?_
        refine T_iret dX6_refusalOfRow_45 rfl ?_
        rw [if_pos (by omega)] at kk; rw [← hD1, st2_st2]; exact kk
    · refine T_if_ne 24 dX6_refusalOfRow_18 (by decide) (by unfold InR; decide) (fun h => absurd h (by decide)) (fun _ => ?_)
      refine T_bipush dX6_refusalOfRow_21 (by decide) ?_
      refine T_iret dX6_refusalOfRow_23 rfl ?_
      (have kk := kk h1 h2; rw [if_pos (by omega)] at kk; exact kk)
  · refine T_if_ne 14 dX6_refusalOfRow_9 (by decide) (by unfold InR; decide) (fun h => absurd h (by decide)) (fun _ => ?_)
    refine T_iconst dX6_refusalOfRow_12 ?_
    refine T_iret dX6_refusalOfRow_13 rfl ?_
    exact kU (by omega)
theorem c_sheet {k l n : Int} (hk : InR k) (hl : InR l) (hn : InR n) (kU : ¬ (0 ≤ k ∧ k ≤ 3) → P (some (iI (-1))) SH (st2 D 0 10 0)) (kO : 0 ≤ k → k ≤ 3 → ¬ (0 ≤ l ∧ l ≤ 2 ∧ n ≤ 80) → P (some (iI (-2))) SH (st2 D 0 10 0)) (kZ : 0 ≤ k → k ≤ 3 → (0 ≤ l ∧ l ≤ 2 ∧ n ≤ 80) → n < 0 → P (some (iI (-14))) SH (st2 D 0 10 4))
    (kk : 0 ≤ k → k ≤ 3 → (0 ≤ l ∧ l ≤ 2 ∧ n ≤ 80) → 0 ≤ n → ∀ D' : DD, (∀ j, j < 80 → D' (49 + 2 * k.toNat + 1) j = 0) → (∀ a, a ≠ 49 + 2 * k.toNat → a ≠ 49 + 2 * k.toNat + 1 → D' a = st2 D 0 10 0 a) → D' (49 + 2 * k.toNat) 1 = 1 → D' (49 + 2 * k.toNat) 2 = l → D' (49 + 2 * k.toNat) 3 = n → P (some (iI 1)) SH D') : TM g mX6_sheet (d + 2) P [.ref 0, iI k, iI l, iI n] D := by
  have hn2 := hn
  unfold InR at hn2
  rw [← st2_st2 D 0 10 0 4] at kZ
  refine T_aload_n dX6_sheet_0 rfl ?_
  refine T_iconst dX6_sheet_1 ?_
  refine T_putI dX6_sheet_2 flX6_224 rfl rfl ?_
  refine T_iload_n dX6_sheet_5 rfl ?_
  refine T_cS_1 dX6_sheet_6 lkX6_227 (Nat.le_of_ble_eq_true rfl) (RO_r (by decide)) (Nat.le_of_ble_eq_true rfl) ?_
  refine c_isSheet hk (fun h1 h2 => ?_) (fun h1 => ?_)
  · refine T_if_ne 14 dX6_sheet_9 (by decide) (by unfold InR; decide) (fun _ => ?_) (fun h => absurd (by decide) h)
    refine T_iload_n dX6_sheet_14 rfl ?_
    refine T_cS_1 dX6_sheet_15 lkX6_230 (Nat.le_of_ble_eq_true rfl) (RO_r (by decide)) (Nat.le_of_ble_eq_true rfl) ?_
    refine c_isLane hl (fun h3 h4 => ?_) (fun h3 => ?_)
    · refine T_if_eq 27 dX6_sheet_18 (by decide) (by unfold InR; decide) (fun h => absurd h (by decide)) (fun _ => ?_)
      refine T_iload_n dX6_sheet_21 rfl ?_
      refine T_bipush dX6_sheet_22 (by decide) ?_
      refine T_icmp_le 30 dX6_sheet_24 (by decide) (by first | (unfold InR; omega) | (simp [st2, InR]; omega)) (by first | (unfold InR; omega) | (simp [st2, InR]; omega)) (fun hc24 => ?_) (fun hc24 => ?_)
      · refine T_iload_n dX6_sheet_30 rfl ?_
        refine T_if_ge 40 dX6_sheet_31 (by decide) (by first | (unfold InR; omega) | (simp [st2, InR]; omega)) (fun hc31 => ?_) (fun hc31 => ?_)
        · have hsh := shAt_k (n := k.toNat) (by omega)
          refine T_aload_n dX6_sheet_40 rfl ?_
          refine T_getR dX6_sheet_41 flX6_51 rfl rfl ?_
          refine T_iload_n dX6_sheet_44 rfl ?_
          refine T_aald dX6_sheet_45 rfl (by decide) (by first | omega | (simp [st2]; omega)) (by first | omega | (simp [st2]; omega)) (sheet_at h1 h2) ?_
          refine T_iload_n dX6_sheet_46 rfl ?_
          refine T_iload_n dX6_sheet_47 rfl ?_
          refine T_cV_2 dX6_sheet_48 lkX6_236 hsh.1 (Nat.le_of_ble_eq_true rfl) (RO_r (by decide)) (Nat.le_of_ble_eq_true rfl) ?_
          refine c_renew hsh (fun D' q1 q2 q3 q4 q5 => ?_)
          refine T_iconst dX6_sheet_51 ?_
          refine T_iret dX6_sheet_52 rfl ?_
          exact kk h1 h2 (by omega) (by omega) D' q1 q2 q3 q4 q5
        · refine T_aload_n dX6_sheet_34 rfl ?_
          refine T_iconst dX6_sheet_35 ?_
          refine T_cV_1 dX6_sheet_36 lkX6_233 rfl (Nat.le_of_ble_eq_true rfl) (RO_r (by decide)) (Nat.le_of_ble_eq_true rfl) ?_
          refine c_faulty ?_
          refine T_iret dX6_sheet_39 rfl ?_
          exact kZ h1 h2 (by omega) (by omega)
      · refine T_bipush dX6_sheet_27 (by decide) ?_
        refine T_iret dX6_sheet_29 rfl ?_
        exact kO h1 h2 (by omega)
    · refine T_if_eq 27 dX6_sheet_18 (by decide) (by unfold InR; decide) (fun _ => ?_) (fun h => absurd (by decide) h)
      refine T_bipush dX6_sheet_27 (by decide) ?_
      refine T_iret dX6_sheet_29 rfl ?_
      exact kO h1 h2 (by omega)
  · refine T_if_ne 14 dX6_sheet_9 (by decide) (by unfold InR; decide) (fun h => absurd h (by decide)) (fun _ => ?_)
    refine T_iconst dX6_sheet_12 ?_
    refine T_iret dX6_sheet_13 rfl ?_
    exact kU (by omega)
theorem c_lose {k : Int} (hS : SK D) (hk : InR k) (kU : ¬ (0 ≤ k ∧ k ≤ 3) → P (some (iI (-1))) SH D) (k0 : 0 ≤ k → k ≤ 3 → D (49 + 2 * k.toNat) 1 = 0 → P (some (iI 0)) SH D) (k1 : 0 ≤ k → k ≤ 3 → D (49 + 2 * k.toNat) 1 = 1 → P (some (iI 1)) SH (st2 D (49 + 2 * k.toNat) 1 0)) : TM g mX6_lose (d + 2) P [.ref 0, iI k] D := by
  refine T_iload_n dX6_lose_0 rfl ?_
  refine T_cS_1 dX6_lose_1 lkX6_227 (Nat.le_of_ble_eq_true rfl) (RO_r (by decide)) (Nat.le_of_ble_eq_true rfl) ?_
  refine c_isSheet hk (fun h1 h2 => ?_) (fun h1 => ?_)
  · refine T_if_ne 9 dX6_lose_4 (by decide) (by unfold InR; decide) (fun _ => ?_) (fun h => absurd (by decide) h)
    have hsh := shAt_k (n := k.toNat) (by omega)
    obtain ⟨s1, -, -, -⟩ := hS k.toNat (by omega)
    refine T_aload_n dX6_lose_9 rfl ?_
    refine T_getR dX6_lose_10 flX6_51 rfl rfl ?_
    refine T_iload_n dX6_lose_13 rfl ?_
    refine T_aald dX6_lose_14 rfl (by decide) (by first | omega | (simp [st2]; omega)) (by first | omega | (simp [st2]; omega)) (sheet_at h1 h2) ?_
    refine T_getI dX6_lose_15 flX6_239 hsh.1 rfl ?_
    refine T_if_ne 23 dX6_lose_18 (by decide) (by first | (unfold InR; omega) | (simp [st2, InR]; omega)) (fun hc18 => ?_) (fun hc18 => ?_)
    · refine T_aload_n dX6_lose_23 rfl ?_
      refine T_getR dX6_lose_24 flX6_51 rfl rfl ?_
      refine T_iload_n dX6_lose_27 rfl ?_
      refine T_aald dX6_lose_28 rfl (by decide) (by first | omega | (simp [st2]; omega)) (by first | omega | (simp [st2]; omega)) (sheet_at h1 h2) ?_
      refine T_iconst dX6_lose_29 ?_
      refine T_putZ dX6_lose_30 flX6_239 hsh.1 rfl (by decide) ?_
      refine T_iconst dX6_lose_33 ?_
      refine T_iret dX6_lose_34 rfl ?_
      exact k1 h1 h2 (by omega)
    · refine T_iconst dX6_lose_21 ?_
      refine T_iret dX6_lose_22 rfl ?_
      exact k0 h1 h2 (by omega)
  · refine T_if_ne 9 dX6_lose_4 (by decide) (by unfold InR; decide) (fun h => absurd h (by decide)) (fun _ => ?_)
    refine T_iconst dX6_lose_7 ?_
    refine T_iret dX6_lose_8 rfl ?_
    exact kU (by omega)
theorem c_put {k i v : Int} (hS : SK D) (hk : InR k) (hi : InR i) (kU : ¬ (0 ≤ k ∧ k ≤ 3) → P (some (iI (-1))) SH (st2 D 0 10 0)) (kN : 0 ≤ k → k ≤ 3 → D (49 + 2 * k.toNat) 1 = 0 → P (some (iI (-11))) SH (st2 D 0 10 1)) (kI : 0 ≤ k → k ≤ 3 → D (49 + 2 * k.toNat) 1 = 1 → ¬ (0 ≤ i ∧ i < D (49 + 2 * k.toNat) 3) → P (some (iI (-13))) SH (st2 D 0 10 3)) (kk : 0 ≤ k → k ≤ 3 → D (49 + 2 * k.toNat) 1 = 1 → 0 ≤ i → i < D (49 + 2 * k.toNat) 3 → P (some (iI 1)) SH (st2 (st2 D 0 10 0) (49 + 2 * k.toNat + 1) i.toNat (laned (D (49 + 2 * k.toNat) 2) v))) : TM g mX6_put (d + 2) P [.ref 0, iI k, iI i, iI v] D := by
  refine T_aload_n dX6_put_0 rfl ?_
  refine T_iconst dX6_put_1 ?_
  refine T_putI dX6_put_2 flX6_224 rfl rfl ?_
  refine T_iload_n dX6_put_5 rfl ?_
  refine T_cS_1 dX6_put_6 lkX6_227 (Nat.le_of_ble_eq_true rfl) (RO_r (by decide)) (Nat.le_of_ble_eq_true rfl) ?_
  refine c_isSheet hk (fun h1 h2 => ?_) (fun h1 => ?_)
  · refine T_if_ne 14 dX6_put_9 (by decide) (by unfold InR; decide) (fun _ => ?_) (fun h => absurd (by decide) h)
    have hsh := shAt_k (n := k.toNat) (by omega)
    obtain ⟨s1, s2, s3, -⟩ := hS k.toNat (by omega)
    have kk := kk h1 h2
    generalize hD1 : st2 D 0 10 0 = D1 at kk ⊢
    have eo : D1 (49 + 2 * k.toNat) = D (49 + 2 * k.toNat) := by rw [← hD1]; exact st2_row (by omega)
    have e1 : D1 (49 + 2 * k.toNat) 1 = D (49 + 2 * k.toNat) 1 := by rw [eo]
    have e2 : D1 (49 + 2 * k.toNat) 2 = D (49 + 2 * k.toNat) 2 := by rw [eo]
    have e3 : D1 (49 + 2 * k.toNat) 3 = D (49 + 2 * k.toNat) 3 := by rw [eo]
    refine T_aload_n dX6_put_14 rfl ?_
    refine T_getR dX6_put_15 flX6_51 rfl rfl ?_
    refine T_iload_n dX6_put_18 rfl ?_
    refine T_aald dX6_put_19 rfl (by decide) (by first | omega | (simp [st2]; omega)) (by first | omega | (simp [st2]; omega)) (sheet_at h1 h2) ?_
    refine T_getI dX6_put_20 flX6_239 hsh.1 rfl ?_
    refine T_if_ne 32 dX6_put_23 (by decide) (by first | (unfold InR; omega) | (simp [st2, InR]; omega)) (fun hc23 => ?_) (fun hc23 => ?_)
    · refine T_aload_n dX6_put_32 rfl ?_
      refine T_getR dX6_put_33 flX6_51 rfl rfl ?_
      refine T_iload_n dX6_put_36 rfl ?_
      refine T_aald dX6_put_37 rfl (by decide) (by first | omega | (simp [st2]; omega)) (by first | omega | (simp [st2]; omega)) (sheet_at h1 h2) ?_
      refine T_iload_n dX6_put_38 rfl ?_
      refine T_cV_1 dX6_put_39 lkX6_243 hsh.1 (Nat.le_of_ble_eq_true rfl) (RO_r (by decide)) (Nat.le_of_ble_eq_true rfl) ?_
      refine c_hasCell hsh hi (by first | (unfold InR; omega) | (simp [st2, InR]; omega)) (fun h3 h4 => ?_) (fun h3 => ?_)
      · refine T_if_ne 51 dX6_put_42 (by decide) (by unfold InR; decide) (fun _ => ?_) (fun h => absurd (by decide) h)
        refine T_aload_n dX6_put_51 rfl ?_
        refine T_getR dX6_put_52 flX6_51 rfl rfl ?_
        refine T_iload_n dX6_put_55 rfl ?_
        refine T_aald dX6_put_56 rfl (by decide) (by first | omega | (simp [st2]; omega)) (by first | omega | (simp [st2]; omega)) (sheet_at h1 h2) ?_
        refine T_iload_n dX6_put_57 rfl ?_
        refine T_iload_n dX6_put_58 rfl ?_
        refine T_cV_2 dX6_put_59 lkX6_246 hsh.1 (Nat.le_of_ble_eq_true rfl) (RO_r (by decide)) (Nat.le_of_ble_eq_true rfl) ?_
        refine c_setCell hsh (by omega) (by first | (unfold InR; omega) | (simp [st2, InR]; omega)) ?_
        refine T_iconst dX6_put_62 ?_
        refine T_iret dX6_put_63 rfl ?_
        rw [e2]; exact kk (by omega) h3 (by omega)
      · refine T_if_ne 51 dX6_put_42 (by decide) (by unfold InR; decide) (fun h => absurd h (by decide)) (fun _ => ?_)
        refine T_aload_n dX6_put_45 rfl ?_
        refine T_iconst dX6_put_46 ?_
        refine T_cV_1 dX6_put_47 lkX6_233 rfl (Nat.le_of_ble_eq_true rfl) (RO_r (by decide)) (Nat.le_of_ble_eq_true rfl) ?_
        refine c_faulty ?_
        refine T_iret dX6_put_50 rfl ?_
        rw [← hD1, st2_st2]; exact kI h1 h2 (by omega) (by omega)
    · refine T_aload_n dX6_put_26 rfl ?_
      refine T_iconst dX6_put_27 ?_
      refine T_cV_1 dX6_put_28 lkX6_233 rfl (Nat.le_of_ble_eq_true rfl) (RO_r (by decide)) (Nat.le_of_ble_eq_true rfl) ?_
      refine c_faulty ?_
      refine T_iret dX6_put_31 rfl ?_
      rw [← hD1, st2_st2]; exact kN h1 h2 (by omega)
  · refine T_if_ne 14 dX6_put_9 (by decide) (by unfold InR; decide) (fun h => absurd h (by decide)) (fun _ => ?_)
    refine T_iconst dX6_put_12 ?_
    refine T_iret dX6_put_13 rfl ?_
    exact kU (by omega)
theorem c_cell {k i l : Int} (hS : SK D) (hk : InR k) (hi : InR i) (hl : InR l) (kO : ¬ (0 ≤ k ∧ k ≤ 3 ∧ 0 ≤ l ∧ l ≤ 2) → P (some (lI (-9223372036854775808))) SH (st2 D 0 10 0)) (kN : (0 ≤ k ∧ k ≤ 3 ∧ 0 ≤ l ∧ l ≤ 2) → D (49 + 2 * k.toNat) 1 = 0 → P (some (lI (-9223372036854775808))) SH (st2 D 0 10 1)) (kC : (0 ≤ k ∧ k ≤ 3 ∧ 0 ≤ l ∧ l ≤ 2) → D (49 + 2 * k.toNat) 1 = 1 → D (49 + 2 * k.toNat) 2 ≠ l → P (some (lI (-9223372036854775808))) SH (st2 D 0 10 2)) (kI : (0 ≤ k ∧ k ≤ 3 ∧ 0 ≤ l ∧ l ≤ 2) → D (49 + 2 * k.toNat) 1 = 1 → D (49 + 2 * k.toNat) 2 = l → ¬ (0 ≤ i ∧ i < D (49 + 2 * k.toNat) 3) → P (some (lI (-9223372036854775808))) SH (st2 D 0 10 3))
    (kk : (0 ≤ k ∧ k ≤ 3 ∧ 0 ≤ l ∧ l ≤ 2) → D (49 + 2 * k.toNat) 1 = 1 → D (49 + 2 * k.toNat) 2 = l → 0 ≤ i → i < D (49 + 2 * k.toNat) 3 → P (some (lI (D (49 + 2 * k.toNat + 1) i.toNat))) SH (st2 D 0 10 0)) : TM g mX6_cell (d + 2) P [.ref 0, iI k, iI i, iI l] D := by
  have hl2 := hl
  unfold InR at hl2
  refine T_aload_n dX6_cell_0 rfl ?_
  refine T_iconst dX6_cell_1 ?_
  refine T_putI dX6_cell_2 flX6_224 rfl rfl ?_
  refine T_iload_n dX6_cell_5 rfl ?_
  refine T_cS_1 dX6_cell_6 lkX6_227 (Nat.le_of_ble_eq_true rfl) (RO_r (by decide)) (Nat.le_of_ble_eq_true rfl) ?_
  refine c_isSheet hk (fun h1 h2 => ?_) (fun h1 => ?_)
  · refine T_if_eq 19 dX6_cell_9 (by decide) (by unfold InR; decide) (fun h => absurd h (by decide)) (fun _ => ?_)
    refine T_iload_n dX6_cell_12 rfl ?_
    refine T_cS_1 dX6_cell_13 lkX6_230 (Nat.le_of_ble_eq_true rfl) (RO_r (by decide)) (Nat.le_of_ble_eq_true rfl) ?_
    refine c_isLane hl (fun h3 h4 => ?_) (fun h3 => ?_)
    · refine T_if_ne 23 dX6_cell_16 (by decide) (by unfold InR; decide) (fun _ => ?_) (fun h => absurd (by decide) h)
      have hsh := shAt_k (n := k.toNat) (by omega)
      obtain ⟨s1, s2, s3, s4⟩ := hS k.toNat (by omega)
      have kk := kk ⟨h1, h2, h3, h4⟩
      generalize hD1 : st2 D 0 10 0 = D1 at kk ⊢
      have eo : D1 (49 + 2 * k.toNat) = D (49 + 2 * k.toNat) := by rw [← hD1]; exact st2_row (by omega)
      have e5 : D1 (49 + 2 * k.toNat + 1) = D (49 + 2 * k.toNat + 1) := by rw [← hD1]; exact st2_row (by omega)
      have e1 : D1 (49 + 2 * k.toNat) 1 = D (49 + 2 * k.toNat) 1 := by rw [eo]
      have e2 : D1 (49 + 2 * k.toNat) 2 = D (49 + 2 * k.toNat) 2 := by rw [eo]
      have e3 : D1 (49 + 2 * k.toNat) 3 = D (49 + 2 * k.toNat) 3 := by rw [eo]
      refine T_aload_n dX6_cell_23 rfl ?_
      refine T_getR dX6_cell_24 flX6_51 rfl rfl ?_
      refine T_iload_n dX6_cell_27 rfl ?_
      refine T_aald dX6_cell_28 rfl (by decide) (by first | omega | (simp [st2]; omega)) (by first | omega | (simp [st2]; omega)) (sheet_at h1 h2) ?_
      refine T_astore dX6_cell_29 (by decide) ?_
      refine T_aload dX6_cell_31 rfl ?_
      refine T_getI dX6_cell_33 flX6_239 hsh.1 rfl ?_
      refine T_if_ne 47 dX6_cell_36 (by decide) (by first | (unfold InR; omega) | (simp [st2, InR]; omega)) (fun hc36 => ?_) (fun hc36 => ?_)
      · refine T_aload dX6_cell_47 rfl ?_
        refine T_getI dX6_cell_49 flX6_249 hsh.1 rfl ?_
        refine T_iload_n dX6_cell_52 rfl ?_
        refine T_icmp_eq 64 dX6_cell_53 (by decide) (by first | (unfold InR; omega) | (simp [st2, InR]; omega)) (by first | (unfold InR; omega) | (simp [st2, InR]; omega)) (fun hc53 => ?_) (fun hc53 => ?_)
        · refine T_aload dX6_cell_64 rfl ?_
          refine T_iload_n dX6_cell_66 rfl ?_
          refine T_cV_1 dX6_cell_67 lkX6_243 hsh.1 (Nat.le_of_ble_eq_true rfl) (RO_r (by decide)) (Nat.le_of_ble_eq_true rfl) ?_
          refine c_hasCell hsh hi (by first | (unfold InR; omega) | (simp [st2, InR]; omega)) (fun h5 h6 => ?_) (fun h5 => ?_)
          · refine T_if_ne 81 dX6_cell_70 (by decide) (by unfold InR; decide) (fun _ => ?_) (fun h => absurd (by decide) h)
            refine T_aload dX6_cell_81 rfl ?_
            refine T_getR dX6_cell_83 flX6_98 hsh.1 rfl ?_
            refine T_iload_n dX6_cell_86 rfl ?_
            refine T_iald dX6_cell_87 hsh.2 (by first | decide | omega) (by first | omega | (simp [st2]; omega)) (by first | omega | (simp [st2]; omega)) ?_
            refine T_i2l dX6_cell_88 (by rw [e5]; exact s4 _) ?_
            refine T_lret dX6_cell_89 rfl ?_
            rw [e5]; exact kk (by omega) (by omega) h5 (by omega)
          · refine T_if_ne 81 dX6_cell_70 (by decide) (by unfold InR; decide) (fun h => absurd h (by decide)) (fun _ => ?_)
            refine T_aload_n dX6_cell_73 rfl ?_
            refine T_iconst dX6_cell_74 ?_
            refine T_putI dX6_cell_75 flX6_224 rfl rfl ?_
            refine T_goto (tgt := 90) dX6_cell_78 (by decide) ?_
            refine T_ldc2 (n := -9223372036854775808) dX6_cell_90 (by rw [show Int64.ofInt (-9223372036854775808) = (-9223372036854775808 : Int64) by decide]; exact tk_623) ?_
            refine T_lret dX6_cell_93 rfl ?_
            rw [← hD1, st2_st2]
            first | exact kN (by omega) (by omega) | exact kC (by omega) (by omega) (by omega) | exact kI (by omega) (by omega) (by omega) (by omega)
        · refine T_aload_n dX6_cell_56 rfl ?_
          refine T_iconst dX6_cell_57 ?_
          refine T_putI dX6_cell_58 flX6_224 rfl rfl ?_
          refine T_goto (tgt := 90) dX6_cell_61 (by decide) ?_
          refine T_ldc2 (n := -9223372036854775808) dX6_cell_90 (by rw [show Int64.ofInt (-9223372036854775808) = (-9223372036854775808 : Int64) by decide]; exact tk_623) ?_
          refine T_lret dX6_cell_93 rfl ?_
          rw [← hD1, st2_st2]
          first | exact kN (by omega) (by omega) | exact kC (by omega) (by omega) (by omega) | exact kI (by omega) (by omega) (by omega) (by omega)
      · refine T_aload_n dX6_cell_39 rfl ?_
        refine T_iconst dX6_cell_40 ?_
        refine T_putI dX6_cell_41 flX6_224 rfl rfl ?_
        refine T_goto (tgt := 90) dX6_cell_44 (by decide) ?_
        refine T_ldc2 (n := -9223372036854775808) dX6_cell_90 (by rw [show Int64.ofInt (-9223372036854775808) = (-9223372036854775808 : Int64) by decide]; exact tk_623) ?_
        refine T_lret dX6_cell_93 rfl ?_
        rw [← hD1, st2_st2]
        first | exact kN (by omega) (by omega) | exact kC (by omega) (by omega) (by omega) | exact kI (by omega) (by omega) (by omega) (by omega)
    · refine T_if_ne 23 dX6_cell_16 (by decide) (by unfold InR; decide) (fun h => absurd h (by decide)) (fun _ => ?_)
      refine T_ldc2 (n := -9223372036854775808) dX6_cell_19 (by rw [show Int64.ofInt (-9223372036854775808) = (-9223372036854775808 : Int64) by decide]; exact tk_623) ?_
      refine T_lret dX6_cell_22 rfl ?_
      exact kO (by omega)
  · refine T_if_eq 19 dX6_cell_9 (by decide) (by unfold InR; decide) (fun _ => ?_) (fun h => absurd (by decide) h)
    refine T_ldc2 (n := -9223372036854775808) dX6_cell_19 (by rw [show Int64.ofInt (-9223372036854775808) = (-9223372036854775808 : Int64) by decide]; exact tk_623) ?_
    refine T_lret dX6_cell_22 rfl ?_
    exact kO (by omega)
theorem c_copy {k i o j n : Int} (hS : SK D) (hk : InR k) (hi : InR i) (ho : InR o) (hj : InR j) (hn : InR n) (kU : ¬ (0 ≤ k ∧ k ≤ 3 ∧ 0 ≤ o ∧ o ≤ 3) → P (some (iI (-1))) SH (st2 D 0 10 0)) (kN : (0 ≤ k ∧ k ≤ 3 ∧ 0 ≤ o ∧ o ≤ 3) → ¬ (D (49 + 2 * k.toNat) 1 = 1 ∧ D (49 + 2 * o.toNat) 1 = 1) → P (some (iI (-11))) SH (st2 D 0 10 1)) (kC : (0 ≤ k ∧ k ≤ 3 ∧ 0 ≤ o ∧ o ≤ 3) → (D (49 + 2 * k.toNat) 1 = 1 ∧ D (49 + 2 * o.toNat) 1 = 1) → D (49 + 2 * k.toNat) 2 ≠ D (49 + 2 * o.toNat) 2 → P (some (iI (-12))) SH (st2 D 0 10 2)) (kI : (0 ≤ k ∧ k ≤ 3 ∧ 0 ≤ o ∧ o ≤ 3) → (D (49 + 2 * k.toNat) 1 = 1 ∧ D (49 + 2 * o.toNat) 1 = 1) → D (49 + 2 * k.toNat) 2 = D (49 + 2 * o.toNat) 2 → ¬ (0 ≤ n ∧ 0 ≤ i ∧ i + n ≤ D (49 + 2 * k.toNat) 3 ∧ 0 ≤ j ∧ j + n ≤ D (49 + 2 * o.toNat) 3) → P (some (iI (-13))) SH (st2 D 0 10 3))
    (kk : (0 ≤ k ∧ k ≤ 3 ∧ 0 ≤ o ∧ o ≤ 3) → (D (49 + 2 * k.toNat) 1 = 1 ∧ D (49 + 2 * o.toNat) 1 = 1) → D (49 + 2 * k.toNat) 2 = D (49 + 2 * o.toNat) 2 → (0 ≤ n ∧ 0 ≤ i ∧ i + n ≤ D (49 + 2 * k.toNat) 3 ∧ 0 ≤ j ∧ j + n ≤ D (49 + 2 * o.toNat) 3) → P (some (iI n)) SH (cpD (st2 D 0 10 0) (49 + 2 * k.toNat + 1) i.toNat (49 + 2 * o.toNat + 1) j.toNat n.toNat)) : TM g mX6_copy (d + 2) P [.ref 0, iI k, iI i, iI o, iI j, iI n] D := by
  have hn2 := hn
  unfold InR at hn2
  refine T_aload_n dX6_copy_0 rfl ?_
  refine T_iconst dX6_copy_1 ?_
  refine T_putI dX6_copy_2 flX6_224 rfl rfl ?_
  refine T_iload_n dX6_copy_5 rfl ?_
  refine T_cS_1 dX6_copy_6 lkX6_227 (Nat.le_of_ble_eq_true rfl) (RO_r (by decide)) (Nat.le_of_ble_eq_true rfl) ?_
  refine c_isSheet hk (fun h1 h2 => ?_) (fun h1 => ?_)
  · refine T_if_eq 19 dX6_copy_9 (by decide) (by unfold InR; decide) (fun h => absurd h (by decide)) (fun _ => ?_)
    refine T_iload_n dX6_copy_12 rfl ?_
    refine T_cS_1 dX6_copy_13 lkX6_227 (Nat.le_of_ble_eq_true rfl) (RO_r (by decide)) (Nat.le_of_ble_eq_true rfl) ?_
    refine c_isSheet ho (fun h3 h4 => ?_) (fun h3 => ?_)
    · refine T_if_ne 21 dX6_copy_16 (by decide) (by unfold InR; decide) (fun _ => ?_) (fun h => absurd (by decide) h)
      have hsh := shAt_k (n := k.toNat) (by omega)
      have hsh2 := shAt_k (n := o.toNat) (by omega)
      obtain ⟨s1, s2, s3, -⟩ := hS k.toNat (by omega)
      obtain ⟨t1, t2, t3, -⟩ := hS o.toNat (by omega)
      have kk := kk ⟨h1, h2, h3, h4⟩
      generalize hD1 : st2 D 0 10 0 = D1 at kk ⊢
      have eo : D1 (49 + 2 * k.toNat) = D (49 + 2 * k.toNat) := by rw [← hD1]; exact st2_row (by omega)
      have eo2 : D1 (49 + 2 * o.toNat) = D (49 + 2 * o.toNat) := by rw [← hD1]; exact st2_row (by omega)
      have e1 : D1 (49 + 2 * k.toNat) 1 = D (49 + 2 * k.toNat) 1 := by rw [eo]
      have e2 : D1 (49 + 2 * k.toNat) 2 = D (49 + 2 * k.toNat) 2 := by rw [eo]
      have e3 : D1 (49 + 2 * k.toNat) 3 = D (49 + 2 * k.toNat) 3 := by rw [eo]
      have f1 : D1 (49 + 2 * o.toNat) 1 = D (49 + 2 * o.toNat) 1 := by rw [eo2]
      have f2 : D1 (49 + 2 * o.toNat) 2 = D (49 + 2 * o.toNat) 2 := by rw [eo2]
      have f3 : D1 (49 + 2 * o.toNat) 3 = D (49 + 2 * o.toNat) 3 := by rw [eo2]
      refine T_aload_n dX6_copy_21 rfl ?_
      refine T_getR dX6_copy_22 flX6_51 rfl rfl ?_
      refine T_iload_n dX6_copy_25 rfl ?_
      refine T_aald dX6_copy_26 rfl (by decide) (by first | omega | (simp [st2]; omega)) (by first | omega | (simp [st2]; omega)) (sheet_at h1 h2) ?_
      refine T_astore dX6_copy_27 (by decide) ?_
      refine T_aload_n dX6_copy_29 rfl ?_
      refine T_getR dX6_copy_30 flX6_51 rfl rfl ?_
      refine T_iload_n dX6_copy_33 rfl ?_
      refine T_aald dX6_copy_34 rfl (by decide) (by first | omega | (simp [st2]; omega)) (by first | omega | (simp [st2]; omega)) (sheet_at h3 h4) ?_
      refine T_astore dX6_copy_35 (by decide) ?_
      refine T_aload dX6_copy_37 rfl ?_
      refine T_getI dX6_copy_39 flX6_239 hsh.1 rfl ?_
      refine T_if_eq 53 dX6_copy_42 (by decide) (by first | (unfold InR; omega) | (simp [st2, InR]; omega)) (fun hc42 => ?_) (fun hc42 => ?_)
      · refine T_aload_n dX6_copy_53 rfl ?_
        refine T_iconst dX6_copy_54 ?_
        refine T_cV_1 dX6_copy_55 lkX6_233 rfl (Nat.le_of_ble_eq_true rfl) (RO_r (by decide)) (Nat.le_of_ble_eq_true rfl) ?_
        refine c_faulty ?_
        refine T_iret dX6_copy_58 rfl ?_
        rw [← hD1, st2_st2]; exact kN (by omega) (by omega)
      · refine T_aload dX6_copy_45 rfl ?_
        refine T_getI dX6_copy_47 flX6_239 hsh2.1 rfl ?_
        refine T_if_ne 59 dX6_copy_50 (by decide) (by first | (unfold InR; omega) | (simp [st2, InR]; omega)) (fun hc50 => ?_) (fun hc50 => ?_)
        · refine T_aload dX6_copy_59 rfl ?_
          refine T_getI dX6_copy_61 flX6_249 hsh.1 rfl ?_
          refine T_aload dX6_copy_64 rfl ?_
          refine T_getI dX6_copy_66 flX6_249 hsh2.1 rfl ?_
          refine T_icmp_eq 78 dX6_copy_69 (by decide) (by first | (unfold InR; omega) | (simp [st2, InR]; omega)) (by first | (unfold InR; omega) | (simp [st2, InR]; omega)) (fun hc69 => ?_) (fun hc69 => ?_)
          · refine T_iload dX6_copy_78 rfl ?_
            refine T_if_lt 106 dX6_copy_80 (by decide) (by first | (unfold InR; omega) | (simp [st2, InR]; omega)) (fun hc80 => ?_) (fun hc80 => ?_)
            · refine T_aload_n dX6_copy_106 rfl ?_
              refine T_iconst dX6_copy_107 ?_
              refine T_cV_1 dX6_copy_108 lkX6_233 rfl (Nat.le_of_ble_eq_true rfl) (RO_r (by decide)) (Nat.le_of_ble_eq_true rfl) ?_
              refine c_faulty ?_
              refine T_iret dX6_copy_111 rfl ?_
              rw [← hD1, st2_st2]; exact kI (by omega) (by omega) (by omega) (by omega)
            · refine T_aload dX6_copy_83 rfl ?_
              refine T_iload_n dX6_copy_85 rfl ?_
              refine T_iload dX6_copy_86 rfl ?_
              refine T_cV_2 dX6_copy_88 lkX6_252 hsh.1 (Nat.le_of_ble_eq_true rfl) (RO_r (by decide)) (Nat.le_of_ble_eq_true rfl) ?_
              refine c_hasCells hsh hi hn (by omega) (fun h5 h6 h7 => ?_) (fun h5 => ?_)
              · refine T_if_eq 106 dX6_copy_91 (by decide) (by unfold InR; decide) (fun h => absurd h (by decide)) (fun _ => ?_)
                refine T_aload dX6_copy_94 rfl ?_
                refine T_iload dX6_copy_96 rfl ?_
                refine T_iload dX6_copy_98 rfl ?_
                refine T_cV_2 dX6_copy_100 lkX6_252 hsh2.1 (Nat.le_of_ble_eq_true rfl) (RO_r (by decide)) (Nat.le_of_ble_eq_true rfl) ?_
                refine c_hasCells hsh2 hj hn (by omega) (fun h8 h9 h10 => ?_) (fun h8 => ?_)
                · refine T_if_ne 112 dX6_copy_103 (by decide) (by unfold InR; decide) (fun _ => ?_) (fun h => absurd (by decide) h)
                  refine T_aload dX6_copy_112 rfl ?_
                  refine T_getR dX6_copy_114 flX6_98 hsh.1 rfl ?_
                  refine T_iload_n dX6_copy_117 rfl ?_
                  refine T_aload dX6_copy_118 rfl ?_
                  refine T_getR dX6_copy_120 flX6_98 hsh2.1 rfl ?_
                  refine T_iload dX6_copy_123 rfl ?_
                  refine T_iload dX6_copy_125 rfl ?_
                  refine T_copy dX6_copy_127 lkX6_255 hsh.2 hsh2.2 (by decide) (by decide) (by omega) (by omega) (by omega) (by omega) (by omega) (Nat.le_of_ble_eq_true rfl) ⟨by show _ ≤ _; first | decide | (simp only [rmd]; omega) | omega, by show _ ≤ _; first | decide | (simp only [rmd]; omega) | omega⟩ ?_
                  refine T_iload dX6_copy_130 rfl ?_
                  refine T_iret dX6_copy_132 rfl ?_
                  exact kk (by omega) (by omega) (by omega)
                · refine T_if_ne 112 dX6_copy_103 (by decide) (by unfold InR; decide) (fun h => absurd h (by decide)) (fun _ => ?_)
                  refine T_aload_n dX6_copy_106 rfl ?_
                  refine T_iconst dX6_copy_107 ?_
                  refine T_cV_1 dX6_copy_108 lkX6_233 rfl (Nat.le_of_ble_eq_true rfl) (RO_r (by decide)) (Nat.le_of_ble_eq_true rfl) ?_
                  refine c_faulty ?_
                  refine T_iret dX6_copy_111 rfl ?_
                  rw [← hD1, st2_st2]; exact kI (by omega) (by omega) (by omega) (by omega)
              · refine T_if_eq 106 dX6_copy_91 (by decide) (by unfold InR; decide) (fun _ => ?_) (fun h => absurd (by decide) h)
                refine T_aload_n dX6_copy_106 rfl ?_
                refine T_iconst dX6_copy_107 ?_
                refine T_cV_1 dX6_copy_108 lkX6_233 rfl (Nat.le_of_ble_eq_true rfl) (RO_r (by decide)) (Nat.le_of_ble_eq_true rfl) ?_
                refine c_faulty ?_
                refine T_iret dX6_copy_111 rfl ?_
                rw [← hD1, st2_st2]; exact kI (by omega) (by omega) (by omega) (by omega)
          · refine T_aload_n dX6_copy_72 rfl ?_
            refine T_iconst dX6_copy_73 ?_
            refine T_cV_1 dX6_copy_74 lkX6_233 rfl (Nat.le_of_ble_eq_true rfl) (RO_r (by decide)) (Nat.le_of_ble_eq_true rfl) ?_
            refine c_faulty ?_
            refine T_iret dX6_copy_77 rfl ?_
            rw [← hD1, st2_st2]; exact kC (by omega) (by omega) (by omega)
        · refine T_aload_n dX6_copy_53 rfl ?_
          refine T_iconst dX6_copy_54 ?_
          refine T_cV_1 dX6_copy_55 lkX6_233 rfl (Nat.le_of_ble_eq_true rfl) (RO_r (by decide)) (Nat.le_of_ble_eq_true rfl) ?_
          refine c_faulty ?_
          refine T_iret dX6_copy_58 rfl ?_
          rw [← hD1, st2_st2]; exact kN (by omega) (by omega)
    · refine T_if_ne 21 dX6_copy_16 (by decide) (by unfold InR; decide) (fun h => absurd h (by decide)) (fun _ => ?_)
      refine T_iconst dX6_copy_19 ?_
      refine T_iret dX6_copy_20 rfl ?_
      exact kU (by omega)
  · refine T_if_eq 19 dX6_copy_9 (by decide) (by unfold InR; decide) (fun _ => ?_) (fun h => absurd (by decide) h)
    refine T_iconst dX6_copy_19 ?_
    refine T_iret dX6_copy_20 rfl ?_
    exact kU (by omega)
end

