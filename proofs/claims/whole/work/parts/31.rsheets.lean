/-- the sheets, as the reference has them -/
def RK (D : DD) : Prop := (∀ n : Nat, n < 4 → (-1 ≤ D 77 n ∧ D 77 n ≤ 80) ∧ (0 ≤ D 78 n ∧ D 78 n ≤ 2)) ∧ ∀ j, InR (D 79 j)
section
variable {g : G0} {d : Nat} {P : Option Value → List SC → DD → Prop} {D : DD}
theorem r_noSheet {k : Int} (hk : InR k) (k0 : 0 ≤ k → k ≤ 3 → P (some (iI 0)) SH D) (k1 : ¬ (0 ≤ k ∧ k ≤ 3) → P (some (iI 1)) SH D) : TM g mX7_noSheet (d + 1) P [iI k] D := by
  refine T_iload_n dX7_noSheet_0 rfl ?_
  refine T_i2l dX7_noSheet_1 hk ?_
  refine T_lconst (a := 0) dX7_noSheet_2 (by decide) ?_
  refine T_ldc2 (n := 3) dX7_noSheet_3 tk_905 ?_
  refine T_cS_3 dX7_noSheet_6 lkX7_88 (Nat.le_of_ble_eq_true rfl) (RO_r (by decide)) (Nat.le_of_ble_eq_true rfl) ?_
  refine r_in (in64_of hk) (by first | (unfold In64; omega) | (simp [st2, In64]; omega)) (by first | (unfold In64; omega) | (simp [st2, In64]; omega)) (fun hw1 hw2 => ?_) (fun hw1 => ?_)
  · refine T_if_ne 16 dX7_noSheet_9 (by decide) (by unfold InR; decide) (fun _ => ?_) (fun h => absurd (by decide) h)
    refine T_iconst dX7_noSheet_16 ?_
    refine T_zret dX7_noSheet_17 rfl (by decide) ?_
    first | exact k0 (by omega) (by omega) | exact k1 (by omega)
  · refine T_if_ne 16 dX7_noSheet_9 (by decide) (by unfold InR; decide) (fun h => absurd h (by decide)) (fun _ => ?_)
    refine T_iconst dX7_noSheet_12 ?_
    refine T_goto (tgt := 17) dX7_noSheet_13 (by decide) ?_
    refine T_zret dX7_noSheet_17 rfl (by decide) ?_
    first | exact k0 (by omega) (by omega) | exact k1 (by omega)
theorem r_isBeyond {i n a : Int} (hi : InR i) (hn : InR n) (ha : InR a) (k1 : ¬ (0 ≤ i ∧ 0 ≤ n ∧ i + n ≤ a) → P (some (iI 1)) SH D) (k0 : (0 ≤ i ∧ 0 ≤ n ∧ i + n ≤ a) → P (some (iI 0)) SH D) : TM g mX7_isBeyond d P [iI i, lI n, iI a] D := by
  have hi2 := hi
  have hn2 := hn
  have ha2 := ha
  unfold InR at hi2 hn2 ha2
  refine T_iload_n dX7_isBeyond_0 rfl ?_
  refine T_if_lt 20 dX7_isBeyond_1 (by decide) (by first | (unfold InR; omega) | (simp [st2, InR]; omega)) (fun hc1 => ?_) (fun hc1 => ?_)
  · refine T_iconst dX7_isBeyond_20 ?_
    refine T_goto (tgt := 25) dX7_isBeyond_21 (by decide) ?_
    refine T_zret dX7_isBeyond_25 rfl (by decide) ?_
    first | exact k1 (by omega) | exact k0 (by omega)
  · refine T_lload_n dX7_isBeyond_4 rfl ?_
    refine T_lconst (a := 0) dX7_isBeyond_5 (by decide) ?_
    refine T_lcmp dX7_isBeyond_6 (by first | (unfold In64; omega) | (simp [st2, In64]; omega)) (by first | (unfold In64; omega) | (simp [st2, In64]; omega)) ?_
    refine T_if_lt 20 dX7_isBeyond_7 (by decide) (inR_lc _ _) (fun hc7 => ?_) (fun hc7 => ?_)
    · rw [lc_lt] at hc7
      refine T_iconst dX7_isBeyond_20 ?_
      refine T_goto (tgt := 25) dX7_isBeyond_21 (by decide) ?_
      refine T_zret dX7_isBeyond_25 rfl (by decide) ?_
      first | exact k1 (by omega) | exact k0 (by omega)
    · rw [lc_lt] at hc7
      refine T_iload_n dX7_isBeyond_10 rfl ?_
      refine T_i2l dX7_isBeyond_11 (by first | (unfold InR; omega) | (simp [st2, InR]; omega)) ?_
      refine T_lload_n dX7_isBeyond_12 rfl ?_
      refine T_ladd dX7_isBeyond_13 ?_
      refine T_iload_n dX7_isBeyond_14 rfl ?_
      refine T_i2l dX7_isBeyond_15 (by first | (unfold InR; omega) | (simp [st2, InR]; omega)) ?_
      refine T_lcmp dX7_isBeyond_16 (by first | (unfold In64; omega) | (simp [st2, In64]; omega)) (by first | (unfold In64; omega) | (simp [st2, In64]; omega)) ?_
      refine T_if_le 24 dX7_isBeyond_17 (by decide) (inR_lc _ _) (fun hc17 => ?_) (fun hc17 => ?_)
      · rw [lc_le] at hc17
        refine T_iconst dX7_isBeyond_24 ?_
        refine T_zret dX7_isBeyond_25 rfl (by decide) ?_
        first | exact k1 (by omega) | exact k0 (by omega)
      · rw [lc_le] at hc17
        refine T_iconst dX7_isBeyond_20 ?_
        refine T_goto (tgt := 25) dX7_isBeyond_21 (by decide) ?_
        refine T_zret dX7_isBeyond_25 rfl (by decide) ?_
        first | exact k1 (by omega) | exact k0 (by omega)
/-- the reference's refusal of a row: the answer and the fault -/
theorem r_refusal {k l i n : Int} (hR : RK D) (hk : 0 ≤ k ∧ k ≤ 3) (hl : InR l) (hi : InR i) (hn : InR n) (kk : P (some (iI (rowR (if D 77 k.toNat < 0 then 0 else 1) (D 78 k.toNat) (D 77 k.toNat) l i n).1)) SH (if (rowR (if D 77 k.toNat < 0 then 0 else 1) (D 78 k.toNat) (D 77 k.toNat) l i n).1 = 0 then D else st2 D 57 0 (rowR (if D 77 k.toNat < 0 then 0 else 1) (D 78 k.toNat) (D 77 k.toNat) l i n).2)) : TM g mX7_refusal (d + 2) P [.ref 57, iI k, iI l, iI i, lI n] D := by
  have hn2 := hn
  have hl2 := hl
  have hi2 := hi
  unfold InR at hn2 hl2 hi2
  obtain ⟨s1, s2⟩ := hR.1 k.toNat (by omega)
  unfold rowR at kk
  refine T_iload_n dX7_refusal_0 rfl ?_
  refine T_i2l dX7_refusal_1 hl ?_
  refine T_lconst (a := 0) dX7_refusal_2 (by decide) ?_
  refine T_ldc2 (n := 2) dX7_refusal_3 tk_892 ?_
  refine T_cS_3 dX7_refusal_6 lkX7_88 (Nat.le_of_ble_eq_true rfl) (RO_r (by decide)) (Nat.le_of_ble_eq_true rfl) ?_
  refine r_in (in64_of hl) (by first | (unfold In64; omega) | (simp [st2, In64]; omega)) (by first | (unfold In64; omega) | (simp [st2, In64]; omega)) (fun h3 h4 => ?_) (fun h3 => ?_)
  · refine T_if_ne 19 dX7_refusal_9 (by decide) (by unfold InR; decide) (fun _ => ?_) (fun h => absurd (by decide) h)
    rw [if_neg (show ¬ ¬ (0 ≤ l ∧ l ≤ 2) by omega)] at kk
    refine T_aload_n dX7_refusal_19 rfl ?_
    refine T_getR dX7_refusal_20 flX7_68 rfl rfl ?_
    refine T_iload_n dX7_refusal_23 rfl ?_
    refine T_iald dX7_refusal_24 rfl (by first | decide | omega) (by first | omega | (simp [st2]; omega)) (by first | omega | (simp [st2]; omega)) ?_
    refine T_if_lt 44 dX7_refusal_25 (by decide) (by first | (unfold InR; omega) | (simp [st2, InR]; omega)) (fun hc25 => ?_) (fun hc25 => ?_)
    · refine T_aload_n dX7_refusal_44 rfl ?_
      refine T_getR dX7_refusal_45 flX7_68 rfl rfl ?_
      refine T_iload_n dX7_refusal_48 rfl ?_
      refine T_iald dX7_refusal_49 rfl (by first | decide | omega) (by first | omega | (simp [st2]; omega)) (by first | omega | (simp [st2]; omega)) ?_
      refine T_if_ge 59 dX7_refusal_50 (by decide) (by first | (unfold InR; omega) | (simp [st2, InR]; omega)) (fun hc50 => ?_) (fun hc50 => ?_)
      · refine T_lload dX7_refusal_59 rfl ?_
        refine T_lconst (a := 0) dX7_refusal_61 (by decide) ?_
        refine T_lcmp dX7_refusal_62 (by first | (unfold In64; omega) | (simp [st2, In64]; omega)) (by first | (unfold In64; omega) | (simp [st2, In64]; omega)) ?_
        refine T_if_ge 72 dX7_refusal_63 (by decide) (inR_lc _ _) (fun hc63 => ?_) (fun hc63 => ?_)
        · rw [lc_ge] at hc63
          refine T_iload_n dX7_refusal_72 rfl ?_
          refine T_lload dX7_refusal_73 rfl ?_
          refine T_aload_n dX7_refusal_75 rfl ?_
          refine T_getR dX7_refusal_76 flX7_68 rfl rfl ?_
          refine T_iload_n dX7_refusal_79 rfl ?_
          refine T_iald dX7_refusal_80 rfl (by first | decide | omega) (by first | omega | (simp [st2]; omega)) (by first | omega | (simp [st2]; omega)) ?_
          refine T_cS_3 dX7_refusal_81 lkX7_108 (Nat.le_of_ble_eq_true rfl) (RO_r (by decide)) (Nat.le_of_ble_eq_true rfl) ?_
          refine r_isBeyond hi hn (by first | (unfold InR; omega) | (simp [st2, InR]; omega)) (fun h5 => ?_) (fun h5 => ?_)
          · refine T_if_eq 95 dX7_refusal_84 (by decide) (by unfold InR; decide) (fun h => absurd h (by decide)) (fun _ => ?_)
            refine T_aload_n dX7_refusal_87 rfl ?_
            refine T_iconst dX7_refusal_88 ?_
            refine T_cV_1 dX7_refusal_89 lkX7_105 rfl (Nat.le_of_ble_eq_true rfl) (RO_r (by decide)) (Nat.le_of_ble_eq_true rfl) ?_
            refine r_failed ?_
            refine T_goto (tgt := 96) dX7_refusal_92 (by decide) ?_
            refine T_iret dX7_refusal_96 rfl ?_
            rw [if_neg (show ¬ D 77 k.toNat < 0 by omega), if_neg (show ¬ (1 : Int) = 0 by decide), if_neg (show ¬ D 78 k.toNat ≠ l by omega), if_neg (show ¬ n < 0 by omega)] at kk
            first | (rw [if_pos (show 0 ≤ i ∧ i ≤ D 77 k.toNat ∧ n ≤ D 77 k.toNat - i by omega)] at kk; exact kk) | (rw [if_neg (show ¬ (0 ≤ i ∧ i ≤ D 77 k.toNat ∧ n ≤ D 77 k.toNat - i) by omega)] at kk; exact kk)
          · refine T_if_eq 95 dX7_refusal_84 (by decide) (by unfold InR; decide) (fun _ => ?_) (fun h => absurd (by decide) h)
            refine T_iconst dX7_refusal_95 ?_
            refine T_iret dX7_refusal_96 rfl ?_
            rw [if_neg (show ¬ D 77 k.toNat < 0 by omega), if_neg (show ¬ (1 : Int) = 0 by decide), if_neg (show ¬ D 78 k.toNat ≠ l by omega), if_neg (show ¬ n < 0 by omega)] at kk
            first | (rw [if_pos (show 0 ≤ i ∧ i ≤ D 77 k.toNat ∧ n ≤ D 77 k.toNat - i by omega)] at kk; exact kk) | (rw [if_neg (show ¬ (0 ≤ i ∧ i ≤ D 77 k.toNat ∧ n ≤ D 77 k.toNat - i) by omega)] at kk; exact kk)
        · rw [lc_ge] at hc63
          refine T_aload_n dX7_refusal_66 rfl ?_
          refine T_iconst dX7_refusal_67 ?_
          refine T_cV_1 dX7_refusal_68 lkX7_105 rfl (Nat.le_of_ble_eq_true rfl) (RO_r (by decide)) (Nat.le_of_ble_eq_true rfl) ?_
          refine r_failed ?_
          refine T_iret dX7_refusal_71 rfl ?_
          rw [if_neg (show ¬ D 77 k.toNat < 0 by omega), if_neg (show ¬ (1 : Int) = 0 by decide), if_neg (show ¬ D 78 k.toNat ≠ l by omega), if_pos (show n < 0 by omega)] at kk; exact kk
      · refine T_aload_n dX7_refusal_53 rfl ?_
        refine T_iconst dX7_refusal_54 ?_
        refine T_cV_1 dX7_refusal_55 lkX7_105 rfl (Nat.le_of_ble_eq_true rfl) (RO_r (by decide)) (Nat.le_of_ble_eq_true rfl) ?_
        refine r_failed ?_
        refine T_iret dX7_refusal_58 rfl ?_
        rw [if_pos (show D 77 k.toNat < 0 by omega), if_pos (show (0 : Int) = 0 by decide)] at kk; exact kk
    · refine T_aload_n dX7_refusal_28 rfl ?_
      refine T_getR dX7_refusal_29 flX7_71 rfl rfl ?_
      refine T_iload_n dX7_refusal_32 rfl ?_
      refine T_iald dX7_refusal_33 rfl (by first | decide | omega) (by first | omega | (simp [st2]; omega)) (by first | omega | (simp [st2]; omega)) ?_
      refine T_iload_n dX7_refusal_34 rfl ?_
      refine T_icmp_eq 44 dX7_refusal_35 (by decide) (by first | (unfold InR; omega) | (simp [st2, InR]; omega)) (by first | (unfold InR; omega) | (simp [st2, InR]; omega)) (fun hc35 => ?_) (fun hc35 => ?_)
      · refine T_aload_n dX7_refusal_44 rfl ?_
        refine T_getR dX7_refusal_45 flX7_68 rfl rfl ?_
        refine T_iload_n dX7_refusal_48 rfl ?_
        refine T_iald dX7_refusal_49 rfl (by first | decide | omega) (by first | omega | (simp [st2]; omega)) (by first | omega | (simp [st2]; omega)) ?_
        refine T_if_ge 59 dX7_refusal_50 (by decide) (by first | (unfold InR; omega) | (simp [st2, InR]; omega)) (fun hc50 => ?_) (fun hc50 => ?_)
        · refine T_lload dX7_refusal_59 rfl ?_
          refine T_lconst (a := 0) dX7_refusal_61 (by decide) ?_
          refine T_lcmp dX7_refusal_62 (by first | (unfold In64; omega) | (simp [st2, In64]; omega)) (by first | (unfold In64; omega) | (simp [st2, In64]; omega)) ?_
          refine T_if_ge 72 dX7_refusal_63 (by decide) (inR_lc _ _) (fun hc63 => ?_) (fun hc63 => ?_)
          · rw [lc_ge] at hc63
            refine T_iload_n dX7_refusal_72 rfl ?_
            refine T_lload dX7_refusal_73 rfl ?_
            refine T_aload_n dX7_refusal_75 rfl ?_
            refine T_getR dX7_refusal_76 flX7_68 rfl rfl ?_
            refine T_iload_n dX7_refusal_79 rfl ?_
            refine T_iald dX7_refusal_80 rfl (by first | decide | omega) (by first | omega | (simp [st2]; omega)) (by first | omega | (simp [st2]; omega)) ?_
            refine T_cS_3 dX7_refusal_81 lkX7_108 (Nat.le_of_ble_eq_true rfl) (RO_r (by decide)) (Nat.le_of_ble_eq_true rfl) ?_
            refine r_isBeyond hi hn (by first | (unfold InR; omega) | (simp [st2, InR]; omega)) (fun h5 => ?_) (fun h5 => ?_)
            · refine T_if_eq 95 dX7_refusal_84 (by decide) (by unfold InR; decide) (fun h => absurd h (by decide)) (fun _ => ?_)
              refine T_aload_n dX7_refusal_87 rfl ?_
              refine T_iconst dX7_refusal_88 ?_
              refine T_cV_1 dX7_refusal_89 lkX7_105 rfl (Nat.le_of_ble_eq_true rfl) (RO_r (by decide)) (Nat.le_of_ble_eq_true rfl) ?_
              refine r_failed ?_
              refine T_goto (tgt := 96) dX7_refusal_92 (by decide) ?_
              refine T_iret dX7_refusal_96 rfl ?_
              rw [if_neg (show ¬ D 77 k.toNat < 0 by omega), if_neg (show ¬ (1 : Int) = 0 by decide), if_neg (show ¬ D 78 k.toNat ≠ l by omega), if_neg (show ¬ n < 0 by omega)] at kk
              first | (rw [if_pos (show 0 ≤ i ∧ i ≤ D 77 k.toNat ∧ n ≤ D 77 k.toNat - i by omega)] at kk; exact kk) | (rw [if_neg (show ¬ (0 ≤ i ∧ i ≤ D 77 k.toNat ∧ n ≤ D 77 k.toNat - i) by omega)] at kk; exact kk)
            · refine T_if_eq 95 dX7_refusal_84 (by decide) (by unfold InR; decide) (fun _ => ?_) (fun h => absurd (by decide) h)
              refine T_iconst dX7_refusal_95 ?_
              refine T_iret dX7_refusal_96 rfl ?_
              rw [if_neg (show ¬ D 77 k.toNat < 0 by omega), if_neg (show ¬ (1 : Int) = 0 by decide), if_neg (show ¬ D 78 k.toNat ≠ l by omega), if_neg (show ¬ n < 0 by omega)] at kk
              first | (rw [if_pos (show 0 ≤ i ∧ i ≤ D 77 k.toNat ∧ n ≤ D 77 k.toNat - i by omega)] at kk; exact kk) | (rw [if_neg (show ¬ (0 ≤ i ∧ i ≤ D 77 k.toNat ∧ n ≤ D 77 k.toNat - i) by omega)] at kk; exact kk)
          · rw [lc_ge] at hc63
            refine T_aload_n dX7_refusal_66 rfl ?_
            refine T_iconst dX7_refusal_67 ?_
            refine T_cV_1 dX7_refusal_68 lkX7_105 rfl (Nat.le_of_ble_eq_true rfl) (RO_r (by decide)) (Nat.le_of_ble_eq_true rfl) ?_
            refine r_failed ?_
            refine T_iret dX7_refusal_71 rfl ?_
            rw [if_neg (show ¬ D 77 k.toNat < 0 by omega), if_neg (show ¬ (1 : Int) = 0 by decide), if_neg (show ¬ D 78 k.toNat ≠ l by omega), if_pos (show n < 0 by omega)] at kk; exact kk
        · refine T_aload_n dX7_refusal_53 rfl ?_
          refine T_iconst dX7_refusal_54 ?_
          refine T_cV_1 dX7_refusal_55 lkX7_105 rfl (Nat.le_of_ble_eq_true rfl) (RO_r (by decide)) (Nat.le_of_ble_eq_true rfl) ?_
          refine r_failed ?_
          refine T_iret dX7_refusal_58 rfl ?_
          rw [if_pos (show D 77 k.toNat < 0 by omega), if_pos (show (0 : Int) = 0 by decide)] at kk; exact kk
      · refine T_aload_n dX7_refusal_38 rfl ?_
        refine T_iconst dX7_refusal_39 ?_
        refine T_cV_1 dX7_refusal_40 lkX7_105 rfl (Nat.le_of_ble_eq_true rfl) (RO_r (by decide)) (Nat.le_of_ble_eq_true rfl) ?_
        refine r_failed ?_
        refine T_iret dX7_refusal_43 rfl ?_
        rw [if_neg (show ¬ D 77 k.toNat < 0 by omega), if_neg (show ¬ (1 : Int) = 0 by decide), if_pos (show D 78 k.toNat ≠ l by omega)] at kk; exact kk
  · refine T_if_ne 19 dX7_refusal_9 (by decide) (by unfold InR; decide) (fun h => absurd h (by decide)) (fun _ => ?_)
    refine T_aload_n dX7_refusal_12 rfl ?_
    refine T_bipush dX7_refusal_13 (by decide) ?_
    refine T_cV_1 dX7_refusal_15 lkX7_101 rfl (Nat.le_of_ble_eq_true rfl) (RO_r (by decide)) (Nat.le_of_ble_eq_true rfl) ?_
    refine r_refused ?_
    refine T_iret dX7_refusal_18 rfl ?_
    rw [if_pos (by omega)] at kk; exact kk
theorem r_lose {k : Int} (hR : RK D) (hk : InR k) (kU : ¬ (0 ≤ k ∧ k ≤ 3) → P (some (iI (-1))) SH D) (k0 : 0 ≤ k → k ≤ 3 → D 77 k.toNat < 0 → P (some (iI 0)) SH (st2 D 77 k.toNat (-1))) (k1 : 0 ≤ k → k ≤ 3 → 0 ≤ D 77 k.toNat → P (some (iI 1)) SH (st2 D 77 k.toNat (-1))) : TM g mX7_lose (d + 2) P [.ref 57, iI k] D := by
  refine T_iload_n dX7_lose_0 rfl ?_
  refine T_cS_1 dX7_lose_1 lkX7_158 (Nat.le_of_ble_eq_true rfl) (RO_r (by decide)) (Nat.le_of_ble_eq_true rfl) ?_
  refine r_noSheet hk (fun h1 h2 => ?_) (fun h1 => ?_)
  · refine T_if_eq 9 dX7_lose_4 (by decide) (by unfold InR; decide) (fun _ => ?_) (fun h => absurd (by decide) h)
    obtain ⟨s1, s2⟩ := hR.1 k.toNat (by omega)
    refine T_aload_n dX7_lose_9 rfl ?_
    refine T_getR dX7_lose_10 flX7_68 rfl rfl ?_
    refine T_iload_n dX7_lose_13 rfl ?_
    refine T_iald dX7_lose_14 rfl (by first | decide | omega) (by first | omega | (simp [st2]; omega)) (by first | omega | (simp [st2]; omega)) ?_
    refine T_if_ge 22 dX7_lose_15 (by decide) (by first | (unfold InR; omega) | (simp [st2, InR]; omega)) (fun hc15 => ?_) (fun hc15 => ?_)
    · refine T_iconst dX7_lose_22 ?_
      refine T_istore_n dX7_lose_23 (by decide) ?_
      refine T_aload_n dX7_lose_24 rfl ?_
      refine T_getR dX7_lose_25 flX7_68 rfl rfl ?_
      refine T_iload_n dX7_lose_28 rfl ?_
      refine T_iconst dX7_lose_29 ?_
      refine T_iast dX7_lose_30 rfl (by first | decide | omega) (by first | omega | (simp [st2]; omega)) (by first | omega | (simp [st2]; omega)) ?_
      refine T_iload_n dX7_lose_31 rfl ?_
      refine T_iret dX7_lose_32 rfl ?_
      first | exact kU (by omega) | exact k0 h1 h2 (by omega) | exact k1 h1 h2 (by omega)
    · refine T_iconst dX7_lose_18 ?_
      refine T_goto (tgt := 23) dX7_lose_19 (by decide) ?_
      refine T_istore_n dX7_lose_23 (by decide) ?_
      refine T_aload_n dX7_lose_24 rfl ?_
      refine T_getR dX7_lose_25 flX7_68 rfl rfl ?_
      refine T_iload_n dX7_lose_28 rfl ?_
      refine T_iconst dX7_lose_29 ?_
      refine T_iast dX7_lose_30 rfl (by first | decide | omega) (by first | omega | (simp [st2]; omega)) (by first | omega | (simp [st2]; omega)) ?_
      refine T_iload_n dX7_lose_31 rfl ?_
      refine T_iret dX7_lose_32 rfl ?_
      first | exact kU (by omega) | exact k0 h1 h2 (by omega) | exact k1 h1 h2 (by omega)
  · refine T_if_eq 9 dX7_lose_4 (by decide) (by unfold InR; decide) (fun h => absurd h (by decide)) (fun _ => ?_)
    refine T_iconst dX7_lose_7 ?_
    refine T_iret dX7_lose_8 rfl ?_
    first | exact kU (by omega) | exact k0 h1 h2 (by omega) | exact k1 h1 h2 (by omega)
theorem r_noCell {k i : Int} (hR : RK D) (hk : 0 ≤ k ∧ k ≤ 3) (hi : InR i) (kN : D 77 k.toNat < 0 → P (some (iI 1)) SH D) (k0 : 0 ≤ D 77 k.toNat → 0 ≤ i → i < D 77 k.toNat → P (some (iI 0)) SH D) (kI : 0 ≤ D 77 k.toNat → ¬ (0 ≤ i ∧ i < D 77 k.toNat) → P (some (iI 3)) SH D) : TM g mX7_noCell (d + 1) P [.ref 57, iI k, iI i] D := by
  obtain ⟨s1, s2⟩ := hR.1 k.toNat (by omega)
  refine T_aload_n dX7_noCell_0 rfl ?_
  refine T_getR dX7_noCell_1 flX7_68 rfl rfl ?_
  refine T_iload_n dX7_noCell_4 rfl ?_
  refine T_iald dX7_noCell_5 rfl (by first | decide | omega) (by first | omega | (simp [st2]; omega)) (by first | omega | (simp [st2]; omega)) ?_
  refine T_if_ge 13 dX7_noCell_6 (by decide) (by first | (unfold InR; omega) | (simp [st2, InR]; omega)) (fun hc6 => ?_) (fun hc6 => ?_)
  · refine T_iload_n dX7_noCell_13 rfl ?_
    refine T_i2l dX7_noCell_14 hi ?_
    refine T_lconst (a := 0) dX7_noCell_15 (by decide) ?_
    refine T_aload_n dX7_noCell_16 rfl ?_
    refine T_getR dX7_noCell_17 flX7_68 rfl rfl ?_
    refine T_iload_n dX7_noCell_20 rfl ?_
    refine T_iald dX7_noCell_21 rfl (by first | decide | omega) (by first | omega | (simp [st2]; omega)) (by first | omega | (simp [st2]; omega)) ?_
    refine T_i2l dX7_noCell_22 (by first | (unfold InR; omega) | (simp [st2, InR]; omega)) ?_
    refine T_lconst (a := 1) dX7_noCell_23 (by decide) ?_
    refine T_lsub dX7_noCell_24 ?_
    refine T_cS_3 dX7_noCell_25 lkX7_88 (Nat.le_of_ble_eq_true rfl) (RO_r (by decide)) (Nat.le_of_ble_eq_true rfl) ?_
    refine r_in (in64_of hi) (by first | (unfold In64; omega) | (simp [st2, In64]; omega)) (by first | (unfold In64; omega) | (simp [st2, In64]; omega)) (fun hw1 hw2 => ?_) (fun hw1 => ?_)
    · refine T_if_eq 35 dX7_noCell_28 (by decide) (by unfold InR; decide) (fun h => absurd h (by decide)) (fun _ => ?_)
      refine T_iconst dX7_noCell_31 ?_
      refine T_goto (tgt := 36) dX7_noCell_32 (by decide) ?_
      refine T_iret dX7_noCell_36 rfl ?_
      first | exact kN (by omega) | exact k0 (by omega) (by omega) (by omega) | exact kI (by omega) (by omega)
    · refine T_if_eq 35 dX7_noCell_28 (by decide) (by unfold InR; decide) (fun _ => ?_) (fun h => absurd (by decide) h)
      refine T_iconst dX7_noCell_35 ?_
      refine T_iret dX7_noCell_36 rfl ?_
      first | exact kN (by omega) | exact k0 (by omega) (by omega) (by omega) | exact kI (by omega) (by omega)
  · refine T_iconst dX7_noCell_9 ?_
    refine T_goto (tgt := 36) dX7_noCell_10 (by decide) ?_
    refine T_iret dX7_noCell_36 rfl ?_
    first | exact kN (by omega) | exact k0 (by omega) (by omega) (by omega) | exact kI (by omega) (by omega)
theorem r_put {k i v : Int} (hR : RK D) (hk : InR k) (hi : InR i) (kU : ¬ (0 ≤ k ∧ k ≤ 3) → P (some (iI (-1))) SH (st2 D 57 0 0)) (kN : 0 ≤ k → k ≤ 3 → D 77 k.toNat < 0 → P (some (iI (-11))) SH (st2 D 57 0 1)) (kI : 0 ≤ k → k ≤ 3 → 0 ≤ D 77 k.toNat → ¬ (0 ≤ i ∧ i < D 77 k.toNat) → P (some (iI (-13))) SH (st2 D 57 0 3)) (kk : 0 ≤ k → k ≤ 3 → 0 ≤ D 77 k.toNat → 0 ≤ i → i < D 77 k.toNat → P (some (iI 1)) SH (st2 (st2 D 79 (80 * k + i).toNat (laned (D 78 k.toNat) v)) 57 0 0)) : TM g mX7_put (d + 2) P [.ref 57, iI k, iI i, iI v] D := by
  unfold laned at kk
  refine T_iload_n dX7_put_0 rfl ?_
  refine T_cS_1 dX7_put_1 lkX7_158 (Nat.le_of_ble_eq_true rfl) (RO_r (by decide)) (Nat.le_of_ble_eq_true rfl) ?_
  refine r_noSheet hk (fun h1 h2 => ?_) (fun h1 => ?_)
  · refine T_if_eq 13 dX7_put_4 (by decide) (by unfold InR; decide) (fun _ => ?_) (fun h => absurd (by decide) h)
    obtain ⟨s1, s2⟩ := hR.1 k.toNat (by omega)
    refine T_aload_n dX7_put_13 rfl ?_
    refine T_iload_n dX7_put_14 rfl ?_
    refine T_iload_n dX7_put_15 rfl ?_
    refine T_cV_2 dX7_put_16 lkX7_250 rfl (Nat.le_of_ble_eq_true rfl) (RO_r (by decide)) (Nat.le_of_ble_eq_true rfl) ?_
    refine r_noCell hR ⟨h1, h2⟩ hi (fun h3 => ?_) (fun h3 h4 h5 => ?_) (fun h3 h4 => ?_)
    · refine T_if_le 33 dX7_put_19 (by decide) (by unfold InR; decide) (fun h => absurd h (by decide)) (fun _ => ?_)
      refine T_aload_n dX7_put_22 rfl ?_
      refine T_aload_n dX7_put_23 rfl ?_
      refine T_iload_n dX7_put_24 rfl ?_
      refine T_iload_n dX7_put_25 rfl ?_
      refine T_cV_2 dX7_put_26 lkX7_250 rfl (Nat.le_of_ble_eq_true rfl) (RO_r (by decide)) (Nat.le_of_ble_eq_true rfl) ?_
      refine r_noCell hR ⟨h1, h2⟩ hi (fun h3 => ?_) (fun h3 h4 h5 => ?_) (fun h3 h4 => ?_)
      · refine T_cV_1 dX7_put_29 lkX7_105 rfl (Nat.le_of_ble_eq_true rfl) (RO_r (by decide)) (Nat.le_of_ble_eq_true rfl) ?_
        refine r_failed ?_
        refine T_iret dX7_put_32 rfl ?_
        first | exact kU (by omega) | exact kN h1 h2 (by omega) | exact kI h1 h2 (by omega) (by omega) | (exfalso; omega) | (have kk := kk h1 h2 h3 h4 h5; first | (rw [if_pos (by omega)] at kk; exact kk) | (rw [if_neg (by omega), if_pos (by omega)] at kk; exact kk) | (rw [if_neg (by omega), if_neg (by omega)] at kk; exact kk))
      · refine T_cV_1 dX7_put_29 lkX7_105 rfl (Nat.le_of_ble_eq_true rfl) (RO_r (by decide)) (Nat.le_of_ble_eq_true rfl) ?_
        refine r_failed ?_
        refine T_iret dX7_put_32 rfl ?_
        first | exact kU (by omega) | exact kN h1 h2 (by omega) | exact kI h1 h2 (by omega) (by omega) | (exfalso; omega) | (have kk := kk h1 h2 h3 h4 h5; first | (rw [if_pos (by omega)] at kk; exact kk) | (rw [if_neg (by omega), if_pos (by omega)] at kk; exact kk) | (rw [if_neg (by omega), if_neg (by omega)] at kk; exact kk))
      · refine T_cV_1 dX7_put_29 lkX7_105 rfl (Nat.le_of_ble_eq_true rfl) (RO_r (by decide)) (Nat.le_of_ble_eq_true rfl) ?_
        refine r_failed ?_
        refine T_iret dX7_put_32 rfl ?_
        first | exact kU (by omega) | exact kN h1 h2 (by omega) | exact kI h1 h2 (by omega) (by omega) | (exfalso; omega) | (have kk := kk h1 h2 h3 h4 h5; first | (rw [if_pos (by omega)] at kk; exact kk) | (rw [if_neg (by omega), if_pos (by omega)] at kk; exact kk) | (rw [if_neg (by omega), if_neg (by omega)] at kk; exact kk))
    · refine T_if_le 33 dX7_put_19 (by decide) (by unfold InR; decide) (fun _ => ?_) (fun h => absurd (by decide) h)
      refine T_aload_n dX7_put_33 rfl ?_
      refine T_getR dX7_put_34 flX7_74 rfl rfl ?_
      refine T_bipush dX7_put_37 (by decide) ?_
      refine T_iload_n dX7_put_39 rfl ?_
      refine T_imul dX7_put_40 ?_
      refine T_iload_n dX7_put_41 rfl ?_
      refine T_iadd dX7_put_42 ?_
      refine T_aload_n dX7_put_43 rfl ?_
      refine T_getR dX7_put_44 flX7_71 rfl rfl ?_
      refine T_iload_n dX7_put_47 rfl ?_
      refine T_iald dX7_put_48 rfl (by first | decide | omega) (by first | omega | (simp [st2]; omega)) (by first | omega | (simp [st2]; omega)) ?_
      refine T_if_ne 57 dX7_put_49 (by decide) (by first | (unfold InR; omega) | (simp [st2, InR]; omega)) (fun hc49 => ?_) (fun hc49 => ?_)
      · refine T_aload_n dX7_put_57 rfl ?_
        refine T_getR dX7_put_58 flX7_71 rfl rfl ?_
        refine T_iload_n dX7_put_61 rfl ?_
        refine T_iald dX7_put_62 rfl (by first | decide | omega) (by first | omega | (simp [st2]; omega)) (by first | omega | (simp [st2]; omega)) ?_
        refine T_iconst dX7_put_63 ?_
        refine T_icmp_ne 72 dX7_put_64 (by decide) (by first | (unfold InR; omega) | (simp [st2, InR]; omega)) (by first | (unfold InR; omega) | (simp [st2, InR]; omega)) (fun hc64 => ?_) (fun hc64 => ?_)
        · refine T_iload_n dX7_put_72 rfl ?_
          refine T_iast dX7_put_73 rfl (by first | decide | omega) (by first | omega | (simp [st2]; omega)) (by first | omega | (simp [st2]; omega)) ?_
          refine T_aload_n dX7_put_74 rfl ?_
          refine T_iconst dX7_put_75 ?_
          refine T_cV_1 dX7_put_76 lkX7_101 rfl (Nat.le_of_ble_eq_true rfl) (RO_r (by decide)) (Nat.le_of_ble_eq_true rfl) ?_
          refine r_refused ?_
          refine T_iret dX7_put_79 rfl ?_
          first | exact kU (by omega) | exact kN h1 h2 (by omega) | exact kI h1 h2 (by omega) (by omega) | (exfalso; omega) | (have kk := kk h1 h2 h3 h4 h5; first | (rw [if_pos (by omega)] at kk; exact kk) | (rw [if_neg (by omega), if_pos (by omega)] at kk; exact kk) | (rw [if_neg (by omega), if_neg (by omega)] at kk; exact kk))
        · refine T_iload_n dX7_put_67 rfl ?_
          refine T_i2s dX7_put_68 ?_
          refine T_goto (tgt := 73) dX7_put_69 (by decide) ?_
          refine T_iast dX7_put_73 rfl (by first | decide | omega) (by first | omega | (simp [st2]; omega)) (by first | omega | (simp [st2]; omega)) ?_
          refine T_aload_n dX7_put_74 rfl ?_
          refine T_iconst dX7_put_75 ?_
          refine T_cV_1 dX7_put_76 lkX7_101 rfl (Nat.le_of_ble_eq_true rfl) (RO_r (by decide)) (Nat.le_of_ble_eq_true rfl) ?_
          refine r_refused ?_
          refine T_iret dX7_put_79 rfl ?_
          first | exact kU (by omega) | exact kN h1 h2 (by omega) | exact kI h1 h2 (by omega) (by omega) | (exfalso; omega) | (have kk := kk h1 h2 h3 h4 h5; first | (rw [if_pos (by omega)] at kk; exact kk) | (rw [if_neg (by omega), if_pos (by omega)] at kk; exact kk) | (rw [if_neg (by omega), if_neg (by omega)] at kk; exact kk))
      · refine T_iload_n dX7_put_52 rfl ?_
        refine T_i2b dX7_put_53 ?_
        refine T_goto (tgt := 73) dX7_put_54 (by decide) ?_
        refine T_iast dX7_put_73 rfl (by first | decide | omega) (by first | omega | (simp [st2]; omega)) (by first | omega | (simp [st2]; omega)) ?_
        refine T_aload_n dX7_put_74 rfl ?_
        refine T_iconst dX7_put_75 ?_
        refine T_cV_1 dX7_put_76 lkX7_101 rfl (Nat.le_of_ble_eq_true rfl) (RO_r (by decide)) (Nat.le_of_ble_eq_true rfl) ?_
        refine r_refused ?_
        refine T_iret dX7_put_79 rfl ?_
        first | exact kU (by omega) | exact kN h1 h2 (by omega) | exact kI h1 h2 (by omega) (by omega) | (exfalso; omega) | (have kk := kk h1 h2 h3 h4 h5; first | (rw [if_pos (by omega)] at kk; exact kk) | (rw [if_neg (by omega), if_pos (by omega)] at kk; exact kk) | (rw [if_neg (by omega), if_neg (by omega)] at kk; exact kk))
    · refine T_if_le 33 dX7_put_19 (by decide) (by unfold InR; decide) (fun h => absurd h (by decide)) (fun _ => ?_)
      refine T_aload_n dX7_put_22 rfl ?_
      refine T_aload_n dX7_put_23 rfl ?_
      refine T_iload_n dX7_put_24 rfl ?_
      refine T_iload_n dX7_put_25 rfl ?_
      refine T_cV_2 dX7_put_26 lkX7_250 rfl (Nat.le_of_ble_eq_true rfl) (RO_r (by decide)) (Nat.le_of_ble_eq_true rfl) ?_
      refine r_noCell hR ⟨h1, h2⟩ hi (fun h3 => ?_) (fun h3 h4 h5 => ?_) (fun h3 h4 => ?_)
      · refine T_cV_1 dX7_put_29 lkX7_105 rfl (Nat.le_of_ble_eq_true rfl) (RO_r (by decide)) (Nat.le_of_ble_eq_true rfl) ?_
        refine r_failed ?_
        refine T_iret dX7_put_32 rfl ?_
        first | exact kU (by omega) | exact kN h1 h2 (by omega) | exact kI h1 h2 (by omega) (by omega) | (exfalso; omega) | (have kk := kk h1 h2 h3 h4 h5; first | (rw [if_pos (by omega)] at kk; exact kk) | (rw [if_neg (by omega), if_pos (by omega)] at kk; exact kk) | (rw [if_neg (by omega), if_neg (by omega)] at kk; exact kk))
      · refine T_cV_1 dX7_put_29 lkX7_105 rfl (Nat.le_of_ble_eq_true rfl) (RO_r (by decide)) (Nat.le_of_ble_eq_true rfl) ?_
        refine r_failed ?_
        refine T_iret dX7_put_32 rfl ?_
        first | exact kU (by omega) | exact kN h1 h2 (by omega) | exact kI h1 h2 (by omega) (by omega) | (exfalso; omega) | (have kk := kk h1 h2 h3 h4 h5; first | (rw [if_pos (by omega)] at kk; exact kk) | (rw [if_neg (by omega), if_pos (by omega)] at kk; exact kk) | (rw [if_neg (by omega), if_neg (by omega)] at kk; exact kk))
      · refine T_cV_1 dX7_put_29 lkX7_105 rfl (Nat.le_of_ble_eq_true rfl) (RO_r (by decide)) (Nat.le_of_ble_eq_true rfl) ?_
        refine r_failed ?_
        refine T_iret dX7_put_32 rfl ?_
        first | exact kU (by omega) | exact kN h1 h2 (by omega) | exact kI h1 h2 (by omega) (by omega) | (exfalso; omega) | (have kk := kk h1 h2 h3 h4 h5; first | (rw [if_pos (by omega)] at kk; exact kk) | (rw [if_neg (by omega), if_pos (by omega)] at kk; exact kk) | (rw [if_neg (by omega), if_neg (by omega)] at kk; exact kk))
  · refine T_if_eq 13 dX7_put_4 (by decide) (by unfold InR; decide) (fun h => absurd h (by decide)) (fun _ => ?_)
    refine T_aload_n dX7_put_7 rfl ?_
    refine T_iconst dX7_put_8 ?_
    refine T_cV_1 dX7_put_9 lkX7_101 rfl (Nat.le_of_ble_eq_true rfl) (RO_r (by decide)) (Nat.le_of_ble_eq_true rfl) ?_
    refine r_refused ?_
    refine T_iret dX7_put_12 rfl ?_
    first | exact kU (by omega) | exact kN h1 h2 (by omega) | exact kI h1 h2 (by omega) (by omega) | (exfalso; omega) | (have kk := kk h1 h2 h3 h4 h5; first | (rw [if_pos (by omega)] at kk; exact kk) | (rw [if_neg (by omega), if_pos (by omega)] at kk; exact kk) | (rw [if_neg (by omega), if_neg (by omega)] at kk; exact kk))
theorem r_cell {k i l : Int} (hR : RK D) (hk : InR k) (hi : InR i) (hl : InR l) (kO : ¬ (0 ≤ k ∧ k ≤ 3 ∧ 0 ≤ l ∧ l ≤ 2) → P (some (lI (-9223372036854775808))) SH (st2 D 57 0 0)) (kN : (0 ≤ k ∧ k ≤ 3 ∧ 0 ≤ l ∧ l ≤ 2) → D 77 k.toNat < 0 → P (some (lI (-9223372036854775808))) SH (st2 D 57 0 1)) (kC : (0 ≤ k ∧ k ≤ 3 ∧ 0 ≤ l ∧ l ≤ 2) → 0 ≤ D 77 k.toNat → D 78 k.toNat ≠ l → P (some (lI (-9223372036854775808))) SH (st2 D 57 0 2)) (kI : (0 ≤ k ∧ k ≤ 3 ∧ 0 ≤ l ∧ l ≤ 2) → 0 ≤ D 77 k.toNat → D 78 k.toNat = l → ¬ (0 ≤ i ∧ i < D 77 k.toNat) → P (some (lI (-9223372036854775808))) SH (st2 D 57 0 3))
    (kk : (0 ≤ k ∧ k ≤ 3 ∧ 0 ≤ l ∧ l ≤ 2) → 0 ≤ D 77 k.toNat → D 78 k.toNat = l → 0 ≤ i → i < D 77 k.toNat → P (some (lI (D 79 (80 * k + i).toNat))) SH (st2 D 57 0 0)) : TM g mX7_cell (d + 2) P [.ref 57, iI k, iI i, iI l] D := by
  have hl2 := hl
  unfold InR at hl2
  have hR' : RK (st2 D 57 0 0) := hR
  refine T_aload_n dX7_cell_0 rfl ?_
  refine T_iconst dX7_cell_1 ?_
  refine T_putI dX7_cell_2 flX7_92 rfl rfl ?_
  refine T_iload_n dX7_cell_5 rfl ?_
  refine T_cS_1 dX7_cell_6 lkX7_158 (Nat.le_of_ble_eq_true rfl) (RO_r (by decide)) (Nat.le_of_ble_eq_true rfl) ?_
  refine r_noSheet hk (fun h1 h2 => ?_) (fun h1 => ?_)
  · refine T_if_ne 24 dX7_cell_9 (by decide) (by unfold InR; decide) (fun h => absurd h (by decide)) (fun _ => ?_)
    refine T_iload_n dX7_cell_12 rfl ?_
    refine T_i2l dX7_cell_13 hl ?_
    refine T_lconst (a := 0) dX7_cell_14 (by decide) ?_
    refine T_ldc2 (n := 2) dX7_cell_15 tk_892 ?_
    refine T_cS_3 dX7_cell_18 lkX7_88 (Nat.le_of_ble_eq_true rfl) (RO_r (by decide)) (Nat.le_of_ble_eq_true rfl) ?_
    refine r_in (in64_of hl) (by first | (unfold In64; omega) | (simp [st2, In64]; omega)) (by first | (unfold In64; omega) | (simp [st2, In64]; omega)) (fun h3 h4 => ?_) (fun h3 => ?_)
    · refine T_if_ne 28 dX7_cell_21 (by decide) (by unfold InR; decide) (fun _ => ?_) (fun h => absurd (by decide) h)
      obtain ⟨s1, s2⟩ := hR'.1 k.toNat (by omega)
      have s4 := hR'.2 (80 * k + i).toNat
      generalize hD1 : st2 D 57 0 0 = D1 at hR' s1 s2 s4 kk ⊢
      have e7 : D1 77 = D 77 := by rw [← hD1]; exact st2_row (by decide)
      have e8 : D1 78 = D 78 := by rw [← hD1]; exact st2_row (by decide)
      have e9 : D1 79 = D 79 := by rw [← hD1]; exact st2_row (by decide)
      rw [← e7, ← e8, ← e9] at kk
      rw [← e7] at kN
      rw [← e7, ← e8] at kC kI
      refine T_aload_n dX7_cell_28 rfl ?_
      refine T_getR dX7_cell_29 flX7_68 rfl rfl ?_
      refine T_iload_n dX7_cell_32 rfl ?_
      refine T_iald dX7_cell_33 rfl (by first | decide | omega) (by first | omega | (simp [st2]; omega)) (by first | omega | (simp [st2]; omega)) ?_
      refine T_if_lt 53 dX7_cell_34 (by decide) (by first | (unfold InR; omega) | (simp [st2, InR]; omega)) (fun hc34 => ?_) (fun hc34 => ?_)
      · refine T_aload_n dX7_cell_53 rfl ?_
        refine T_iload_n dX7_cell_54 rfl ?_
        refine T_iload_n dX7_cell_55 rfl ?_
        refine T_cV_2 dX7_cell_56 lkX7_250 rfl (Nat.le_of_ble_eq_true rfl) (RO_r (by decide)) (Nat.le_of_ble_eq_true rfl) ?_
        refine r_noCell hR' ⟨h1, h2⟩ hi (fun h5 => ?_) (fun h5 h6 h7 => ?_) (fun h5 h6 => ?_)
        · refine T_if_le 75 dX7_cell_59 (by decide) (by unfold InR; decide) (fun h => absurd h (by decide)) (fun _ => ?_)
          refine T_aload_n dX7_cell_62 rfl ?_
          refine T_aload_n dX7_cell_63 rfl ?_
          refine T_iload_n dX7_cell_64 rfl ?_
          refine T_iload_n dX7_cell_65 rfl ?_
          refine T_cV_2 dX7_cell_66 lkX7_250 rfl (Nat.le_of_ble_eq_true rfl) (RO_r (by decide)) (Nat.le_of_ble_eq_true rfl) ?_
          refine r_noCell hR' ⟨h1, h2⟩ hi (fun h5 => ?_) (fun h5 h6 h7 => ?_) (fun h5 h6 => ?_)
          · refine T_cV_1 dX7_cell_69 lkX7_253 rfl (Nat.le_of_ble_eq_true rfl) (RO_r (by decide)) (Nat.le_of_ble_eq_true rfl) ?_
            refine r_failedLong ?_
            refine T_goto (tgt := 87) dX7_cell_72 (by decide) ?_
            refine T_lret dX7_cell_87 rfl ?_
            first | (rw [← hD1, st2_st2]; first | exact kN (by omega) (by omega) | exact kC (by omega) (by omega) (by omega) | exact kI (by omega) (by omega) (by omega) (by omega)) | exact kk (by omega) (by omega) (by omega) h6 h7 | (exfalso; omega)
          · refine T_cV_1 dX7_cell_69 lkX7_253 rfl (Nat.le_of_ble_eq_true rfl) (RO_r (by decide)) (Nat.le_of_ble_eq_true rfl) ?_
            refine r_failedLong ?_
            refine T_goto (tgt := 87) dX7_cell_72 (by decide) ?_
            refine T_lret dX7_cell_87 rfl ?_
            first | (rw [← hD1, st2_st2]; first | exact kN (by omega) (by omega) | exact kC (by omega) (by omega) (by omega) | exact kI (by omega) (by omega) (by omega) (by omega)) | exact kk (by omega) (by omega) (by omega) h6 h7 | (exfalso; omega)
          · refine T_cV_1 dX7_cell_69 lkX7_253 rfl (Nat.le_of_ble_eq_true rfl) (RO_r (by decide)) (Nat.le_of_ble_eq_true rfl) ?_
            refine r_failedLong ?_
            refine T_goto (tgt := 87) dX7_cell_72 (by decide) ?_
            refine T_lret dX7_cell_87 rfl ?_
            first | (rw [← hD1, st2_st2]; first | exact kN (by omega) (by omega) | exact kC (by omega) (by omega) (by omega) | exact kI (by omega) (by omega) (by omega) (by omega)) | exact kk (by omega) (by omega) (by omega) h6 h7 | (exfalso; omega)
        · refine T_if_le 75 dX7_cell_59 (by decide) (by unfold InR; decide) (fun _ => ?_) (fun h => absurd (by decide) h)
          refine T_aload_n dX7_cell_75 rfl ?_
          refine T_getR dX7_cell_76 flX7_74 rfl rfl ?_
          refine T_bipush dX7_cell_79 (by decide) ?_
          refine T_iload_n dX7_cell_81 rfl ?_
          refine T_imul dX7_cell_82 ?_
          refine T_iload_n dX7_cell_83 rfl ?_
          refine T_iadd dX7_cell_84 ?_
          refine T_iald dX7_cell_85 rfl (by first | decide | omega) (by first | omega | (simp [st2]; omega)) (by first | omega | (simp [st2]; omega)) ?_
          refine T_i2l dX7_cell_86 s4 ?_
          refine T_lret dX7_cell_87 rfl ?_
          first | (rw [← hD1, st2_st2]; first | exact kN (by omega) (by omega) | exact kC (by omega) (by omega) (by omega) | exact kI (by omega) (by omega) (by omega) (by omega)) | exact kk (by omega) (by omega) (by omega) h6 h7 | (exfalso; omega)
        · refine T_if_le 75 dX7_cell_59 (by decide) (by unfold InR; decide) (fun h => absurd h (by decide)) (fun _ => ?_)
          refine T_aload_n dX7_cell_62 rfl ?_
          refine T_aload_n dX7_cell_63 rfl ?_
          refine T_iload_n dX7_cell_64 rfl ?_
          refine T_iload_n dX7_cell_65 rfl ?_
          refine T_cV_2 dX7_cell_66 lkX7_250 rfl (Nat.le_of_ble_eq_true rfl) (RO_r (by decide)) (Nat.le_of_ble_eq_true rfl) ?_
          refine r_noCell hR' ⟨h1, h2⟩ hi (fun h5 => ?_) (fun h5 h6 h7 => ?_) (fun h5 h6 => ?_)
          · refine T_cV_1 dX7_cell_69 lkX7_253 rfl (Nat.le_of_ble_eq_true rfl) (RO_r (by decide)) (Nat.le_of_ble_eq_true rfl) ?_
            refine r_failedLong ?_
            refine T_goto (tgt := 87) dX7_cell_72 (by decide) ?_
            refine T_lret dX7_cell_87 rfl ?_
            first | (rw [← hD1, st2_st2]; first | exact kN (by omega) (by omega) | exact kC (by omega) (by omega) (by omega) | exact kI (by omega) (by omega) (by omega) (by omega)) | exact kk (by omega) (by omega) (by omega) h6 h7 | (exfalso; omega)
          · refine T_cV_1 dX7_cell_69 lkX7_253 rfl (Nat.le_of_ble_eq_true rfl) (RO_r (by decide)) (Nat.le_of_ble_eq_true rfl) ?_
            refine r_failedLong ?_
            refine T_goto (tgt := 87) dX7_cell_72 (by decide) ?_
            refine T_lret dX7_cell_87 rfl ?_
            first | (rw [← hD1, st2_st2]; first | exact kN (by omega) (by omega) | exact kC (by omega) (by omega) (by omega) | exact kI (by omega) (by omega) (by omega) (by omega)) | exact kk (by omega) (by omega) (by omega) h6 h7 | (exfalso; omega)
          · refine T_cV_1 dX7_cell_69 lkX7_253 rfl (Nat.le_of_ble_eq_true rfl) (RO_r (by decide)) (Nat.le_of_ble_eq_true rfl) ?_
            refine r_failedLong ?_
            refine T_goto (tgt := 87) dX7_cell_72 (by decide) ?_
            refine T_lret dX7_cell_87 rfl ?_
            first | (rw [← hD1, st2_st2]; first | exact kN (by omega) (by omega) | exact kC (by omega) (by omega) (by omega) | exact kI (by omega) (by omega) (by omega) (by omega)) | exact kk (by omega) (by omega) (by omega) h6 h7 | (exfalso; omega)
      · refine T_aload_n dX7_cell_37 rfl ?_
        refine T_getR dX7_cell_38 flX7_71 rfl rfl ?_
        refine T_iload_n dX7_cell_41 rfl ?_
        refine T_iald dX7_cell_42 rfl (by first | decide | omega) (by first | omega | (simp [st2]; omega)) (by first | omega | (simp [st2]; omega)) ?_
        refine T_iload_n dX7_cell_43 rfl ?_
        refine T_icmp_eq 53 dX7_cell_44 (by decide) (by first | (unfold InR; omega) | (simp [st2, InR]; omega)) (by first | (unfold InR; omega) | (simp [st2, InR]; omega)) (fun hc44 => ?_) (fun hc44 => ?_)
        · refine T_aload_n dX7_cell_53 rfl ?_
          refine T_iload_n dX7_cell_54 rfl ?_
          refine T_iload_n dX7_cell_55 rfl ?_
          refine T_cV_2 dX7_cell_56 lkX7_250 rfl (Nat.le_of_ble_eq_true rfl) (RO_r (by decide)) (Nat.le_of_ble_eq_true rfl) ?_
          refine r_noCell hR' ⟨h1, h2⟩ hi (fun h5 => ?_) (fun h5 h6 h7 => ?_) (fun h5 h6 => ?_)
          · refine T_if_le 75 dX7_cell_59 (by decide) (by unfold InR; decide) (fun h => absurd h (by decide)) (fun _ => ?_)
            refine T_aload_n dX7_cell_62 rfl ?_
            refine T_aload_n dX7_cell_63 rfl ?_
            refine T_iload_n dX7_cell_64 rfl ?_
            refine T_iload_n dX7_cell_65 rfl ?_
            refine T_cV_2 dX7_cell_66 lkX7_250 rfl (Nat.le_of_ble_eq_true rfl) (RO_r (by decide)) (Nat.le_of_ble_eq_true rfl) ?_
            refine r_noCell hR' ⟨h1, h2⟩ hi (fun h5 => ?_) (fun h5 h6 h7 => ?_) (fun h5 h6 => ?_)
            · refine T_cV_1 dX7_cell_69 lkX7_253 rfl (Nat.le_of_ble_eq_true rfl) (RO_r (by decide)) (Nat.le_of_ble_eq_true rfl) ?_
              refine r_failedLong ?_
              refine T_goto (tgt := 87) dX7_cell_72 (by decide) ?_
              refine T_lret dX7_cell_87 rfl ?_
              first | (rw [← hD1, st2_st2]; first | exact kN (by omega) (by omega) | exact kC (by omega) (by omega) (by omega) | exact kI (by omega) (by omega) (by omega) (by omega)) | exact kk (by omega) (by omega) (by omega) h6 h7 | (exfalso; omega)
            · refine T_cV_1 dX7_cell_69 lkX7_253 rfl (Nat.le_of_ble_eq_true rfl) (RO_r (by decide)) (Nat.le_of_ble_eq_true rfl) ?_
              refine r_failedLong ?_
              refine T_goto (tgt := 87) dX7_cell_72 (by decide) ?_
              refine T_lret dX7_cell_87 rfl ?_
              first | (rw [← hD1, st2_st2]; first | exact kN (by omega) (by omega) | exact kC (by omega) (by omega) (by omega) | exact kI (by omega) (by omega) (by omega) (by omega)) | exact kk (by omega) (by omega) (by omega) h6 h7 | (exfalso; omega)
            · refine T_cV_1 dX7_cell_69 lkX7_253 rfl (Nat.le_of_ble_eq_true rfl) (RO_r (by decide)) (Nat.le_of_ble_eq_true rfl) ?_
              refine r_failedLong ?_
              refine T_goto (tgt := 87) dX7_cell_72 (by decide) ?_
              refine T_lret dX7_cell_87 rfl ?_
              first | (rw [← hD1, st2_st2]; first | exact kN (by omega) (by omega) | exact kC (by omega) (by omega) (by omega) | exact kI (by omega) (by omega) (by omega) (by omega)) | exact kk (by omega) (by omega) (by omega) h6 h7 | (exfalso; omega)
          · refine T_if_le 75 dX7_cell_59 (by decide) (by unfold InR; decide) (fun _ => ?_) (fun h => absurd (by decide) h)
            refine T_aload_n dX7_cell_75 rfl ?_
            refine T_getR dX7_cell_76 flX7_74 rfl rfl ?_
            refine T_bipush dX7_cell_79 (by decide) ?_
            refine T_iload_n dX7_cell_81 rfl ?_
            refine T_imul dX7_cell_82 ?_
            refine T_iload_n dX7_cell_83 rfl ?_
            refine T_iadd dX7_cell_84 ?_
            refine T_iald dX7_cell_85 rfl (by first | decide | omega) (by first | omega | (simp [st2]; omega)) (by first | omega | (simp [st2]; omega)) ?_
            refine T_i2l dX7_cell_86 s4 ?_
            refine T_lret dX7_cell_87 rfl ?_
            first | (rw [← hD1, st2_st2]; first | exact kN (by omega) (by omega) | exact kC (by omega) (by omega) (by omega) | exact kI (by omega) (by omega) (by omega) (by omega)) | exact kk (by omega) (by omega) (by omega) h6 h7 | (exfalso; omega)
          · refine T_if_le 75 dX7_cell_59 (by decide) (by unfold InR; decide) (fun h => absurd h (by decide)) (fun _ => ?_)
            refine T_aload_n dX7_cell_62 rfl ?_
            refine T_aload_n dX7_cell_63 rfl ?_
            refine T_iload_n dX7_cell_64 rfl ?_
            refine T_iload_n dX7_cell_65 rfl ?_
            refine T_cV_2 dX7_cell_66 lkX7_250 rfl (Nat.le_of_ble_eq_true rfl) (RO_r (by decide)) (Nat.le_of_ble_eq_true rfl) ?_
            refine r_noCell hR' ⟨h1, h2⟩ hi (fun h5 => ?_) (fun h5 h6 h7 => ?_) (fun h5 h6 => ?_)
            · refine T_cV_1 dX7_cell_69 lkX7_253 rfl (Nat.le_of_ble_eq_true rfl) (RO_r (by decide)) (Nat.le_of_ble_eq_true rfl) ?_
              refine r_failedLong ?_
              refine T_goto (tgt := 87) dX7_cell_72 (by decide) ?_
              refine T_lret dX7_cell_87 rfl ?_
              first | (rw [← hD1, st2_st2]; first | exact kN (by omega) (by omega) | exact kC (by omega) (by omega) (by omega) | exact kI (by omega) (by omega) (by omega) (by omega)) | exact kk (by omega) (by omega) (by omega) h6 h7 | (exfalso; omega)
            · refine T_cV_1 dX7_cell_69 lkX7_253 rfl (Nat.le_of_ble_eq_true rfl) (RO_r (by decide)) (Nat.le_of_ble_eq_true rfl) ?_
              refine r_failedLong ?_
              refine T_goto (tgt := 87) dX7_cell_72 (by decide) ?_
              refine T_lret dX7_cell_87 rfl ?_
              first | (rw [← hD1, st2_st2]; first | exact kN (by omega) (by omega) | exact kC (by omega) (by omega) (by omega) | exact kI (by omega) (by omega) (by omega) (by omega)) | exact kk (by omega) (by omega) (by omega) h6 h7 | (exfalso; omega)
            · refine T_cV_1 dX7_cell_69 lkX7_253 rfl (Nat.le_of_ble_eq_true rfl) (RO_r (by decide)) (Nat.le_of_ble_eq_true rfl) ?_
              refine r_failedLong ?_
              refine T_goto (tgt := 87) dX7_cell_72 (by decide) ?_
              refine T_lret dX7_cell_87 rfl ?_
              first | (rw [← hD1, st2_st2]; first | exact kN (by omega) (by omega) | exact kC (by omega) (by omega) (by omega) | exact kI (by omega) (by omega) (by omega) (by omega)) | exact kk (by omega) (by omega) (by omega) h6 h7 | (exfalso; omega)
        · refine T_aload_n dX7_cell_47 rfl ?_
          refine T_iconst dX7_cell_48 ?_
          refine T_cV_1 dX7_cell_49 lkX7_253 rfl (Nat.le_of_ble_eq_true rfl) (RO_r (by decide)) (Nat.le_of_ble_eq_true rfl) ?_
          refine r_failedLong ?_
          refine T_lret dX7_cell_52 rfl ?_
          first | (rw [← hD1, st2_st2]; first | exact kN (by omega) (by omega) | exact kC (by omega) (by omega) (by omega) | exact kI (by omega) (by omega) (by omega) (by omega)) | exact kk (by omega) (by omega) (by omega) h6 h7 | (exfalso; omega)
    · refine T_if_ne 28 dX7_cell_21 (by decide) (by unfold InR; decide) (fun h => absurd h (by decide)) (fun _ => ?_)
      refine T_cS_0 dX7_cell_24 lkX7_95 (Nat.le_of_ble_eq_true rfl) (RO_r (by decide)) (Nat.le_of_ble_eq_true rfl) ?_
      refine r_lost ?_
      refine T_lret dX7_cell_27 rfl ?_
      exact kO (by omega)
  · refine T_if_ne 24 dX7_cell_9 (by decide) (by unfold InR; decide) (fun _ => ?_) (fun h => absurd (by decide) h)
    refine T_cS_0 dX7_cell_24 lkX7_95 (Nat.le_of_ble_eq_true rfl) (RO_r (by decide)) (Nat.le_of_ble_eq_true rfl) ?_
    refine r_lost ?_
    refine T_lret dX7_cell_27 rfl ?_
    exact kO (by omega)
end

