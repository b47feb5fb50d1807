section
variable {g : G0} {d : Nat} {P : Option Value → List SC → DD → Prop} {D : DD}
theorem rowR_ok {has lane size l i n : Int} (h : (rowR has lane size l i n).1 = 0) : (rowR has lane size l i n).2 = 0 ∧ 0 ≤ n ∧ (0 ≤ i ∧ i ≤ size ∧ n ≤ size - i) := by
  revert h
  unfold rowR
  (repeat' split) <;> first | (intro q; exact absurd q (by decide)) | (intro _; refine ⟨rfl, by omega, ?_⟩; assumption)
theorem FT_bd {co : Nat → Int} {m : Nat} (h : psT co m ≤ 80) : 0 ≤ FT co m ∧ FT co m ≤ 100 := by
  have a := itE_le co (psT co m)
  have b := itF_bd co (psT co m) (hcT co m) (m - hcT co m)
  unfold FT
  by_cases e : fT co m = -1
  · rw [if_pos e]; unfold eT; omega
  · rw [if_neg e]; unfold fT at e ⊢; omega
/-- land: refused, a fault, or taken -/
theorem c_land {k l i n : Int} (hL : LK D) (hch : D 1 11 ≤ 999000) (hS : SK D) (hk : InR k) (hl : InR l) (hi : InR i) (hn : InR n) (kU : ¬ (0 ≤ k ∧ k ≤ 3) → P (some (iI (-1))) SH (st2 D 0 10 0)) (kR : 0 ≤ k → k ≤ 3 → (rowR (D (49 + 2 * k.toNat) 1) (D (49 + 2 * k.toNat) 2) (D (49 + 2 * k.toNat) 3) l i n).1 ≠ 0 → P (some (iI (rowR (D (49 + 2 * k.toNat) 1) (D (49 + 2 * k.toNat) 2) (D (49 + 2 * k.toNat) 3) l i n).1)) SH (st2 D 0 10 (rowR (D (49 + 2 * k.toNat) 1) (D (49 + 2 * k.toNat) 2) (D (49 + 2 * k.toNat) 3) l i n).2)) (kF : 0 ≤ k → k ≤ 3 → (rowR (D (49 + 2 * k.toNat) 1) (D (49 + 2 * k.toNat) 2) (D (49 + 2 * k.toNat) 3) l i n).1 = 0 → ∀ (D' : DD) (m : Nat), (∀ r, (r < 10 ∨ 15 < r) → D' r = st2 D 0 10 0 r) → EndT (coS (D (49 + 2 * k.toNat + 1)) i.toNat n.toNat) m → ¬ TakenT (coS (D (49 + 2 * k.toNat + 1)) i.toNat n.toNat) n.toNat m → P (some (iI (-100 - FT (coS (D (49 + 2 * k.toNat + 1)) i.toNat n.toNat) m))) SH D') (kk : 0 ≤ k → k ≤ 3 → (rowR (D (49 + 2 * k.toNat) 1) (D (49 + 2 * k.toNat) 2) (D (49 + 2 * k.toNat) 3) l i n).1 = 0 → ∀ (D1 D' : DD) (m : Nat), (∀ r, (r < 10 ∨ 15 < r) → D1 r = st2 D 0 10 0 r) → LoC D1 D' (coS (D (49 + 2 * k.toNat + 1)) i.toNat n.toNat) (m + 1) → EndT (coS (D (49 + 2 * k.toNat + 1)) i.toNat n.toNat) m → TakenT (coS (D (49 + 2 * k.toNat + 1)) i.toNat n.toNat) n.toNat m → P (some (iI ((m + 1 : Nat) : Int))) SH D') : TM g mX6_land (d + 5) P [.ref 0, iI k, iI l, iI i, iI n] D := by
  refine T_aload_n dX6_land_0 rfl ?_
  refine T_iload_n dX6_land_1 rfl ?_
  refine T_iload_n dX6_land_2 rfl ?_
  refine T_iload_n dX6_land_3 rfl ?_
  refine T_iload dX6_land_4 rfl ?_
  refine T_cV_4 dX6_land_6 lkX6_95 rfl (Nat.le_of_ble_eq_true rfl) (RO_r (by decide)) (Nat.le_of_ble_eq_true rfl) ?_
  refine c_refusalOfRow hS hk hl hi hn (fun h1 => ?_) (fun h1 h2 => ?_)
  · skip
    refine T_istore dX6_land_9 (by decide) ?_
    skip
    refine T_iload dX6_land_11 rfl ?_
    refine T_if_eq 19 dX6_land_13 (by decide) (by unfold InR; decide) (fun h => absurd h (by decide)) (fun _ => ?_)
    refine T_iload dX6_land_16 rfl ?_
    refine T_iret dX6_land_18 rfl ?_
    first
    | exact kU (by omega)
    | exact kR h1 h2 hc13
    | (exfalso; omega)
    | exact kk D2 D3 m f1 lo hE hT
    | (rw [hFa]; exact kF D2 m f1 hE hT)
  · skip
    refine T_istore dX6_land_9 (by decide) ?_
    skip
    refine T_iload dX6_land_11 rfl ?_
    refine T_if_eq 19 dX6_land_13 (by decide) (by unfold InR; unfold rowR; (repeat' split) <;> decide) (fun hc13 => ?_) (fun hc13 => ?_)
    · have hf := rowR_ok hc13
      have kF := kF h1 h2 hc13
      have kk := kk h1 h2 hc13
      rw [hf.1]
      have hsh := shAt_k (n := k.toNat) (by omega)
      obtain ⟨s1, s2, s3, s4⟩ := hS k.toNat (by omega)
      have hL' : LK (st2 D 0 10 0) := hL
      have e5 : st2 D 0 10 0 (49 + 2 * k.toNat + 1) = D (49 + 2 * k.toNat + 1) := st2_row (by omega)
      have e11 : st2 D 0 10 0 1 11 = D 1 11 := rfl
      have hI' : ∀ j, InR (st2 D 0 10 0 (49 + 2 * k.toNat + 1) j) := fun j => by rw [e5]; exact s4 j
      rw [← e5] at kF kk
      generalize hD1 : st2 D 0 10 0 = D1 at hL' hI' kF kk e11 ⊢
      obtain ⟨i, rfl⟩ : ∃ a : Nat, i = a := ⟨i.toNat, by omega⟩
      obtain ⟨n, rfl⟩ : ∃ a : Nat, n = a := ⟨n.toNat, by omega⟩
      rw [Int.toNat_natCast, Int.toNat_natCast] at kF kk
      refine T_aload_n dX6_land_19 rfl ?_
      refine T_getR dX6_land_20 flX6_21 rfl rfl ?_
      refine T_aload_n dX6_land_23 rfl ?_
      refine T_getR dX6_land_24 flX6_51 rfl rfl ?_
      refine T_iload_n dX6_land_27 rfl ?_
      refine T_aald dX6_land_28 rfl (by decide) (by first | omega | (simp [st2]; omega)) (by first | omega | (simp [st2]; omega)) (sheet_at h1 h2) ?_
      refine T_getR dX6_land_29 flX6_98 hsh.1 rfl ?_
      refine T_iload_n dX6_land_32 rfl ?_
      refine T_iload dX6_land_33 rfl ?_
      refine T_cV_3 dX6_land_35 lkX6_101 rfl (Nat.le_of_ble_eq_true rfl) (RO_r (by decide)) (Nat.le_of_ble_eq_true rfl) ?_
      refine c_readItems hsh.2 (by omega) (by omega) hI' (fun D2 m f1 hE hT hm hIt => ?_) (fun D2 m f1 hE hT hm hFa => ?_)
      · refine T_istore dX6_land_38 (by decide) ?_
        refine T_iload dX6_land_40 rfl ?_
        refine T_if_ge 56 dX6_land_42 (by decide) (by unfold InR; omega) (fun hc42 => ?_) (fun hc42 => ?_)
        · refine T_aload_n dX6_land_56 rfl ?_
          refine T_getR dX6_land_57 flX6_21 rfl rfl ?_
          refine T_aload_n dX6_land_60 rfl ?_
          refine T_getR dX6_land_61 flX6_12 rfl rfl ?_
          refine T_iload dX6_land_64 rfl ?_
          refine T_cV_2 dX6_land_66 lkX6_108 rfl (Nat.le_of_ble_eq_true rfl) (RO_r (by decide)) (Nat.le_of_ble_eq_true rfl) ?_
          refine c_layOut (by omega) (LK_fr (fun a h1 h2 => f1 a (by omega)) hL') (by rw [f1 1 (by omega), e11]; exact hch) (fun t ht => ?_) hIt (fun D3 lo => ?_)
          · by_cases e : t = m
            · subst e; exact hT.1
            · exact (hE.1 t (by omega)).1
          refine T_iload dX6_land_69 rfl ?_
          refine T_iret dX6_land_71 rfl ?_
          first
          | exact kU (by omega)
          | exact kR h1 h2 hc13
          | (exfalso; omega)
          | exact kk D2 D3 m f1 lo hE hT
          | (rw [hFa]; exact kF D2 m f1 hE hT)
        · refine T_bipush dX6_land_45 (by decide) ?_
          refine T_aload_n dX6_land_47 rfl ?_
          refine T_getR dX6_land_48 flX6_21 rfl rfl ?_
          refine T_getI dX6_land_51 flX6_105 rfl rfl ?_
          refine T_isub dX6_land_54 ?_
          refine T_iret dX6_land_55 rfl ?_
          first
          | exact kU (by omega)
          | exact kR h1 h2 hc13
          | (exfalso; omega)
          | exact kk D2 D3 m f1 lo hE hT
          | (rw [hFa]; exact kF D2 m f1 hE hT)
      · refine T_istore dX6_land_38 (by decide) ?_
        refine T_iload dX6_land_40 rfl ?_
        refine T_if_ge 56 dX6_land_42 (by decide) (by unfold InR; decide) (fun h => absurd h (by decide)) (fun _ => ?_)
        refine T_bipush dX6_land_45 (by decide) ?_
        refine T_aload_n dX6_land_47 rfl ?_
        refine T_getR dX6_land_48 flX6_21 rfl rfl ?_
        refine T_getI dX6_land_51 flX6_105 rfl rfl ?_
        refine T_isub dX6_land_54 ?_
        refine T_iret dX6_land_55 rfl ?_
        first
        | exact kU (by omega)
        | exact kR h1 h2 hc13
        | (exfalso; omega)
        | exact kk D2 D3 m f1 lo hE hT
        | (rw [hFa]; exact kF D2 m f1 hE hT)
    · refine T_iload dX6_land_16 rfl ?_
      refine T_iret dX6_land_18 rfl ?_
      first
      | exact kU (by omega)
      | exact kR h1 h2 hc13
      | (exfalso; omega)
      | exact kk D2 D3 m f1 lo hE hT
      | (rw [hFa]; exact kF D2 m f1 hE hT)
end

