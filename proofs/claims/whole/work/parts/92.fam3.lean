section
variable {g : G0} {d : Nat} {P : Option Value → List SC → DD → Prop} {D : DD}
/-- what a home's heads cost at a church -/
noncomputable def fcC (D : DD) (h c : Nat) : Int := cif (bit (D 5 h) c) 500000000 (D 4 h * farC D h c)
theorem fcC_bd (hL : LK D) (h c : Nat) : (bit (D 5 h) c ∧ fcC D h c = 500000000) ∨ (¬ bit (D 5 h) c ∧ fcC D h c = D 4 h * farC D h c ∧ 0 ≤ fcC D h c ∧ fcC D h c ≤ 36000) := by
  unfold fcC
  have x := hL.2.2.2.2.2.2.1 h
  have y := farC_bd hL h c
  by_cases b : bit (D 5 h) c
  · rw [cif_pos b]; exact Or.inl ⟨b, rfl⟩
  · rw [cif_neg b]; exact Or.inr ⟨b, rfl, Int.mul_nonneg x.1 y.1, Int.le_trans (Int.mul_le_mul x.2 y.2 y.1 (by decide)) (by decide)⟩
theorem c_loadHome {h : Nat} (hL : LK D) (hC : D 38 7 = D 1 9) (hh : h < 7) (hk : ∀ (D' : DD) (n : Int), (∀ r, r ≠ 39 → D' r = D r) → (∀ c, c < (D 1 9).toNat → D' 39 (h * 5 + c) = fcC D h c) → (∀ j, (∀ c, c < 5 → j ≠ h * 5 + c) → D' 39 j = D 39 j) → (0 ≤ n ∧ n ≤ 500000000) → (∀ c, c < (D 1 9).toNat → n ≤ fcC D h c) → P (some (iI n)) SH D') : TM g mX0_loadHome (d + 2) P [.ref 38, .ref 1, iI h] D := by
  have hM := hL.2.1
  have eh : (h : Int).toNat = h := Int.toNat_natCast h
  have loop : ∀ (q c : Nat) (n : Int) (D1 : DD) (m5 m6 : Option Value), q + c = (D 1 9).toNat → (∀ r, r ≠ 39 → D1 r = D r) → (∀ c', c' < c → D1 39 (h * 5 + c') = fcC D h c') → (∀ j, (∀ c, c < 5 → j ≠ h * 5 + c) → D1 39 j = D 39 j) → (0 ≤ n ∧ n ≤ 500000000) → (∀ c', c' < c → n ≤ fcC D h c') → T g mX0_loadHome (rmd (d + 2) 0 0) 0 0 (Qm g (rmd (d + 2) 0 0) P) 6 [some (.ref 38), some (.ref 1), some (iI h), some (iI n), some (iI c), m5, m6] [] SH D1 := by
    intro q
    induction q with
    | zero =>
      intro c n D1 m5 m6 hq r1 r2 r3 r4 r5
      have z : D1 38 7 = D 1 9 := by rw [r1 38 (by decide)]; exact hC
      refine T_iload dX0_loadHome_6 rfl ?_
      refine T_aload_n dX0_loadHome_8 rfl ?_
      refine T_getI dX0_loadHome_9 flX0_46 rfl rfl ?_
      refine T_icmp_ge 87 dX0_loadHome_12 (by decide) (by first | (unfold InR; omega) | (simp [st2, InR]; omega)) (by first | (unfold InR; omega) | (simp [st2, InR]; omega)) (fun hc12 => ?_) (fun hc12 => (by exfalso; omega))
      refine T_iload_n dX0_loadHome_87 rfl ?_
      refine T_iret dX0_loadHome_88 rfl ?_
      exact hk D1 n r1 (fun c' hc' => r2 c' (by omega)) r3 r4 (fun c' hc' => r5 c' (by omega))
    | succ q ih =>
      intro c n D1 m5 m6 hq r1 r2 r3 r4 r5
      have z : D1 38 7 = D 1 9 := by rw [r1 38 (by decide)]; exact hC
      have ml : ∀ a, 1 ≤ a → a ≤ 9 → D1 a = D a := fun a h1 h2 => r1 a (by omega)
      have hL1 : LK D1 := LK_fr ml hL
      obtain ⟨-, -, ea, ef⟩ := mlC_of ml
      have ec : (c : Int).toNat = c := Int.toNat_natCast c
      have ix : ((h : Int) * 5 + c).toNat = h * 5 + c := by omega
      have e1 : farK (D1 6 (c : Int).toNat) (D1 2 (h : Int).toNat) (D1 3 (h : Int).toNat) (D1 7 (c : Int).toNat) (D1 8 (c : Int).toNat) (D1 1 10) = farC D h c := by rw [← ef, eh, ec]; rfl
      have e4 : D1 4 (h : Int).toNat = D 4 h := by rw [eh, ml 4 (by decide) (by decide)]
      have e5 : D1 5 (h : Int).toNat = D 5 h := by rw [eh, ml 5 (by decide) (by decide)]
      have bd := fcC_bd hL h c
      have x4 := hL.2.2.2.2.2.2.1 h
      have y4 := farC_bd hL h c
      have go : ∀ (v : Int) (m5 m6 : Option Value), v = fcC D h c → T g mX0_loadHome (rmd (d + 2) 0 0) 0 0 (Qm g (rmd (d + 2) 0 0) P) 6 [some (.ref 38), some (.ref 1), some (iI h), some (iI (if v < n then v else n)), some (iI ((c + 1 : Nat) : Int)), m5, m6] [] SH (st2 D1 39 ((h : Int) * 5 + c).toNat v) := by
        intro v m5 m6 hv
        rw [ix]
        refine ih (c + 1) _ _ _ _ (by omega) (fun r e => by rw [st2_row e]; exact r1 r e) (fun c' hc' => ?_) (fun j hj => by rw [st2_ne (hj c (by omega))]; exact r3 j hj) (by split <;> omega) (fun c' hc' => ?_)
        · by_cases e : c' = c
          · subst e; rw [st2_at]; exact hv
          · rw [st2_ne (by omega)]; exact r2 c' (by omega)
        · by_cases e : c' = c
          · subst e; split <;> omega
          · have := r5 c' (by omega); split <;> omega
      refine T_iload dX0_loadHome_6 rfl ?_
      refine T_aload_n dX0_loadHome_8 rfl ?_
      refine T_getI dX0_loadHome_9 flX0_46 rfl rfl ?_
      refine T_icmp_ge 87 dX0_loadHome_12 (by decide) (by first | (unfold InR; omega) | (simp [st2, InR]; omega)) (by first | (unfold InR; omega) | (simp [st2, InR]; omega)) (fun hc12 => (by exfalso; omega)) (fun hc12 => ?_)
      refine T_aload_n dX0_loadHome_15 rfl ?_
      refine T_iload dX0_loadHome_16 rfl ?_
      refine T_aload_n dX0_loadHome_18 rfl ?_
      refine T_getR dX0_loadHome_19 flX0_63 rfl rfl ?_
      refine T_iload_n dX0_loadHome_22 rfl ?_
      refine T_iald dX0_loadHome_23 rfl (by first | decide | omega) (by first | omega | (simp [st2]; omega)) (by first | omega | (simp [st2]; omega)) ?_
      refine T_aload_n dX0_loadHome_24 rfl ?_
      refine T_getR dX0_loadHome_25 flX0_66 rfl rfl ?_
      refine T_iload_n dX0_loadHome_28 rfl ?_
      refine T_iald dX0_loadHome_29 rfl (by first | decide | omega) (by first | omega | (simp [st2]; omega)) (by first | omega | (simp [st2]; omega)) ?_
      refine T_cV_3 dX0_loadHome_30 lkX0_69 rfl (Nat.le_of_ble_eq_true rfl) (RO_r (by decide)) (Nat.le_of_ble_eq_true rfl) ?_
      refine c_farTo hL1 (by omega) (hL1.2.2.2.2.1 _) (hL1.2.2.2.2.2.1 _) ?_
      rw [e1]
      refine T_istore dX0_loadHome_33 (by decide) ?_
      refine T_aload_n dX0_loadHome_35 rfl ?_
      refine T_iload_n dX0_loadHome_36 rfl ?_
      refine T_iload dX0_loadHome_37 rfl ?_
      refine T_cV_2 dX0_loadHome_39 lkX0_73 rfl (Nat.le_of_ble_eq_true rfl) (RO_r (by decide)) (Nat.le_of_ble_eq_true rfl) ?_
      refine c_isBarred (by omega) (fun hb => ?_) (fun hb => ?_)
      rw [e5] at hb
      · refine T_if_eq 50 dX0_loadHome_42 (by decide) (by unfold InR; decide) (fun h => absurd h (by decide)) (fun _ => ?_)
        refine T_ldc (n := 500000000) dX0_loadHome_45 tk_583 ?_
        refine T_goto (tgt := 59) dX0_loadHome_47 (by decide) ?_
        first | rw [e4] | skip
        refine T_istore dX0_loadHome_59 (by decide) ?_
        refine T_aload_n dX0_loadHome_61 rfl ?_
        refine T_getR dX0_loadHome_62 flX0_9 rfl rfl ?_
        refine T_iload_n dX0_loadHome_65 rfl ?_
        refine T_iconst dX0_loadHome_66 ?_
        refine T_imul dX0_loadHome_67 ?_
        refine T_iload dX0_loadHome_68 rfl ?_
        refine T_iadd dX0_loadHome_70 ?_
        refine T_iload dX0_loadHome_71 rfl ?_
        refine T_iast dX0_loadHome_73 rfl (by first | decide | omega) (by first | omega | (simp [st2]; omega)) (by first | omega | (simp [st2]; omega)) ?_
        refine T_iload_n dX0_loadHome_74 rfl ?_
        refine T_iload dX0_loadHome_75 rfl ?_
        refine T_min dX0_loadHome_77 lkX0_36 (by unfold InR; omega) (by first | (unfold InR; omega) | (rw [Int.mul_comm]; rcases bd with z | z; exact absurd z.1 (by first | exact hb | (intro z2; exact hb (by rw [e5]; exact z2))); unfold InR; omega)) (Nat.le_of_ble_eq_true rfl) ⟨by show _ ≤ _; first | decide | (simp only [rmd]; omega) | omega, by show _ ≤ _; first | decide | (simp only [rmd]; omega) | omega⟩ ?_
        refine T_istore_n dX0_loadHome_80 (by decide) ?_
        refine T_iinc dX0_loadHome_81 rfl (by decide) ?_
        refine T_goto (tgt := 6) dX0_loadHome_84 (by decide) ?_
        first
        | exact go _ _ _ (by rcases bd with z | z; exact z.2.symm; exact absurd hb z.1)
        | exact go _ _ _ (by rcases bd with z | z; exact absurd (by rw [e5]; exact z.1) hb; rw [z.2.1, Int.mul_comm])
      · refine T_if_eq 50 dX0_loadHome_42 (by decide) (by unfold InR; decide) (fun _ => ?_) (fun h => absurd (by decide) h)
        refine T_iload dX0_loadHome_50 rfl ?_
        refine T_aload_n dX0_loadHome_52 rfl ?_
        refine T_getR dX0_loadHome_53 flX0_50 rfl rfl ?_
        refine T_iload_n dX0_loadHome_56 rfl ?_
        refine T_iald dX0_loadHome_57 rfl (by first | decide | omega) (by first | omega | (simp [st2]; omega)) (by first | omega | (simp [st2]; omega)) ?_
        refine T_imul dX0_loadHome_58 ?_
        first | rw [e4] | skip
        refine T_istore dX0_loadHome_59 (by decide) ?_
        refine T_aload_n dX0_loadHome_61 rfl ?_
        refine T_getR dX0_loadHome_62 flX0_9 rfl rfl ?_
        refine T_iload_n dX0_loadHome_65 rfl ?_
        refine T_iconst dX0_loadHome_66 ?_
        refine T_imul dX0_loadHome_67 ?_
        refine T_iload dX0_loadHome_68 rfl ?_
        refine T_iadd dX0_loadHome_70 ?_
        refine T_iload dX0_loadHome_71 rfl ?_
        refine T_iast dX0_loadHome_73 rfl (by first | decide | omega) (by first | omega | (simp [st2]; omega)) (by first | omega | (simp [st2]; omega)) ?_
        refine T_iload_n dX0_loadHome_74 rfl ?_
        refine T_iload dX0_loadHome_75 rfl ?_
        refine T_min dX0_loadHome_77 lkX0_36 (by unfold InR; omega) (by first | (unfold InR; omega) | (rw [Int.mul_comm]; rcases bd with z | z; exact absurd z.1 (by first | exact hb | (intro z2; exact hb (by rw [e5]; exact z2))); unfold InR; omega)) (Nat.le_of_ble_eq_true rfl) ⟨by show _ ≤ _; first | decide | (simp only [rmd]; omega) | omega, by show _ ≤ _; first | decide | (simp only [rmd]; omega) | omega⟩ ?_
        refine T_istore_n dX0_loadHome_80 (by decide) ?_
        refine T_iinc dX0_loadHome_81 rfl (by decide) ?_
        refine T_goto (tgt := 6) dX0_loadHome_84 (by decide) ?_
        first
        | exact go _ _ _ (by rcases bd with z | z; exact z.2.symm; exact absurd hb z.1)
        | exact go _ _ _ (by rcases bd with z | z; exact absurd (by rw [e5]; exact z.1) hb; rw [z.2.1, Int.mul_comm])
  refine T_ldc (n := 500000000) dX0_loadHome_0 tk_583 ?_
  refine T_istore_n dX0_loadHome_2 (by decide) ?_
  refine T_iconst dX0_loadHome_3 ?_
  refine T_istore dX0_loadHome_4 (by decide) ?_
  exact loop (D 1 9).toNat 0 500000000 D none none (by omega) (fun r _ => rfl) (fun c' hc' => by omega) (fun j _ => rfl) (by omega) (fun c' hc' => by omega)
end

