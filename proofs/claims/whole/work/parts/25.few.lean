section
variable {g : G0} {d : Nat} {P : Option Value → List SC → DD → Prop} {D : DD}
theorem fewR_bd {H : Nat} {hd : Nat → Int} {s : Int} (hH : H ≤ 10) (hb : ∀ j, 0 ≤ hd j ∧ hd j ≤ 5) : 0 ≤ fewR H hd s ∧ fewR H hd s ≤ 50 := by
  have h := sm_bd (f := fun h => cif (bit s h) (hd h) 0) (a := 0) (b := 5) H (fun j _ => by
    by_cases hs : bit s j
    · rw [cif_pos hs]; exact hb j
    · rw [cif_neg hs]; omega)
  unfold fewR
  omega
theorem fewL_bd {H C : Nat} {se : Nat → Int} {br : Nat → Nat → Prop} {s : Int} (hC : C ≤ 5) (hb : ∀ j, 0 ≤ se j ∧ se j ≤ 50) : 0 ≤ fewL C H se br s ∧ fewL C H se br s ≤ 250 := by
  have h := sm_bd (f := fun c => cif (∃ h, h < H ∧ bit s h ∧ ¬ br h c) (se c) 0) (a := 0) (b := 50) C (fun j _ => by
    by_cases hs : ∃ h, h < H ∧ bit s h ∧ ¬ br h j
    · rw [cif_pos hs]; exact hb j
    · rw [cif_neg hs]; omega)
  unfold fewL
  omega
theorem c_cannotSit {s : Int} (hL : LK D) (k1 : FewS (D 1 8).toNat (D 1 9).toNat (D 4) (D 9) (fun h c => bit (D 5 h) c) s → P (some (iI 1)) SH D) (k0 : ¬ FewS (D 1 8).toNat (D 1 9).toNat (D 4) (D 9) (fun h c => bit (D 5 h) c) s → P (some (iI 0)) SH D) : TM g mX1_cannotSit d P [.ref 1, iI s] D := by
  have hN := hL.1
  have hM := hL.2.1
  have hbR := fewR_bd (H := (D 1 8).toNat) (hd := D 4) (s := s) (by omega) (fun j => hL.2.2.2.2.2.2.1 j)
  have hse : ∀ j, 0 ≤ D 9 j ∧ D 9 j ≤ 50 := fun j => hL.2.2.2.2.2.2.2.2.2.2.2 j
  have loop2 : ∀ (q c : Nat) (sh : Int), q + c = (D 1 9).toNat → (∀ c : Nat, c < 5 → (bit sh c ↔ ∀ j, j < (D 1 8).toNat → bit s j → bit (D 5 j) c)) → T g mX1_cannotSit (rmd d 0 0) 0 0 (Qm g (rmd d 0 0) P) 55 [some (.ref 1), some (iI s), some (iI (fewR (D 1 8).toNat (D 4) s - fewL c (D 1 8).toNat (D 9) (fun h c => bit (D 5 h) c) s)), some (iI sh), some (iI c)] [] SH D := by
    intro q
    induction q with
    | zero =>
      intro c sh hq hsh
      obtain rfl : c = (D 1 9).toNat := by omega
      have hbL := fewL_bd (H := (D 1 8).toNat) (C := (D 1 9).toNat) (se := D 9) (br := fun h c => bit (D 5 h) c) (s := s) (by omega) hse
      refine T_iload dX1_cannotSit_55 rfl ?_
      refine T_aload_n dX1_cannotSit_57 rfl ?_
      refine T_getI dX1_cannotSit_58 flX1_43 rfl rfl ?_
      refine T_icmp_ge 89 dX1_cannotSit_61 (by decide) (by first | (unfold InR; omega) | (simp [st2, InR]; omega)) (by first | (unfold InR; omega) | (simp [st2, InR]; omega)) (fun hc61 => ?_) (fun hc61 => (by exfalso; omega))
      refine T_iload_n dX1_cannotSit_89 rfl ?_
      refine T_if_le 97 dX1_cannotSit_90 (by decide) (by first | (unfold InR; omega) | (simp [st2, InR]; omega)) (fun hc90 => ?_) (fun hc90 => ?_)
      · refine T_iconst dX1_cannotSit_97 ?_
        refine T_zret dX1_cannotSit_98 rfl (by decide) ?_
        first | exact k1 (by unfold FewS; omega) | exact k0 (by unfold FewS; omega)
      · refine T_iconst dX1_cannotSit_93 ?_
        refine T_goto (tgt := 98) dX1_cannotSit_94 (by decide) ?_
        refine T_zret dX1_cannotSit_98 rfl (by decide) ?_
        first | exact k1 (by unfold FewS; omega) | exact k0 (by unfold FewS; omega)
    | succ q ih =>
      intro c sh hq hsh
      have hb : iand (ishr sh c) 1 = 0 ↔ ∃ h, h < (D 1 8).toNat ∧ bit s h ∧ ¬ bit (D 5 h) c := by
        rw [bit0 (by omega), hsh c (by omega)]
        constructor
        · intro h
          exact Classical.byContradiction fun h2 => h (fun j h3 h4 => Classical.byContradiction fun h5 => h2 ⟨j, h3, h4, h5⟩)
        · rintro ⟨j, h3, h4, h5⟩ h6
          exact h5 (h6 j h3 h4)
      refine T_iload dX1_cannotSit_55 rfl ?_
      refine T_aload_n dX1_cannotSit_57 rfl ?_
      refine T_getI dX1_cannotSit_58 flX1_43 rfl rfl ?_
      refine T_icmp_ge 89 dX1_cannotSit_61 (by decide) (by first | (unfold InR; omega) | (simp [st2, InR]; omega)) (by first | (unfold InR; omega) | (simp [st2, InR]; omega)) (fun hc61 => (by exfalso; omega)) (fun hc61 => ?_)
      refine T_iload_n dX1_cannotSit_64 rfl ?_
      refine T_iload dX1_cannotSit_65 rfl ?_
      refine T_ishr dX1_cannotSit_67 ?_
      refine T_iconst dX1_cannotSit_68 ?_
      refine T_iand dX1_cannotSit_69 ?_
      refine T_if_ne 83 dX1_cannotSit_70 (by decide) (inR_iand _ _) (fun hc70 => ?_) (fun hc70 => ?_)
      · have e2 : fewL (c + 1) (D 1 8).toNat (D 9) (fun h c => bit (D 5 h) c) s = fewL c (D 1 8).toNat (D 9) (fun h c => bit (D 5 h) c) s + 0 := by rw [← cif_neg (a := D 9 c) (b := 0) (fun q => hc70 (hb.mpr q))]; rfl
        rw [Int.add_zero] at e2
        have e3 : fewR (D 1 8).toNat (D 4) s - fewL (c + 1) (D 1 8).toNat (D 9) (fun h c => bit (D 5 h) c) s = fewR (D 1 8).toNat (D 4) s - fewL c (D 1 8).toNat (D 9) (fun h c => bit (D 5 h) c) s := by rw [e2]
        refine T_iinc dX1_cannotSit_83 rfl (by decide) ?_
        refine T_goto (tgt := 55) dX1_cannotSit_86 (by decide) ?_
        rw [← e3]
        exact ih (c + 1) sh (by omega) hsh
      · have e2 : fewL (c + 1) (D 1 8).toNat (D 9) (fun h c => bit (D 5 h) c) s = fewL c (D 1 8).toNat (D 9) (fun h c => bit (D 5 h) c) s + D 9 c := by rw [← cif_pos (a := D 9 c) (b := 0) (hb.mp (Classical.not_not.mp hc70))]; rfl
        have e3 : fewR (D 1 8).toNat (D 4) s - fewL (c + 1) (D 1 8).toNat (D 9) (fun h c => bit (D 5 h) c) s = fewR (D 1 8).toNat (D 4) s - fewL c (D 1 8).toNat (D 9) (fun h c => bit (D 5 h) c) s - D 9 (c : Int).toNat := by rw [e2, Int.toNat_natCast]; omega
        refine T_iload_n dX1_cannotSit_73 rfl ?_
        refine T_aload_n dX1_cannotSit_74 rfl ?_
        refine T_getR dX1_cannotSit_75 flX1_33 rfl rfl ?_
        refine T_iload dX1_cannotSit_78 rfl ?_
        refine T_iald dX1_cannotSit_80 rfl (by first | decide | omega) (by first | omega | (simp [st2]; omega)) (by first | omega | (simp [st2]; omega)) ?_
        refine T_isub dX1_cannotSit_81 ?_
        refine T_istore_n dX1_cannotSit_82 (by decide) ?_
        refine T_iinc dX1_cannotSit_83 rfl (by decide) ?_
        refine T_goto (tgt := 55) dX1_cannotSit_86 (by decide) ?_
        rw [← e3]
        exact ih (c + 1) sh (by omega) hsh
  have loop1 : ∀ (q h : Nat) (sh : Int), q + h = (D 1 8).toNat → (∀ c : Nat, c < 5 → (bit sh c ↔ ∀ j, j < h → bit s j → bit (D 5 j) c)) → T g mX1_cannotSit (rmd d 0 0) 0 0 (Qm g (rmd d 0 0) P) 7 [some (.ref 1), some (iI s), some (iI (fewR h (D 4) s)), some (iI sh), some (iI h)] [] SH D := by
    intro q
    induction q with
    | zero =>
      intro h sh hq hsh
      obtain rfl : h = (D 1 8).toNat := by omega
      refine T_iload dX1_cannotSit_7 rfl ?_
      refine T_aload_n dX1_cannotSit_9 rfl ?_
      refine T_getI dX1_cannotSit_10 flX1_40 rfl rfl ?_
      refine T_icmp_ge 52 dX1_cannotSit_13 (by decide) (by first | (unfold InR; omega) | (simp [st2, InR]; omega)) (by first | (unfold InR; omega) | (simp [st2, InR]; omega)) (fun hc13 => ?_) (fun hc13 => (by exfalso; omega))
      refine T_iconst dX1_cannotSit_52 ?_
      refine T_istore dX1_cannotSit_53 (by decide) ?_
      have l2 := loop2 (D 1 9).toNat 0 sh (by omega) hsh
      rw [show fewL 0 (D 1 8).toNat (D 9) (fun h c => bit (D 5 h) c) s = 0 from rfl, Int.sub_zero] at l2
      exact l2
    | succ q ih =>
      intro h sh hq hsh
      have e : fewR (h + 1) (D 4) s = fewR h (D 4) s + cif (bit s h) (D 4 h) 0 := rfl
      refine T_iload dX1_cannotSit_7 rfl ?_
      refine T_aload_n dX1_cannotSit_9 rfl ?_
      refine T_getI dX1_cannotSit_10 flX1_40 rfl rfl ?_
      refine T_icmp_ge 52 dX1_cannotSit_13 (by decide) (by first | (unfold InR; omega) | (simp [st2, InR]; omega)) (by first | (unfold InR; omega) | (simp [st2, InR]; omega)) (fun hc13 => (by exfalso; omega)) (fun hc13 => ?_)
      refine T_iload_n dX1_cannotSit_16 rfl ?_
      refine T_iload dX1_cannotSit_17 rfl ?_
      refine T_ishr dX1_cannotSit_19 ?_
      refine T_iconst dX1_cannotSit_20 ?_
      refine T_iand dX1_cannotSit_21 ?_
      refine T_iconst dX1_cannotSit_22 ?_
      refine T_icmp_ne 46 dX1_cannotSit_23 (by decide) (inR_iand _ _) (by first | (unfold InR; omega) | (simp [st2, InR]; omega)) (fun hc23 => ?_) (fun hc23 => ?_)
      · have hb : ¬ bit s h := hc23
        have e3 : fewR (h + 1) (D 4) s = fewR h (D 4) s := by rw [e, cif_neg hb, Int.add_zero]
        have hsh2 : ∀ c : Nat, c < 5 → (bit sh c ↔ ∀ j, j < h + 1 → bit s j → bit (D 5 j) c) := fun c hc => by
          rw [hsh c hc]
          constructor
          · intro a j hj hb2
            by_cases hjh : j = h
            · subst hjh; exact absurd hb2 hb
            · exact a j (by omega) hb2
          · intro a j hj hb2; exact a j (by omega) hb2
        refine T_iinc dX1_cannotSit_46 rfl (by decide) ?_
        refine T_goto (tgt := 7) dX1_cannotSit_49 (by decide) ?_
        rw [← e3]
        exact ih (h + 1) _ (by omega) hsh2
      · have hb : bit s h := Classical.not_not.mp hc23
        have e3 : fewR (h + 1) (D 4) s = fewR h (D 4) s + D 4 (h : Int).toNat := by rw [e, cif_pos hb, Int.toNat_natCast]
        have hsh2 : ∀ c : Nat, c < 5 → (bit (iand sh (D 5 (h : Int).toNat)) c ↔ ∀ j, j < h + 1 → bit s j → bit (D 5 j) c) := fun c hc => by
          rw [bit_iand (by omega), hsh c hc, Int.toNat_natCast]
          constructor
          · rintro ⟨a1, a2⟩ j hj hb2
            by_cases hjh : j = h
            · subst hjh; exact a2
            · exact a1 j (by omega) hb2
          · intro a; exact ⟨fun j hj hb2 => a j (by omega) hb2, a h (by omega) hb⟩
        refine T_iload_n dX1_cannotSit_26 rfl ?_
        refine T_aload_n dX1_cannotSit_27 rfl ?_
        refine T_getR dX1_cannotSit_28 flX1_18 rfl rfl ?_
        refine T_iload dX1_cannotSit_31 rfl ?_
        refine T_iald dX1_cannotSit_33 rfl (by first | decide | omega) (by first | omega | (simp [st2]; omega)) (by first | omega | (simp [st2]; omega)) ?_
        refine T_iadd dX1_cannotSit_34 ?_
        refine T_istore_n dX1_cannotSit_35 (by decide) ?_
        refine T_iload_n dX1_cannotSit_36 rfl ?_
        refine T_aload_n dX1_cannotSit_37 rfl ?_
        refine T_getR dX1_cannotSit_38 flX1_21 rfl rfl ?_
        refine T_iload dX1_cannotSit_41 rfl ?_
        refine T_iald dX1_cannotSit_43 rfl (by first | decide | omega) (by first | omega | (simp [st2]; omega)) (by first | omega | (simp [st2]; omega)) ?_
        refine T_iand dX1_cannotSit_44 ?_
        refine T_istore_n dX1_cannotSit_45 (by decide) ?_
        refine T_iinc dX1_cannotSit_46 rfl (by decide) ?_
        refine T_goto (tgt := 7) dX1_cannotSit_49 (by decide) ?_
        rw [← e3]
        exact ih (h + 1) _ (by omega) hsh2
  refine T_iconst dX1_cannotSit_0 ?_
  refine T_istore_n dX1_cannotSit_1 (by decide) ?_
  refine T_iconst dX1_cannotSit_2 ?_
  refine T_istore_n dX1_cannotSit_3 (by decide) ?_
  refine T_iconst dX1_cannotSit_4 ?_
  refine T_istore dX1_cannotSit_5 (by decide) ?_
  exact loop1 (D 1 8).toNat 0 (-1) (by omega) (fun c hc => ⟨fun _ j hj => by omega, fun _ => bit_m1 (by omega)⟩)
theorem c_few (hL : LK D) (hk : ∀ r, IsFew (D 1 8).toNat (D 1 9).toNat (D 4) (D 9) (fun h c => bit (D 5 h) c) r → P (some (iI r)) SH D) : TM g mX6_few (d + 1) P [.ref 0] D := by
  have hN := hL.1
  have e := ishl_pw hN.1 hN.2
  have hp := pw_le (n := (D 1 8).toNat) (by omega)
  have hp1 : 1 ≤ 2 ^ (D 1 8).toNat := Nat.one_le_two_pow
  have loop : ∀ (q : Nat) (s : Int), 1 ≤ s → s + q = ((2 ^ (D 1 8).toNat : Nat) : Int) → (∀ t : Int, 1 ≤ t → t < s → ¬ FewS (D 1 8).toNat (D 1 9).toNat (D 4) (D 9) (fun h c => bit (D 5 h) c) t) → T g mX6_few (rmd (d + 1) 0 0) 0 0 (Qm g (rmd (d + 1) 0 0) P) 2 [some (.ref 0), some (iI s)] [] SH D := by
    intro q
    induction q with
    | zero =>
      intro s h1 h2 h3
      refine T_iload_n dX6_few_2 rfl ?_
      refine T_iconst dX6_few_3 ?_
      refine T_aload_n dX6_few_4 rfl ?_
      refine T_getR dX6_few_5 flX6_12 rfl rfl ?_
      refine T_getI dX6_few_8 flX6_81 rfl rfl ?_
      refine T_ishl dX6_few_11 ?_
      refine T_icmp_ge 34 dX6_few_12 (by decide) (by first | (unfold InR; omega) | (simp [st2, InR]; omega)) (by rw [e]; unfold InR; omega) (fun hc12 => ?_) (fun hc12 => (by exfalso; omega))
      refine T_iconst dX6_few_34 ?_
      refine T_iret dX6_few_35 rfl ?_
      exact hk 0 (Or.inl ⟨rfl, fun t a b => h3 t a (by omega)⟩)
    | succ q ih =>
      intro s h1 h2 h3
      refine T_iload_n dX6_few_2 rfl ?_
      refine T_iconst dX6_few_3 ?_
      refine T_aload_n dX6_few_4 rfl ?_
      refine T_getR dX6_few_5 flX6_12 rfl rfl ?_
      refine T_getI dX6_few_8 flX6_81 rfl rfl ?_
      refine T_ishl dX6_few_11 ?_
      refine T_icmp_ge 34 dX6_few_12 (by decide) (by first | (unfold InR; omega) | (simp [st2, InR]; omega)) (by rw [e]; unfold InR; omega) (fun hc12 => (by exfalso; omega)) (fun hc12 => ?_)
      refine T_aload_n dX6_few_15 rfl ?_
      refine T_getR dX6_few_16 flX6_12 rfl rfl ?_
      refine T_iload_n dX6_few_19 rfl ?_
      refine T_cV_1 dX6_few_20 lkX6_162 rfl (Nat.le_of_ble_eq_true rfl) (RO_r (by decide)) (Nat.le_of_ble_eq_true rfl) ?_
      refine c_cannotSit hL (fun h4 => ?_) (fun h4 => ?_)
      · refine T_if_eq 28 dX6_few_23 (by decide) (by unfold InR; decide) (fun h => absurd h (by decide)) (fun _ => ?_)
        refine T_iload_n dX6_few_26 rfl ?_
        refine T_iret dX6_few_27 rfl ?_
        exact hk s (Or.inr ⟨h1, by omega, h4, h3⟩)
      · refine T_if_eq 28 dX6_few_23 (by decide) (by unfold InR; decide) (fun _ => ?_) (fun h => absurd (by decide) h)
        refine T_iinc dX6_few_28 rfl (by decide) ?_
        refine T_goto (tgt := 2) dX6_few_31 (by decide) ?_
        exact ih (s + 1) (by omega) (by omega) (fun t a b => by
          by_cases h5 : t = s
          · subst h5; exact h4
          · exact h3 t a (by omega))
  refine T_iconst dX6_few_0 ?_
  refine T_istore_n dX6_few_1 (by decide) ?_
  exact loop (2 ^ (D 1 8).toNat - 1) 1 (by omega) (by omega) (fun t a b => by omega)
end

