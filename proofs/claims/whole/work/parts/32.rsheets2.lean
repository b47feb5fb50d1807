section
variable {g : G0} {d : Nat} {P : Option Value → List SC → DD → Prop} {D : DD}
theorem r_sheet {k l n : Int} (hk : InR k) (hl : InR l) (hn : InR n) (kU : ¬ (0 ≤ k ∧ k ≤ 3) → P (some (iI (-1))) SH (st2 D 57 0 0)) (kO : 0 ≤ k → k ≤ 3 → ¬ (0 ≤ l ∧ l ≤ 2 ∧ n ≤ 80) → P (some (iI (-2))) SH (st2 D 57 0 0)) (kZ : 0 ≤ k → k ≤ 3 → (0 ≤ l ∧ l ≤ 2 ∧ n ≤ 80) → n < 0 → P (some (iI (-14))) SH (st2 D 57 0 4))
    (kk : 0 ≤ k → k ≤ 3 → (0 ≤ l ∧ l ≤ 2 ∧ n ≤ 80) → 0 ≤ n → ∀ D' : DD, (∀ j : Nat, 80 * k ≤ j → j < 80 * k + n → D' 79 j = 0) → (∀ j : Nat, ¬ (80 * k ≤ j ∧ j < 80 * k + n) → D' 79 j = D 79 j) → (∀ a, a ≠ 79 → D' a = st2 (st2 (st2 D 77 k.toNat n) 78 k.toNat l) 57 0 0 a) → P (some (iI 1)) SH D') : TM g mX7_sheet (d + 2) P [.ref 57, iI k, iI l, iI n] D := by
  have hn2 := hn
  unfold InR at hn2
  have loop : 0 ≤ k → k ≤ 3 → (0 ≤ l ∧ l ≤ 2 ∧ n ≤ 80) → 0 ≤ n → ∀ (q i : Nat) (D1 : DD), q + i = n.toNat → (∀ j : Nat, 80 * k ≤ j → j < 80 * k + i → D1 79 j = 0) → (∀ j : Nat, ¬ (80 * k ≤ j ∧ j < 80 * k + i) → D1 79 j = D 79 j) → (∀ a, a ≠ 79 → D1 a = st2 (st2 D 77 k.toNat n) 78 k.toNat l a) → T g mX7_sheet (rmd (d + 2) 0 0) 0 0 (Qm g (rmd (d + 2) 0 0) P) 65 [some (.ref 57), some (iI k), some (iI l), some (iI n), some (iI i)] [] SH D1 := by
    intro h1 h2 h3 h4 q
    induction q with
    | zero =>
      intro i D1 hq q1 q2 q3
      refine T_iload dX7_sheet_65 rfl ?_
      refine T_iload_n dX7_sheet_67 rfl ?_
      refine T_icmp_ge 90 dX7_sheet_68 (by decide) (by first | (unfold InR; omega) | (simp [st2, InR]; omega)) (by first | (unfold InR; omega) | (simp [st2, InR]; omega)) (fun hc68 => ?_) (fun hc68 => (by exfalso; omega))
      refine T_aload_n dX7_sheet_90 rfl ?_
      refine T_iconst dX7_sheet_91 ?_
      refine T_cV_1 dX7_sheet_92 lkX7_101 rfl (Nat.le_of_ble_eq_true rfl) (RO_r (by decide)) (Nat.le_of_ble_eq_true rfl) ?_
      refine r_refused ?_
      refine T_iret dX7_sheet_95 rfl ?_
      refine kk h1 h2 h3 h4 _ (fun j a b => ?_) (fun j a => ?_) (fun a ha => ?_)
      · rw [st2_row (by decide)]; exact q1 j a (by omega)
      · rw [st2_row (by decide)]; exact q2 j (by omega)
      · by_cases h5 : a = 57
        · subst h5; funext b; simp only [st2]; rw [q3 57 (by decide)]; rfl
        · rw [st2_row h5, st2_row h5, q3 a ha]
    | succ q ih =>
      intro i D1 hq q1 q2 q3
      refine T_iload dX7_sheet_65 rfl ?_
      refine T_iload_n dX7_sheet_67 rfl ?_
      refine T_icmp_ge 90 dX7_sheet_68 (by decide) (by first | (unfold InR; omega) | (simp [st2, InR]; omega)) (by first | (unfold InR; omega) | (simp [st2, InR]; omega)) (fun hc68 => (by exfalso; omega)) (fun hc68 => ?_)
      refine T_aload_n dX7_sheet_71 rfl ?_
      refine T_getR dX7_sheet_72 flX7_74 rfl rfl ?_
      refine T_bipush dX7_sheet_75 (by decide) ?_
      refine T_iload_n dX7_sheet_77 rfl ?_
      refine T_imul dX7_sheet_78 ?_
      refine T_iload dX7_sheet_79 rfl ?_
      refine T_iadd dX7_sheet_81 ?_
      refine T_iconst dX7_sheet_82 ?_
      refine T_iast dX7_sheet_83 rfl (by first | decide | omega) (by first | omega | (simp [st2]; omega)) (by first | omega | (simp [st2]; omega)) ?_
      refine T_iinc dX7_sheet_84 rfl (by decide) ?_
      refine T_goto (tgt := 65) dX7_sheet_87 (by decide) ?_
      refine ih (i + 1) _ (by omega) (fun j a b => ?_) (fun j a => ?_) (fun a ha => ?_)
      · by_cases h5 : j = (80 * k + i).toNat
        · subst h5; exact st2_at
        · rw [st2_ne h5]; exact q1 j a (by omega)
      · rw [st2_ne (by omega)]; exact q2 j (by omega)
      · rw [st2_row ha]; exact q3 a ha
  refine T_iload_n dX7_sheet_0 rfl ?_
  refine T_cS_1 dX7_sheet_1 lkX7_158 (Nat.le_of_ble_eq_true rfl) (RO_r (by decide)) (Nat.le_of_ble_eq_true rfl) ?_
  refine r_noSheet hk (fun h1 h2 => ?_) (fun h1 => ?_)
  · refine T_if_eq 13 dX7_sheet_4 (by decide) (by unfold InR; decide) (fun _ => ?_) (fun h => absurd (by decide) h)
    refine T_iload_n dX7_sheet_13 rfl ?_
    refine T_i2l dX7_sheet_14 hl ?_
    refine T_lconst (a := 0) dX7_sheet_15 (by decide) ?_
    refine T_ldc2 (n := 2) dX7_sheet_16 tk_892 ?_
    refine T_cS_3 dX7_sheet_19 lkX7_88 (Nat.le_of_ble_eq_true rfl) (RO_r (by decide)) (Nat.le_of_ble_eq_true rfl) ?_
    refine r_in (in64_of hl) (by first | (unfold In64; omega) | (simp [st2, In64]; omega)) (by first | (unfold In64; omega) | (simp [st2, In64]; omega)) (fun h3 h4 => ?_) (fun h3 => ?_)
    · refine T_if_eq 31 dX7_sheet_22 (by decide) (by unfold InR; decide) (fun h => absurd h (by decide)) (fun _ => ?_)
      refine T_iload_n dX7_sheet_25 rfl ?_
      refine T_bipush dX7_sheet_26 (by decide) ?_
      refine T_icmp_le 38 dX7_sheet_28 (by decide) (by first | (unfold InR; omega) | (simp [st2, InR]; omega)) (by first | (unfold InR; omega) | (simp [st2, InR]; omega)) (fun hc28 => ?_) (fun hc28 => ?_)
      · refine T_iload_n dX7_sheet_38 rfl ?_
        refine T_if_ge 48 dX7_sheet_39 (by decide) (by first | (unfold InR; omega) | (simp [st2, InR]; omega)) (fun hc39 => ?_) (fun hc39 => ?_)
        · refine T_aload_n dX7_sheet_48 rfl ?_
          refine T_getR dX7_sheet_49 flX7_68 rfl rfl ?_
          refine T_iload_n dX7_sheet_52 rfl ?_
          refine T_iload_n dX7_sheet_53 rfl ?_
          refine T_iast dX7_sheet_54 rfl (by first | decide | omega) (by first | omega | (simp [st2]; omega)) (by first | omega | (simp [st2]; omega)) ?_
          refine T_aload_n dX7_sheet_55 rfl ?_
          refine T_getR dX7_sheet_56 flX7_71 rfl rfl ?_
          refine T_iload_n dX7_sheet_59 rfl ?_
          refine T_iload_n dX7_sheet_60 rfl ?_
          refine T_iast dX7_sheet_61 rfl (by first | decide | omega) (by first | omega | (simp [st2]; omega)) (by first | omega | (simp [st2]; omega)) ?_
          refine T_iconst dX7_sheet_62 ?_
          refine T_istore dX7_sheet_63 (by decide) ?_
          exact loop h1 h2 (by omega) (by omega) n.toNat 0 _ (by omega) (fun j a b => absurd b (by omega)) (fun j a => by rw [st2_row (by decide), st2_row (by decide)]) (fun a ha => rfl)
        · refine T_aload_n dX7_sheet_42 rfl ?_
          refine T_iconst dX7_sheet_43 ?_
          refine T_cV_1 dX7_sheet_44 lkX7_105 rfl (Nat.le_of_ble_eq_true rfl) (RO_r (by decide)) (Nat.le_of_ble_eq_true rfl) ?_
          refine r_failed ?_
          refine T_iret dX7_sheet_47 rfl ?_
          first | exact kU (by omega) | exact kO h1 h2 (by omega) | exact kZ h1 h2 (by omega) (by omega)
      · refine T_aload_n dX7_sheet_31 rfl ?_
        refine T_bipush dX7_sheet_32 (by decide) ?_
        refine T_cV_1 dX7_sheet_34 lkX7_101 rfl (Nat.le_of_ble_eq_true rfl) (RO_r (by decide)) (Nat.le_of_ble_eq_true rfl) ?_
        refine r_refused ?_
        refine T_iret dX7_sheet_37 rfl ?_
        first | exact kU (by omega) | exact kO h1 h2 (by omega) | exact kZ h1 h2 (by omega) (by omega)
    · refine T_if_eq 31 dX7_sheet_22 (by decide) (by unfold InR; decide) (fun _ => ?_) (fun h => absurd (by decide) h)
      refine T_aload_n dX7_sheet_31 rfl ?_
      refine T_bipush dX7_sheet_32 (by decide) ?_
      refine T_cV_1 dX7_sheet_34 lkX7_101 rfl (Nat.le_of_ble_eq_true rfl) (RO_r (by decide)) (Nat.le_of_ble_eq_true rfl) ?_
      refine r_refused ?_
      refine T_iret dX7_sheet_37 rfl ?_
      first | exact kU (by omega) | exact kO h1 h2 (by omega) | exact kZ h1 h2 (by omega) (by omega)
  · refine T_if_eq 13 dX7_sheet_4 (by decide) (by unfold InR; decide) (fun h => absurd h (by decide)) (fun _ => ?_)
    refine T_aload_n dX7_sheet_7 rfl ?_
    refine T_iconst dX7_sheet_8 ?_
    refine T_cV_1 dX7_sheet_9 lkX7_101 rfl (Nat.le_of_ble_eq_true rfl) (RO_r (by decide)) (Nat.le_of_ble_eq_true rfl) ?_
    refine r_refused ?_
    refine T_iret dX7_sheet_12 rfl ?_
    first | exact kU (by omega) | exact kO h1 h2 (by omega) | exact kZ h1 h2 (by omega) (by omega)
theorem r_copy {k i o j n : Int} (hR : RK D) (hk : InR k) (hi : InR i) (ho : InR o) (hj : InR j) (hn : InR n) (kU : ¬ (0 ≤ k ∧ k ≤ 3 ∧ 0 ≤ o ∧ o ≤ 3) → P (some (iI (-1))) SH (st2 D 57 0 0)) (kN : (0 ≤ k ∧ k ≤ 3 ∧ 0 ≤ o ∧ o ≤ 3) → ¬ (0 ≤ D 77 k.toNat ∧ 0 ≤ D 77 o.toNat) → P (some (iI (-11))) SH (st2 D 57 0 1)) (kC : (0 ≤ k ∧ k ≤ 3 ∧ 0 ≤ o ∧ o ≤ 3) → (0 ≤ D 77 k.toNat ∧ 0 ≤ D 77 o.toNat) → D 78 k.toNat ≠ D 78 o.toNat → P (some (iI (-12))) SH (st2 D 57 0 2)) (kI : (0 ≤ k ∧ k ≤ 3 ∧ 0 ≤ o ∧ o ≤ 3) → (0 ≤ D 77 k.toNat ∧ 0 ≤ D 77 o.toNat) → D 78 k.toNat = D 78 o.toNat → ¬ (0 ≤ n ∧ 0 ≤ i ∧ i + n ≤ D 77 k.toNat ∧ 0 ≤ j ∧ j + n ≤ D 77 o.toNat) → P (some (iI (-13))) SH (st2 D 57 0 3))
    (kk : (0 ≤ k ∧ k ≤ 3 ∧ 0 ≤ o ∧ o ≤ 3) → (0 ≤ D 77 k.toNat ∧ 0 ≤ D 77 o.toNat) → D 78 k.toNat = D 78 o.toNat → (0 ≤ n ∧ 0 ≤ i ∧ i + n ≤ D 77 k.toNat ∧ 0 ≤ j ∧ j + n ≤ D 77 o.toNat) → ∀ D' : DD, (∀ q : Nat, 80 * o + j ≤ q → q < 80 * o + j + n → D' 79 q = D 79 (80 * k + i + (q - (80 * o + j))).toNat) → (∀ q : Nat, ¬ (80 * o + j ≤ q ∧ q < 80 * o + j + n) → D' 79 q = D 79 q) → (∀ a, a ≠ 79 → a ≠ 80 → D' a = st2 D 57 0 0 a) → P (some (iI n)) SH D') : TM g mX7_copy (d + 2) P [.ref 57, iI k, iI i, iI o, iI j, iI n] D := by
  have hn2 := hn
  have hi2 := hi
  have hj2 := hj
  unfold InR at hn2 hi2 hj2
  have loop2 : (0 ≤ k ∧ k ≤ 3 ∧ 0 ≤ o ∧ o ≤ 3) → (0 ≤ D 77 k.toNat ∧ 0 ≤ D 77 o.toNat) → D 78 k.toNat = D 78 o.toNat → (0 ≤ n ∧ 0 ≤ i ∧ i + n ≤ D 77 k.toNat ∧ 0 ≤ j ∧ j + n ≤ D 77 o.toNat) → ∀ (q x : Nat) (D1 : DD), q + x = n.toNat → (∀ y : Nat, y < n.toNat → D1 80 y = D 79 (80 * k + i + y).toNat) → (∀ y : Nat, 80 * o + j ≤ y → y < 80 * o + j + x → D1 79 y = D 79 (80 * k + i + (y - (80 * o + j))).toNat) → (∀ y : Nat, ¬ (80 * o + j ≤ y ∧ y < 80 * o + j + x) → D1 79 y = D 79 y) → (∀ a, a ≠ 79 → a ≠ 80 → D1 a = D a) → T g mX7_copy (rmd (d + 2) 0 0) 0 0 (Qm g (rmd (d + 2) 0 0) P) 144 [some (.ref 57), some (iI k), some (iI i), some (iI o), some (iI j), some (iI n), some (iI x)] [] SH D1 := by
    intro h1 h2 h3 h4 q
    obtain ⟨s1, s2⟩ := hR.1 k.toNat (by omega)
    obtain ⟨t1, t2⟩ := hR.1 o.toNat (by omega)
    induction q with
    | zero =>
      intro x D1 hq q0 q1 q2 q3
      refine T_iload dX7_copy_144 rfl ?_
      refine T_iload dX7_copy_146 rfl ?_
      refine T_icmp_ge 179 dX7_copy_148 (by decide) (by first | (unfold InR; omega) | (simp [st2, InR]; omega)) (by first | (unfold InR; omega) | (simp [st2, InR]; omega)) (fun hc148 => ?_) (fun hc148 => (by exfalso; omega))
      refine T_aload_n dX7_copy_179 rfl ?_
      refine T_iload dX7_copy_180 rfl ?_
      refine T_cV_1 dX7_copy_182 lkX7_101 rfl (Nat.le_of_ble_eq_true rfl) (RO_r (by decide)) (Nat.le_of_ble_eq_true rfl) ?_
      refine r_refused ?_
      refine T_iret dX7_copy_185 rfl ?_
      refine kk h1 h2 h3 h4 _ (fun y a b => ?_) (fun y a => ?_) (fun a ha hb => ?_)
      · rw [st2_row (by decide)]; exact q1 y a (by omega)
      · rw [st2_row (by decide)]; exact q2 y (by omega)
      · by_cases h5 : a = 57
        · subst h5; funext b; simp only [st2]; rw [q3 57 (by decide) (by decide)]
        · rw [st2_row h5, st2_row h5, q3 a ha hb]
    | succ q ih =>
      intro x D1 hq q0 q1 q2 q3
      refine T_iload dX7_copy_144 rfl ?_
      refine T_iload dX7_copy_146 rfl ?_
      refine T_icmp_ge 179 dX7_copy_148 (by decide) (by first | (unfold InR; omega) | (simp [st2, InR]; omega)) (by first | (unfold InR; omega) | (simp [st2, InR]; omega)) (fun hc148 => (by exfalso; omega)) (fun hc148 => ?_)
      refine T_aload_n dX7_copy_151 rfl ?_
      refine T_getR dX7_copy_152 flX7_74 rfl rfl ?_
      refine T_bipush dX7_copy_155 (by decide) ?_
      refine T_iload_n dX7_copy_157 rfl ?_
      refine T_imul dX7_copy_158 ?_
      refine T_iload dX7_copy_159 rfl ?_
      refine T_iadd dX7_copy_161 ?_
      refine T_iload dX7_copy_162 rfl ?_
      refine T_iadd dX7_copy_164 ?_
      refine T_aload_n dX7_copy_165 rfl ?_
      refine T_getR dX7_copy_166 flX7_77 rfl rfl ?_
      refine T_iload dX7_copy_169 rfl ?_
      refine T_iald dX7_copy_171 rfl (by first | decide | omega) (by first | omega | (simp [st2]; omega)) (by first | omega | (simp [st2]; omega)) ?_
      refine T_iast dX7_copy_172 rfl (by first | decide | omega) (by first | omega | (simp [st2]; omega)) (by first | omega | (simp [st2]; omega)) ?_
      refine T_iinc dX7_copy_173 rfl (by decide) ?_
      refine T_goto (tgt := 144) dX7_copy_176 (by decide) ?_
      refine ih (x + 1) _ (by omega) (fun y a => ?_) (fun y a b => ?_) (fun y a => ?_) (fun a ha hb => ?_)
      · rw [st2_row (by decide)]; exact q0 y a
      · by_cases h5 : y = (80 * o + j + x).toNat
        · subst h5
          rw [st2_at, q0 _ (by omega)]
          congr 1
          omega
        · rw [st2_ne h5]; exact q1 y a (by omega)
      · rw [st2_ne (by omega)]; exact q2 y (by omega)
      · rw [st2_row ha]; exact q3 a ha hb
  have loop1 : (0 ≤ k ∧ k ≤ 3 ∧ 0 ≤ o ∧ o ≤ 3) → (0 ≤ D 77 k.toNat ∧ 0 ≤ D 77 o.toNat) → D 78 k.toNat = D 78 o.toNat → (0 ≤ n ∧ 0 ≤ i ∧ i + n ≤ D 77 k.toNat ∧ 0 ≤ j ∧ j + n ≤ D 77 o.toNat) → ∀ (q x : Nat) (D1 : DD), q + x = n.toNat → (∀ y : Nat, y < x → D1 80 y = D 79 (80 * k + i + y).toNat) → (∀ a, a ≠ 80 → D1 a = D a) → T g mX7_copy (rmd (d + 2) 0 0) 0 0 (Qm g (rmd (d + 2) 0 0) P) 107 [some (.ref 57), some (iI k), some (iI i), some (iI o), some (iI j), some (iI n), some (iI x)] [] SH D1 := by
    intro h1 h2 h3 h4 q
    obtain ⟨s1, s2⟩ := hR.1 k.toNat (by omega)
    obtain ⟨t1, t2⟩ := hR.1 o.toNat (by omega)
    induction q with
    | zero =>
      intro x D1 hq q0 q3
      refine T_iload dX7_copy_107 rfl ?_
      refine T_iload dX7_copy_109 rfl ?_
      refine T_icmp_ge 141 dX7_copy_111 (by decide) (by first | (unfold InR; omega) | (simp [st2, InR]; omega)) (by first | (unfold InR; omega) | (simp [st2, InR]; omega)) (fun hc111 => ?_) (fun hc111 => (by exfalso; omega))
      refine T_iconst dX7_copy_141 ?_
      refine T_istore dX7_copy_142 (by decide) ?_
      exact loop2 h1 h2 h3 h4 n.toNat 0 _ (by omega) (fun y a => q0 y (by omega)) (fun y a b => absurd b (by omega)) (fun y a => by rw [q3 79 (by decide)]) (fun a ha hb => q3 a hb)
    | succ q ih =>
      intro x D1 hq q0 q3
      refine T_iload dX7_copy_107 rfl ?_
      refine T_iload dX7_copy_109 rfl ?_
      refine T_icmp_ge 141 dX7_copy_111 (by decide) (by first | (unfold InR; omega) | (simp [st2, InR]; omega)) (by first | (unfold InR; omega) | (simp [st2, InR]; omega)) (fun hc111 => (by exfalso; omega)) (fun hc111 => ?_)
      refine T_aload_n dX7_copy_114 rfl ?_
      refine T_getR dX7_copy_115 flX7_77 rfl rfl ?_
      refine T_iload dX7_copy_118 rfl ?_
      refine T_aload_n dX7_copy_120 rfl ?_
      refine T_getR dX7_copy_121 flX7_74 rfl rfl ?_
      refine T_bipush dX7_copy_124 (by decide) ?_
      refine T_iload_n dX7_copy_126 rfl ?_
      refine T_imul dX7_copy_127 ?_
      refine T_iload_n dX7_copy_128 rfl ?_
      refine T_iadd dX7_copy_129 ?_
      refine T_iload dX7_copy_130 rfl ?_
      refine T_iadd dX7_copy_132 ?_
      refine T_iald dX7_copy_133 rfl (by first | decide | omega) (by first | omega | (simp [st2]; omega)) (by first | omega | (simp [st2]; omega)) ?_
      refine T_iast dX7_copy_134 rfl (by first | decide | omega) (by first | omega | (simp [st2]; omega)) (by first | omega | (simp [st2]; omega)) ?_
      refine T_iinc dX7_copy_135 rfl (by decide) ?_
      refine T_goto (tgt := 107) dX7_copy_138 (by decide) ?_
      refine ih (x + 1) _ (by omega) (fun y a => ?_) (fun a hb => ?_)
      · rw [Int.toNat_natCast]
        by_cases h5 : y = x
        · subst h5
          rw [st2_at, q3 79 (by decide)]
        · rw [st2_ne h5]; exact q0 y (by omega)
      · rw [st2_row hb]; exact q3 a hb
  refine T_iload_n dX7_copy_0 rfl ?_
  refine T_cS_1 dX7_copy_1 lkX7_158 (Nat.le_of_ble_eq_true rfl) (RO_r (by decide)) (Nat.le_of_ble_eq_true rfl) ?_
  refine r_noSheet hk (fun h1 h2 => ?_) (fun h1 => ?_)
  · refine T_if_ne 14 dX7_copy_4 (by decide) (by unfold InR; decide) (fun h => absurd h (by decide)) (fun _ => ?_)
    refine T_iload_n dX7_copy_7 rfl ?_
    refine T_cS_1 dX7_copy_8 lkX7_158 (Nat.le_of_ble_eq_true rfl) (RO_r (by decide)) (Nat.le_of_ble_eq_true rfl) ?_
    refine r_noSheet ho (fun h3 h4 => ?_) (fun h3 => ?_)
    · refine T_if_eq 20 dX7_copy_11 (by decide) (by unfold InR; decide) (fun _ => ?_) (fun h => absurd (by decide) h)
      obtain ⟨s1, s2⟩ := hR.1 k.toNat (by omega)
      obtain ⟨t1, t2⟩ := hR.1 o.toNat (by omega)
      refine T_aload_n dX7_copy_20 rfl ?_
      refine T_getR dX7_copy_21 flX7_68 rfl rfl ?_
      refine T_iload_n dX7_copy_24 rfl ?_
      refine T_iald dX7_copy_25 rfl (by first | decide | omega) (by first | omega | (simp [st2]; omega)) (by first | omega | (simp [st2]; omega)) ?_
      refine T_if_lt 38 dX7_copy_26 (by decide) (by first | (unfold InR; omega) | (simp [st2, InR]; omega)) (fun hc26 => ?_) (fun hc26 => ?_)
      · refine T_aload_n dX7_copy_38 rfl ?_
        refine T_iconst dX7_copy_39 ?_
        refine T_cV_1 dX7_copy_40 lkX7_105 rfl (Nat.le_of_ble_eq_true rfl) (RO_r (by decide)) (Nat.le_of_ble_eq_true rfl) ?_
        refine r_failed ?_
        refine T_iret dX7_copy_43 rfl ?_
        first | exact kU (by omega) | exact kN (by omega) (by omega) | exact kC (by omega) (by omega) (by omega) | exact kI (by omega) (by omega) (by omega) (by omega)
      · refine T_aload_n dX7_copy_29 rfl ?_
        refine T_getR dX7_copy_30 flX7_68 rfl rfl ?_
        refine T_iload_n dX7_copy_33 rfl ?_
        refine T_iald dX7_copy_34 rfl (by first | decide | omega) (by first | omega | (simp [st2]; omega)) (by first | omega | (simp [st2]; omega)) ?_
        refine T_if_ge 44 dX7_copy_35 (by decide) (by first | (unfold InR; omega) | (simp [st2, InR]; omega)) (fun hc35 => ?_) (fun hc35 => ?_)
        · refine T_aload_n dX7_copy_44 rfl ?_
          refine T_getR dX7_copy_45 flX7_71 rfl rfl ?_
          refine T_iload_n dX7_copy_48 rfl ?_
          refine T_iald dX7_copy_49 rfl (by first | decide | omega) (by first | omega | (simp [st2]; omega)) (by first | omega | (simp [st2]; omega)) ?_
          refine T_aload_n dX7_copy_50 rfl ?_
          refine T_getR dX7_copy_51 flX7_71 rfl rfl ?_
          refine T_iload_n dX7_copy_54 rfl ?_
          refine T_iald dX7_copy_55 rfl (by first | decide | omega) (by first | omega | (simp [st2]; omega)) (by first | omega | (simp [st2]; omega)) ?_
          refine T_icmp_eq 65 dX7_copy_56 (by decide) (by first | (unfold InR; omega) | (simp [st2, InR]; omega)) (by first | (unfold InR; omega) | (simp [st2, InR]; omega)) (fun hc56 => ?_) (fun hc56 => ?_)
          · refine T_iload_n dX7_copy_65 rfl ?_
            refine T_iload dX7_copy_66 rfl ?_
            refine T_i2l dX7_copy_68 hn ?_
            refine T_aload_n dX7_copy_69 rfl ?_
            refine T_getR dX7_copy_70 flX7_68 rfl rfl ?_
            refine T_iload_n dX7_copy_73 rfl ?_
            refine T_iald dX7_copy_74 rfl (by first | decide | omega) (by first | omega | (simp [st2]; omega)) (by first | omega | (simp [st2]; omega)) ?_
            refine T_cS_3 dX7_copy_75 lkX7_108 (Nat.le_of_ble_eq_true rfl) (RO_r (by decide)) (Nat.le_of_ble_eq_true rfl) ?_
            refine r_isBeyond hi hn (by first | (unfold InR; omega) | (simp [st2, InR]; omega)) (fun h5 => ?_) (fun h5 => ?_)
            · refine T_if_ne 98 dX7_copy_78 (by decide) (by unfold InR; decide) (fun _ => ?_) (fun h => absurd (by decide) h)
              refine T_aload_n dX7_copy_98 rfl ?_
              refine T_iconst dX7_copy_99 ?_
              refine T_cV_1 dX7_copy_100 lkX7_105 rfl (Nat.le_of_ble_eq_true rfl) (RO_r (by decide)) (Nat.le_of_ble_eq_true rfl) ?_
              refine r_failed ?_
              refine T_iret dX7_copy_103 rfl ?_
              first | exact kU (by omega) | exact kN (by omega) (by omega) | exact kC (by omega) (by omega) (by omega) | exact kI (by omega) (by omega) (by omega) (by omega)
            · refine T_if_ne 98 dX7_copy_78 (by decide) (by unfold InR; decide) (fun h => absurd h (by decide)) (fun _ => ?_)
              refine T_iload dX7_copy_81 rfl ?_
              refine T_iload dX7_copy_83 rfl ?_
              refine T_i2l dX7_copy_85 hn ?_
              refine T_aload_n dX7_copy_86 rfl ?_
              refine T_getR dX7_copy_87 flX7_68 rfl rfl ?_
              refine T_iload_n dX7_copy_90 rfl ?_
              refine T_iald dX7_copy_91 rfl (by first | decide | omega) (by first | omega | (simp [st2]; omega)) (by first | omega | (simp [st2]; omega)) ?_
              refine T_cS_3 dX7_copy_92 lkX7_108 (Nat.le_of_ble_eq_true rfl) (RO_r (by decide)) (Nat.le_of_ble_eq_true rfl) ?_
              refine r_isBeyond hj hn (by first | (unfold InR; omega) | (simp [st2, InR]; omega)) (fun h6 => ?_) (fun h6 => ?_)
              · refine T_if_eq 104 dX7_copy_95 (by decide) (by unfold InR; decide) (fun h => absurd h (by decide)) (fun _ => ?_)
                refine T_aload_n dX7_copy_98 rfl ?_
                refine T_iconst dX7_copy_99 ?_
                refine T_cV_1 dX7_copy_100 lkX7_105 rfl (Nat.le_of_ble_eq_true rfl) (RO_r (by decide)) (Nat.le_of_ble_eq_true rfl) ?_
                refine r_failed ?_
                refine T_iret dX7_copy_103 rfl ?_
                first | exact kU (by omega) | exact kN (by omega) (by omega) | exact kC (by omega) (by omega) (by omega) | exact kI (by omega) (by omega) (by omega) (by omega)
              · refine T_if_eq 104 dX7_copy_95 (by decide) (by unfold InR; decide) (fun _ => ?_) (fun h => absurd (by decide) h)
                refine T_iconst dX7_copy_104 ?_
                refine T_istore dX7_copy_105 (by decide) ?_
                exact loop1 (by omega) (by omega) (by omega) (by omega) n.toNat 0 _ (by omega) (fun y a => absurd a (by omega)) (fun a _ => rfl)
          · refine T_aload_n dX7_copy_59 rfl ?_
            refine T_iconst dX7_copy_60 ?_
            refine T_cV_1 dX7_copy_61 lkX7_105 rfl (Nat.le_of_ble_eq_true rfl) (RO_r (by decide)) (Nat.le_of_ble_eq_true rfl) ?_
            refine r_failed ?_
            refine T_iret dX7_copy_64 rfl ?_
            first | exact kU (by omega) | exact kN (by omega) (by omega) | exact kC (by omega) (by omega) (by omega) | exact kI (by omega) (by omega) (by omega) (by omega)
        · refine T_aload_n dX7_copy_38 rfl ?_
          refine T_iconst dX7_copy_39 ?_
          refine T_cV_1 dX7_copy_40 lkX7_105 rfl (Nat.le_of_ble_eq_true rfl) (RO_r (by decide)) (Nat.le_of_ble_eq_true rfl) ?_
          refine r_failed ?_
          refine T_iret dX7_copy_43 rfl ?_
          first | exact kU (by omega) | exact kN (by omega) (by omega) | exact kC (by omega) (by omega) (by omega) | exact kI (by omega) (by omega) (by omega) (by omega)
    · refine T_if_eq 20 dX7_copy_11 (by decide) (by unfold InR; decide) (fun h => absurd h (by decide)) (fun _ => ?_)
      refine T_aload_n dX7_copy_14 rfl ?_
      refine T_iconst dX7_copy_15 ?_
      refine T_cV_1 dX7_copy_16 lkX7_101 rfl (Nat.le_of_ble_eq_true rfl) (RO_r (by decide)) (Nat.le_of_ble_eq_true rfl) ?_
      refine r_refused ?_
      refine T_iret dX7_copy_19 rfl ?_
      first | exact kU (by omega) | exact kN (by omega) (by omega) | exact kC (by omega) (by omega) (by omega) | exact kI (by omega) (by omega) (by omega) (by omega)
  · refine T_if_ne 14 dX7_copy_4 (by decide) (by unfold InR; decide) (fun _ => ?_) (fun h => absurd (by decide) h)
    refine T_aload_n dX7_copy_14 rfl ?_
    refine T_iconst dX7_copy_15 ?_
    refine T_cV_1 dX7_copy_16 lkX7_101 rfl (Nat.le_of_ble_eq_true rfl) (RO_r (by decide)) (Nat.le_of_ble_eq_true rfl) ?_
    refine r_refused ?_
    refine T_iret dX7_copy_19 rfl ?_
    first | exact kU (by omega) | exact kN (by omega) (by omega) | exact kC (by omega) (by omega) (by omega) | exact kI (by omega) (by omega) (by omega) (by omega)
end

