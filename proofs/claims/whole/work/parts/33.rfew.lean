def mayS (D : DD) (s : Int) (c h : Nat) : Prop := ∃ j, j < h ∧ bit s j ∧ ¬ D 65 (5 * j + c) = 1
section
variable {g : G0} {d : Nat} {P : Option Value → List SC → DD → Prop} {D : DD}
abbrev brM (D : DD) (h c : Nat) : Prop := D 65 (5 * h + c) = 1
theorem r_few (hL : MK D) (hk : ∀ r, IsFew (D 57 1).toNat (D 57 5).toNat (D 60) (D 64) (brM D) r → P (some (iI r)) SH D) : TM g mX7_few (d + 1) P [.ref 57] D := by
  have hN := hL.1
  have hM := hL.2.1
  have hbb : ∀ j, 0 ≤ D 65 j ∧ D 65 j ≤ 1 := hL.2.2.2.2.2.2.2.2.2.2
  have e := ishl_pw hN.1 hN.2
  have hp := pw_le (n := (D 57 1).toNat) (by omega)
  have hp1 : 1 ≤ 2 ^ (D 57 1).toNat := Nat.one_le_two_pow
  -- one church: may somebody of the set go there
  have may : ∀ (s : Int) (c : Nat) (hd se : Int) (K : ∀ m : Int, (m = 1 ∧ mayS D s c (D 57 1).toNat) ∨ (m = 0 ∧ ¬ mayS D s c (D 57 1).toNat) → T g mX7_few (rmd (d + 1) 0 0) 0 0 (Qm g (rmd (d + 1) 0 0) P) 126 [some (.ref 57), some (iI s), some (iI hd), some (iI se), some (iI c), some (iI m), some (iI (D 57 1))] [] SH D), c < (D 57 5).toNat → ∀ (q h : Nat) (m : Int), q + h = (D 57 1).toNat → ((m = 1 ∧ mayS D s c h) ∨ (m = 0 ∧ ¬ mayS D s c h)) → T g mX7_few (rmd (d + 1) 0 0) 0 0 (Qm g (rmd (d + 1) 0 0) P) 75 [some (.ref 57), some (iI s), some (iI hd), some (iI se), some (iI c), some (iI m), some (iI h)] [] SH D := by
    intro s c hd se K hc q
    induction q with
    | zero =>
      intro h m hq hm
      refine T_iload dX7_few_75 rfl ?_
      refine T_aload_n dX7_few_77 rfl ?_
      refine T_getI dX7_few_78 flX7_112 rfl rfl ?_
      refine T_icmp_ge 126 dX7_few_81 (by decide) (by first | (unfold InR; omega) | (simp [st2, InR]; omega)) (by first | (unfold InR; omega) | (simp [st2, InR]; omega)) (fun hc81 => ?_) (fun hc81 => (by exfalso; omega))
      have K := K m (by rw [show (D 57 1).toNat = h by omega]; exact hm)
      rw [show D 57 1 = (h : Int) by omega] at K
      exact K
    | succ q ih =>
      intro h m hq hm
      have ix : (5 * (h : Int) + (c : Int)).toNat = 5 * h + c := by omega
      have hb5 := hbb (5 * h + c)
      have up : ∀ m' : Int, ((m' = 1 ∧ (m = 1 ∨ (bit s h ∧ ¬ brM D h c))) ∨ (m' = 0 ∧ m = 0 ∧ ¬ (bit s h ∧ ¬ brM D h c))) → ((m' = 1 ∧ mayS D s c (h + 1)) ∨ (m' = 0 ∧ ¬ mayS D s c (h + 1))) := by
        intro m' hm'
        rcases hm' with ⟨a, b | b⟩ | ⟨a, b, b2⟩
        · rcases hm with ⟨_, j, h1, h2⟩ | ⟨h1, _⟩
          · exact Or.inl ⟨a, j, by omega, h2⟩
          · omega
        · exact Or.inl ⟨a, h, by omega, b⟩
        · rcases hm with ⟨h1, _⟩ | ⟨h1, h2⟩
          · omega
          · refine Or.inr ⟨a, ?_⟩
            rintro ⟨j, h3, h4⟩
            by_cases hj : j = h
            · subst hj; exact b2 h4
            · exact h2 ⟨j, by omega, h4⟩
      have hm01 : m = 0 ∨ m = 1 := by rcases hm with ⟨a, _⟩ | ⟨a, _⟩ <;> omega
      refine T_iload dX7_few_75 rfl ?_
      refine T_aload_n dX7_few_77 rfl ?_
      refine T_getI dX7_few_78 flX7_112 rfl rfl ?_
      refine T_icmp_ge 126 dX7_few_81 (by decide) (by first | (unfold InR; omega) | (simp [st2, InR]; omega)) (by first | (unfold InR; omega) | (simp [st2, InR]; omega)) (fun hc81 => (by exfalso; omega)) (fun hc81 => ?_)
      refine T_iload dX7_few_84 rfl ?_
      refine T_if_ne 113 dX7_few_86 (by decide) (by first | (unfold InR; omega) | (simp [st2, InR]; omega)) (fun hc86 => ?_) (fun hc86 => ?_)
      · refine T_iconst dX7_few_113 ?_
        refine T_goto (tgt := 118) dX7_few_114 (by decide) ?_
        refine T_istore dX7_few_118 (by decide) ?_
        refine T_iinc dX7_few_120 rfl (by decide) ?_
        refine T_goto (tgt := 75) dX7_few_123 (by decide) ?_
        refine ih (h + 1) _ (by omega) (up _ ?_)
        first | exact Or.inl ⟨rfl, Or.inl (by omega)⟩ | exact Or.inl ⟨rfl, Or.inr ⟨h4, by omega⟩⟩ | exact Or.inr ⟨rfl, by omega, fun q => q.2 (by omega)⟩ | exact Or.inr ⟨rfl, by omega, fun q => h4 q.1⟩
      · refine T_iload_n dX7_few_89 rfl ?_
        refine T_iload dX7_few_90 rfl ?_
        refine T_cS_2 dX7_few_92 lkX7_210 (Nat.le_of_ble_eq_true rfl) (RO_r (by decide)) (Nat.le_of_ble_eq_true rfl) ?_
        refine r_hasBit (fun h4 => ?_) (fun h4 => ?_)
        · refine T_if_eq 117 dX7_few_95 (by decide) (by unfold InR; decide) (fun h => absurd h (by decide)) (fun _ => ?_)
          refine T_aload_n dX7_few_98 rfl ?_
          refine T_getR dX7_few_99 flX7_31 rfl rfl ?_
          refine T_iconst dX7_few_102 ?_
          refine T_iload dX7_few_103 rfl ?_
          refine T_imul dX7_few_105 ?_
          refine T_iload dX7_few_106 rfl ?_
          refine T_iadd dX7_few_108 ?_
          refine T_zald dX7_few_109 rfl (by first | decide | omega) (by first | omega | (simp [st2]; omega)) (by first | omega | (simp [st2]; omega)) ?_
          refine T_if_ne 117 dX7_few_110 (by decide) (by rw [ix]; unfold InR; omega) (fun hc110 => ?_) (fun hc110 => ?_)
          · rw [ix] at hc110
            refine T_iconst dX7_few_117 ?_
            refine T_istore dX7_few_118 (by decide) ?_
            refine T_iinc dX7_few_120 rfl (by decide) ?_
            refine T_goto (tgt := 75) dX7_few_123 (by decide) ?_
            refine ih (h + 1) _ (by omega) (up _ ?_)
            first | exact Or.inl ⟨rfl, Or.inl (by omega)⟩ | exact Or.inl ⟨rfl, Or.inr ⟨h4, by omega⟩⟩ | exact Or.inr ⟨rfl, by omega, fun q => q.2 (by omega)⟩ | exact Or.inr ⟨rfl, by omega, fun q => h4 q.1⟩
          · rw [ix] at hc110
            refine T_iconst dX7_few_113 ?_
            refine T_goto (tgt := 118) dX7_few_114 (by decide) ?_
            refine T_istore dX7_few_118 (by decide) ?_
            refine T_iinc dX7_few_120 rfl (by decide) ?_
            refine T_goto (tgt := 75) dX7_few_123 (by decide) ?_
            refine ih (h + 1) _ (by omega) (up _ ?_)
            first | exact Or.inl ⟨rfl, Or.inl (by omega)⟩ | exact Or.inl ⟨rfl, Or.inr ⟨h4, by omega⟩⟩ | exact Or.inr ⟨rfl, by omega, fun q => q.2 (by omega)⟩ | exact Or.inr ⟨rfl, by omega, fun q => h4 q.1⟩
        · refine T_if_eq 117 dX7_few_95 (by decide) (by unfold InR; decide) (fun _ => ?_) (fun h => absurd (by decide) h)
          refine T_iconst dX7_few_117 ?_
          refine T_istore dX7_few_118 (by decide) ?_
          refine T_iinc dX7_few_120 rfl (by decide) ?_
          refine T_goto (tgt := 75) dX7_few_123 (by decide) ?_
          refine ih (h + 1) _ (by omega) (up _ ?_)
          first | exact Or.inl ⟨rfl, Or.inl (by omega)⟩ | exact Or.inl ⟨rfl, Or.inr ⟨h4, by omega⟩⟩ | exact Or.inr ⟨rfl, by omega, fun q => q.2 (by omega)⟩ | exact Or.inr ⟨rfl, by omega, fun q => h4 q.1⟩
  have churches : ∀ (s : Int) (K : ∀ m5 m6 : Option Value, T g mX7_few (rmd (d + 1) 0 0) 0 0 (Qm g (rmd (d + 1) 0 0) P) 151 [some (.ref 57), some (iI s), some (iI (fewR (D 57 1).toNat (D 60) s)), some (iI (fewL (D 57 5).toNat (D 57 1).toNat (D 64) (brM D) s)), some (iI (D 57 5)), m5, m6] [] SH D) (q c : Nat) (m5 m6 : Option Value), q + c = (D 57 5).toNat → T g mX7_few (rmd (d + 1) 0 0) 0 0 (Qm g (rmd (d + 1) 0 0) P) 60 [some (.ref 57), some (iI s), some (iI (fewR (D 57 1).toNat (D 60) s)), some (iI (fewL c (D 57 1).toNat (D 64) (brM D) s)), some (iI c), m5, m6] [] SH D := by
    intro s K q
    induction q with
    | zero =>
      intro c m5 m6 hq
      refine T_iload dX7_few_60 rfl ?_
      refine T_aload_n dX7_few_62 rfl ?_
      refine T_getI dX7_few_63 flX7_115 rfl rfl ?_
      refine T_icmp_ge 151 dX7_few_66 (by decide) (by first | (unfold InR; omega) | (simp [st2, InR]; omega)) (by first | (unfold InR; omega) | (simp [st2, InR]; omega)) (fun hc66 => ?_) (fun hc66 => (by exfalso; omega))
      have K := K m5 m6
      rw [show (D 57 5).toNat = c by omega, show D 57 5 = (c : Int) by omega] at K
      exact K
    | succ q ih =>
      intro c m5 m6 hq
      have ec : fewL (c + 1) (D 57 1).toNat (D 64) (brM D) s = fewL c (D 57 1).toNat (D 64) (brM D) s + cif (mayS D s c (D 57 1).toNat) (D 64 c) 0 := rfl
      refine T_iload dX7_few_60 rfl ?_
      refine T_aload_n dX7_few_62 rfl ?_
      refine T_getI dX7_few_63 flX7_115 rfl rfl ?_
      refine T_icmp_ge 151 dX7_few_66 (by decide) (by first | (unfold InR; omega) | (simp [st2, InR]; omega)) (by first | (unfold InR; omega) | (simp [st2, InR]; omega)) (fun hc66 => (by exfalso; omega)) (fun hc66 => ?_)
      refine T_iconst dX7_few_69 ?_
      refine T_istore dX7_few_70 (by decide) ?_
      refine T_iconst dX7_few_72 ?_
      refine T_istore dX7_few_73 (by decide) ?_
      refine may s c _ _ (fun m hm => ?_) (by omega) (D 57 1).toNat 0 0 (by omega) (Or.inr ⟨rfl, fun ⟨j, h1, _⟩ => by omega⟩)
      rcases hm with ⟨hm1, hm2⟩ | ⟨hm1, hm2⟩
      · subst hm1
        rw [cif_pos hm2] at ec
        have e3 : fewL (c + 1) (D 57 1).toNat (D 64) (brM D) s = fewL c (D 57 1).toNat (D 64) (brM D) s + D 64 (c : Int).toNat := by rw [ec, Int.toNat_natCast]
        refine T_iload_n dX7_few_126 rfl ?_
        refine T_iload dX7_few_127 rfl ?_
        refine T_if_eq 142 dX7_few_129 (by decide) (by first | (unfold InR; omega) | (simp [st2, InR]; omega)) (fun hc129 => (by exfalso; omega)) (fun hc129 => ?_)
        refine T_aload_n dX7_few_132 rfl ?_
        refine T_getR dX7_few_133 flX7_28 rfl rfl ?_
        refine T_iload dX7_few_136 rfl ?_
        refine T_iald dX7_few_138 rfl (by first | decide | omega) (by first | omega | (simp [st2]; omega)) (by first | omega | (simp [st2]; omega)) ?_
        refine T_goto (tgt := 143) dX7_few_139 (by decide) ?_
        refine T_iadd dX7_few_143 ?_
        refine T_istore_n dX7_few_144 (by decide) ?_
        refine T_iinc dX7_few_145 rfl (by decide) ?_
        refine T_goto (tgt := 60) dX7_few_148 (by decide) ?_
        rw [← e3]
        exact ih (c + 1) _ _ (by omega)
      · subst hm1
        rw [cif_neg hm2] at ec
        refine T_iload_n dX7_few_126 rfl ?_
        refine T_iload dX7_few_127 rfl ?_
        refine T_if_eq 142 dX7_few_129 (by decide) (by first | (unfold InR; omega) | (simp [st2, InR]; omega)) (fun hc129 => ?_) (fun hc129 => (by exfalso; omega))
        refine T_iconst dX7_few_142 ?_
        refine T_iadd dX7_few_143 ?_
        refine T_istore_n dX7_few_144 (by decide) ?_
        refine T_iinc dX7_few_145 rfl (by decide) ?_
        refine T_goto (tgt := 60) dX7_few_148 (by decide) ?_
        rw [← ec]
        exact ih (c + 1) _ _ (by omega)
  have heads : ∀ (s : Int) (m5 m6 : Option Value) (K : ∀ m4 : Option Value, T g mX7_few (rmd (d + 1) 0 0) 0 0 (Qm g (rmd (d + 1) 0 0) P) 57 [some (.ref 57), some (iI s), some (iI (fewR (D 57 1).toNat (D 60) s)), some (iI 0), m4, m5, m6] [] SH D) (q h : Nat), q + h = (D 57 1).toNat → T g mX7_few (rmd (d + 1) 0 0) 0 0 (Qm g (rmd (d + 1) 0 0) P) 19 [some (.ref 57), some (iI s), some (iI (fewR h (D 60) s)), some (iI 0), some (iI h), m5, m6] [] SH D := by
    intro s m5 m6 K q
    induction q with
    | zero =>
      intro h hq
      refine T_iload dX7_few_19 rfl ?_
      refine T_aload_n dX7_few_21 rfl ?_
      refine T_getI dX7_few_22 flX7_112 rfl rfl ?_
      refine T_icmp_ge 57 dX7_few_25 (by decide) (by first | (unfold InR; omega) | (simp [st2, InR]; omega)) (by first | (unfold InR; omega) | (simp [st2, InR]; omega)) (fun hc25 => ?_) (fun hc25 => (by exfalso; omega))
      have K := K (some (iI h))
      rw [show (D 57 1).toNat = h by omega] at K
      exact K
    | succ q ih =>
      intro h hq
      have ec : fewR (h + 1) (D 60) s = fewR h (D 60) s + cif (bit s h) (D 60 h) 0 := rfl
      refine T_iload dX7_few_19 rfl ?_
      refine T_aload_n dX7_few_21 rfl ?_
      refine T_getI dX7_few_22 flX7_112 rfl rfl ?_
      refine T_icmp_ge 57 dX7_few_25 (by decide) (by first | (unfold InR; omega) | (simp [st2, InR]; omega)) (by first | (unfold InR; omega) | (simp [st2, InR]; omega)) (fun hc25 => (by exfalso; omega)) (fun hc25 => ?_)
      refine T_iload_n dX7_few_28 rfl ?_
      refine T_iload_n dX7_few_29 rfl ?_
      refine T_iload dX7_few_30 rfl ?_
      refine T_cS_2 dX7_few_32 lkX7_210 (Nat.le_of_ble_eq_true rfl) (RO_r (by decide)) (Nat.le_of_ble_eq_true rfl) ?_
      refine r_hasBit (fun h4 => ?_) (fun h4 => ?_)
      · refine T_if_eq 48 dX7_few_35 (by decide) (by unfold InR; decide) (fun h => absurd h (by decide)) (fun _ => ?_)
        rw [cif_pos h4] at ec
        have e3 : fewR (h + 1) (D 60) s = fewR h (D 60) s + D 60 (h : Int).toNat := by rw [ec, Int.toNat_natCast]
        refine T_aload_n dX7_few_38 rfl ?_
        refine T_getR dX7_few_39 flX7_16 rfl rfl ?_
        refine T_iload dX7_few_42 rfl ?_
        refine T_iald dX7_few_44 rfl (by first | decide | omega) (by first | omega | (simp [st2]; omega)) (by first | omega | (simp [st2]; omega)) ?_
        refine T_goto (tgt := 49) dX7_few_45 (by decide) ?_
        refine T_iadd dX7_few_49 ?_
        refine T_istore_n dX7_few_50 (by decide) ?_
        refine T_iinc dX7_few_51 rfl (by decide) ?_
        refine T_goto (tgt := 19) dX7_few_54 (by decide) ?_
        rw [← e3]
        exact ih (h + 1) (by omega)
      · refine T_if_eq 48 dX7_few_35 (by decide) (by unfold InR; decide) (fun _ => ?_) (fun h => absurd (by decide) h)
        rw [cif_neg h4] at ec
        have e3 := ec
        refine T_iconst dX7_few_48 ?_
        refine T_iadd dX7_few_49 ?_
        refine T_istore_n dX7_few_50 (by decide) ?_
        refine T_iinc dX7_few_51 rfl (by decide) ?_
        refine T_goto (tgt := 19) dX7_few_54 (by decide) ?_
        rw [← e3]
        exact ih (h + 1) (by omega)
  have sets : ∀ (q : Nat) (s : Int) (m2 m3 m4 m5 m6 : Option Value), 1 ≤ s → s + q = ((2 ^ (D 57 1).toNat : Nat) : Int) → (∀ t : Int, 1 ≤ t → t < s → ¬ FewS (D 57 1).toNat (D 57 5).toNat (D 60) (D 64) (brM D) t) → T g mX7_few (rmd (d + 1) 0 0) 0 0 (Qm g (rmd (d + 1) 0 0) P) 2 [some (.ref 57), some (iI s), m2, m3, m4, m5, m6] [] SH D := by
    intro q
    induction q with
    | zero =>
      intro s m2 m3 m4 m5 m6 h1 h2 h3
      refine T_iload_n dX7_few_2 rfl ?_
      refine T_iconst dX7_few_3 ?_
      refine T_aload_n dX7_few_4 rfl ?_
      refine T_getI dX7_few_5 flX7_112 rfl rfl ?_
      refine T_ishl dX7_few_8 ?_
      refine T_icmp_ge 164 dX7_few_9 (by decide) (by first | (unfold InR; omega) | (simp [st2, InR]; omega)) (by rw [e]; unfold InR; omega) (fun hc9 => ?_) (fun hc9 => (by exfalso; omega))
      refine T_iconst dX7_few_164 ?_
      refine T_iret dX7_few_165 rfl ?_
      exact hk 0 (Or.inl ⟨rfl, fun t a b => h3 t a (by omega)⟩)
    | succ q ih =>
      intro s m2 m3 m4 m5 m6 h1 h2 h3
      have hbR := fewR_bd (H := (D 57 1).toNat) (hd := D 60) (s := s) (by omega) (fun j => hL.2.2.2.2.2.1 j)
      have hbL := fewL_bd (H := (D 57 1).toNat) (C := (D 57 5).toNat) (se := D 64) (br := brM D) (s := s) (by omega) (fun j => hL.2.2.2.2.2.2.2.2.2.1 j)
      refine T_iload_n dX7_few_2 rfl ?_
      refine T_iconst dX7_few_3 ?_
      refine T_aload_n dX7_few_4 rfl ?_
      refine T_getI dX7_few_5 flX7_112 rfl rfl ?_
      refine T_ishl dX7_few_8 ?_
      refine T_icmp_ge 164 dX7_few_9 (by decide) (by first | (unfold InR; omega) | (simp [st2, InR]; omega)) (by rw [e]; unfold InR; omega) (fun hc9 => (by exfalso; omega)) (fun hc9 => ?_)
      refine T_iconst dX7_few_12 ?_
      refine T_istore_n dX7_few_13 (by decide) ?_
      refine T_iconst dX7_few_14 ?_
      refine T_istore_n dX7_few_15 (by decide) ?_
      refine T_iconst dX7_few_16 ?_
      refine T_istore dX7_few_17 (by decide) ?_
      refine heads s m5 m6 (fun m4' => ?_) (D 57 1).toNat 0 (by omega)
      refine T_iconst dX7_few_57 ?_
      refine T_istore dX7_few_58 (by decide) ?_
      refine churches s (fun m5 m6 => ?_) (D 57 5).toNat 0 m5 m6 (by omega)
      refine T_iload_n dX7_few_151 rfl ?_
      refine T_iload_n dX7_few_152 rfl ?_
      refine T_icmp_le 158 dX7_few_153 (by decide) (by first | (unfold InR; omega) | (simp [st2, InR]; omega)) (by first | (unfold InR; omega) | (simp [st2, InR]; omega)) (fun hc153 => ?_) (fun hc153 => ?_)
      · refine T_iinc dX7_few_158 rfl (by decide) ?_
        refine T_goto (tgt := 2) dX7_few_161 (by decide) ?_
        exact ih (s + 1) _ _ _ _ _ (by omega) (by omega) (fun t a b => by
          by_cases h5 : t = s
          · subst h5; unfold FewS; omega
          · exact h3 t a (by omega))
      · refine T_iload_n dX7_few_156 rfl ?_
        refine T_iret dX7_few_157 rfl ?_
        exact hk s (Or.inr ⟨h1, by omega, by unfold FewS; omega, h3⟩)
  refine T_iconst dX7_few_0 ?_
  refine T_istore_n dX7_few_1 (by decide) ?_
  exact sets (2 ^ (D 57 1).toNat - 1) 1 none none none none none (by omega) (by omega) (fun t a b => by omega)
end

