section
variable {n : Nat} {ok : Nat → Prop} {f : Nat → Int} {B r l : Int}
theorem ArgM.ltN (h : ArgM n ok f r) (hl : LsI f B r l) (hk : ok n) (h1 : r < 0 ∨ f n < l) : ArgM (n + 1) ok f n ∧ LsI f B n (f n) := by
  refine ⟨h.take hk (fun i hi e => ?_), Or.inr ⟨by omega, by rw [Int.toNat_natCast]⟩⟩
  rcases hl with ⟨a, -⟩ | ⟨a, b⟩
  · omega
  · subst e; rw [Int.toNat_natCast] at b; omega
theorem ArgM.geN (h : ArgM n ok f r) (hl : LsI f B r l) (hk : ok n → 0 ≤ r ∧ l ≤ f n) : ArgM (n + 1) ok f r := by
  refine h.skip (fun q => ?_)
  have k := hk q
  rcases hl with ⟨a, b⟩ | ⟨a, b⟩
  · omega
  · exact ⟨r.toNat, by omega, by omega⟩
theorem ArgM.rg (h : ArgM n ok f r) : r = -9 ∨ (0 ≤ r ∧ r < n) := h.rng.imp id (fun z => ⟨z.1, z.2.1⟩)
end
theorem lnL_lo {ok : Nat → Prop} {v : Nat → Int} {B a : Int} (n : Nat) (hv : ∀ c, c < n → ok c → a ≤ v c) (hB : a ≤ B) : a ≤ lnL ok v B n := by
  induction n with
  | zero => exact hB
  | succ n ih =>
    have i := ih (fun c hc => hv c (by omega))
    simp only [lnL]
    by_cases h : ok n ∧ v n < lnL ok v B n
    · rw [cif_pos h]; exact hv n (by omega) h.1
    · rw [cif_neg h]; exact i
def farXM (D : DD) (x y : Int) (c : Nat) : Int := farK (D 61 c) x y (D 62 c) (D 63 c) (D 57 11)
section
variable {g : G0} {d : Nat} {P : Option Value → List SC → DD → Prop} {D : DD}
theorem r_weight {c : Int} (hL : MK D) (hc : InR c) (kU : ¬ (0 ≤ c ∧ c < D 57 5) → P (some (iI (-1))) SH D) (kN : 0 ≤ c → c < D 57 5 → mlM D = -9 → ∀ D' : DD, FrV D D' → P (some (iI (-9))) SH D') (kk : 0 ≤ c → c < D 57 5 → mlM D ≠ -9 → ∀ D' : DD, FrV D D' → P (some (iI (mlM D - mpM D c.toNat))) SH D') : TM g mX7_weight (d + 6) P [.ref 57, iI c] D := by
  have hM := hL.2.1
  refine T_aload_n dX7_weight_0 rfl ?_
  refine T_iload_n dX7_weight_1 rfl ?_
  refine T_cV_1 dX7_weight_2 lkX7_173 rfl (Nat.le_of_ble_eq_true rfl) (RO_r (by decide)) (Nat.le_of_ble_eq_true rfl) ?_
  refine r_noChurch hc hM (fun h1 h2 => ?_) (fun h1 => ?_)
  · refine T_if_eq 10 dX7_weight_5 (by decide) (by unfold InR; decide) (fun _ => ?_) (fun h => absurd (by decide) h)
    refine T_aload_n dX7_weight_10 rfl ?_
    refine T_cV_0 dX7_weight_11 lkX7_213 rfl (Nat.le_of_ble_eq_true rfl) (RO_r (by decide)) (Nat.le_of_ble_eq_true rfl) ?_
    refine r_layWeights hL (fun b0 b1 D1 fv hw => ?_) (fun b0 D1 fv => ?_)
    · refine T_if_eq 26 dX7_weight_14 (by decide) (by unfold InR; decide) (fun h => absurd h (by decide)) (fun _ => ?_)
      refine T_aload_n dX7_weight_17 rfl ?_
      refine T_getR dX7_weight_18 flX7_59 rfl rfl ?_
      refine T_iload_n dX7_weight_21 rfl ?_
      refine T_iald dX7_weight_22 rfl (by first | decide | omega) (by first | omega | (simp [st2]; omega)) (by first | omega | (simp [st2]; omega)) ?_
      refine T_goto (tgt := 28) dX7_weight_23 (by decide) ?_
      refine T_iret dX7_weight_28 rfl ?_
      first
      | exact kU (by omega)
      | exact kN h1 h2 b0 D1 fv
      | (rw [(hw c.toNat (by omega)).1]; exact kk h1 h2 (by omega) D1 fv)
    · refine T_if_eq 26 dX7_weight_14 (by decide) (by unfold InR; decide) (fun _ => ?_) (fun h => absurd (by decide) h)
      refine T_bipush dX7_weight_26 (by decide) ?_
      refine T_iret dX7_weight_28 rfl ?_
      first
      | exact kU (by omega)
      | exact kN h1 h2 b0 D1 fv
      | (rw [(hw c.toNat (by omega)).1]; exact kk h1 h2 (by omega) D1 fv)
  · refine T_if_eq 10 dX7_weight_5 (by decide) (by unfold InR; decide) (fun h => absurd h (by decide)) (fun _ => ?_)
    refine T_iconst dX7_weight_8 ?_
    refine T_iret dX7_weight_9 rfl ?_
    first
    | exact kU (by omega)
    | exact kN h1 h2 b0 D1 fv
    | (rw [(hw c.toNat (by omega)).1]; exact kk h1 h2 (by omega) D1 fv)
theorem r_line {h : Int} (hL : MK D) (hh : InR h) (kU : ¬ (0 ≤ h ∧ h < D 57 1) → P (some (iI (-1))) SH D) (kN : 0 ≤ h → h < D 57 1 → mlM D = -9 → ∀ D' : DD, FrV D D' → P (some (iI (-9))) SH D') (kk : 0 ≤ h → h < D 57 1 → mlM D ≠ -9 → ∀ D' : DD, FrV D D' → (∀ c, c < (D 57 5).toNat → -360000 ≤ mlM D - mpM D c ∧ mlM D - mpM D c ≤ 400000) → P (some (iI (lnS (alM D h.toNat) (fun c => farM D h.toNat c + (mlM D - mpM D c)) 100000000 (D 57 5).toNat))) SH D') : TM g mX7_line (d + 6) P [.ref 57, iI h] D := by
  have hN := hL.1
  have hM := hL.2.1
  have loop : ∀ (h : Nat) (D1 : DD), h < (D 57 1).toNat → MK D1 → D1 57 = D 57 → (∀ c, c < (D 57 5).toNat → D1 74 c = mlM D - mpM D c ∧ -360000 ≤ D1 74 c ∧ D1 74 c ≤ 400000) → farM D1 = farM D → alM D1 = alM D → P (some (iI (lnS (alM D h) (fun c => farM D h c + (mlM D - mpM D c)) 100000000 (D 57 5).toNat))) SH D1 → ∀ (q c : Nat) (m5 : Option Value), q + c = (D 57 5).toNat → T g mX7_line (rmd (d + 6) 0 0) 0 0 (Qm g (rmd (d + 6) 0 0) P) 28 [some (.ref 57), some (iI h), some (iI (lnS (alM D h) (fun c => farM D h c + (mlM D - mpM D c)) 100000000 c)), some (iI (lnL (alM D h) (fun c => farM D h c + (mlM D - mpM D c)) 100000000 c)), some (iI c), m5] [] SH D1 := by
    intro h D1 hh hL1 z57 hw ef ea K q
    induction q with
    | zero =>
      intro c m5 hq
      have z2 : D1 57 5 = D 57 5 := by rw [z57]
      refine T_iload dX7_line_28 rfl ?_
      refine T_aload_n dX7_line_30 rfl ?_
      refine T_getI dX7_line_31 flX7_115 rfl rfl ?_
      refine T_icmp_ge 140 dX7_line_34 (by decide) (by first | (unfold InR; omega) | (simp [st2, InR]; omega)) (by first | (unfold InR; omega) | (simp [st2, InR]; omega)) (fun hc34 => ?_) (fun hc34 => (by exfalso; omega))
      refine T_iload_n dX7_line_140 rfl ?_
      refine T_iret dX7_line_141 rfl ?_
      rw [show c = (D 57 5).toNat by omega]; exact K
    | succ q ih =>
      intro c m5 hq
      have z2 : D1 57 5 = D 57 5 := by rw [z57]
      have eh : (h : Int).toNat = h := Int.toNat_natCast h
      have ec : (c : Int).toNat = c := Int.toNat_natCast c
      have ix : (5 * (h : Int) + c).toNat = 5 * h + c := by omega
      have e65 : D1 65 (5 * (h : Int) + c).toNat = D1 65 (5 * h + c) := by rw [ix]
      have e1 : farK (D1 61 (c : Int).toNat) (D1 58 (h : Int).toNat) (D1 59 (h : Int).toNat) (D1 62 (c : Int).toNat) (D1 63 (c : Int).toNat) (D1 57 11) = farM D h c := by rw [← ef, eh, ec]; rfl
      have b1 := farM_bd hL1 h c
      have hbb := hL1.2.2.2.2.2.2.2.2.2.2 (5 * h + c)
      rw [ef] at b1
      obtain ⟨w1, w2, w3⟩ := hw c (by omega)
      have e74 : D1 74 (c : Int).toNat = mlM D - mpM D c := by rw [ec, w1]
      have l1 := lnL_le (ok := alM D h) (v := fun c => farM D h c + (mlM D - mpM D c)) (B := 100000000) c
      have l2 := lnL_lo (ok := alM D h) (v := fun c => farM D h c + (mlM D - mpM D c)) (B := 100000000) (a := -360000) c (fun c' hc' _ => by
        have := hw c' (by omega)
        have := farM_bd hL1 h c'
        rw [ef] at this
        show -360000 ≤ farM D h c' + (mlM D - mpM D c')
        omega) (by decide)
      have ih := ih (c + 1)
      simp only [lnL, lnS] at ih
      have hal : alM D h c ↔ ¬ D1 65 (5 * h + c) = 1 := by rw [← ea]
      rw [w1] at w2 w3
      generalize lnL (alM D h) (fun c => farM D h c + (mlM D - mpM D c)) 100000000 c = l at *
      generalize lnS (alM D h) (fun c => farM D h c + (mlM D - mpM D c)) 100000000 c = s at *
      generalize farM D h c = f at *
      generalize mlM D - mpM D c = w at *
      clear kN kk kU K hw
      refine T_iload dX7_line_28 rfl ?_
      refine T_aload_n dX7_line_30 rfl ?_
      refine T_getI dX7_line_31 flX7_115 rfl rfl ?_
      refine T_icmp_ge 140 dX7_line_34 (by decide) (by first | (unfold InR; omega) | (simp [st2, InR]; omega)) (by first | (unfold InR; omega) | (simp [st2, InR]; omega)) (fun hc34 => (by exfalso; omega)) (fun hc34 => ?_)
      refine T_aload_n dX7_line_37 rfl ?_
      refine T_getR dX7_line_38 flX7_31 rfl rfl ?_
      refine T_iconst dX7_line_41 ?_
      refine T_iload_n dX7_line_42 rfl ?_
      refine T_imul dX7_line_43 ?_
      refine T_iload dX7_line_44 rfl ?_
      refine T_iadd dX7_line_46 ?_
      refine T_zald dX7_line_47 rfl (by first | decide | omega) (by first | omega | (simp [st2]; omega)) (by first | omega | (simp [st2]; omega)) ?_
      refine T_if_eq 56 dX7_line_48 (by decide) (by rw [e65]; unfold InR; omega) (fun hc48 => ?_) (fun hc48 => ?_)
      · rw [e65] at hc48
        have hok : alM D h c := hal.mpr (by omega)
        refine T_aload_n dX7_line_56 rfl ?_
        refine T_aload_n dX7_line_57 rfl ?_
        refine T_getR dX7_line_58 flX7_7 rfl rfl ?_
        refine T_iload_n dX7_line_61 rfl ?_
        refine T_iald dX7_line_62 rfl (by first | decide | omega) (by first | omega | (simp [st2]; omega)) (by first | omega | (simp [st2]; omega)) ?_
        refine T_aload_n dX7_line_63 rfl ?_
        refine T_getR dX7_line_64 flX7_13 rfl rfl ?_
        refine T_iload_n dX7_line_67 rfl ?_
        refine T_iald dX7_line_68 rfl (by first | decide | omega) (by first | omega | (simp [st2]; omega)) (by first | omega | (simp [st2]; omega)) ?_
        refine T_iload dX7_line_69 rfl ?_
        refine T_cV_3 dX7_line_71 lkX7_181 rfl (Nat.le_of_ble_eq_true rfl) (RO_r (by decide)) (Nat.le_of_ble_eq_true rfl) ?_
        refine r_farOf hL1 (by omega) (hL1.2.2.2.1 _) (hL1.2.2.2.2.1 _) ?_
        rw [e1]
        refine T_aload_n dX7_line_74 rfl ?_
        refine T_getR dX7_line_75 flX7_59 rfl rfl ?_
        refine T_iload dX7_line_78 rfl ?_
        refine T_iald dX7_line_80 rfl (by first | decide | omega) (by first | omega | (simp [st2]; omega)) (by first | omega | (simp [st2]; omega)) ?_
        first | rw [e74] | skip
        refine T_iadd dX7_line_81 ?_
        refine T_istore dX7_line_82 (by decide) ?_
        refine T_iload dX7_line_84 rfl ?_
        refine T_iload_n dX7_line_86 rfl ?_
        refine T_icmp_ge 97 dX7_line_87 (by decide) (by unfold InR; omega) (by unfold InR; omega) (fun hc87 => ?_) (fun hc87 => ?_)
        · refine T_iload dX7_line_97 rfl ?_
          refine T_iload_n dX7_line_99 rfl ?_
          refine T_icmp_ne 119 dX7_line_100 (by decide) (by unfold InR; omega) (by unfold InR; omega) (fun hc100 => ?_) (fun hc100 => ?_)
          · refine T_iload_n dX7_line_119 rfl ?_
            refine T_istore_n dX7_line_120 (by decide) ?_
            refine T_iload dX7_line_121 rfl ?_
            refine T_iload_n dX7_line_123 rfl ?_
            refine T_icmp_ge 132 dX7_line_124 (by decide) (by unfold InR; omega) (by unfold InR; omega) (fun hc124 => ?_) (fun hc124 => ?_)
            · refine T_iload_n dX7_line_132 rfl ?_
              refine T_istore_n dX7_line_133 (by decide) ?_
              refine T_iinc dX7_line_134 rfl (by decide) ?_
              refine T_goto (tgt := 28) dX7_line_137 (by decide) ?_
              first
              | (exfalso; omega)
              | exact ih _ (by omega)
              | (have A : alM D h c ∧ f + w < l := ⟨hok, by omega⟩
                 simp only [cif_pos A] at ih; exact ih _ (by omega))
              | (have A : ¬ (alM D h c ∧ f + w < l) := fun z => by have := z.2; omega
                 have E : alM D h c ∧ f + w = l := ⟨hok, by omega⟩
                 simp only [cif_neg A, cif_pos E] at ih; exact ih _ (by omega))
              | (have A : ¬ (alM D h c ∧ f + w < l) := fun z => by have := z.2; omega
                 have E : ¬ (alM D h c ∧ f + w = l) := fun z => by have := z.2; omega
                 simp only [cif_neg A, cif_neg E] at ih; exact ih _ (by omega))
            · refine T_iload dX7_line_127 rfl ?_
              refine T_goto (tgt := 133) dX7_line_129 (by decide) ?_
              refine T_istore_n dX7_line_133 (by decide) ?_
              refine T_iinc dX7_line_134 rfl (by decide) ?_
              refine T_goto (tgt := 28) dX7_line_137 (by decide) ?_
              first
              | (exfalso; omega)
              | exact ih _ (by omega)
              | (have A : alM D h c ∧ f + w < l := ⟨hok, by omega⟩
                 simp only [cif_pos A] at ih; exact ih _ (by omega))
              | (have A : ¬ (alM D h c ∧ f + w < l) := fun z => by have := z.2; omega
                 have E : alM D h c ∧ f + w = l := ⟨hok, by omega⟩
                 simp only [cif_neg A, cif_pos E] at ih; exact ih _ (by omega))
              | (have A : ¬ (alM D h c ∧ f + w < l) := fun z => by have := z.2; omega
                 have E : ¬ (alM D h c ∧ f + w = l) := fun z => by have := z.2; omega
                 simp only [cif_neg A, cif_neg E] at ih; exact ih _ (by omega))
          · refine T_iload dX7_line_103 rfl ?_
            refine T_ldc (n := 100000000) dX7_line_105 tk_995 ?_
            refine T_icmp_ge 119 dX7_line_107 (by decide) (by unfold InR; omega) (by first | (unfold InR; omega) | (simp [st2, InR]; omega)) (fun hc107 => ?_) (fun hc107 => ?_)
            · refine T_iload_n dX7_line_119 rfl ?_
              refine T_istore_n dX7_line_120 (by decide) ?_
              refine T_iload dX7_line_121 rfl ?_
              refine T_iload_n dX7_line_123 rfl ?_
              refine T_icmp_ge 132 dX7_line_124 (by decide) (by unfold InR; omega) (by unfold InR; omega) (fun hc124 => ?_) (fun hc124 => ?_)
              · refine T_iload_n dX7_line_132 rfl ?_
                refine T_istore_n dX7_line_133 (by decide) ?_
                refine T_iinc dX7_line_134 rfl (by decide) ?_
                refine T_goto (tgt := 28) dX7_line_137 (by decide) ?_
                first
                | (exfalso; omega)
                | exact ih _ (by omega)
                | (have A : alM D h c ∧ f + w < l := ⟨hok, by omega⟩
                   simp only [cif_pos A] at ih; exact ih _ (by omega))
                | (have A : ¬ (alM D h c ∧ f + w < l) := fun z => by have := z.2; omega
                   have E : alM D h c ∧ f + w = l := ⟨hok, by omega⟩
                   simp only [cif_neg A, cif_pos E] at ih; exact ih _ (by omega))
                | (have A : ¬ (alM D h c ∧ f + w < l) := fun z => by have := z.2; omega
                   have E : ¬ (alM D h c ∧ f + w = l) := fun z => by have := z.2; omega
                   simp only [cif_neg A, cif_neg E] at ih; exact ih _ (by omega))
              · refine T_iload dX7_line_127 rfl ?_
                refine T_goto (tgt := 133) dX7_line_129 (by decide) ?_
                refine T_istore_n dX7_line_133 (by decide) ?_
                refine T_iinc dX7_line_134 rfl (by decide) ?_
                refine T_goto (tgt := 28) dX7_line_137 (by decide) ?_
                first
                | (exfalso; omega)
                | exact ih _ (by omega)
                | (have A : alM D h c ∧ f + w < l := ⟨hok, by omega⟩
                   simp only [cif_pos A] at ih; exact ih _ (by omega))
                | (have A : ¬ (alM D h c ∧ f + w < l) := fun z => by have := z.2; omega
                   have E : alM D h c ∧ f + w = l := ⟨hok, by omega⟩
                   simp only [cif_neg A, cif_pos E] at ih; exact ih _ (by omega))
                | (have A : ¬ (alM D h c ∧ f + w < l) := fun z => by have := z.2; omega
                   have E : ¬ (alM D h c ∧ f + w = l) := fun z => by have := z.2; omega
                   simp only [cif_neg A, cif_neg E] at ih; exact ih _ (by omega))
            · refine T_iload_n dX7_line_110 rfl ?_
              refine T_iconst dX7_line_111 ?_
              refine T_iload dX7_line_112 rfl ?_
              refine T_ishl dX7_line_114 ?_
              refine T_ior dX7_line_115 ?_
              refine T_goto (tgt := 120) dX7_line_116 (by decide) ?_
              refine T_istore_n dX7_line_120 (by decide) ?_
              refine T_iload dX7_line_121 rfl ?_
              refine T_iload_n dX7_line_123 rfl ?_
              refine T_icmp_ge 132 dX7_line_124 (by decide) (by unfold InR; omega) (by unfold InR; omega) (fun hc124 => ?_) (fun hc124 => ?_)
              · refine T_iload_n dX7_line_132 rfl ?_
                refine T_istore_n dX7_line_133 (by decide) ?_
                refine T_iinc dX7_line_134 rfl (by decide) ?_
                refine T_goto (tgt := 28) dX7_line_137 (by decide) ?_
                first
                | (exfalso; omega)
                | exact ih _ (by omega)
                | (have A : alM D h c ∧ f + w < l := ⟨hok, by omega⟩
                   simp only [cif_pos A] at ih; exact ih _ (by omega))
                | (have A : ¬ (alM D h c ∧ f + w < l) := fun z => by have := z.2; omega
                   have E : alM D h c ∧ f + w = l := ⟨hok, by omega⟩
                   simp only [cif_neg A, cif_pos E] at ih; exact ih _ (by omega))
                | (have A : ¬ (alM D h c ∧ f + w < l) := fun z => by have := z.2; omega
                   have E : ¬ (alM D h c ∧ f + w = l) := fun z => by have := z.2; omega
                   simp only [cif_neg A, cif_neg E] at ih; exact ih _ (by omega))
              · refine T_iload dX7_line_127 rfl ?_
                refine T_goto (tgt := 133) dX7_line_129 (by decide) ?_
                refine T_istore_n dX7_line_133 (by decide) ?_
                refine T_iinc dX7_line_134 rfl (by decide) ?_
                refine T_goto (tgt := 28) dX7_line_137 (by decide) ?_
                first
                | (exfalso; omega)
                | exact ih _ (by omega)
                | (have A : alM D h c ∧ f + w < l := ⟨hok, by omega⟩
                   simp only [cif_pos A] at ih; exact ih _ (by omega))
                | (have A : ¬ (alM D h c ∧ f + w < l) := fun z => by have := z.2; omega
                   have E : alM D h c ∧ f + w = l := ⟨hok, by omega⟩
                   simp only [cif_neg A, cif_pos E] at ih; exact ih _ (by omega))
                | (have A : ¬ (alM D h c ∧ f + w < l) := fun z => by have := z.2; omega
                   have E : ¬ (alM D h c ∧ f + w = l) := fun z => by have := z.2; omega
                   simp only [cif_neg A, cif_neg E] at ih; exact ih _ (by omega))
        · refine T_iconst dX7_line_90 ?_
          refine T_iload dX7_line_91 rfl ?_
          refine T_ishl dX7_line_93 ?_
          refine T_goto (tgt := 120) dX7_line_94 (by decide) ?_
          refine T_istore_n dX7_line_120 (by decide) ?_
          refine T_iload dX7_line_121 rfl ?_
          refine T_iload_n dX7_line_123 rfl ?_
          refine T_icmp_ge 132 dX7_line_124 (by decide) (by unfold InR; omega) (by unfold InR; omega) (fun hc124 => ?_) (fun hc124 => ?_)
          · refine T_iload_n dX7_line_132 rfl ?_
            refine T_istore_n dX7_line_133 (by decide) ?_
            refine T_iinc dX7_line_134 rfl (by decide) ?_
            refine T_goto (tgt := 28) dX7_line_137 (by decide) ?_
            first
            | (exfalso; omega)
            | exact ih _ (by omega)
            | (have A : alM D h c ∧ f + w < l := ⟨hok, by omega⟩
               simp only [cif_pos A] at ih; exact ih _ (by omega))
            | (have A : ¬ (alM D h c ∧ f + w < l) := fun z => by have := z.2; omega
               have E : alM D h c ∧ f + w = l := ⟨hok, by omega⟩
               simp only [cif_neg A, cif_pos E] at ih; exact ih _ (by omega))
            | (have A : ¬ (alM D h c ∧ f + w < l) := fun z => by have := z.2; omega
               have E : ¬ (alM D h c ∧ f + w = l) := fun z => by have := z.2; omega
               simp only [cif_neg A, cif_neg E] at ih; exact ih _ (by omega))
          · refine T_iload dX7_line_127 rfl ?_
            refine T_goto (tgt := 133) dX7_line_129 (by decide) ?_
            refine T_istore_n dX7_line_133 (by decide) ?_
            refine T_iinc dX7_line_134 rfl (by decide) ?_
            refine T_goto (tgt := 28) dX7_line_137 (by decide) ?_
            first
            | (exfalso; omega)
            | exact ih _ (by omega)
            | (have A : alM D h c ∧ f + w < l := ⟨hok, by omega⟩
               simp only [cif_pos A] at ih; exact ih _ (by omega))
            | (have A : ¬ (alM D h c ∧ f + w < l) := fun z => by have := z.2; omega
               have E : alM D h c ∧ f + w = l := ⟨hok, by omega⟩
               simp only [cif_neg A, cif_pos E] at ih; exact ih _ (by omega))
            | (have A : ¬ (alM D h c ∧ f + w < l) := fun z => by have := z.2; omega
               have E : ¬ (alM D h c ∧ f + w = l) := fun z => by have := z.2; omega
               simp only [cif_neg A, cif_neg E] at ih; exact ih _ (by omega))
      · rw [e65] at hc48
        have hnok : ¬ alM D h c := fun z => (hal.mp z) (by omega)
        rw [cif_neg (fun z => hnok z.1), cif_neg (fun z => hnok z.1), cif_neg (fun z => hnok z.1)] at ih
        refine T_ldc (n := 100000000) dX7_line_51 tk_995 ?_
        refine T_goto (tgt := 82) dX7_line_53 (by decide) ?_
        refine T_istore dX7_line_82 (by decide) ?_
        refine T_iload dX7_line_84 rfl ?_
        refine T_iload_n dX7_line_86 rfl ?_
        refine T_icmp_ge 97 dX7_line_87 (by decide) (by unfold InR; omega) (by unfold InR; omega) (fun hc87 => ?_) (fun hc87 => ?_)
        · refine T_iload dX7_line_97 rfl ?_
          refine T_iload_n dX7_line_99 rfl ?_
          refine T_icmp_ne 119 dX7_line_100 (by decide) (by unfold InR; omega) (by unfold InR; omega) (fun hc100 => ?_) (fun hc100 => ?_)
          · refine T_iload_n dX7_line_119 rfl ?_
            refine T_istore_n dX7_line_120 (by decide) ?_
            refine T_iload dX7_line_121 rfl ?_
            refine T_iload_n dX7_line_123 rfl ?_
            refine T_icmp_ge 132 dX7_line_124 (by decide) (by unfold InR; omega) (by unfold InR; omega) (fun hc124 => ?_) (fun hc124 => ?_)
            · refine T_iload_n dX7_line_132 rfl ?_
              refine T_istore_n dX7_line_133 (by decide) ?_
              refine T_iinc dX7_line_134 rfl (by decide) ?_
              refine T_goto (tgt := 28) dX7_line_137 (by decide) ?_
              first
              | (exfalso; omega)
              | exact ih _ (by omega)
              | (have A : alM D h c ∧ f + w < l := ⟨hok, by omega⟩
                 simp only [cif_pos A] at ih; exact ih _ (by omega))
              | (have A : ¬ (alM D h c ∧ f + w < l) := fun z => by have := z.2; omega
                 have E : alM D h c ∧ f + w = l := ⟨hok, by omega⟩
                 simp only [cif_neg A, cif_pos E] at ih; exact ih _ (by omega))
              | (have A : ¬ (alM D h c ∧ f + w < l) := fun z => by have := z.2; omega
                 have E : ¬ (alM D h c ∧ f + w = l) := fun z => by have := z.2; omega
                 simp only [cif_neg A, cif_neg E] at ih; exact ih _ (by omega))
            · refine T_iload dX7_line_127 rfl ?_
              refine T_goto (tgt := 133) dX7_line_129 (by decide) ?_
              refine T_istore_n dX7_line_133 (by decide) ?_
              refine T_iinc dX7_line_134 rfl (by decide) ?_
              refine T_goto (tgt := 28) dX7_line_137 (by decide) ?_
              first
              | (exfalso; omega)
              | exact ih _ (by omega)
              | (have A : alM D h c ∧ f + w < l := ⟨hok, by omega⟩
                 simp only [cif_pos A] at ih; exact ih _ (by omega))
              | (have A : ¬ (alM D h c ∧ f + w < l) := fun z => by have := z.2; omega
                 have E : alM D h c ∧ f + w = l := ⟨hok, by omega⟩
                 simp only [cif_neg A, cif_pos E] at ih; exact ih _ (by omega))
              | (have A : ¬ (alM D h c ∧ f + w < l) := fun z => by have := z.2; omega
                 have E : ¬ (alM D h c ∧ f + w = l) := fun z => by have := z.2; omega
                 simp only [cif_neg A, cif_neg E] at ih; exact ih _ (by omega))
          · refine T_iload dX7_line_103 rfl ?_
            refine T_ldc (n := 100000000) dX7_line_105 tk_995 ?_
            refine T_icmp_ge 119 dX7_line_107 (by decide) (by unfold InR; omega) (by first | (unfold InR; omega) | (simp [st2, InR]; omega)) (fun hc107 => ?_) (fun hc107 => ?_)
            · refine T_iload_n dX7_line_119 rfl ?_
              refine T_istore_n dX7_line_120 (by decide) ?_
              refine T_iload dX7_line_121 rfl ?_
              refine T_iload_n dX7_line_123 rfl ?_
              refine T_icmp_ge 132 dX7_line_124 (by decide) (by unfold InR; omega) (by unfold InR; omega) (fun hc124 => ?_) (fun hc124 => ?_)
              · refine T_iload_n dX7_line_132 rfl ?_
                refine T_istore_n dX7_line_133 (by decide) ?_
                refine T_iinc dX7_line_134 rfl (by decide) ?_
                refine T_goto (tgt := 28) dX7_line_137 (by decide) ?_
                first
                | (exfalso; omega)
                | exact ih _ (by omega)
                | (have A : alM D h c ∧ f + w < l := ⟨hok, by omega⟩
                   simp only [cif_pos A] at ih; exact ih _ (by omega))
                | (have A : ¬ (alM D h c ∧ f + w < l) := fun z => by have := z.2; omega
                   have E : alM D h c ∧ f + w = l := ⟨hok, by omega⟩
                   simp only [cif_neg A, cif_pos E] at ih; exact ih _ (by omega))
                | (have A : ¬ (alM D h c ∧ f + w < l) := fun z => by have := z.2; omega
                   have E : ¬ (alM D h c ∧ f + w = l) := fun z => by have := z.2; omega
                   simp only [cif_neg A, cif_neg E] at ih; exact ih _ (by omega))
              · refine T_iload dX7_line_127 rfl ?_
                refine T_goto (tgt := 133) dX7_line_129 (by decide) ?_
                refine T_istore_n dX7_line_133 (by decide) ?_
                refine T_iinc dX7_line_134 rfl (by decide) ?_
                refine T_goto (tgt := 28) dX7_line_137 (by decide) ?_
                first
                | (exfalso; omega)
                | exact ih _ (by omega)
                | (have A : alM D h c ∧ f + w < l := ⟨hok, by omega⟩
                   simp only [cif_pos A] at ih; exact ih _ (by omega))
                | (have A : ¬ (alM D h c ∧ f + w < l) := fun z => by have := z.2; omega
                   have E : alM D h c ∧ f + w = l := ⟨hok, by omega⟩
                   simp only [cif_neg A, cif_pos E] at ih; exact ih _ (by omega))
                | (have A : ¬ (alM D h c ∧ f + w < l) := fun z => by have := z.2; omega
                   have E : ¬ (alM D h c ∧ f + w = l) := fun z => by have := z.2; omega
                   simp only [cif_neg A, cif_neg E] at ih; exact ih _ (by omega))
            · refine T_iload_n dX7_line_110 rfl ?_
              refine T_iconst dX7_line_111 ?_
              refine T_iload dX7_line_112 rfl ?_
              refine T_ishl dX7_line_114 ?_
              refine T_ior dX7_line_115 ?_
              refine T_goto (tgt := 120) dX7_line_116 (by decide) ?_
              refine T_istore_n dX7_line_120 (by decide) ?_
              refine T_iload dX7_line_121 rfl ?_
              refine T_iload_n dX7_line_123 rfl ?_
              refine T_icmp_ge 132 dX7_line_124 (by decide) (by unfold InR; omega) (by unfold InR; omega) (fun hc124 => ?_) (fun hc124 => ?_)
              · refine T_iload_n dX7_line_132 rfl ?_
                refine T_istore_n dX7_line_133 (by decide) ?_
                refine T_iinc dX7_line_134 rfl (by decide) ?_
                refine T_goto (tgt := 28) dX7_line_137 (by decide) ?_
                first
                | (exfalso; omega)
                | exact ih _ (by omega)
                | (have A : alM D h c ∧ f + w < l := ⟨hok, by omega⟩
                   simp only [cif_pos A] at ih; exact ih _ (by omega))
                | (have A : ¬ (alM D h c ∧ f + w < l) := fun z => by have := z.2; omega
                   have E : alM D h c ∧ f + w = l := ⟨hok, by omega⟩
                   simp only [cif_neg A, cif_pos E] at ih; exact ih _ (by omega))
                | (have A : ¬ (alM D h c ∧ f + w < l) := fun z => by have := z.2; omega
                   have E : ¬ (alM D h c ∧ f + w = l) := fun z => by have := z.2; omega
                   simp only [cif_neg A, cif_neg E] at ih; exact ih _ (by omega))
              · refine T_iload dX7_line_127 rfl ?_
                refine T_goto (tgt := 133) dX7_line_129 (by decide) ?_
                refine T_istore_n dX7_line_133 (by decide) ?_
                refine T_iinc dX7_line_134 rfl (by decide) ?_
                refine T_goto (tgt := 28) dX7_line_137 (by decide) ?_
                first
                | (exfalso; omega)
                | exact ih _ (by omega)
                | (have A : alM D h c ∧ f + w < l := ⟨hok, by omega⟩
                   simp only [cif_pos A] at ih; exact ih _ (by omega))
                | (have A : ¬ (alM D h c ∧ f + w < l) := fun z => by have := z.2; omega
                   have E : alM D h c ∧ f + w = l := ⟨hok, by omega⟩
                   simp only [cif_neg A, cif_pos E] at ih; exact ih _ (by omega))
                | (have A : ¬ (alM D h c ∧ f + w < l) := fun z => by have := z.2; omega
                   have E : ¬ (alM D h c ∧ f + w = l) := fun z => by have := z.2; omega
                   simp only [cif_neg A, cif_neg E] at ih; exact ih _ (by omega))
        · refine T_iconst dX7_line_90 ?_
          refine T_iload dX7_line_91 rfl ?_
          refine T_ishl dX7_line_93 ?_
          refine T_goto (tgt := 120) dX7_line_94 (by decide) ?_
          refine T_istore_n dX7_line_120 (by decide) ?_
          refine T_iload dX7_line_121 rfl ?_
          refine T_iload_n dX7_line_123 rfl ?_
          refine T_icmp_ge 132 dX7_line_124 (by decide) (by unfold InR; omega) (by unfold InR; omega) (fun hc124 => ?_) (fun hc124 => ?_)
          · refine T_iload_n dX7_line_132 rfl ?_
            refine T_istore_n dX7_line_133 (by decide) ?_
            refine T_iinc dX7_line_134 rfl (by decide) ?_
            refine T_goto (tgt := 28) dX7_line_137 (by decide) ?_
            first
            | (exfalso; omega)
            | exact ih _ (by omega)
            | (have A : alM D h c ∧ f + w < l := ⟨hok, by omega⟩
               simp only [cif_pos A] at ih; exact ih _ (by omega))
            | (have A : ¬ (alM D h c ∧ f + w < l) := fun z => by have := z.2; omega
               have E : alM D h c ∧ f + w = l := ⟨hok, by omega⟩
               simp only [cif_neg A, cif_pos E] at ih; exact ih _ (by omega))
            | (have A : ¬ (alM D h c ∧ f + w < l) := fun z => by have := z.2; omega
               have E : ¬ (alM D h c ∧ f + w = l) := fun z => by have := z.2; omega
               simp only [cif_neg A, cif_neg E] at ih; exact ih _ (by omega))
          · refine T_iload dX7_line_127 rfl ?_
            refine T_goto (tgt := 133) dX7_line_129 (by decide) ?_
            refine T_istore_n dX7_line_133 (by decide) ?_
            refine T_iinc dX7_line_134 rfl (by decide) ?_
            refine T_goto (tgt := 28) dX7_line_137 (by decide) ?_
            first
            | (exfalso; omega)
            | exact ih _ (by omega)
            | (have A : alM D h c ∧ f + w < l := ⟨hok, by omega⟩
               simp only [cif_pos A] at ih; exact ih _ (by omega))
            | (have A : ¬ (alM D h c ∧ f + w < l) := fun z => by have := z.2; omega
               have E : alM D h c ∧ f + w = l := ⟨hok, by omega⟩
               simp only [cif_neg A, cif_pos E] at ih; exact ih _ (by omega))
            | (have A : ¬ (alM D h c ∧ f + w < l) := fun z => by have := z.2; omega
               have E : ¬ (alM D h c ∧ f + w = l) := fun z => by have := z.2; omega
               simp only [cif_neg A, cif_neg E] at ih; exact ih _ (by omega))
  refine T_aload_n dX7_line_0 rfl ?_
  refine T_iload_n dX7_line_1 rfl ?_
  refine T_cV_1 dX7_line_2 lkX7_170 rfl (Nat.le_of_ble_eq_true rfl) (RO_r (by decide)) (Nat.le_of_ble_eq_true rfl) ?_
  refine r_noHome hh hN (fun h1 h2 => ?_) (fun h1 => ?_)
  · refine T_if_eq 10 dX7_line_5 (by decide) (by unfold InR; decide) (fun _ => ?_) (fun h => absurd (by decide) h)
    refine T_aload_n dX7_line_10 rfl ?_
    refine T_cV_0 dX7_line_11 lkX7_213 rfl (Nat.le_of_ble_eq_true rfl) (RO_r (by decide)) (Nat.le_of_ble_eq_true rfl) ?_
    refine r_layWeights hL (fun b0 b1 D1 fv hw => ?_) (fun b0 D1 fv => ?_)
    · refine T_if_ne 20 dX7_line_14 (by decide) (by unfold InR; decide) (fun _ => ?_) (fun h => absurd (by decide) h)
      refine T_iconst dX7_line_20 ?_
      refine T_istore_n dX7_line_21 (by decide) ?_
      refine T_ldc (n := 100000000) dX7_line_22 tk_995 ?_
      refine T_istore_n dX7_line_24 (by decide) ?_
      refine T_iconst dX7_line_25 ?_
      refine T_istore dX7_line_26 (by decide) ?_
      obtain ⟨h, rfl⟩ : ∃ k : Nat, h = k := ⟨h.toNat, by omega⟩
      rw [Int.toNat_natCast] at kk
      have ml : ∀ a, 57 ≤ a → a ≤ 65 → D1 a = D a := fun a h1 h2 => fv a (by omega)
      obtain ⟨-, -, ea, ef⟩ := mlM_of ml
      exact loop h D1 (by omega) (MK_fr ml hL) (ml 57 (by decide) (by decide)) hw ef ea (kk h1 h2 (by omega) D1 fv (fun c hc => by have := hw c hc; omega)) (D 57 5).toNat 0 _ (by omega)
    · refine T_if_ne 20 dX7_line_14 (by decide) (by unfold InR; decide) (fun h => absurd h (by decide)) (fun _ => ?_)
      refine T_bipush dX7_line_17 (by decide) ?_
      refine T_iret dX7_line_19 rfl ?_
      first
      | exact kU (by omega)
      | exact kN h1 h2 b0 D1 fv
  · refine T_if_eq 10 dX7_line_5 (by decide) (by unfold InR; decide) (fun h => absurd h (by decide)) (fun _ => ?_)
    refine T_iconst dX7_line_8 ?_
    refine T_iret dX7_line_9 rfl ?_
    first
    | exact kU (by omega)
    | exact kN h1 h2 b0 D1 fv
theorem r_who {x y : Int} (hL : MK D) (hx : InR x) (hy : InR y) (kO : ¬ (0 ≤ x ∧ x ≤ 60 ∧ 0 ≤ y ∧ y ≤ 60) → P (some (iI (-2))) SH D) (kN : 0 ≤ x ∧ x ≤ 60 ∧ 0 ≤ y ∧ y ≤ 60 → mlM D = -9 → ∀ D' : DD, FrV D D' → P (some (iI (-3))) SH D') (kk : 0 ≤ x ∧ x ≤ 60 ∧ 0 ≤ y ∧ y ≤ 60 → mlM D ≠ -9 → ∀ (D' : DD) (r : Int), FrV D D' → ArgM (D 57 5).toNat (fun _ => True) (fun c => farXM D x y c + (mlM D - mpM D c)) r → P (some (iI r)) SH D') : TM g mX7_who (d + 6) P [.ref 57, iI x, iI y] D := by
  have hM := hL.2.1
  have loop : ∀ (D1 : DD), 0 ≤ x ∧ x ≤ 60 → 0 ≤ y ∧ y ≤ 60 → MK D1 → (∀ a, 57 ≤ a → a ≤ 65 → D1 a = D a) → (∀ c, c < (D 57 5).toNat → D1 74 c = mlM D - mpM D c ∧ -360000 ≤ D1 74 c ∧ D1 74 c ≤ 400000) → (∀ r, ArgM (D 57 5).toNat (fun _ => True) (fun c => farXM D x y c + (mlM D - mpM D c)) r → P (some (iI r)) SH D1) → ∀ (q c : Nat) (r l : Int) (m6 : Option Value), q + c = (D 57 5).toNat → ArgM c (fun _ => True) (fun c => farXM D x y c + (mlM D - mpM D c)) r → LsI (fun c => farXM D x y c + (mlM D - mpM D c)) 0 r l → (-360000 ≤ l ∧ l ≤ 500000) → T g mX7_who (rmd (d + 6) 0 0) 0 0 (Qm g (rmd (d + 6) 0 0) P) 30 [some (.ref 57), some (iI x), some (iI y), some (iI r), some (iI l), some (iI c), m6] [] SH D1 := by
    intro D1 hx hy hL1 ml hw K q
    induction q with
    | zero =>
      intro c r l m6 hq hA hl hb
      have z2 : D1 57 5 = D 57 5 := by rw [ml 57 (by decide) (by decide)]
      refine T_iload dX7_who_30 rfl ?_
      refine T_aload_n dX7_who_32 rfl ?_
      refine T_getI dX7_who_33 flX7_115 rfl rfl ?_
      refine T_icmp_ge 81 dX7_who_36 (by decide) (by first | (unfold InR; omega) | (simp [st2, InR]; omega)) (by first | (unfold InR; omega) | (simp [st2, InR]; omega)) (fun hc36 => ?_) (fun hc36 => (by exfalso; omega))
      refine T_iload_n dX7_who_81 rfl ?_
      refine T_iret dX7_who_82 rfl ?_
      exact K r (by rw [show (D 57 5).toNat = c by omega]; exact hA)
    | succ q ih =>
      intro c r l m6 hq hA hl hb
      have z2 : D1 57 5 = D 57 5 := by rw [ml 57 (by decide) (by decide)]
      have ec : (c : Int).toNat = c := Int.toNat_natCast c
      have e1 : farK (D1 61 (c : Int).toNat) x y (D1 62 (c : Int).toNat) (D1 63 (c : Int).toNat) (D1 57 11) + D1 74 (c : Int).toNat = farXM D x y c + (mlM D - mpM D c) := by
        rw [ec, (hw c (by omega)).1, ml 61 (by decide) (by decide), ml 62 (by decide) (by decide), ml 63 (by decide) (by decide), ml 57 (by decide) (by decide)]; rfl
      have b1 : 0 ≤ farXM D x y c ∧ farXM D x y c ≤ 7200 := farK_bd hx hy (hL.2.2.2.2.2.2.2.1 _) (hL.2.2.2.2.2.2.2.2.1 _) hL.2.2.1
      have b2 := hw c (by omega)
      have rg := hA.rg
      have st1 := hA.ltN hl trivial
      have st2' := fun (z : 0 ≤ r ∧ l ≤ farXM D x y c + (mlM D - mpM D c)) => hA.geN hl (fun _ => z)
      refine T_iload dX7_who_30 rfl ?_
      refine T_aload_n dX7_who_32 rfl ?_
      refine T_getI dX7_who_33 flX7_115 rfl rfl ?_
      refine T_icmp_ge 81 dX7_who_36 (by decide) (by first | (unfold InR; omega) | (simp [st2, InR]; omega)) (by first | (unfold InR; omega) | (simp [st2, InR]; omega)) (fun hc36 => (by exfalso; omega)) (fun hc36 => ?_)
      refine T_aload_n dX7_who_39 rfl ?_
      refine T_iload_n dX7_who_40 rfl ?_
      refine T_iload_n dX7_who_41 rfl ?_
      refine T_iload dX7_who_42 rfl ?_
      refine T_cV_3 dX7_who_44 lkX7_181 rfl (Nat.le_of_ble_eq_true rfl) (RO_r (by decide)) (Nat.le_of_ble_eq_true rfl) ?_
      refine r_farOf hL1 (by omega) hx hy ?_
      refine T_aload_n dX7_who_47 rfl ?_
      refine T_getR dX7_who_48 flX7_59 rfl rfl ?_
      refine T_iload dX7_who_51 rfl ?_
      refine T_iald dX7_who_53 rfl (by first | decide | omega) (by first | omega | (simp [st2]; omega)) (by first | omega | (simp [st2]; omega)) ?_
      refine T_iadd dX7_who_54 ?_
      rw [e1]
      refine T_istore dX7_who_55 (by decide) ?_
      refine T_iload_n dX7_who_57 rfl ?_
      refine T_if_lt 68 dX7_who_58 (by decide) (by unfold InR; omega) (fun hc58 => ?_) (fun hc58 => ?_)
      · refine T_iload dX7_who_68 rfl ?_
        refine T_istore_n dX7_who_70 (by decide) ?_
        refine T_iload dX7_who_71 rfl ?_
        refine T_istore dX7_who_73 (by decide) ?_
        refine T_iinc dX7_who_75 rfl (by decide) ?_
        refine T_goto (tgt := 30) dX7_who_78 (by decide) ?_
        first
        | exact ih (c + 1) r l _ (by omega) (st2' (by omega)) hl hb
        | (have z := st1 (show r < 0 ∨ farXM D x y c + (mlM D - mpM D c) < l by omega)
           exact ih (c + 1) _ _ _ (by omega) z.1 z.2 (by omega))
      · refine T_iload dX7_who_61 rfl ?_
        refine T_iload dX7_who_63 rfl ?_
        refine T_icmp_ge 75 dX7_who_65 (by decide) (by unfold InR; omega) (by unfold InR; omega) (fun hc65 => ?_) (fun hc65 => ?_)
        · refine T_iinc dX7_who_75 rfl (by decide) ?_
          refine T_goto (tgt := 30) dX7_who_78 (by decide) ?_
          first
          | exact ih (c + 1) r l _ (by omega) (st2' (by omega)) hl hb
          | (have z := st1 (show r < 0 ∨ farXM D x y c + (mlM D - mpM D c) < l by omega)
             exact ih (c + 1) _ _ _ (by omega) z.1 z.2 (by omega))
        · refine T_iload dX7_who_68 rfl ?_
          refine T_istore_n dX7_who_70 (by decide) ?_
          refine T_iload dX7_who_71 rfl ?_
          refine T_istore dX7_who_73 (by decide) ?_
          refine T_iinc dX7_who_75 rfl (by decide) ?_
          refine T_goto (tgt := 30) dX7_who_78 (by decide) ?_
          first
          | exact ih (c + 1) r l _ (by omega) (st2' (by omega)) hl hb
          | (have z := st1 (show r < 0 ∨ farXM D x y c + (mlM D - mpM D c) < l by omega)
             exact ih (c + 1) _ _ _ (by omega) z.1 z.2 (by omega))
  refine T_iload_n dX7_who_0 rfl ?_
  refine T_iload_n dX7_who_1 rfl ?_
  refine T_cS_2 dX7_who_2 lkX7_118 (Nat.le_of_ble_eq_true rfl) (RO_r (by decide)) (Nat.le_of_ble_eq_true rfl) ?_
  refine r_isSpot hx hy (fun h1 h2 h3 h4 => ?_) (fun h1 => ?_)
  · refine T_if_ne 11 dX7_who_5 (by decide) (by unfold InR; decide) (fun _ => ?_) (fun h => absurd (by decide) h)
    refine T_aload_n dX7_who_11 rfl ?_
    refine T_cV_0 dX7_who_12 lkX7_213 rfl (Nat.le_of_ble_eq_true rfl) (RO_r (by decide)) (Nat.le_of_ble_eq_true rfl) ?_
    refine r_layWeights hL (fun b0 b1 D1 fv hw => ?_) (fun b0 D1 fv => ?_)
    · refine T_if_ne 21 dX7_who_15 (by decide) (by unfold InR; decide) (fun _ => ?_) (fun h => absurd (by decide) h)
      refine T_bipush dX7_who_21 (by decide) ?_
      refine T_istore_n dX7_who_23 (by decide) ?_
      refine T_iconst dX7_who_24 ?_
      refine T_istore dX7_who_25 (by decide) ?_
      refine T_iconst dX7_who_27 ?_
      refine T_istore dX7_who_28 (by decide) ?_
      have ml : ∀ a, 57 ≤ a → a ≤ 65 → D1 a = D a := fun a h1 h2 => fv a (by omega)
      exact loop D1 ⟨h1, h2⟩ ⟨h3, h4⟩ (MK_fr ml hL) ml hw (fun r hA => kk ⟨h1, h2, h3, h4⟩ (by omega) D1 r fv hA) (D 57 5).toNat 0 (-9) 0 _ (by omega) ArgM.zero (Or.inl ⟨rfl, rfl⟩) (by omega)
    · refine T_if_ne 21 dX7_who_15 (by decide) (by unfold InR; decide) (fun h => absurd h (by decide)) (fun _ => ?_)
      refine T_bipush dX7_who_18 (by decide) ?_
      refine T_iret dX7_who_20 rfl ?_
      first
      | exact kO (by omega)
      | exact kN ⟨h1, h2, h3, h4⟩ b0 D1 fv
  · refine T_if_ne 11 dX7_who_5 (by decide) (by unfold InR; decide) (fun h => absurd h (by decide)) (fun _ => ?_)
    refine T_bipush dX7_who_8 (by decide) ?_
    refine T_iret dX7_who_10 rfl ?_
    first
    | exact kO (by omega)
    | exact kN ⟨h1, h2, h3, h4⟩ b0 D1 fv
end

