section
variable {g : G0} {d : Nat} {P : Option Value → List SC → DD → Prop} {D : DD}
theorem c_lineOf {o h : Nat} (hs : SnAt o) (hK : SnK D o) (hh : h < (D o 10).toNat) (hw : ∀ c, c < (D o 11).toNat → 0 ≤ D (o + 10) c ∧ D (o + 10) c ≤ 2000000) (hk : P (some (iI (lnS (alO D o h) (fun c => fO D o h c + D (o + 10) c) 500000000 (D o 11).toNat))) SH D) : TM g mX3_lineOf d P [.ref o, iI h] D := by
  obtain ⟨hS, hA0, hA1, hA2, hA3, hA4, hA5, hA6, hA7, hA8, hA9, ho16⟩ := hs
  have hN := hK.1
  have hM := hK.2.1
  have loop : ∀ (q c : Nat) (m5 : Option Value), q + c = (D o 11).toNat → T g mX3_lineOf (rmd d 0 0) 0 0 (Qm g (rmd d 0 0) P) 8 [some (.ref o), some (iI h), some (iI (lnL (alO D o h) (fun c => fO D o h c + D (o + 10) c) 500000000 c)), some (iI (lnS (alO D o h) (fun c => fO D o h c + D (o + 10) c) 500000000 c)), some (iI c), m5] [] SH D := by
    intro q
    induction q with
    | zero =>
      intro c m5 hq
      refine T_iload dX3_lineOf_8 rfl ?_
      refine T_aload_n dX3_lineOf_10 rfl ?_
      refine T_getI dX3_lineOf_11 flX3_52 hS rfl ?_
      refine T_icmp_ge 89 dX3_lineOf_14 (by decide) (by first | (unfold InR; omega) | (simp [st2, InR]; omega)) (by first | (unfold InR; omega) | (simp [st2, InR]; omega)) (fun hc14 => ?_) (fun hc14 => (by exfalso; omega))
      refine T_iload_n dX3_lineOf_89 rfl ?_
      refine T_iret dX3_lineOf_90 rfl ?_
      rw [show c = (D o 11).toNat by omega]
      exact hk
    | succ q ih =>
      intro c m5 hq
      have ec : (c : Int).toNat = c := Int.toNat_natCast c
      have ix : ((h : Int) * 5 + c).toNat = h * 5 + c := by omega
      have e1 : D (o + 1) ((h : Int) * 5 + c).toNat = fO D o h c := by rw [ix]
      have e10 : D (o + 10) (c : Int).toNat = D (o + 10) c := by rw [ec]
      have b1 := hK.2.2.1 h c hh (by omega)
      have b2 := hw c (by omega)
      have l1 := lnL_le (ok := alO D o h) (v := fun c => fO D o h c + D (o + 10) c) (B := 500000000) c
      have l2 := lnL_ge (ok := alO D o h) (v := fun c => fO D o h c + D (o + 10) c) (B := 500000000) c (fun c' hc' => by
        have := hw c' (by omega)
        have := hK.2.2.1 h c' hh (by omega)
        simp only [fO]; omega) (by omega)
      have ih := ih (c + 1)
      simp only [lnL, lnS] at ih
      have hal : alO D o h c ↔ fO D o h c < 500000000 := Iff.rfl
      generalize lnL (alO D o h) (fun c => fO D o h c + D (o + 10) c) 500000000 c = l at *
      generalize lnS (alO D o h) (fun c => fO D o h c + D (o + 10) c) 500000000 c = s at *
      generalize hf : fO D o h c = f at *
      have hf2 : D (o + 1) (h * 5 + c) = f := hf
      generalize hw2 : D (o + 10) c = w at *
      rw [hf2] at b1
      clear hk
      refine T_iload dX3_lineOf_8 rfl ?_
      refine T_aload_n dX3_lineOf_10 rfl ?_
      refine T_getI dX3_lineOf_11 flX3_52 hS rfl ?_
      refine T_icmp_ge 89 dX3_lineOf_14 (by decide) (by first | (unfold InR; omega) | (simp [st2, InR]; omega)) (by first | (unfold InR; omega) | (simp [st2, InR]; omega)) (fun hc14 => (by exfalso; omega)) (fun hc14 => ?_)
      refine T_aload_n dX3_lineOf_17 rfl ?_
      refine T_getR dX3_lineOf_18 flX3_9 hS rfl ?_
      refine T_iload_n dX3_lineOf_21 rfl ?_
      refine T_iconst dX3_lineOf_22 ?_
      refine T_imul dX3_lineOf_23 ?_
      refine T_iload dX3_lineOf_24 rfl ?_
      refine T_iadd dX3_lineOf_26 ?_
      refine T_iald dX3_lineOf_27 hA0 (by first | decide | omega) (by first | omega | (simp [st2]; omega)) (by first | omega | (simp [st2]; omega)) ?_
      refine T_aload_n dX3_lineOf_28 rfl ?_
      refine T_getR dX3_lineOf_29 flX3_39 hS rfl ?_
      refine T_iload dX3_lineOf_32 rfl ?_
      refine T_iald dX3_lineOf_34 hA9 (by first | decide | omega) (by first | omega | (simp [st2]; omega)) (by first | omega | (simp [st2]; omega)) ?_
      refine T_iadd dX3_lineOf_35 ?_
      refine T_istore dX3_lineOf_36 (by decide) ?_
      refine T_aload_n dX3_lineOf_38 rfl ?_
      refine T_getR dX3_lineOf_39 flX3_9 hS rfl ?_
      refine T_iload_n dX3_lineOf_42 rfl ?_
      refine T_iconst dX3_lineOf_43 ?_
      refine T_imul dX3_lineOf_44 ?_
      refine T_iload dX3_lineOf_45 rfl ?_
      refine T_iadd dX3_lineOf_47 ?_
      refine T_iald dX3_lineOf_48 hA0 (by first | decide | omega) (by first | omega | (simp [st2]; omega)) (by first | omega | (simp [st2]; omega)) ?_
      refine T_ldc (n := 500000000) dX3_lineOf_49 tk_469 ?_
      refine T_icmp_ge 83 dX3_lineOf_51 (by decide) (by rw [e1]; unfold InR; omega) (by first | (unfold InR; omega) | (simp [st2, InR]; omega)) (fun hc51 => ?_) (fun hc51 => ?_)
      · rw [e1] at hc51
        rw [cif_neg (by omega), cif_neg (by omega), cif_neg (by omega)] at ih
        refine T_iinc dX3_lineOf_83 rfl (by decide) ?_
        refine T_goto (tgt := 8) dX3_lineOf_86 (by decide) ?_
        first
        | exact ih _ (by omega)
        | (rw [e1, e10]; exact ih _ (by omega))
      · rw [e1] at hc51
        refine T_iload dX3_lineOf_54 rfl ?_
        refine T_iload_n dX3_lineOf_56 rfl ?_
        refine T_icmp_gt 83 dX3_lineOf_57 (by decide) (by rw [e1, e10]; unfold InR; omega) (by unfold InR; omega) (fun hc57 => ?_) (fun hc57 => ?_)
        · rw [e1, e10] at hc57
          rw [cif_neg (by omega), cif_neg (by omega), cif_neg (by omega)] at ih
          refine T_iinc dX3_lineOf_83 rfl (by decide) ?_
          refine T_goto (tgt := 8) dX3_lineOf_86 (by decide) ?_
          first
          | exact ih _ (by omega)
          | (rw [e1, e10]; exact ih _ (by omega))
        · rw [e1, e10] at hc57
          refine T_iload dX3_lineOf_60 rfl ?_
          refine T_iload_n dX3_lineOf_62 rfl ?_
          refine T_icmp_ge 73 dX3_lineOf_63 (by decide) (by rw [e1, e10]; unfold InR; omega) (by unfold InR; omega) (fun hc63 => ?_) (fun hc63 => ?_)
          · rw [e1, e10] at hc63
            rw [cif_neg (by omega), cif_neg (by omega), cif_pos (by omega)] at ih
            obtain rfl : l = f + w := by omega
            refine T_iload_n dX3_lineOf_73 rfl ?_
            refine T_iconst dX3_lineOf_74 ?_
            refine T_iload dX3_lineOf_75 rfl ?_
            refine T_ishl dX3_lineOf_77 ?_
            refine T_ior dX3_lineOf_78 ?_
            refine T_istore_n dX3_lineOf_79 (by decide) ?_
            refine T_iload dX3_lineOf_80 rfl ?_
            refine T_istore_n dX3_lineOf_82 (by decide) ?_
            refine T_iinc dX3_lineOf_83 rfl (by decide) ?_
            refine T_goto (tgt := 8) dX3_lineOf_86 (by decide) ?_
            first
            | exact ih _ (by omega)
            | (rw [e1, e10]; exact ih _ (by omega))
          · rw [e1, e10] at hc63
            rw [cif_pos (by omega), cif_pos (by omega)] at ih
            refine T_iconst dX3_lineOf_66 ?_
            refine T_iload dX3_lineOf_67 rfl ?_
            refine T_ishl dX3_lineOf_69 ?_
            refine T_goto (tgt := 79) dX3_lineOf_70 (by decide) ?_
            refine T_istore_n dX3_lineOf_79 (by decide) ?_
            refine T_iload dX3_lineOf_80 rfl ?_
            refine T_istore_n dX3_lineOf_82 (by decide) ?_
            refine T_iinc dX3_lineOf_83 rfl (by decide) ?_
            refine T_goto (tgt := 8) dX3_lineOf_86 (by decide) ?_
            first
            | exact ih _ (by omega)
            | (rw [e1, e10]; exact ih _ (by omega))
  refine T_ldc (n := 500000000) dX3_lineOf_0 tk_469 ?_
  refine T_istore_n dX3_lineOf_2 (by decide) ?_
  refine T_iconst dX3_lineOf_3 ?_
  refine T_istore_n dX3_lineOf_4 (by decide) ?_
  refine T_iconst dX3_lineOf_5 ?_
  refine T_istore dX3_lineOf_6 (by decide) ?_
  exact loop (D o 11).toNat 0 none (by omega)
/-- what is farther than the limit is forbidden -/
def limF (l f : Int) : Int := if l < f then 500000000 else f
theorem c_forbidBeyond {o : Nat} {l : Int} (hs : SnAt o) (hK : SnK D o) (hl : InR l) (hk : ∀ D' : DD, (∀ r, r ≠ o + 1 → D' r = D r) → (∀ h c, h < (D o 10).toNat → c < (D o 11).toNat → fO D' o h c = limF l (fO D o h c)) → P none SH D') : TM g mX3_forbidBeyond d P [.ref o, iI l] D := by
  obtain ⟨hS, hA0, hA1, hA2, hA3, hA4, hA5, hA6, hA7, hA8, hA9, ho16⟩ := hs
  have hN := hK.1
  have hM := hK.2.1
  have inner : ∀ (h : Nat), h < (D o 10).toNat → (∀ (D1 : DD) (m3 : Option Value), (∀ r, r ≠ o + 1 → D1 r = D r) → (∀ h' c', h' < h + 1 → c' < (D o 11).toNat → fO D1 o h' c' = limF l (fO D o h' c')) → (∀ j, (h + 1) * 5 ≤ j → D1 (o + 1) j = D (o + 1) j) → T g mX3_forbidBeyond (rmd d 0 0) 0 0 (Qm g (rmd d 0 0) P) 2 [some (.ref o), some (iI l), some (iI ((h + 1 : Nat) : Int)), m3] [] SH D1) → ∀ (q c : Nat) (D1 : DD), q + c = (D o 11).toNat → (∀ r, r ≠ o + 1 → D1 r = D r) → (∀ h' c', h' < h → c' < (D o 11).toNat → fO D1 o h' c' = limF l (fO D o h' c')) → (∀ c', c' < c → fO D1 o h c' = limF l (fO D o h c')) → (∀ j, h * 5 + c ≤ j → D1 (o + 1) j = D (o + 1) j) → T g mX3_forbidBeyond (rmd d 0 0) 0 0 (Qm g (rmd d 0 0) P) 12 [some (.ref o), some (iI l), some (iI h), some (iI c)] [] SH D1 := by
    intro h hh K q
    induction q with
    | zero =>
      intro c D1 hq r1 r2 r3 r4
      have z2 : D1 o 11 = D o 11 := by rw [r1 o (by omega)]
      refine T_iload_n dX3_forbidBeyond_12 rfl ?_
      refine T_aload_n dX3_forbidBeyond_13 rfl ?_
      refine T_getI dX3_forbidBeyond_14 flX3_52 hS rfl ?_
      refine T_icmp_ge 52 dX3_forbidBeyond_17 (by decide) (by first | (unfold InR; omega) | (simp [st2, InR]; omega)) (by first | (unfold InR; omega) | (simp [st2, InR]; omega)) (fun hc17 => ?_) (fun hc17 => (by exfalso; omega))
      refine T_iinc dX3_forbidBeyond_52 rfl (by decide) ?_
      refine T_goto (tgt := 2) dX3_forbidBeyond_55 (by decide) ?_
      refine K D1 _ r1 (fun h' c' hh' hc' => ?_) (fun j hj => r4 j (by omega))
      by_cases e : h' = h
      · subst e; exact r3 c' (by omega)
      · exact r2 h' c' (by omega) hc'
    | succ q ih =>
      intro c D1 hq r1 r2 r3 r4
      have z2 : D1 o 11 = D o 11 := by rw [r1 o (by omega)]
      have ix : ((h : Int) * 5 + c).toNat = h * 5 + c := by omega
      have e1 : D1 (o + 1) ((h : Int) * 5 + c).toNat = D (o + 1) (h * 5 + c) := by rw [ix]; exact r4 _ (by omega)
      have b1 := hK.2.2.1 h c hh (by omega)
      unfold InR at hl
      refine T_iload_n dX3_forbidBeyond_12 rfl ?_
      refine T_aload_n dX3_forbidBeyond_13 rfl ?_
      refine T_getI dX3_forbidBeyond_14 flX3_52 hS rfl ?_
      refine T_icmp_ge 52 dX3_forbidBeyond_17 (by decide) (by first | (unfold InR; omega) | (simp [st2, InR]; omega)) (by first | (unfold InR; omega) | (simp [st2, InR]; omega)) (fun hc17 => (by exfalso; omega)) (fun hc17 => ?_)
      refine T_aload_n dX3_forbidBeyond_20 rfl ?_
      refine T_getR dX3_forbidBeyond_21 flX3_9 hS rfl ?_
      refine T_iload_n dX3_forbidBeyond_24 rfl ?_
      refine T_iconst dX3_forbidBeyond_25 ?_
      refine T_imul dX3_forbidBeyond_26 ?_
      refine T_iload_n dX3_forbidBeyond_27 rfl ?_
      refine T_iadd dX3_forbidBeyond_28 ?_
      refine T_iald dX3_forbidBeyond_29 hA0 (by first | decide | omega) (by first | omega | (simp [st2]; omega)) (by first | omega | (simp [st2]; omega)) ?_
      refine T_iload_n dX3_forbidBeyond_30 rfl ?_
      refine T_icmp_le 46 dX3_forbidBeyond_31 (by decide) (by rw [e1]; unfold InR; omega) (by unfold InR; omega) (fun hc31 => ?_) (fun hc31 => ?_)
      · rw [e1] at hc31
        refine T_iinc dX3_forbidBeyond_46 rfl (by decide) ?_
        refine T_goto (tgt := 12) dX3_forbidBeyond_49 (by decide) ?_
        first
        | exact ih (c + 1) D1 (by omega) r1 r2 (fun c' hc' => by
            by_cases e : c' = c
            · subst e; unfold limF; rw [if_neg (by simp only [fO]; omega)]; exact r4 _ (by omega)
            · exact r3 c' (by omega)) (fun j hj => r4 j (by omega))
        | exact ih (c + 1) _ (by omega) (fun r e => by rw [st2_row e]; exact r1 r e) (fun h' c' hh' hc' => by
            rw [ix]; unfold fO; rw [st2_ne (by omega)]; exact r2 h' c' hh' hc') (fun c' hc' => by
            rw [ix]; unfold fO
            by_cases e : c' = c
            · subst e; rw [st2_at]; unfold limF; rw [if_pos (by omega)]
            · rw [st2_ne (by omega)]; exact r3 c' (by omega)) (fun j hj => by rw [ix, st2_ne (by omega)]; exact r4 j (by omega))
      · rw [e1] at hc31
        refine T_aload_n dX3_forbidBeyond_34 rfl ?_
        refine T_getR dX3_forbidBeyond_35 flX3_9 hS rfl ?_
        refine T_iload_n dX3_forbidBeyond_38 rfl ?_
        refine T_iconst dX3_forbidBeyond_39 ?_
        refine T_imul dX3_forbidBeyond_40 ?_
        refine T_iload_n dX3_forbidBeyond_41 rfl ?_
        refine T_iadd dX3_forbidBeyond_42 ?_
        refine T_ldc (n := 500000000) dX3_forbidBeyond_43 tk_469 ?_
        refine T_iast dX3_forbidBeyond_45 hA0 (by first | decide | omega) (by first | omega | (simp [st2]; omega)) (by first | omega | (simp [st2]; omega)) ?_
        refine T_iinc dX3_forbidBeyond_46 rfl (by decide) ?_
        refine T_goto (tgt := 12) dX3_forbidBeyond_49 (by decide) ?_
        first
        | exact ih (c + 1) D1 (by omega) r1 r2 (fun c' hc' => by
            by_cases e : c' = c
            · subst e; unfold limF; rw [if_neg (by simp only [fO]; omega)]; exact r4 _ (by omega)
            · exact r3 c' (by omega)) (fun j hj => r4 j (by omega))
        | exact ih (c + 1) _ (by omega) (fun r e => by rw [st2_row e]; exact r1 r e) (fun h' c' hh' hc' => by
            rw [ix]; unfold fO; rw [st2_ne (by omega)]; exact r2 h' c' hh' hc') (fun c' hc' => by
            rw [ix]; unfold fO
            by_cases e : c' = c
            · subst e; rw [st2_at]; unfold limF; rw [if_pos (by omega)]
            · rw [st2_ne (by omega)]; exact r3 c' (by omega)) (fun j hj => by rw [ix, st2_ne (by omega)]; exact r4 j (by omega))
  have outer : ∀ (q h : Nat) (D1 : DD) (m3 : Option Value), q + h = (D o 10).toNat → (∀ r, r ≠ o + 1 → D1 r = D r) → (∀ h' c', h' < h → c' < (D o 11).toNat → fO D1 o h' c' = limF l (fO D o h' c')) → (∀ j, h * 5 ≤ j → D1 (o + 1) j = D (o + 1) j) → T g mX3_forbidBeyond (rmd d 0 0) 0 0 (Qm g (rmd d 0 0) P) 2 [some (.ref o), some (iI l), some (iI h), m3] [] SH D1 := by
    intro q
    induction q with
    | zero =>
      intro h D1 m3 hq r1 r2 r3
      have z2 : D1 o 10 = D o 10 := by rw [r1 o (by omega)]
      refine T_iload_n dX3_forbidBeyond_2 rfl ?_
      refine T_aload_n dX3_forbidBeyond_3 rfl ?_
      refine T_getI dX3_forbidBeyond_4 flX3_48 hS rfl ?_
      refine T_icmp_ge 58 dX3_forbidBeyond_7 (by decide) (by first | (unfold InR; omega) | (simp [st2, InR]; omega)) (by first | (unfold InR; omega) | (simp [st2, InR]; omega)) (fun hc7 => ?_) (fun hc7 => (by exfalso; omega))
      refine T_vret dX3_forbidBeyond_58 rfl ?_
      exact hk D1 r1 (fun h' c' hh' hc' => r2 h' c' (by omega) hc')
    | succ q ih =>
      intro h D1 m3 hq r1 r2 r3
      have z2 : D1 o 10 = D o 10 := by rw [r1 o (by omega)]
      refine T_iload_n dX3_forbidBeyond_2 rfl ?_
      refine T_aload_n dX3_forbidBeyond_3 rfl ?_
      refine T_getI dX3_forbidBeyond_4 flX3_48 hS rfl ?_
      refine T_icmp_ge 58 dX3_forbidBeyond_7 (by decide) (by first | (unfold InR; omega) | (simp [st2, InR]; omega)) (by first | (unfold InR; omega) | (simp [st2, InR]; omega)) (fun hc7 => (by exfalso; omega)) (fun hc7 => ?_)
      refine T_iconst dX3_forbidBeyond_10 ?_
      refine T_istore_n dX3_forbidBeyond_11 (by decide) ?_
      exact inner h (by omega) (fun D2 m3 s1 s2 s3 => ih (h + 1) D2 m3 (by omega) s1 s2 s3) (D o 11).toNat 0 D1 (by omega) r1 r2 (fun c' hc' => by omega) (fun j hj => r3 j (by omega))
  refine T_iconst dX3_forbidBeyond_0 ?_
  refine T_istore_n dX3_forbidBeyond_1 (by decide) ?_
  exact outer (D o 10).toNat 0 D none (by omega) (fun r _ => rfl) (fun h' c' hh' => by omega) (fun j _ => rfl)
end

