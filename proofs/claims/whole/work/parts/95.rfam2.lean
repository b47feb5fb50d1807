section
variable {g : G0} {d : Nat} {P : Option Value → List SC → DD → Prop} {D : DD}
theorem r_family {h : Int} (hL : MK D) (hh : InR h) (kU : ¬ (h = -1 ∨ (0 ≤ h ∧ h < D 57 1)) → P (some (iI (-1))) SH D) (kS : (h = -1 ∨ (0 ≤ h ∧ h < D 57 1)) → 7 < D 57 1 → P (some (iI (-3))) SH D) (kk : (h = -1 ∨ (0 ≤ h ∧ h < D 57 1)) → D 57 1 ≤ 7 → ∀ (D' : DD) (r v : Int), (∀ r, r ≠ 68 → D' r = D r) → ArgM ((D 57 5).toNat ^ (D 57 1).toNat) (okRM D) (csRM D) r → FamV (D 57 5).toNat (D 57 1).toNat (D 60) (farM D) r h v → P (some (iI v)) SH D') : TM g mX7_family (d + 3) P [.ref 57, iI h] D := by
  have hN := hL.1
  have hM := hL.2.1
  have W5 : (D 57 5).toNat ^ (D 57 1).toNat ≤ 100000 ∨ 7 < D 57 1 := by
    by_cases z : 7 < D 57 1
    · exact Or.inr z
    · refine Or.inl (Nat.le_trans (Nat.pow_le_pow_left (show (D 57 5).toNat ≤ 5 by omega) _) (Nat.le_trans (Nat.pow_le_pow_right (by decide) (show (D 57 1).toNat ≤ 7 by omega)) (by decide)))
  have hpos : 0 < (D 57 5).toNat ^ (D 57 1).toNat → 0 < D 57 5 ∨ D 57 1 = 0 := fun z => by
    by_cases e : D 57 1 = 0
    · exact Or.inr e
    · refine Or.inl (Classical.byContradiction fun y => ?_)
      rw [show (D 57 5).toNat = 0 by omega, Nat.zero_pow (by omega)] at z
      omega
  have csb : D 57 1 ≤ 7 → ∀ row, 0 ≤ csRM D row ∧ csRM D row ≤ 252000 := fun h7 row => by
    have := csG_bd (hd := D 60) (ct := farM D) hL.2.2.2.2.2.1 (fun h c => farM_bd hL h c) (D 57 1).toNat (dg (D 57 5).toNat (D 57 1).toNat row)
    unfold csRM csRow
    have : ((D 57 1).toNat : Int) * 36000 ≤ 252000 := by omega
    omega
  have main : (h = -1 ∨ (0 ≤ h ∧ h < D 57 1)) → D 57 1 ≤ 7 → ∀ (W : Nat), W = (D 57 5).toNat ^ (D 57 1).toNat → ∀ (q row : Nat) (r l : Int) (D1 : DD) (m6 : Option Value), q + row = W → (∀ r, r ≠ 68 → D1 r = D r) → ArgM row (okRM D) (csRM D) r → LsI (csRM D) 0 r l → (0 ≤ l ∧ l ≤ 252000) → T g mX7_family (rmd (d + 3) 0 0) 0 0 (Qm g (rmd (d + 3) 0 0) P) 66 [some (.ref 57), some (iI h), some (iI W), some (iI r), some (iI l), some (iI row), m6] [] SH D1 := by
    intro hv h7 W hW q
    have W5' : W ≤ 100000 := by omega
    rw [← hW] at hpos
    induction q with
    | zero =>
      intro row r l D1 m6 hq r1 hA hl hb
      obtain rfl : row = W := by omega
      have rg := hA.rg
      have kk2 := fun v => kk hv h7 D1 r v r1 (by rw [← hW]; exact hA)
      have rc := fun (P' : Option Value → List SC → DD → Prop) (i j : Nat) (hi : i < row) (hj : j < (D 57 1).toNat) => r_churchIn (g := g) (d := d + 2) (P := P') (D := D1) (C := (D 57 5).toNat) (H := (D 57 1).toNat) (row := i) (h := j) (by rw [r1 57 (by decide)]; omega) (by rw [r1 57 (by decide)]; omega) (by have := hpos (by omega); omega) (by omega) (by omega) (by omega) hj
      have hl2 : 0 ≤ r → l = csRM D r.toNat := fun z => by
        rcases hl with y | y
        · omega
        · exact y.2
      refine T_iload dX7_family_66 rfl ?_
      refine T_iload_n dX7_family_68 rfl ?_
      refine T_icmp_ge 109 dX7_family_69 (by decide) (by first | (unfold InR; omega) | (simp [st2, InR]; omega)) (by first | (unfold InR; omega) | (simp [st2, InR]; omega)) (fun hc69 => ?_) (fun hc69 => (by exfalso; omega))
      refine T_iload_n dX7_family_109 rfl ?_
      refine T_if_ge 118 dX7_family_110 (by decide) (by unfold InR; omega) (fun hc110 => ?_) (fun hc110 => ?_)
      · refine T_iload_n dX7_family_118 rfl ?_
        refine T_if_ge 127 dX7_family_119 (by decide) hh (fun hc119 => ?_) (fun hc119 => ?_)
        · refine T_aload_n dX7_family_127 rfl ?_
          refine T_iload_n dX7_family_128 rfl ?_
          refine T_iload_n dX7_family_129 rfl ?_
          obtain ⟨i, rfl⟩ : ∃ k : Nat, r = k := ⟨r.toNat, by omega⟩
          obtain ⟨j, rfl⟩ : ∃ k : Nat, h = k := ⟨h.toNat, by omega⟩
          refine T_cV_2 dX7_family_130 lkX7_227 rfl (Nat.le_of_ble_eq_true rfl) (RO_r (by decide)) (Nat.le_of_ble_eq_true rfl) ?_
          refine rc _ i j (by omega) (by omega) ?_
          refine T_iret dX7_family_133 rfl ?_
          first
          | exact kk2 _ ⟨fun _ => rfl, fun z => by omega⟩
          | exact kk2 _ ⟨fun z => by omega, fun z => ⟨fun _ => hl2 z, fun z2 => by omega⟩⟩
          | exact kk2 _ ⟨fun z => by omega, fun z => ⟨fun z2 => by omega, fun z2 => by rw [Int.toNat_natCast, Int.toNat_natCast]⟩⟩
        · refine T_iload dX7_family_122 rfl ?_
          refine T_goto (tgt := 133) dX7_family_124 (by decide) ?_
          refine T_iret dX7_family_133 rfl ?_
          first
          | exact kk2 _ ⟨fun _ => rfl, fun z => by omega⟩
          | exact kk2 _ ⟨fun z => by omega, fun z => ⟨fun _ => hl2 z, fun z2 => by omega⟩⟩
          | exact kk2 _ ⟨fun z => by omega, fun z => ⟨fun z2 => by omega, fun z2 => by rw [Int.toNat_natCast, Int.toNat_natCast]⟩⟩
      · refine T_bipush dX7_family_113 (by decide) ?_
        refine T_goto (tgt := 133) dX7_family_115 (by decide) ?_
        refine T_iret dX7_family_133 rfl ?_
        first
        | exact kk2 _ ⟨fun _ => rfl, fun z => by omega⟩
        | exact kk2 _ ⟨fun z => by omega, fun z => ⟨fun _ => hl2 z, fun z2 => by omega⟩⟩
        | exact kk2 _ ⟨fun z => by omega, fun z => ⟨fun z2 => by omega, fun z2 => by rw [Int.toNat_natCast, Int.toNat_natCast]⟩⟩
    | succ q ih =>
      intro row r l D1 m6 hq r1 hA hl hb
      have rg := hA.rg
      have ml : ∀ a, 57 ≤ a → a ≤ 65 → D1 a = D a := fun a h1 h2 => r1 a (by omega)
      have hL1 : MK D1 := MK_fr ml hL
      have z57 : D1 57 = D 57 := ml 57 (by decide) (by decide)
      obtain ⟨-, -, ea, ef⟩ := mlM_of ml
      have eok : okRM D1 = okRM D := by unfold okRM; rw [ea, z57, ml 60 (by decide) (by decide), ml 64 (by decide) (by decide)]
      have ecs : csRM D1 = csRM D := by unfold csRM; rw [ef, z57, ml 60 (by decide) (by decide)]
      have cb := csb h7 row
      refine T_iload dX7_family_66 rfl ?_
      refine T_iload_n dX7_family_68 rfl ?_
      refine T_icmp_ge 109 dX7_family_69 (by decide) (by first | (unfold InR; omega) | (simp [st2, InR]; omega)) (by first | (unfold InR; omega) | (simp [st2, InR]; omega)) (fun hc69 => (by exfalso; omega)) (fun hc69 => ?_)
      refine T_aload_n dX7_family_72 rfl ?_
      refine T_iload dX7_family_73 rfl ?_
      refine T_cV_1 dX7_family_75 lkX7_232 rfl (Nat.le_of_ble_eq_true rfl) (RO_r (by decide)) (Nat.le_of_ble_eq_true rfl) ?_
      refine r_rowMiles hL1 (by rw [z57]; exact h7) (by omega) (by rw [z57]; exact hpos (by omega)) (fun D2 f2 ok => ?_) (fun D2 f2 ok => ?_)
      rw [ecs]
      rw [eok] at ok
      · refine T_istore dX7_family_78 (by decide) ?_
        refine T_iload dX7_family_80 rfl ?_
        refine T_if_lt 103 dX7_family_82 (by decide) (by unfold InR; omega) (fun hc82 => ?_) (fun hc82 => ?_)
        · refine T_iinc dX7_family_103 rfl (by decide) ?_
          refine T_goto (tgt := 66) dX7_family_106 (by decide) ?_
          first
          | (exfalso; omega)
          | exact ih (row + 1) r l D2 _ (by omega) (fun r e => (f2 r e).trans (r1 r e)) (hA.geN hl (fun z => absurd z (by rw [← eok]; exact ok))) hl hb
          | exact ih (row + 1) r l D2 _ (by omega) (fun r e => (f2 r e).trans (r1 r e)) (hA.geN hl (fun _ => ⟨by omega, by omega⟩)) hl hb
          | (have z := hA.ltN hl ok (by omega)
             exact ih (row + 1) _ _ D2 _ (by omega) (fun r e => (f2 r e).trans (r1 r e)) z.1 z.2 cb)
        · refine T_iload_n dX7_family_85 rfl ?_
          refine T_if_lt 96 dX7_family_86 (by decide) (by unfold InR; omega) (fun hc86 => ?_) (fun hc86 => ?_)
          · refine T_iload dX7_family_96 rfl ?_
            refine T_istore_n dX7_family_98 (by decide) ?_
            refine T_iload dX7_family_99 rfl ?_
            refine T_istore dX7_family_101 (by decide) ?_
            refine T_iinc dX7_family_103 rfl (by decide) ?_
            refine T_goto (tgt := 66) dX7_family_106 (by decide) ?_
            first
            | (exfalso; omega)
            | exact ih (row + 1) r l D2 _ (by omega) (fun r e => (f2 r e).trans (r1 r e)) (hA.geN hl (fun z => absurd z (by rw [← eok]; exact ok))) hl hb
            | exact ih (row + 1) r l D2 _ (by omega) (fun r e => (f2 r e).trans (r1 r e)) (hA.geN hl (fun _ => ⟨by omega, by omega⟩)) hl hb
            | (have z := hA.ltN hl ok (by omega)
               exact ih (row + 1) _ _ D2 _ (by omega) (fun r e => (f2 r e).trans (r1 r e)) z.1 z.2 cb)
          · refine T_iload dX7_family_89 rfl ?_
            refine T_iload dX7_family_91 rfl ?_
            refine T_icmp_ge 103 dX7_family_93 (by decide) (by unfold InR; omega) (by unfold InR; omega) (fun hc93 => ?_) (fun hc93 => ?_)
            · refine T_iinc dX7_family_103 rfl (by decide) ?_
              refine T_goto (tgt := 66) dX7_family_106 (by decide) ?_
              first
              | (exfalso; omega)
              | exact ih (row + 1) r l D2 _ (by omega) (fun r e => (f2 r e).trans (r1 r e)) (hA.geN hl (fun z => absurd z (by rw [← eok]; exact ok))) hl hb
              | exact ih (row + 1) r l D2 _ (by omega) (fun r e => (f2 r e).trans (r1 r e)) (hA.geN hl (fun _ => ⟨by omega, by omega⟩)) hl hb
              | (have z := hA.ltN hl ok (by omega)
                 exact ih (row + 1) _ _ D2 _ (by omega) (fun r e => (f2 r e).trans (r1 r e)) z.1 z.2 cb)
            · refine T_iload dX7_family_96 rfl ?_
              refine T_istore_n dX7_family_98 (by decide) ?_
              refine T_iload dX7_family_99 rfl ?_
              refine T_istore dX7_family_101 (by decide) ?_
              refine T_iinc dX7_family_103 rfl (by decide) ?_
              refine T_goto (tgt := 66) dX7_family_106 (by decide) ?_
              first
              | (exfalso; omega)
              | exact ih (row + 1) r l D2 _ (by omega) (fun r e => (f2 r e).trans (r1 r e)) (hA.geN hl (fun z => absurd z (by rw [← eok]; exact ok))) hl hb
              | exact ih (row + 1) r l D2 _ (by omega) (fun r e => (f2 r e).trans (r1 r e)) (hA.geN hl (fun _ => ⟨by omega, by omega⟩)) hl hb
              | (have z := hA.ltN hl ok (by omega)
                 exact ih (row + 1) _ _ D2 _ (by omega) (fun r e => (f2 r e).trans (r1 r e)) z.1 z.2 cb)
      · refine T_istore dX7_family_78 (by decide) ?_
        refine T_iload dX7_family_80 rfl ?_
        refine T_if_lt 103 dX7_family_82 (by decide) (by unfold InR; omega) (fun hc82 => ?_) (fun hc82 => ?_)
        · refine T_iinc dX7_family_103 rfl (by decide) ?_
          refine T_goto (tgt := 66) dX7_family_106 (by decide) ?_
          first
          | (exfalso; omega)
          | exact ih (row + 1) r l D2 _ (by omega) (fun r e => (f2 r e).trans (r1 r e)) (hA.geN hl (fun z => absurd z (by rw [← eok]; exact ok))) hl hb
          | exact ih (row + 1) r l D2 _ (by omega) (fun r e => (f2 r e).trans (r1 r e)) (hA.geN hl (fun _ => ⟨by omega, by omega⟩)) hl hb
          | (have z := hA.ltN hl ok (by omega)
             exact ih (row + 1) _ _ D2 _ (by omega) (fun r e => (f2 r e).trans (r1 r e)) z.1 z.2 cb)
        · refine T_iload_n dX7_family_85 rfl ?_
          refine T_if_lt 96 dX7_family_86 (by decide) (by unfold InR; omega) (fun hc86 => ?_) (fun hc86 => ?_)
          · refine T_iload dX7_family_96 rfl ?_
            refine T_istore_n dX7_family_98 (by decide) ?_
            refine T_iload dX7_family_99 rfl ?_
            refine T_istore dX7_family_101 (by decide) ?_
            refine T_iinc dX7_family_103 rfl (by decide) ?_
            refine T_goto (tgt := 66) dX7_family_106 (by decide) ?_
            first
            | (exfalso; omega)
            | exact ih (row + 1) r l D2 _ (by omega) (fun r e => (f2 r e).trans (r1 r e)) (hA.geN hl (fun z => absurd z (by rw [← eok]; exact ok))) hl hb
            | exact ih (row + 1) r l D2 _ (by omega) (fun r e => (f2 r e).trans (r1 r e)) (hA.geN hl (fun _ => ⟨by omega, by omega⟩)) hl hb
            | (have z := hA.ltN hl ok (by omega)
               exact ih (row + 1) _ _ D2 _ (by omega) (fun r e => (f2 r e).trans (r1 r e)) z.1 z.2 cb)
          · refine T_iload dX7_family_89 rfl ?_
            refine T_iload dX7_family_91 rfl ?_
            refine T_icmp_ge 103 dX7_family_93 (by decide) (by unfold InR; omega) (by unfold InR; omega) (fun hc93 => ?_) (fun hc93 => ?_)
            · refine T_iinc dX7_family_103 rfl (by decide) ?_
              refine T_goto (tgt := 66) dX7_family_106 (by decide) ?_
              first
              | (exfalso; omega)
              | exact ih (row + 1) r l D2 _ (by omega) (fun r e => (f2 r e).trans (r1 r e)) (hA.geN hl (fun z => absurd z (by rw [← eok]; exact ok))) hl hb
              | exact ih (row + 1) r l D2 _ (by omega) (fun r e => (f2 r e).trans (r1 r e)) (hA.geN hl (fun _ => ⟨by omega, by omega⟩)) hl hb
              | (have z := hA.ltN hl ok (by omega)
                 exact ih (row + 1) _ _ D2 _ (by omega) (fun r e => (f2 r e).trans (r1 r e)) z.1 z.2 cb)
            · refine T_iload dX7_family_96 rfl ?_
              refine T_istore_n dX7_family_98 (by decide) ?_
              refine T_iload dX7_family_99 rfl ?_
              refine T_istore dX7_family_101 (by decide) ?_
              refine T_iinc dX7_family_103 rfl (by decide) ?_
              refine T_goto (tgt := 66) dX7_family_106 (by decide) ?_
              first
              | (exfalso; omega)
              | exact ih (row + 1) r l D2 _ (by omega) (fun r e => (f2 r e).trans (r1 r e)) (hA.geN hl (fun z => absurd z (by rw [← eok]; exact ok))) hl hb
              | exact ih (row + 1) r l D2 _ (by omega) (fun r e => (f2 r e).trans (r1 r e)) (hA.geN hl (fun _ => ⟨by omega, by omega⟩)) hl hb
              | (have z := hA.ltN hl ok (by omega)
                 exact ih (row + 1) _ _ D2 _ (by omega) (fun r e => (f2 r e).trans (r1 r e)) z.1 z.2 cb)
  have pows : (h = -1 ∨ (0 ≤ h ∧ h < D 57 1)) → D 57 1 ≤ 7 → ∀ (q k : Nat), q + k = (D 57 1).toNat → T g mX7_family (rmd (d + 3) 0 0) 0 0 (Qm g (rmd (d + 3) 0 0) P) 36 [some (.ref 57), some (iI h), some (iI (((D 57 5).toNat ^ k : Nat) : Int)), some (iI k), none, none, none] [] SH D := by
    intro hv h7 q
    induction q with
    | zero =>
      intro k hq
      obtain rfl : k = (D 57 1).toNat := by omega
      refine T_iload_n dX7_family_36 rfl ?_
      refine T_aload_n dX7_family_37 rfl ?_
      refine T_getI dX7_family_38 flX7_112 rfl rfl ?_
      refine T_icmp_ge 57 dX7_family_41 (by decide) (by first | (unfold InR; omega) | (simp [st2, InR]; omega)) (by first | (unfold InR; omega) | (simp [st2, InR]; omega)) (fun hc41 => ?_) (fun hc41 => (by exfalso; omega))
      refine T_bipush dX7_family_57 (by decide) ?_
      refine T_istore_n dX7_family_59 (by decide) ?_
      refine T_iconst dX7_family_60 ?_
      refine T_istore dX7_family_61 (by decide) ?_
      refine T_iconst dX7_family_63 ?_
      refine T_istore dX7_family_64 (by decide) ?_
      exact main hv h7 _ rfl _ 0 (-9) 0 D none (Nat.add_zero _) (fun r _ => rfl) ArgM.zero (Or.inl ⟨rfl, rfl⟩) (by omega)
    | succ q ih =>
      intro k hq
      have e : ((((D 57 5).toNat ^ (k + 1) : Nat)) : Int) = ((D 57 5).toNat ^ k : Nat) * D 57 5 := by rw [Nat.pow_succ, Int.natCast_mul, show (((D 57 5).toNat : Nat) : Int) = D 57 5 by omega]
      refine T_iload_n dX7_family_36 rfl ?_
      refine T_aload_n dX7_family_37 rfl ?_
      refine T_getI dX7_family_38 flX7_112 rfl rfl ?_
      refine T_icmp_ge 57 dX7_family_41 (by decide) (by first | (unfold InR; omega) | (simp [st2, InR]; omega)) (by first | (unfold InR; omega) | (simp [st2, InR]; omega)) (fun hc41 => (by exfalso; omega)) (fun hc41 => ?_)
      refine T_iload_n dX7_family_44 rfl ?_
      refine T_aload_n dX7_family_45 rfl ?_
      refine T_getI dX7_family_46 flX7_115 rfl rfl ?_
      refine T_imul dX7_family_49 ?_
      refine T_istore_n dX7_family_50 (by decide) ?_
      refine T_iinc dX7_family_51 rfl (by decide) ?_
      refine T_goto (tgt := 36) dX7_family_54 (by decide) ?_
      rw [← e]
      exact ih (k + 1) (by omega)
  refine T_iload_n dX7_family_0 rfl ?_
  refine T_i2l dX7_family_1 hh ?_
  refine T_ldc2 (n := -1) dX7_family_2 (by rw [show Int64.ofInt (-1) = (-1 : Int64) by decide]; exact tk_1053) ?_
  refine T_aload_n dX7_family_5 rfl ?_
  refine T_getI dX7_family_6 flX7_112 rfl rfl ?_
  refine T_i2l dX7_family_9 (by unfold InR; omega) ?_
  refine T_lconst (a := 1) dX7_family_10 (by decide) ?_
  refine T_lsub dX7_family_11 ?_
  refine T_cS_3 dX7_family_12 lkX7_88 (Nat.le_of_ble_eq_true rfl) (RO_r (by decide)) (Nat.le_of_ble_eq_true rfl) ?_
  refine r_in (in64_of hh) (by unfold In64; omega) (by unfold In64; omega) (fun h1 h2 => ?_) (fun h1 => ?_)
  · refine T_if_ne 20 dX7_family_15 (by decide) (by unfold InR; decide) (fun _ => ?_) (fun h => absurd (by decide) h)
    refine T_aload_n dX7_family_20 rfl ?_
    refine T_getI dX7_family_21 flX7_112 rfl rfl ?_
    refine T_bipush dX7_family_24 (by decide) ?_
    refine T_icmp_le 32 dX7_family_26 (by decide) (by first | (unfold InR; omega) | (simp [st2, InR]; omega)) (by first | (unfold InR; omega) | (simp [st2, InR]; omega)) (fun hc26 => ?_) (fun hc26 => ?_)
    · refine T_iconst dX7_family_32 ?_
      refine T_istore_n dX7_family_33 (by decide) ?_
      refine T_iconst dX7_family_34 ?_
      refine T_istore_n dX7_family_35 (by decide) ?_
      exact pows (by omega) (by omega) (D 57 1).toNat 0 (by omega)
    · refine T_bipush dX7_family_29 (by decide) ?_
      refine T_iret dX7_family_31 rfl ?_
      first | exact kU (by omega) | exact kS (by omega) (by omega)
  · refine T_if_ne 20 dX7_family_15 (by decide) (by unfold InR; decide) (fun h => absurd h (by decide)) (fun _ => ?_)
    refine T_iconst dX7_family_18 ?_
    refine T_iret dX7_family_19 rfl ?_
    first | exact kU (by omega) | exact kS (by omega) (by omega)
end

