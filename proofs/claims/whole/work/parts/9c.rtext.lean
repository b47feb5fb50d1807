theorem nLen_n {co : Nat → Int} {n p : Nat} (he : ∀ p, n ≤ p → co p = -1) (h : dgt (co p)) : p + nLen co p ≤ n := by
  have z : ∀ q, dgt (co q) → q < n := fun q hq => Classical.byContradiction fun y => by have := he q (by omega); unfold dgt at hq; omega
  unfold nLen
  rw [if_pos h]
  have := z p h
  by_cases e : dgt (co (p + 1))
  · rw [if_pos e]; have := z (p + 1) e; omega
  · rw [if_neg e]; omega
theorem eT_n {co : Nat → Int} {n m : Nat} (he : ∀ p, n ≤ p → co p = -1) (h : fT co m = -1) : eT co m ≤ n := by
  obtain ⟨-, -, -, a⟩ := itF_ok h
  exact nLen_n he a.1
/-- the reference reads n codes of cell 79 from fr on -/
def RxK (D : DD) (fr n : Nat) (co : Nat → Int) : Prop := fr + n ≤ 320 ∧ n ≤ 80 ∧ (∀ p, p < n → D 79 (fr + p) = co p) ∧ (∀ p, n ≤ p → co p = -1) ∧ ∀ p, InR (co p)
def FrN (D D' : DD) (to : Nat) : Prop := (∀ r, r ≠ 57 → r ≠ 67 → D' r = D r) ∧ (∀ j, j ≠ 15 → D' 57 j = D 57 j) ∧ ∀ j, j ≠ to → D' 67 j = D 67 j
def FrG (D D' : DD) : Prop := (∀ r, r ≠ 57 → D' r = D r) ∧ ∀ j, j ≠ 15 → D' 57 j = D 57 j
theorem FrG.rf {D : DD} : FrG D D := ⟨fun _ _ => rfl, fun _ _ => rfl⟩
theorem FrG.at {D : DD} {v : Int} : FrG D (st2 D 57 15 v) := ⟨fun r e => st2_row e, fun j e => st2_ne e⟩
theorem FrG.tr {D D1 D2 : DD} (h1 : FrG D D1) (h2 : FrG D1 D2) : FrG D D2 := ⟨fun r e => (h2.1 r e).trans (h1.1 r e), fun j e => (h2.2 j e).trans (h1.2 j e)⟩
theorem RxK.of {D D1 : DD} {fr n : Nat} {co : Nat → Int} (h : RxK D fr n co) (e : D1 79 = D 79) : RxK D1 fr n co := by unfold RxK; rw [e]; exact h
section
variable {g : G0} {d : Nat} {P : Option Value → List SC → DD → Prop} {D : DD} {fr n p : Nat} {co : Nat → Int}
theorem r_readsNumber {to : Nat} {lo hi : Int} (hK : RxK D fr n co) (h15 : D 57 15 = p) (hp : p ≤ 900) (hto : to < 48) (hlo : 0 ≤ lo ∧ lo ≤ 100) (hhi : 0 ≤ hi ∧ hi ≤ 100) (k1 : nOk co p lo hi → ∀ D' : DD, FrN D D' to → D' 57 15 = ((p + nLen co p : Nat) : Int) → D' 67 to = nVal co p → P (some (iI 1)) SH D') (k0 : ¬ nOk co p lo hi → ∀ D' : DD, FrN D D' to → D' 57 15 = p → P (some (iI 0)) SH D') : TM g mX7_readsNumber (d + 1) P [.ref 57, iI to, iI fr, iI n, iI lo, iI hi] D := by
  obtain ⟨c1, c2, c3, c4, c5⟩ := hK
  have eto : (to : Int).toNat = to := Int.toNat_natCast to
  have tail : ∀ (D1 : DD) (v : Int) (q : Nat), FrG D D1 → D1 57 15 = q → v = nVal co p → q = p + nLen co p → (dgt (co p) ↔ p < q) → T g mX7_readsNumber (rmd (d + 1) 0 0) 0 0 (Qm g (rmd (d + 1) 0 0) P) 87 [some (.ref 57), some (iI to), some (iI fr), some (iI n), some (iI lo), some (iI hi), some (iI p), some (iI v)] [] SH D1 := by
    intro D1 v q f1 g15 hv hq hd
    have nb := nVal_bd co p
    have nl := nLen_le co p
    subst hv
    have e15 : ∀ w, st2 D1 67 to w 57 15 = q := fun w => by rw [st2_row (by decide)]; exact g15
    have e15b : ∀ w, st2 (st2 D1 57 15 p) 67 to w 57 15 = p := fun w => by rw [st2_row (by decide), st2_at]
    have fa : ∀ X : DD, FrG D X → ∀ w, FrN D (st2 X 67 to w) to := fun X hX w => ⟨fun r a b => by rw [st2_row b]; exact hX.1 r a, fun j a => by rw [st2_row (by decide)]; exact hX.2 j a, fun j a => by rw [st2_ne a, hX.1 67 (by decide)]⟩
    refine T_iload dX7_readsNumber_87 rfl ?_
    refine T_i2l dX7_readsNumber_89 (by unfold InR; omega) ?_
    refine T_iload dX7_readsNumber_90 rfl ?_
    refine T_i2l dX7_readsNumber_92 (by unfold InR; omega) ?_
    refine T_iload dX7_readsNumber_93 rfl ?_
    refine T_i2l dX7_readsNumber_95 (by unfold InR; omega) ?_
    refine T_cS_3 dX7_readsNumber_96 lkX7_88 (Nat.le_of_ble_eq_true rfl) (RO_r (by decide)) (Nat.le_of_ble_eq_true rfl) ?_
    refine r_in (by unfold In64; omega) (by unfold In64; omega) (by unfold In64; omega) (fun h1 h2 => ?_) (fun h1 => ?_)
    · refine T_if_ne 108 dX7_readsNumber_99 (by decide) (by unfold InR; decide) (fun _ => ?_) (fun h => absurd (by decide) h)
      refine T_aload_n dX7_readsNumber_108 rfl ?_
      refine T_getR dX7_readsNumber_109 flX7_38 rfl rfl ?_
      refine T_iload_n dX7_readsNumber_112 rfl ?_
      refine T_iload dX7_readsNumber_113 rfl ?_
      refine T_iast dX7_readsNumber_115 rfl (by first | decide | omega) (by first | omega | (simp [st2]; omega)) (by first | omega | (simp [st2]; omega)) ?_
      rw [eto]
      refine T_aload_n dX7_readsNumber_116 rfl ?_
      refine T_getI dX7_readsNumber_117 flX7_134 rfl rfl ?_
      refine T_iload dX7_readsNumber_120 rfl ?_
      first | rw [e15] | rw [e15b]
      refine T_icmp_le 129 dX7_readsNumber_122 (by decide) (by unfold InR; omega) (by unfold InR; omega) (fun hc122 => ?_) (fun hc122 => ?_)
      · refine T_iconst dX7_readsNumber_129 ?_
        refine T_zret dX7_readsNumber_130 rfl (by decide) ?_
        first
        | (exfalso; omega)
        | exact k0 (fun z => by have := hd.mp z.1; omega) _ (fa _ (f1.tr FrG.at) _) (e15b _)
        | exact k0 (fun z => by have := z.2; omega) _ (fa _ (f1.tr FrG.at) _) (e15b _)
        | exact k0 (fun z => by have := hd.mp z.1; omega) _ (fa _ f1 _) (by rw [e15]; omega)
        | exact k1 ⟨hd.mpr (by omega), h1, h2⟩ _ (fa _ f1 _) (by rw [e15, hq]) st2_at
      · refine T_iconst dX7_readsNumber_125 ?_
        refine T_goto (tgt := 130) dX7_readsNumber_126 (by decide) ?_
        refine T_zret dX7_readsNumber_130 rfl (by decide) ?_
        first
        | (exfalso; omega)
        | exact k0 (fun z => by have := hd.mp z.1; omega) _ (fa _ (f1.tr FrG.at) _) (e15b _)
        | exact k0 (fun z => by have := z.2; omega) _ (fa _ (f1.tr FrG.at) _) (e15b _)
        | exact k0 (fun z => by have := hd.mp z.1; omega) _ (fa _ f1 _) (by rw [e15]; omega)
        | exact k1 ⟨hd.mpr (by omega), h1, h2⟩ _ (fa _ f1 _) (by rw [e15, hq]) st2_at
    · refine T_if_ne 108 dX7_readsNumber_99 (by decide) (by unfold InR; decide) (fun h => absurd h (by decide)) (fun _ => ?_)
      refine T_aload_n dX7_readsNumber_102 rfl ?_
      refine T_iload dX7_readsNumber_103 rfl ?_
      refine T_putI dX7_readsNumber_105 flX7_134 rfl rfl ?_
      refine T_aload_n dX7_readsNumber_108 rfl ?_
      refine T_getR dX7_readsNumber_109 flX7_38 rfl rfl ?_
      refine T_iload_n dX7_readsNumber_112 rfl ?_
      refine T_iload dX7_readsNumber_113 rfl ?_
      refine T_iast dX7_readsNumber_115 rfl (by first | decide | omega) (by first | omega | (simp [st2]; omega)) (by first | omega | (simp [st2]; omega)) ?_
      rw [eto]
      refine T_aload_n dX7_readsNumber_116 rfl ?_
      refine T_getI dX7_readsNumber_117 flX7_134 rfl rfl ?_
      refine T_iload dX7_readsNumber_120 rfl ?_
      first | rw [e15] | rw [e15b]
      refine T_icmp_le 129 dX7_readsNumber_122 (by decide) (by unfold InR; omega) (by unfold InR; omega) (fun hc122 => ?_) (fun hc122 => ?_)
      · refine T_iconst dX7_readsNumber_129 ?_
        refine T_zret dX7_readsNumber_130 rfl (by decide) ?_
        first
        | (exfalso; omega)
        | exact k0 (fun z => by have := hd.mp z.1; omega) _ (fa _ (f1.tr FrG.at) _) (e15b _)
        | exact k0 (fun z => by have := z.2; omega) _ (fa _ (f1.tr FrG.at) _) (e15b _)
        | exact k0 (fun z => by have := hd.mp z.1; omega) _ (fa _ f1 _) (by rw [e15]; omega)
        | exact k1 ⟨hd.mpr (by omega), h1, h2⟩ _ (fa _ f1 _) (by rw [e15, hq]) st2_at
      · refine T_iconst dX7_readsNumber_125 ?_
        refine T_goto (tgt := 130) dX7_readsNumber_126 (by decide) ?_
        refine T_zret dX7_readsNumber_130 rfl (by decide) ?_
        first
        | (exfalso; omega)
        | exact k0 (fun z => by have := hd.mp z.1; omega) _ (fa _ (f1.tr FrG.at) _) (e15b _)
        | exact k0 (fun z => by have := z.2; omega) _ (fa _ (f1.tr FrG.at) _) (e15b _)
        | exact k0 (fun z => by have := hd.mp z.1; omega) _ (fa _ f1 _) (by rw [e15]; omega)
        | exact k1 ⟨hd.mpr (by omega), h1, h2⟩ _ (fa _ f1 _) (by rw [e15, hq]) st2_at
  have code : ∀ (D1 : DD) (q : Nat), FrG D D1 → D1 57 15 = q → q < n → D1 79 ((fr : Int) + D1 57 15).toNat = co q := fun D1 q f1 g15 hq => by
    rw [g15, show ((fr : Int) + q).toNat = fr + q by omega, f1.1 79 (by decide)]; exact c3 q hq
  have i0 := c5 p
  have i1 := c5 (p + 1)
  have s2 : ∀ (D1 : DD) (v : Int), FrG D D1 → D1 57 15 = ((p + 2 : Nat) : Int) → v = nVal co p → 2 = nLen co p → dgt (co p) → T g mX7_readsNumber (rmd (d + 1) 0 0) 0 0 (Qm g (rmd (d + 1) 0 0) P) 9 [some (.ref 57), some (iI to), some (iI fr), some (iI n), some (iI lo), some (iI hi), some (iI p), some (iI v)] [] SH D1 := by
    intro D1 v f1 g15 hv hl hd
    have t := tail D1 v (p + 2) f1 g15 hv (by omega) ⟨fun _ => by omega, fun _ => hd⟩
    refine T_aload_n dX7_readsNumber_9 rfl ?_
    refine T_getI dX7_readsNumber_10 flX7_134 rfl rfl ?_
    refine T_iload_n dX7_readsNumber_13 rfl ?_
    refine T_icmp_ge 87 dX7_readsNumber_14 (by decide) (by unfold InR; omega) (by unfold InR; omega) (fun hc14 => ?_) (fun hc14 => ?_)
    · exact t
    · refine T_aload_n dX7_readsNumber_17 rfl ?_
      refine T_getI dX7_readsNumber_18 flX7_134 rfl rfl ?_
      refine T_iload dX7_readsNumber_21 rfl ?_
      refine T_iconst dX7_readsNumber_23 ?_
      refine T_iadd dX7_readsNumber_24 ?_
      refine T_icmp_ge 87 dX7_readsNumber_25 (by decide) (by unfold InR; omega) (by unfold InR; omega) (fun hc25 => ?_) (fun hc25 => (by exfalso; omega))
      exact t
  have s1 : ∀ (D1 : DD), FrG D D1 → D1 57 15 = ((p + 1 : Nat) : Int) → dgt (co p) → T g mX7_readsNumber (rmd (d + 1) 0 0) 0 0 (Qm g (rmd (d + 1) 0 0) P) 9 [some (.ref 57), some (iI to), some (iI fr), some (iI n), some (iI lo), some (iI hi), some (iI p), some (iI (co p - 48))] [] SH D1 := by
    intro D1 f1 g15 hd
    have cd := code D1 (p + 1) f1 g15
    have one : ¬ dgt (co (p + 1)) → T g mX7_readsNumber (rmd (d + 1) 0 0) 0 0 (Qm g (rmd (d + 1) 0 0) P) 87 [some (.ref 57), some (iI to), some (iI fr), some (iI n), some (iI lo), some (iI hi), some (iI p), some (iI (co p - 48))] [] SH D1 := fun nd => tail D1 _ (p + 1) f1 g15 (by unfold nVal; rw [if_pos hd, if_neg nd]) (by unfold nLen; rw [if_pos hd, if_neg nd]) ⟨fun _ => by omega, fun _ => hd⟩
    refine T_aload_n dX7_readsNumber_9 rfl ?_
    refine T_getI dX7_readsNumber_10 flX7_134 rfl rfl ?_
    refine T_iload_n dX7_readsNumber_13 rfl ?_
    refine T_icmp_ge 87 dX7_readsNumber_14 (by decide) (by unfold InR; omega) (by unfold InR; omega) (fun hc14 => ?_) (fun hc14 => ?_)
    · have nd : ¬ dgt (co (p + 1)) := fun z => by have := c4 (p + 1) (by omega); unfold dgt at z; omega
      first
      | exact one nd
      | exact one (fun z => h1 z)
    · have cd := cd (by omega)
      refine T_aload_n dX7_readsNumber_17 rfl ?_
      refine T_getI dX7_readsNumber_18 flX7_134 rfl rfl ?_
      refine T_iload dX7_readsNumber_21 rfl ?_
      refine T_iconst dX7_readsNumber_23 ?_
      refine T_iadd dX7_readsNumber_24 ?_
      refine T_icmp_ge 87 dX7_readsNumber_25 (by decide) (by first | (unfold InR; omega) | (simp [st2, InR]; omega)) (by first | (unfold InR; omega) | (simp [st2, InR]; omega)) (fun hc25 => (by exfalso; omega)) (fun hc25 => ?_)
      refine T_aload_n dX7_readsNumber_28 rfl ?_
      refine T_getR dX7_readsNumber_29 flX7_74 rfl rfl ?_
      refine T_iload_n dX7_readsNumber_32 rfl ?_
      refine T_aload_n dX7_readsNumber_33 rfl ?_
      refine T_getI dX7_readsNumber_34 flX7_134 rfl rfl ?_
      refine T_iadd dX7_readsNumber_37 ?_
      refine T_iald dX7_readsNumber_38 rfl (by first | decide | omega) (by first | omega | (simp [st2]; omega)) (by first | omega | (simp [st2]; omega)) ?_
      rw [cd]
      refine T_i2l dX7_readsNumber_39 i1 ?_
      refine T_ldc2 (n := 48) dX7_readsNumber_40 tk_936 ?_
      refine T_ldc2 (n := 57) dX7_readsNumber_43 tk_937 ?_
      refine T_cS_3 dX7_readsNumber_46 lkX7_88 (Nat.le_of_ble_eq_true rfl) (RO_r (by decide)) (Nat.le_of_ble_eq_true rfl) ?_
      refine r_in (in64_of i1) (by first | (unfold In64; omega) | (simp [st2, In64]; omega)) (by first | (unfold In64; omega) | (simp [st2, In64]; omega)) (fun h1 h2 => ?_) (fun h1 => ?_)
      · refine T_if_eq 87 dX7_readsNumber_49 (by decide) (by unfold InR; decide) (fun h => absurd h (by decide)) (fun _ => ?_)
        refine T_bipush dX7_readsNumber_52 (by decide) ?_
        refine T_iload dX7_readsNumber_54 rfl ?_
        refine T_imul dX7_readsNumber_56 ?_
        refine T_aload_n dX7_readsNumber_57 rfl ?_
        refine T_getR dX7_readsNumber_58 flX7_74 rfl rfl ?_
        refine T_iload_n dX7_readsNumber_61 rfl ?_
        refine T_aload_n dX7_readsNumber_62 rfl ?_
        refine T_getI dX7_readsNumber_63 flX7_134 rfl rfl ?_
        refine T_iadd dX7_readsNumber_66 ?_
        refine T_iald dX7_readsNumber_67 rfl (by first | decide | omega) (by first | omega | (simp [st2]; omega)) (by first | omega | (simp [st2]; omega)) ?_
        rw [cd]
        refine T_iadd dX7_readsNumber_68 ?_
        refine T_bipush dX7_readsNumber_69 (by decide) ?_
        refine T_isub dX7_readsNumber_71 ?_
        refine T_istore dX7_readsNumber_72 (by decide) ?_
        refine T_aload_n dX7_readsNumber_74 rfl ?_
        refine T_dup dX7_readsNumber_75 rfl ?_
        refine T_getI dX7_readsNumber_76 flX7_134 rfl rfl ?_
        refine T_iconst dX7_readsNumber_79 ?_
        refine T_iadd dX7_readsNumber_80 ?_
        refine T_putI dX7_readsNumber_81 flX7_134 rfl rfl ?_
        refine T_goto (tgt := 9) dX7_readsNumber_84 (by decide) ?_
        rw [g15, show ((p + 1 : Nat) : Int) + 1 = ((p + 2 : Nat) : Int) by omega]
        exact s2 _ _ (f1.tr FrG.at) st2_at (by unfold nVal; rw [if_pos hd, if_pos ⟨h1, h2⟩]) (by unfold nLen; rw [if_pos hd, if_pos ⟨h1, h2⟩]) hd
      · refine T_if_eq 87 dX7_readsNumber_49 (by decide) (by unfold InR; decide) (fun _ => ?_) (fun h => absurd (by decide) h)
        first
        | exact one nd
        | exact one (fun z => h1 z)
  have cd := code D p FrG.rf h15
  have zero : ¬ dgt (co p) → T g mX7_readsNumber (rmd (d + 1) 0 0) 0 0 (Qm g (rmd (d + 1) 0 0) P) 87 [some (.ref 57), some (iI to), some (iI fr), some (iI n), some (iI lo), some (iI hi), some (iI p), some (iI 0)] [] SH D := fun nd => tail D 0 p FrG.rf h15 (by unfold nVal; rw [if_neg nd]) (by unfold nLen; rw [if_neg nd]; rfl) ⟨fun z => absurd z nd, fun z => by omega⟩
  refine T_aload_n dX7_readsNumber_0 rfl ?_
  refine T_getI dX7_readsNumber_1 flX7_134 rfl rfl ?_
  rw [h15]
  refine T_istore dX7_readsNumber_4 (by decide) ?_
  refine T_iconst dX7_readsNumber_6 ?_
  refine T_istore dX7_readsNumber_7 (by decide) ?_
  refine T_aload_n dX7_readsNumber_9 rfl ?_
  refine T_getI dX7_readsNumber_10 flX7_134 rfl rfl ?_
  refine T_iload_n dX7_readsNumber_13 rfl ?_
  refine T_icmp_ge 87 dX7_readsNumber_14 (by decide) (by unfold InR; omega) (by unfold InR; omega) (fun hc14 => ?_) (fun hc14 => ?_)
  · have nd : ¬ dgt (co p) := fun z => by have := c4 p (by omega); unfold dgt at z; omega
    first
    | exact zero nd
    | exact zero (fun z => h1 z)
  · have cd := cd (by omega)
    refine T_aload_n dX7_readsNumber_17 rfl ?_
    refine T_getI dX7_readsNumber_18 flX7_134 rfl rfl ?_
    refine T_iload dX7_readsNumber_21 rfl ?_
    refine T_iconst dX7_readsNumber_23 ?_
    refine T_iadd dX7_readsNumber_24 ?_
    refine T_icmp_ge 87 dX7_readsNumber_25 (by decide) (by first | (unfold InR; omega) | (simp [st2, InR]; omega)) (by first | (unfold InR; omega) | (simp [st2, InR]; omega)) (fun hc25 => (by exfalso; omega)) (fun hc25 => ?_)
    refine T_aload_n dX7_readsNumber_28 rfl ?_
    refine T_getR dX7_readsNumber_29 flX7_74 rfl rfl ?_
    refine T_iload_n dX7_readsNumber_32 rfl ?_
    refine T_aload_n dX7_readsNumber_33 rfl ?_
    refine T_getI dX7_readsNumber_34 flX7_134 rfl rfl ?_
    refine T_iadd dX7_readsNumber_37 ?_
    refine T_iald dX7_readsNumber_38 rfl (by first | decide | omega) (by first | omega | (simp [st2]; omega)) (by first | omega | (simp [st2]; omega)) ?_
    rw [cd]
    refine T_i2l dX7_readsNumber_39 i0 ?_
    refine T_ldc2 (n := 48) dX7_readsNumber_40 tk_936 ?_
    refine T_ldc2 (n := 57) dX7_readsNumber_43 tk_937 ?_
    refine T_cS_3 dX7_readsNumber_46 lkX7_88 (Nat.le_of_ble_eq_true rfl) (RO_r (by decide)) (Nat.le_of_ble_eq_true rfl) ?_
    refine r_in (in64_of i0) (by first | (unfold In64; omega) | (simp [st2, In64]; omega)) (by first | (unfold In64; omega) | (simp [st2, In64]; omega)) (fun h1 h2 => ?_) (fun h1 => ?_)
    · refine T_if_eq 87 dX7_readsNumber_49 (by decide) (by unfold InR; decide) (fun h => absurd h (by decide)) (fun _ => ?_)
      refine T_bipush dX7_readsNumber_52 (by decide) ?_
      refine T_iload dX7_readsNumber_54 rfl ?_
      refine T_imul dX7_readsNumber_56 ?_
      refine T_aload_n dX7_readsNumber_57 rfl ?_
      refine T_getR dX7_readsNumber_58 flX7_74 rfl rfl ?_
      refine T_iload_n dX7_readsNumber_61 rfl ?_
      refine T_aload_n dX7_readsNumber_62 rfl ?_
      refine T_getI dX7_readsNumber_63 flX7_134 rfl rfl ?_
      refine T_iadd dX7_readsNumber_66 ?_
      refine T_iald dX7_readsNumber_67 rfl (by first | decide | omega) (by first | omega | (simp [st2]; omega)) (by first | omega | (simp [st2]; omega)) ?_
      rw [cd]
      refine T_iadd dX7_readsNumber_68 ?_
      refine T_bipush dX7_readsNumber_69 (by decide) ?_
      refine T_isub dX7_readsNumber_71 ?_
      refine T_istore dX7_readsNumber_72 (by decide) ?_
      refine T_aload_n dX7_readsNumber_74 rfl ?_
      refine T_dup dX7_readsNumber_75 rfl ?_
      refine T_getI dX7_readsNumber_76 flX7_134 rfl rfl ?_
      refine T_iconst dX7_readsNumber_79 ?_
      refine T_iadd dX7_readsNumber_80 ?_
      refine T_putI dX7_readsNumber_81 flX7_134 rfl rfl ?_
      refine T_goto (tgt := 9) dX7_readsNumber_84 (by decide) ?_
      rw [h15, show (p : Int) + 1 = ((p + 1 : Nat) : Int) by omega, show 10 * (0 : Int) + co p - 48 = co p - 48 by omega]
      exact s1 _ FrG.at st2_at ⟨h1, h2⟩
    · refine T_if_eq 87 dX7_readsNumber_49 (by decide) (by unfold InR; decide) (fun _ => ?_) (fun h => absurd (by decide) h)
      first
      | exact zero nd
      | exact zero (fun z => h1 z)
theorem r_readsSign {code : Int} (hK : RxK D fr n co) (h15 : D 57 15 = p) (hp : p ≤ 900) (hc : 0 ≤ code ∧ code ≤ 1000) (k1 : co p = code → ∀ D' : DD, FrG D D' → D' 57 15 = ((p + 1 : Nat) : Int) → P (some (iI 1)) SH D') (k0 : co p ≠ code → ∀ D' : DD, FrG D D' → D' 57 15 = p → P (some (iI 0)) SH D') : TM g mX7_readsSign d P [.ref 57, iI code, iI fr, iI n] D := by
  obtain ⟨c1, c2, c3, c4, c5⟩ := hK
  have cd : p < n → D 79 ((fr : Int) + D 57 15).toNat = co p := fun hq => by
    rw [h15, show ((fr : Int) + p).toNat = fr + p by omega]; exact c3 p hq
  have i0 := c5 p
  refine T_aload_n dX7_readsSign_0 rfl ?_
  refine T_getI dX7_readsSign_1 flX7_134 rfl rfl ?_
  refine T_iload_n dX7_readsSign_4 rfl ?_
  refine T_icmp_ge 27 dX7_readsSign_5 (by decide) (by unfold InR; omega) (by unfold InR; omega) (fun hc5 => ?_) (fun hc5 => ?_)
  · have ne : co p ≠ code := by have := c4 p (by omega); omega
    refine T_iconst dX7_readsSign_27 ?_
    refine T_istore dX7_readsSign_28 (by decide) ?_
    refine T_aload_n dX7_readsSign_30 rfl ?_
    refine T_dup dX7_readsSign_31 rfl ?_
    refine T_getI dX7_readsSign_32 flX7_134 rfl rfl ?_
    refine T_iload dX7_readsSign_35 rfl ?_
    refine T_if_eq 44 dX7_readsSign_37 (by decide) (by unfold InR; decide) (fun _ => ?_) (fun h => absurd (by decide) h)
    refine T_iconst dX7_readsSign_44 ?_
    refine T_iadd dX7_readsSign_45 ?_
    refine T_putI dX7_readsSign_46 flX7_134 rfl rfl ?_
    refine T_iload dX7_readsSign_49 rfl ?_
    refine T_zret dX7_readsSign_51 rfl (by decide) ?_
    first
    | (exfalso; omega)
    | exact k0 ne _ FrG.at (by rw [st2_at, h15, Int.add_zero])
    | exact k0 hc20 _ FrG.at (by rw [st2_at, h15, Int.add_zero])
    | exact k1 (by omega) _ FrG.at (by rw [st2_at, h15]; omega)
  · have cd := cd (by omega)
    refine T_aload_n dX7_readsSign_8 rfl ?_
    refine T_getR dX7_readsSign_9 flX7_74 rfl rfl ?_
    refine T_iload_n dX7_readsSign_12 rfl ?_
    refine T_aload_n dX7_readsSign_13 rfl ?_
    refine T_getI dX7_readsSign_14 flX7_134 rfl rfl ?_
    refine T_iadd dX7_readsSign_17 ?_
    refine T_iald dX7_readsSign_18 rfl (by first | decide | omega) (by first | omega | (simp [st2]; omega)) (by first | omega | (simp [st2]; omega)) ?_
    refine T_iload_n dX7_readsSign_19 rfl ?_
    refine T_icmp_ne 27 dX7_readsSign_20 (by decide) (by rw [cd]; exact i0) (by unfold InR; omega) (fun hc20 => ?_) (fun hc20 => ?_)
    · rw [cd] at hc20
      refine T_iconst dX7_readsSign_27 ?_
      refine T_istore dX7_readsSign_28 (by decide) ?_
      refine T_aload_n dX7_readsSign_30 rfl ?_
      refine T_dup dX7_readsSign_31 rfl ?_
      refine T_getI dX7_readsSign_32 flX7_134 rfl rfl ?_
      refine T_iload dX7_readsSign_35 rfl ?_
      refine T_if_eq 44 dX7_readsSign_37 (by decide) (by unfold InR; decide) (fun _ => ?_) (fun h => absurd (by decide) h)
      refine T_iconst dX7_readsSign_44 ?_
      refine T_iadd dX7_readsSign_45 ?_
      refine T_putI dX7_readsSign_46 flX7_134 rfl rfl ?_
      refine T_iload dX7_readsSign_49 rfl ?_
      refine T_zret dX7_readsSign_51 rfl (by decide) ?_
      first
      | (exfalso; omega)
      | exact k0 ne _ FrG.at (by rw [st2_at, h15, Int.add_zero])
      | exact k0 hc20 _ FrG.at (by rw [st2_at, h15, Int.add_zero])
      | exact k1 (by omega) _ FrG.at (by rw [st2_at, h15]; omega)
    · rw [cd] at hc20
      refine T_iconst dX7_readsSign_23 ?_
      refine T_goto (tgt := 28) dX7_readsSign_24 (by decide) ?_
      refine T_istore dX7_readsSign_28 (by decide) ?_
      refine T_aload_n dX7_readsSign_30 rfl ?_
      refine T_dup dX7_readsSign_31 rfl ?_
      refine T_getI dX7_readsSign_32 flX7_134 rfl rfl ?_
      refine T_iload dX7_readsSign_35 rfl ?_
      refine T_if_eq 44 dX7_readsSign_37 (by decide) (by unfold InR; decide) (fun h => absurd h (by decide)) (fun _ => ?_)
      refine T_iconst dX7_readsSign_40 ?_
      refine T_goto (tgt := 45) dX7_readsSign_41 (by decide) ?_
      refine T_iadd dX7_readsSign_45 ?_
      refine T_putI dX7_readsSign_46 flX7_134 rfl rfl ?_
      refine T_iload dX7_readsSign_49 rfl ?_
      refine T_zret dX7_readsSign_51 rfl (by decide) ?_
      first
      | (exfalso; omega)
      | exact k0 ne _ FrG.at (by rw [st2_at, h15, Int.add_zero])
      | exact k0 hc20 _ FrG.at (by rw [st2_at, h15, Int.add_zero])
      | exact k1 (by omega) _ FrG.at (by rw [st2_at, h15]; omega)
theorem r_kindBy {c : Int} (hc : InR c) (hk : P (some (iI (kdR c))) SH D) : TM g mX7_kindBy d P [iI c] D := by
  unfold kdR at hk
  refine T_iload_n dX7_kindBy_0 rfl ?_
  refine T_bipush dX7_kindBy_1 (by decide) ?_
  refine T_icmp_ne 10 dX7_kindBy_3 (by decide) hc (by first | (unfold InR; omega) | (simp [st2, InR]; omega)) (fun hc3 => ?_) (fun hc3 => ?_)
  · refine T_iload_n dX7_kindBy_10 rfl ?_
    refine T_bipush dX7_kindBy_11 (by decide) ?_
    refine T_icmp_ne 20 dX7_kindBy_13 (by decide) hc (by first | (unfold InR; omega) | (simp [st2, InR]; omega)) (fun hc13 => ?_) (fun hc13 => ?_)
    · refine T_iload_n dX7_kindBy_20 rfl ?_
      refine T_bipush dX7_kindBy_21 (by decide) ?_
      refine T_icmp_ne 30 dX7_kindBy_23 (by decide) hc (by first | (unfold InR; omega) | (simp [st2, InR]; omega)) (fun hc23 => ?_) (fun hc23 => ?_)
      · refine T_iload_n dX7_kindBy_30 rfl ?_
        refine T_bipush dX7_kindBy_31 (by decide) ?_
        refine T_icmp_ne 40 dX7_kindBy_33 (by decide) hc (by first | (unfold InR; omega) | (simp [st2, InR]; omega)) (fun hc33 => ?_) (fun hc33 => ?_)
        · refine T_iconst dX7_kindBy_40 ?_
          refine T_iret dX7_kindBy_41 rfl ?_
          first
          | (rw [if_pos (by omega)] at hk; exact hk)
          | (rw [if_neg (by omega), if_pos (by omega)] at hk; exact hk)
          | (rw [if_neg (by omega), if_neg (by omega), if_pos (by omega)] at hk; exact hk)
          | (rw [if_neg (by omega), if_neg (by omega), if_neg (by omega), if_pos (by omega)] at hk; exact hk)
          | (rw [if_neg (by omega), if_neg (by omega), if_neg (by omega), if_neg (by omega)] at hk; exact hk)
        · refine T_iconst dX7_kindBy_36 ?_
          refine T_goto (tgt := 41) dX7_kindBy_37 (by decide) ?_
          refine T_iret dX7_kindBy_41 rfl ?_
          first
          | (rw [if_pos (by omega)] at hk; exact hk)
          | (rw [if_neg (by omega), if_pos (by omega)] at hk; exact hk)
          | (rw [if_neg (by omega), if_neg (by omega), if_pos (by omega)] at hk; exact hk)
          | (rw [if_neg (by omega), if_neg (by omega), if_neg (by omega), if_pos (by omega)] at hk; exact hk)
          | (rw [if_neg (by omega), if_neg (by omega), if_neg (by omega), if_neg (by omega)] at hk; exact hk)
      · refine T_iconst dX7_kindBy_26 ?_
        refine T_goto (tgt := 41) dX7_kindBy_27 (by decide) ?_
        refine T_iret dX7_kindBy_41 rfl ?_
        first
        | (rw [if_pos (by omega)] at hk; exact hk)
        | (rw [if_neg (by omega), if_pos (by omega)] at hk; exact hk)
        | (rw [if_neg (by omega), if_neg (by omega), if_pos (by omega)] at hk; exact hk)
        | (rw [if_neg (by omega), if_neg (by omega), if_neg (by omega), if_pos (by omega)] at hk; exact hk)
        | (rw [if_neg (by omega), if_neg (by omega), if_neg (by omega), if_neg (by omega)] at hk; exact hk)
    · refine T_iconst dX7_kindBy_16 ?_
      refine T_goto (tgt := 41) dX7_kindBy_17 (by decide) ?_
      refine T_iret dX7_kindBy_41 rfl ?_
      first
      | (rw [if_pos (by omega)] at hk; exact hk)
      | (rw [if_neg (by omega), if_pos (by omega)] at hk; exact hk)
      | (rw [if_neg (by omega), if_neg (by omega), if_pos (by omega)] at hk; exact hk)
      | (rw [if_neg (by omega), if_neg (by omega), if_neg (by omega), if_pos (by omega)] at hk; exact hk)
      | (rw [if_neg (by omega), if_neg (by omega), if_neg (by omega), if_neg (by omega)] at hk; exact hk)
  · refine T_iconst dX7_kindBy_6 ?_
    refine T_goto (tgt := 41) dX7_kindBy_7 (by decide) ?_
    refine T_iret dX7_kindBy_41 rfl ?_
    first
    | (rw [if_pos (by omega)] at hk; exact hk)
    | (rw [if_neg (by omega), if_pos (by omega)] at hk; exact hk)
    | (rw [if_neg (by omega), if_neg (by omega), if_pos (by omega)] at hk; exact hk)
    | (rw [if_neg (by omega), if_neg (by omega), if_neg (by omega), if_pos (by omega)] at hk; exact hk)
    | (rw [if_neg (by omega), if_neg (by omega), if_neg (by omega), if_neg (by omega)] at hk; exact hk)
end

