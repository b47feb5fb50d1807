theorem tdiv_n (l s : Nat) : (l : Int).tdiv s = ((l / s : Nat) : Int) := rfl
section
variable {g : G0} {d : Nat} {P : Option Value → List SC → DD → Prop} {D : DD}
theorem r_churchIn {C H row h : Nat} (eC : D 57 5 = C) (eH : D 57 1 = H) (hC : 0 < C) (hC5 : C ≤ 5) (hH : H ≤ 10) (hr : row ≤ 100000) (hh : h < H) (hk : P (some (iI (dg C H row h : Nat))) SH D) : TM g mX7_churchIn d P [.ref 57, iI row, iI h] D := by
  have loop : ∀ (q j : Nat), q + j = H - 1 - h → T g mX7_churchIn (rmd d 0 0) 0 0 (Qm g (rmd d 0 0) P) 10 [some (.ref 57), some (iI row), some (iI h), some (iI ((row / C ^ j : Nat) : Int)), some (iI ((H : Int) - 1 - j))] [] SH D := by
    intro q
    induction q with
    | zero =>
      intro j hq
      have hb : row / C ^ j ≤ 100000 := Nat.le_trans (Nat.div_le_self _ _) hr
      have e : dg C H row h = row / C ^ j % C := by unfold dg; rw [show H - 1 - h = j by omega]
      rw [e] at hk
      generalize row / C ^ j = l at *
      refine T_iload dX7_churchIn_10 rfl ?_
      refine T_iload_n dX7_churchIn_12 rfl ?_
      refine T_icmp_le 29 dX7_churchIn_13 (by decide) (by first | (unfold InR; omega) | (simp [st2, InR]; omega)) (by first | (unfold InR; omega) | (simp [st2, InR]; omega)) (fun hc13 => ?_) (fun hc13 => (by exfalso; omega))
      refine T_iload_n dX7_churchIn_29 rfl ?_
      refine T_aload_n dX7_churchIn_30 rfl ?_
      refine T_getI dX7_churchIn_31 flX7_115 rfl rfl ?_
      rw [eC]
      refine T_irem dX7_churchIn_34 (by unfold InR; omega) (by unfold InR; omega) (by omega) ?_
      refine T_iret dX7_churchIn_35 rfl ?_
      rw [tmod_n]; exact hk
    | succ q ih =>
      intro j hq
      have hb : row / C ^ j ≤ 100000 := Nat.le_trans (Nat.div_le_self _ _) hr
      have ih := ih (j + 1) (by omega)
      rw [Nat.pow_succ, ← Nat.div_div_eq_div_mul, show (H : Int) - 1 - ((j + 1 : Nat) : Int) = (H : Int) - 1 - j + -1 by omega] at ih
      generalize row / C ^ j = l at *
      refine T_iload dX7_churchIn_10 rfl ?_
      refine T_iload_n dX7_churchIn_12 rfl ?_
      refine T_icmp_le 29 dX7_churchIn_13 (by decide) (by first | (unfold InR; omega) | (simp [st2, InR]; omega)) (by first | (unfold InR; omega) | (simp [st2, InR]; omega)) (fun hc13 => (by exfalso; omega)) (fun hc13 => ?_)
      refine T_iload_n dX7_churchIn_16 rfl ?_
      refine T_aload_n dX7_churchIn_17 rfl ?_
      refine T_getI dX7_churchIn_18 flX7_115 rfl rfl ?_
      rw [eC]
      refine T_idiv dX7_churchIn_21 (by unfold InR; omega) (by unfold InR; omega) (by omega) ?_
      refine T_istore_n dX7_churchIn_22 (by decide) ?_
      refine T_iinc dX7_churchIn_23 rfl (by decide) ?_
      refine T_goto (tgt := 10) dX7_churchIn_26 (by decide) ?_
      rw [tdiv_n]
      exact ih
  have l0 := loop (H - 1 - h) 0 (by omega)
  rw [Nat.pow_zero, Nat.div_one, show (H : Int) - 1 - ((0 : Nat) : Int) = (H : Int) - 1 by omega] at l0
  refine T_iload_n dX7_churchIn_0 rfl ?_
  refine T_istore_n dX7_churchIn_1 (by decide) ?_
  refine T_aload_n dX7_churchIn_2 rfl ?_
  refine T_getI dX7_churchIn_3 flX7_112 rfl rfl ?_
  refine T_iconst dX7_churchIn_6 ?_
  refine T_isub dX7_churchIn_7 ?_
  refine T_istore dX7_churchIn_8 (by decide) ?_
  rw [eH]; exact l0
abbrev okRM (D : DD) : Nat → Prop := okRow (D 57 5).toNat (D 57 1).toNat (alM D) (D 64) (D 60)
abbrev csRM (D : DD) : Nat → Int := csRow (D 57 5).toNat (D 57 1).toNat (D 60) (farM D)
def hd_ok (D : DD) (h c : Nat) (v : Int) : Prop := alM D h c ∧ D 60 h ≤ v
theorem r_rowMiles {row : Nat} (hL : MK D) (h7 : D 57 1 ≤ 7) (hr : row ≤ 100000) (hC : 0 < D 57 5 ∨ D 57 1 = 0) (k1 : ∀ D' : DD, (∀ r, r ≠ 68 → D' r = D r) → okRM D row → P (some (iI (csRM D row))) SH D') (k0 : ∀ D' : DD, (∀ r, r ≠ 68 → D' r = D r) → ¬ okRM D row → P (some (iI (-9))) SH D') : TM g mX7_rowMiles (d + 2) P [.ref 57, iI row] D := by
  have hN := hL.1
  have hM := hL.2.1
  have b1 := hL.2.2.2.2.2.1
  have b3 := hL.2.2.2.2.2.2.2.2.2.1
  have lvb : ∀ (h c : Nat) (s : Nat → Nat), h ≤ 7 → -35 ≤ lvG (D 64) (D 60) s h c ∧ lvG (D 64) (D 60) s h c ≤ 50 := fun h c s hh => by
    have z := sm_bd (f := fun h' => if s h' = c then D 60 h' else 0) (a := 0) (b := 5) h (fun j _ => by
      have := b1 j
      show 0 ≤ (if s j = c then D 60 j else 0) ∧ (if s j = c then D 60 j else 0) ≤ 5
      split <;> omega)
    have := b3 c
    unfold lvG
    omega
  have homes : ∀ (q h : Nat) (D1 : DD) (m4 : Option Value), q + h = (D 57 1).toNat → (∀ r, r ≠ 68 → D1 r = D r) → (∀ c, c < (D 57 5).toNat → D1 68 c = lvG (D 64) (D 60) (dg (D 57 5).toNat (D 57 1).toNat row) h c) → okG (D 57 5).toNat (alM D) (D 64) (D 60) h (dg (D 57 5).toNat (D 57 1).toNat row) → T g mX7_rowMiles (rmd (d + 2) 0 0) 0 0 (Qm g (rmd (d + 2) 0 0) P) 32 [some (.ref 57), some (iI row), some (iI (csG (D 60) (farM D) h (dg (D 57 5).toNat (D 57 1).toNat row))), some (iI h), m4] [] SH D1 := by
    intro q
    induction q with
    | zero =>
      intro h D1 m4 hq r1 r2 r3
      have z2 : D1 57 1 = D 57 1 := by rw [r1 57 (by decide)]
      obtain rfl : h = (D 57 1).toNat := by omega
      refine T_iload_n dX7_rowMiles_32 rfl ?_
      refine T_aload_n dX7_rowMiles_33 rfl ?_
      refine T_getI dX7_rowMiles_34 flX7_112 rfl rfl ?_
      refine T_icmp_ge 125 dX7_rowMiles_37 (by decide) (by first | (unfold InR; omega) | (simp [st2, InR]; omega)) (by first | (unfold InR; omega) | (simp [st2, InR]; omega)) (fun hc37 => ?_) (fun hc37 => (by exfalso; omega))
      refine T_iload_n dX7_rowMiles_125 rfl ?_
      refine T_iret dX7_rowMiles_126 rfl ?_
      exact k1 D1 r1 r3
    | succ q ih =>
      intro h D1 m4 hq r1 r2 r3
      have z57 : D1 57 = D 57 := r1 57 (by decide)
      have z2 : D1 57 1 = D 57 1 := by rw [z57]
      have hC0 : 0 < (D 57 5).toNat := by omega
      have ih := ih (h + 1)
      have eh : (h : Int).toNat = h := Int.toNat_natCast h
      have hcl : dg (D 57 5).toNat (D 57 1).toNat row h < (D 57 5).toNat := Nat.mod_lt _ hC0
      have ecs : csG (D 60) (farM D) (h + 1) (dg (D 57 5).toNat (D 57 1).toNat row) = csG (D 60) (farM D) h (dg (D 57 5).toNat (D 57 1).toNat row) + D 60 h * farM D h (dg (D 57 5).toNat (D 57 1).toNat row h) := rfl
      have elv : ∀ c, lvG (D 64) (D 60) (dg (D 57 5).toNat (D 57 1).toNat row) (h + 1) c = lvG (D 64) (D 60) (dg (D 57 5).toNat (D 57 1).toNat row) h c - (if dg (D 57 5).toNat (D 57 1).toNat row h = c then D 60 h else 0) := fun c => by unfold lvG; simp only [sm]; omega
      have hno : ∀ (X : DD), (∀ r, r ≠ 68 → X r = D r) → (lvG (D 64) (D 60) (dg (D 57 5).toNat (D 57 1).toNat row) h (dg (D 57 5).toNat (D 57 1).toNat row h) < D 60 h ∨ brM D h (dg (D 57 5).toNat (D 57 1).toNat row h)) → P (some (iI (-9))) SH X := fun X hX z => k0 X hX (fun ok => by
        have o := ok h (by omega)
        rcases z with z | z
        · omega
        · exact o.2.1 z)
      have hyes : hd_ok D h (dg (D 57 5).toNat (D 57 1).toNat row h) (lvG (D 64) (D 60) (dg (D 57 5).toNat (D 57 1).toNat row) h (dg (D 57 5).toNat (D 57 1).toNat row h)) → okG (D 57 5).toNat (alM D) (D 64) (D 60) (h + 1) (dg (D 57 5).toNat (D 57 1).toNat row) := fun z h' hh => by
        by_cases e : h' = h
        · subst e; exact ⟨hcl, z.1, z.2⟩
        · exact r3 h' (by omega)
      have bl := lvb h (dg (D 57 5).toNat (D 57 1).toNat row h) (dg (D 57 5).toNat (D 57 1).toNat row) (by omega)
      have e68 := r2 (dg (D 57 5).toNat (D 57 1).toNat row h) hcl
      have rc := fun (P' : Option Value → List SC → DD → Prop) => r_churchIn (g := g) (d := d + 1) (P := P') (D := D1) (C := (D 57 5).toNat) (H := (D 57 1).toNat) (row := row) (h := h) (by rw [z57]; omega) (by rw [z57]; omega) hC0 (by omega) (by omega) hr (by omega)
      have b60 := b1 h
      have hL1 : MK D1 := MK_fr (fun a h1 h2 => r1 a (by omega)) hL
      rw [ecs] at ih
      generalize hdg : dg (D 57 5).toNat (D 57 1).toNat row = s at *
      generalize s h = c at *
      generalize csG (D 60) (farM D) h s = sum at *
      have ec : (c : Int).toNat = c := Int.toNat_natCast c
      have ix : (5 * (h : Int) + c).toNat = 5 * h + c := by omega
      have e60 : D1 60 (h : Int).toNat = D 60 h := by rw [eh, r1 60 (by decide)]
      have e68' : D1 68 (c : Int).toNat = lvG (D 64) (D 60) s h c := by rw [ec]; exact e68
      have hbb := hL.2.2.2.2.2.2.2.2.2.2 (5 * h + c)
      have e65 : ∀ i v, st2 D1 68 i v 65 (5 * (h : Int) + c).toNat = D 65 (5 * h + c) := fun i v => by rw [st2_row (by decide), ix, r1 65 (by decide)]
      have e1 : ∀ i v, farK (st2 D1 68 i v 61 (c : Int).toNat) (st2 D1 68 i v 58 (h : Int).toNat) (st2 D1 68 i v 59 (h : Int).toNat) (st2 D1 68 i v 62 (c : Int).toNat) (st2 D1 68 i v 63 (c : Int).toNat) (st2 D1 68 i v 57 11) = farM D h c := fun i v => by
        rw [st2_row (by decide), st2_row (by decide), st2_row (by decide), st2_row (by decide), st2_row (by decide), st2_row (by decide), eh, ec, r1 57 (by decide), r1 58 (by decide), r1 59 (by decide), r1 61 (by decide), r1 62 (by decide), r1 63 (by decide)]; rfl
      have fX : ∀ v, ∀ r, r ≠ 68 → st2 D1 68 c v r = D r := fun v r e => by rw [st2_row e]; exact r1 r e
      have hLX : ∀ v, MK (st2 D1 68 c v) := fun v => MK_fr (fun a h1 h2 => fX v a (by omega)) hL
      clear k0 k1
      refine T_iload_n dX7_rowMiles_32 rfl ?_
      refine T_aload_n dX7_rowMiles_33 rfl ?_
      refine T_getI dX7_rowMiles_34 flX7_112 rfl rfl ?_
      refine T_icmp_ge 125 dX7_rowMiles_37 (by decide) (by first | (unfold InR; omega) | (simp [st2, InR]; omega)) (by first | (unfold InR; omega) | (simp [st2, InR]; omega)) (fun hc37 => (by exfalso; omega)) (fun hc37 => ?_)
      refine T_aload_n dX7_rowMiles_40 rfl ?_
      refine T_iload_n dX7_rowMiles_41 rfl ?_
      refine T_iload_n dX7_rowMiles_42 rfl ?_
      refine T_cV_2 dX7_rowMiles_43 lkX7_227 rfl (Nat.le_of_ble_eq_true rfl) (RO_r (by decide)) (Nat.le_of_ble_eq_true rfl) ?_
      refine rc _ ?_
      refine T_istore dX7_rowMiles_46 (by decide) ?_
      refine T_aload_n dX7_rowMiles_48 rfl ?_
      refine T_getR dX7_rowMiles_49 flX7_41 rfl rfl ?_
      refine T_iload dX7_rowMiles_52 rfl ?_
      refine T_dup2 dX7_rowMiles_54 rfl rfl ?_
      refine T_iald dX7_rowMiles_55 rfl (by first | decide | omega) (by first | omega | (simp [st2]; omega)) (by first | omega | (simp [st2]; omega)) ?_
      refine T_aload_n dX7_rowMiles_56 rfl ?_
      refine T_getR dX7_rowMiles_57 flX7_16 rfl rfl ?_
      refine T_iload_n dX7_rowMiles_60 rfl ?_
      refine T_iald dX7_rowMiles_61 rfl (by first | decide | omega) (by first | omega | (simp [st2]; omega)) (by first | omega | (simp [st2]; omega)) ?_
      rw [e68', e60]
      refine T_isub dX7_rowMiles_62 ?_
      refine T_iast dX7_rowMiles_63 rfl (by first | decide | omega) (by first | omega | (simp [st2]; omega)) (by first | omega | (simp [st2]; omega)) ?_
      rw [ec]
      refine T_aload_n dX7_rowMiles_64 rfl ?_
      refine T_getR dX7_rowMiles_65 flX7_41 rfl rfl ?_
      refine T_iload dX7_rowMiles_68 rfl ?_
      refine T_iald dX7_rowMiles_70 rfl (by first | decide | omega) (by first | omega | (simp [st2]; omega)) (by first | omega | (simp [st2]; omega)) ?_
      rw [ec, st2_at]
      refine T_if_lt 88 dX7_rowMiles_71 (by decide) (by unfold InR; omega) (fun hc71 => ?_) (fun hc71 => ?_)
      · refine T_bipush dX7_rowMiles_88 (by decide) ?_
        refine T_iret dX7_rowMiles_90 rfl ?_
        first
        | exact hno _ (fX _) (Or.inl (by omega))
        | exact hno _ (fX _) (Or.inr nal)
      · refine T_aload_n dX7_rowMiles_74 rfl ?_
        refine T_getR dX7_rowMiles_75 flX7_31 rfl rfl ?_
        refine T_iconst dX7_rowMiles_78 ?_
        refine T_iload_n dX7_rowMiles_79 rfl ?_
        refine T_imul dX7_rowMiles_80 ?_
        refine T_iload dX7_rowMiles_81 rfl ?_
        refine T_iadd dX7_rowMiles_83 ?_
        refine T_zald dX7_rowMiles_84 rfl (by first | decide | omega) (by first | omega | (simp [st2]; omega)) (by first | omega | (simp [st2]; omega)) ?_
        refine T_if_eq 91 dX7_rowMiles_85 (by decide) (by rw [e65]; unfold InR; omega) (fun hc85 => ?_) (fun hc85 => ?_)
        · rw [e65] at hc85
          have al : alM D h c := by unfold alM brM; omega
          refine T_iload_n dX7_rowMiles_91 rfl ?_
          refine T_aload_n dX7_rowMiles_92 rfl ?_
          refine T_getR dX7_rowMiles_93 flX7_16 rfl rfl ?_
          refine T_iload_n dX7_rowMiles_96 rfl ?_
          refine T_iald dX7_rowMiles_97 rfl (by first | decide | omega) (by first | omega | (simp [st2]; omega)) (by first | omega | (simp [st2]; omega)) ?_
          refine T_aload_n dX7_rowMiles_98 rfl ?_
          refine T_aload_n dX7_rowMiles_99 rfl ?_
          refine T_getR dX7_rowMiles_100 flX7_7 rfl rfl ?_
          refine T_iload_n dX7_rowMiles_103 rfl ?_
          refine T_iald dX7_rowMiles_104 rfl (by first | decide | omega) (by first | omega | (simp [st2]; omega)) (by first | omega | (simp [st2]; omega)) ?_
          refine T_aload_n dX7_rowMiles_105 rfl ?_
          refine T_getR dX7_rowMiles_106 flX7_13 rfl rfl ?_
          refine T_iload_n dX7_rowMiles_109 rfl ?_
          refine T_iald dX7_rowMiles_110 rfl (by first | decide | omega) (by first | omega | (simp [st2]; omega)) (by first | omega | (simp [st2]; omega)) ?_
          refine T_iload dX7_rowMiles_111 rfl ?_
          refine T_cV_3 dX7_rowMiles_113 lkX7_181 rfl (Nat.le_of_ble_eq_true rfl) (RO_r (by decide)) (Nat.le_of_ble_eq_true rfl) ?_
          refine r_farOf (hLX _) (by omega) ((hLX _).2.2.2.1 _) ((hLX _).2.2.2.2.1 _) ?_
          have e60b : ∀ v, st2 D1 68 c v 60 (h : Int).toNat = D 60 h := fun v => by rw [st2_row (by decide)]; exact e60
          rw [e1, e60b]
          refine T_imul dX7_rowMiles_116 ?_
          refine T_iadd dX7_rowMiles_117 ?_
          refine T_istore_n dX7_rowMiles_118 (by decide) ?_
          refine T_iinc dX7_rowMiles_119 rfl (by decide) ?_
          refine T_goto (tgt := 32) dX7_rowMiles_122 (by decide) ?_
          refine ih _ _ (by omega) (fX _) (fun c' hc' => ?_) (hyes ⟨al, by omega⟩)
          rw [elv c']
          by_cases e : c' = c
          · subst e; rw [st2_at, if_pos rfl]
          · rw [st2_ne e, if_neg (Ne.symm e), Int.sub_zero]; exact r2 c' hc'
        · rw [e65] at hc85
          have nal : brM D h c := by unfold brM; omega
          refine T_bipush dX7_rowMiles_88 (by decide) ?_
          refine T_iret dX7_rowMiles_90 rfl ?_
          first
          | exact hno _ (fX _) (Or.inl (by omega))
          | exact hno _ (fX _) (Or.inr nal)
  have rooms : ∀ (q c : Nat) (D1 : DD) (m4 : Option Value), q + c = (D 57 5).toNat → (∀ r, r ≠ 68 → D1 r = D r) → (∀ c', c' < c → D1 68 c' = D 64 c') → T g mX7_rowMiles (rmd (d + 2) 0 0) 0 0 (Qm g (rmd (d + 2) 0 0) P) 4 [some (.ref 57), some (iI row), some (iI 0), some (iI c), m4] [] SH D1 := by
    intro q
    induction q with
    | zero =>
      intro c D1 m4 hq r1 r2
      have z2 : D1 57 5 = D 57 5 := by rw [r1 57 (by decide)]
      refine T_iload_n dX7_rowMiles_4 rfl ?_
      refine T_aload_n dX7_rowMiles_5 rfl ?_
      refine T_getI dX7_rowMiles_6 flX7_115 rfl rfl ?_
      refine T_icmp_ge 30 dX7_rowMiles_9 (by decide) (by first | (unfold InR; omega) | (simp [st2, InR]; omega)) (by first | (unfold InR; omega) | (simp [st2, InR]; omega)) (fun hc9 => ?_) (fun hc9 => (by exfalso; omega))
      refine T_iconst dX7_rowMiles_30 ?_
      refine T_istore_n dX7_rowMiles_31 (by decide) ?_
      exact homes (D 57 1).toNat 0 D1 _ (by omega) r1 (fun c' hc' => by rw [r2 c' (by omega)]; unfold lvG; simp only [sm]; omega) (fun h' hh => by omega)
    | succ q ih =>
      intro c D1 m4 hq r1 r2
      have z2 : D1 57 5 = D 57 5 := by rw [r1 57 (by decide)]
      have ec : (c : Int).toNat = c := Int.toNat_natCast c
      refine T_iload_n dX7_rowMiles_4 rfl ?_
      refine T_aload_n dX7_rowMiles_5 rfl ?_
      refine T_getI dX7_rowMiles_6 flX7_115 rfl rfl ?_
      refine T_icmp_ge 30 dX7_rowMiles_9 (by decide) (by first | (unfold InR; omega) | (simp [st2, InR]; omega)) (by first | (unfold InR; omega) | (simp [st2, InR]; omega)) (fun hc9 => (by exfalso; omega)) (fun hc9 => ?_)
      refine T_aload_n dX7_rowMiles_12 rfl ?_
      refine T_getR dX7_rowMiles_13 flX7_41 rfl rfl ?_
      refine T_iload_n dX7_rowMiles_16 rfl ?_
      refine T_aload_n dX7_rowMiles_17 rfl ?_
      refine T_getR dX7_rowMiles_18 flX7_28 rfl rfl ?_
      refine T_iload_n dX7_rowMiles_21 rfl ?_
      refine T_iald dX7_rowMiles_22 rfl (by first | decide | omega) (by first | omega | (simp [st2]; omega)) (by first | omega | (simp [st2]; omega)) ?_
      refine T_iast dX7_rowMiles_23 rfl (by first | decide | omega) (by first | omega | (simp [st2]; omega)) (by first | omega | (simp [st2]; omega)) ?_
      refine T_iinc dX7_rowMiles_24 rfl (by decide) ?_
      refine T_goto (tgt := 4) dX7_rowMiles_27 (by decide) ?_
      rw [ec]
      refine ih (c + 1) _ _ (by omega) (fun r e => by rw [st2_row e]; exact r1 r e) (fun c' hc' => ?_)
      by_cases e : c' = c
      · subst e; rw [st2_at, r1 64 (by decide)]
      · rw [st2_ne e]; exact r2 c' (by omega)
  refine T_iconst dX7_rowMiles_0 ?_
  refine T_istore_n dX7_rowMiles_1 (by decide) ?_
  refine T_iconst dX7_rowMiles_2 ?_
  refine T_istore_n dX7_rowMiles_3 (by decide) ?_
  exact rooms (D 57 5).toNat 0 D none (by omega) (fun r _ => rfl) (fun c' hc' => by omega)
end

