/-- church c set down elsewhere -/
def mvD (D : DD) (c : Nat) (x y : Int) : DD := st2 (st2 D 62 c x) 63 c y
noncomputable def mvM (D : DD) (c : Nat) (x y : Int) : Int := mlM (mvD D c x y)
def PlM (D : DD) : Prop := (0 ≤ D 57 23 ∧ D 57 23 ≤ 8) ∧ ∀ p, (0 ≤ D 75 p ∧ D 75 p ≤ 60) ∧ (0 ≤ D 76 p ∧ D 76 p ≤ 60)
def okPM (D : DD) (c p : Nat) : Prop := mvM D c (D 75 p) (D 76 p) ≠ -9 ∧ (mlM D = -9 ∨ mvM D c (D 75 p) (D 76 p) < mlM D)
/-- only church c may stand elsewhere -/
def FrM (c : Nat) (D D1 : DD) : Prop := (∀ r, r ≠ 62 → r ≠ 63 → (r < 68 ∨ 74 < r) → D1 r = D r) ∧ ∀ j, j ≠ c → D1 62 j = D 62 j ∧ D1 63 j = D 63 j
theorem FrM.mv {c : Nat} {D D1 : DD} {x y : Int} (h : FrM c D D1) : ∀ r, (r < 68 ∨ 74 < r) → mvD D1 c x y r = mvD D c x y r := by
  intro r hr
  by_cases e : r = 63
  · subst e
    funext j
    unfold mvD
    by_cases z : j = c
    · subst z; rw [st2_at, st2_at]
    · rw [st2_ne z, st2_ne z, st2_row (by decide), st2_row (by decide)]; exact (h.2 j z).2
  · unfold mvD
    rw [st2_row e, st2_row e]
    by_cases e2 : r = 62
    · subst e2
      funext j
      by_cases z : j = c
      · subst z; rw [st2_at, st2_at]
      · rw [st2_ne z, st2_ne z]; exact (h.2 j z).1
    · rw [st2_row e2, st2_row e2]; exact h.1 r e2 e hr
theorem FrM.to {c : Nat} {D D1 : DD} {x y : Int} (h : FrM c D D1) : FrM c D (mvD D1 c x y) := by
  refine ⟨fun r e1 e2 hr => ?_, fun j hj => ?_⟩
  · unfold mvD; rw [st2_row e2, st2_row e1]; exact h.1 r e1 e2 hr
  · unfold mvD; rw [st2_row (show (62 : Nat) ≠ 63 by decide), st2_ne hj, st2_ne hj, st2_row (show (63 : Nat) ≠ 62 by decide)]; exact h.2 j hj
theorem FrM.fw {c : Nat} {D D1 D2 : DD} (h : FrM c D D1) (f : FrW D1 D2) : FrM c D D2 := by
  refine ⟨fun r e1 e2 hr => (f r (by omega)).trans (h.1 r e1 e2 hr), fun j hj => ?_⟩
  rw [f 62 (by omega), f 63 (by omega)]; exact h.2 j hj
theorem MK_mv {c : Nat} {D : DD} {x y : Int} (hL : MK D) (hx : 0 ≤ x ∧ x ≤ 60) (hy : 0 ≤ y ∧ y ≤ 60) : MK (mvD D c x y) := by
  obtain ⟨a1, a2, a3, a4, a5, a6, a7, a8, a9, a10, a11⟩ := hL
  unfold MK mvD
  refine ⟨a1, a2, a3, a4, a5, a6, a7, fun j => ?_, fun j => ?_, a10, a11⟩
  · rw [st2_row (by decide)]
    by_cases z : j = c
    · subst z; rw [st2_at]; exact hx
    · rw [st2_ne z]; exact a8 j
  · by_cases z : j = c
    · subst z; rw [st2_at]; exact hy
    · rw [st2_ne z, st2_row (by decide)]; exact a9 j
section
variable {g : G0} {d : Nat} {P : Option Value → List SC → DD → Prop} {D : DD}
theorem r_move {c : Int} (hL : MK D) (hP : PlM D) (hc : InR c) (kU : ¬ (0 ≤ c ∧ c < D 57 5) → P (some (iI (-1))) SH D) (kN : 0 ≤ c → c < D 57 5 → ∀ D' : DD, FrV D D' → ArgM (D 57 23).toNat (okPM D c.toNat) (fun p => mvM D c.toNat (D 75 p) (D 76 p)) (-9) → P (some (iI (-9))) SH D') (kk : 0 ≤ c → c < D 57 5 → ∀ (D' : DD) (p : Nat), (∀ r, (r < 68 ∨ 74 < r) → D' r = mvD D c.toNat (D 75 p) (D 76 p) r) → p < (D 57 23).toNat → ArgM (D 57 23).toNat (okPM D c.toNat) (fun p => mvM D c.toNat (D 75 p) (D 76 p)) p → P (some (iI p)) SH D') : TM g mX7_move (d + 5) P [.ref 57, iI c] D := by
  have hN := hL.1
  have hM := hL.2.1
  have hx0 := hL.2.2.2.2.2.2.2.1
  have hy0 := hL.2.2.2.2.2.2.2.2.1
  have loop : ∀ (c : Nat), (c : Int) < D 57 5 → (∀ D' : DD, FrV D D' → ArgM (D 57 23).toNat (okPM D c) (fun p => mvM D c (D 75 p) (D 76 p)) (-9) → P (some (iI (-9))) SH D') → (∀ (D' : DD) (p : Nat), (∀ r, (r < 68 ∨ 74 < r) → D' r = mvD D c (D 75 p) (D 76 p) r) → p < (D 57 23).toNat → ArgM (D 57 23).toNat (okPM D c) (fun p => mvM D c (D 75 p) (D 76 p)) p → P (some (iI p)) SH D') → ∀ (q p : Nat) (r l : Int) (D1 : DD) (m7 : Option Value), q + p = (D 57 23).toNat → FrM c D D1 → ArgM p (okPM D c) (fun p => mvM D c (D 75 p) (D 76 p)) r → LsI (fun p => mvM D c (D 75 p) (D 76 p)) (mlM D) r l → (mlM D = -9 ∨ (0 ≤ mlM D ∧ mlM D ≤ 360000)) → (l = -9 ∨ (0 ≤ l ∧ l ≤ 360000)) → T g mX7_move (rmd (d + 5) 0 0) 0 0 (Qm g (rmd (d + 5) 0 0) P) 37 [some (.ref 57), some (iI c), some (iI (D 62 c)), some (iI (D 63 c)), some (iI l), some (iI r), some (iI p), m7] [] SH D1 := by
    intro c hc kN kk q
    have ec : (c : Int).toNat = c := Int.toNat_natCast c
    induction q with
    | zero =>
      intro p r l D1 m7 hq fr hA hl hml hlb
      have hP0 := hP.1
      have z2 : D1 57 23 = D 57 23 := by rw [fr.1 57 (by decide) (by decide) (by decide)]
      obtain rfl : p = (D 57 23).toNat := by omega
      rcases id hA with ⟨rfl, -⟩ | ⟨i, rfl, a2, -, -⟩
      · skip
        refine T_iload dX7_move_37 rfl ?_
        refine T_aload_n dX7_move_39 rfl ?_
        refine T_getI dX7_move_40 flX7_239 rfl rfl ?_
        refine T_icmp_ge 109 dX7_move_43 (by decide) (by first | (unfold InR; omega) | (simp [st2, InR]; omega)) (by first | (unfold InR; omega) | (simp [st2, InR]; omega)) (fun hc43 => ?_) (fun hc43 => (by exfalso; omega))
        refine T_aload_n dX7_move_109 rfl ?_
        refine T_getR dX7_move_110 flX7_22 rfl rfl ?_
        refine T_iload_n dX7_move_113 rfl ?_
        refine T_iload dX7_move_114 rfl ?_
        refine T_if_ge 123 dX7_move_116 (by decide) (by first | (unfold InR; omega) | (simp [st2, InR]; omega)) (fun hc116 => (by exfalso; omega)) (fun hc116 => ?_)
        refine T_iload_n dX7_move_119 rfl ?_
        refine T_goto (tgt := 130) dX7_move_120 (by decide) ?_
        refine T_iast dX7_move_130 rfl (by first | decide | omega) (by first | omega | (simp [st2]; omega)) (by first | omega | (simp [st2]; omega)) ?_
        refine T_aload_n dX7_move_131 rfl ?_
        refine T_getR dX7_move_132 flX7_25 rfl rfl ?_
        refine T_iload_n dX7_move_135 rfl ?_
        refine T_iload dX7_move_136 rfl ?_
        refine T_if_ge 145 dX7_move_138 (by decide) (by first | (unfold InR; omega) | (simp [st2, InR]; omega)) (fun hc138 => (by exfalso; omega)) (fun hc138 => ?_)
        refine T_iload_n dX7_move_141 rfl ?_
        refine T_goto (tgt := 152) dX7_move_142 (by decide) ?_
        refine T_iast dX7_move_152 rfl (by first | decide | omega) (by first | omega | (simp [st2]; omega)) (by first | omega | (simp [st2]; omega)) ?_
        refine T_iload dX7_move_153 rfl ?_
        refine T_iret dX7_move_155 rfl ?_
        rw [ec]
        refine kN _ (fun r hr => ?_) hA
        have z := fr.mv (x := D 62 c) (y := D 63 c) r hr
        unfold mvD at z
        rw [z]
        by_cases e : r = 63
        · subst e; funext j
          by_cases y : j = c
          · subst y; rw [st2_at]
          · rw [st2_ne y, st2_row (by decide)]
        · rw [st2_row e]
          by_cases e2 : r = 62
          · subst e2; funext j
            by_cases y : j = c
            · subst y; rw [st2_at]
            · rw [st2_ne y]
          · rw [st2_row e2]
      · have ei : (i : Int).toNat = i := Int.toNat_natCast i
        have e75 : D1 75 (i : Int).toNat = D 75 i := by rw [ei, fr.1 75 (by decide) (by decide) (by decide)]
        have e76 : ∀ v, st2 D1 62 (c : Int).toNat v 76 (i : Int).toNat = D 76 i := fun v => by rw [st2_row (by decide), ei, fr.1 76 (by decide) (by decide) (by decide)]
        refine T_iload dX7_move_37 rfl ?_
        refine T_aload_n dX7_move_39 rfl ?_
        refine T_getI dX7_move_40 flX7_239 rfl rfl ?_
        refine T_icmp_ge 109 dX7_move_43 (by decide) (by first | (unfold InR; omega) | (simp [st2, InR]; omega)) (by first | (unfold InR; omega) | (simp [st2, InR]; omega)) (fun hc43 => ?_) (fun hc43 => (by exfalso; omega))
        refine T_aload_n dX7_move_109 rfl ?_
        refine T_getR dX7_move_110 flX7_22 rfl rfl ?_
        refine T_iload_n dX7_move_113 rfl ?_
        refine T_iload dX7_move_114 rfl ?_
        refine T_if_ge 123 dX7_move_116 (by decide) (by first | (unfold InR; omega) | (simp [st2, InR]; omega)) (fun hc116 => ?_) (fun hc116 => (by exfalso; omega))
        refine T_aload_n dX7_move_123 rfl ?_
        refine T_getR dX7_move_124 flX7_62 rfl rfl ?_
        refine T_iload dX7_move_127 rfl ?_
        refine T_iald dX7_move_129 rfl (by first | decide | omega) (by first | omega | (simp [st2]; omega)) (by first | omega | (simp [st2]; omega)) ?_
        rw [e75]
        refine T_iast dX7_move_130 rfl (by first | decide | omega) (by first | omega | (simp [st2]; omega)) (by first | omega | (simp [st2]; omega)) ?_
        refine T_aload_n dX7_move_131 rfl ?_
        refine T_getR dX7_move_132 flX7_25 rfl rfl ?_
        refine T_iload_n dX7_move_135 rfl ?_
        refine T_iload dX7_move_136 rfl ?_
        refine T_if_ge 145 dX7_move_138 (by decide) (by first | (unfold InR; omega) | (simp [st2, InR]; omega)) (fun hc138 => ?_) (fun hc138 => (by exfalso; omega))
        refine T_aload_n dX7_move_145 rfl ?_
        refine T_getR dX7_move_146 flX7_65 rfl rfl ?_
        refine T_iload dX7_move_149 rfl ?_
        refine T_iald dX7_move_151 rfl (by first | decide | omega) (by first | omega | (simp [st2]; omega)) (by first | omega | (simp [st2]; omega)) ?_
        rw [e76]
        refine T_iast dX7_move_152 rfl (by first | decide | omega) (by first | omega | (simp [st2]; omega)) (by first | omega | (simp [st2]; omega)) ?_
        refine T_iload dX7_move_153 rfl ?_
        refine T_iret dX7_move_155 rfl ?_
        rw [ec]
        exact kk _ i (fun r hr => fr.mv (x := D 75 i) (y := D 76 i) r hr) a2 hA
    | succ q ih =>
      intro p r l D1 m7 hq fr hA hl hml hlb
      have hP0 := hP.1
      have z2 : D1 57 23 = D 57 23 := by rw [fr.1 57 (by decide) (by decide) (by decide)]
      have ep : (p : Int).toNat = p := Int.toNat_natCast p
      have e75 : D1 75 (p : Int).toNat = D 75 p := by rw [ep, fr.1 75 (by decide) (by decide) (by decide)]
      have e76 : ∀ v, st2 D1 62 (c : Int).toNat v 76 (p : Int).toNat = D 76 p := fun v => by rw [st2_row (by decide), ep, fr.1 76 (by decide) (by decide) (by decide)]
      have hPp := hP.2 p
      have fr' : FrM c D (mvD D1 c (D 75 p) (D 76 p)) := fr.to
      have ml : ∀ a, 57 ≤ a → a ≤ 65 → mvD D1 c (D 75 p) (D 76 p) a = mvD D c (D 75 p) (D 76 p) a := fun a h1 h2 => fr.mv a (by omega)
      have hLm : MK (mvD D1 c (D 75 p) (D 76 p)) := MK_fr ml (MK_mv hL hPp.1 hPp.2)
      have em : mlM (mvD D1 c (D 75 p) (D 76 p)) = mvM D c (D 75 p) (D 76 p) := (mlM_of ml).1
      have rg := hA.rg
      have hok : 0 ≤ mvM D c (D 75 p) (D 76 p) → (l < 0 ∨ mvM D c (D 75 p) (D 76 p) < l) → ArgM (p + 1) (okPM D c) (fun p => mvM D c (D 75 p) (D 76 p)) p ∧ LsI (fun p => mvM D c (D 75 p) (D 76 p)) (mlM D) p (mvM D c (D 75 p) (D 76 p)) := by
        intro h0 h1
        have k : okPM D c p := by
          refine ⟨by omega, ?_⟩
          rcases hl with ⟨y1, y2⟩ | ⟨y1, y2⟩
          · omega
          · rcases hA.rng with w | ⟨w1, w2, w3⟩
            · omega
            · have := w3.1; have := w3.2; simp only at y2; omega
        refine ⟨hA.take k (fun i hi e => ?_), Or.inr ⟨by omega, by rw [Int.toNat_natCast]⟩⟩
        rcases hl with ⟨y1, y2⟩ | ⟨y1, y2⟩
        · omega
        · subst e
          rw [Int.toNat_natCast] at y2
          rcases hA.rng with w | ⟨w1, w2, w3⟩
          · omega
          · have w4 := w3.1
            rw [Int.toNat_natCast] at w4
            simp only at y2
            show mvM D c (D 75 p) (D 76 p) < mvM D c (D 75 i) (D 76 i)
            omega
      have hsk : (mvM D c (D 75 p) (D 76 p) < 0 ∨ (0 ≤ l ∧ l ≤ mvM D c (D 75 p) (D 76 p))) → (mvM D c (D 75 p) (D 76 p) = -9 ∨ 0 ≤ mvM D c (D 75 p) (D 76 p)) → ArgM (p + 1) (okPM D c) (fun p => mvM D c (D 75 p) (D 76 p)) r := by
        intro z z2
        refine hA.skip (fun k => ?_)
        have k1 := k.1
        have k2 := k.2
        rcases hl with ⟨y1, y2⟩ | ⟨y1, y2⟩
        · omega
        · exact ⟨r.toNat, by omega, by show mvM D c (D 75 r.toNat) (D 76 r.toNat) ≤ mvM D c (D 75 p) (D 76 p); simp only at y2; omega⟩
      refine T_iload dX7_move_37 rfl ?_
      refine T_aload_n dX7_move_39 rfl ?_
      refine T_getI dX7_move_40 flX7_239 rfl rfl ?_
      refine T_icmp_ge 109 dX7_move_43 (by decide) (by first | (unfold InR; omega) | (simp [st2, InR]; omega)) (by first | (unfold InR; omega) | (simp [st2, InR]; omega)) (fun hc43 => (by exfalso; omega)) (fun hc43 => ?_)
      refine T_aload_n dX7_move_46 rfl ?_
      refine T_getR dX7_move_47 flX7_22 rfl rfl ?_
      refine T_iload_n dX7_move_50 rfl ?_
      refine T_aload_n dX7_move_51 rfl ?_
      refine T_getR dX7_move_52 flX7_62 rfl rfl ?_
      refine T_iload dX7_move_55 rfl ?_
      refine T_iald dX7_move_57 rfl (by first | decide | omega) (by first | omega | (simp [st2]; omega)) (by first | omega | (simp [st2]; omega)) ?_
      rw [e75]
      refine T_iast dX7_move_58 rfl (by first | decide | omega) (by first | omega | (simp [st2]; omega)) (by first | omega | (simp [st2]; omega)) ?_
      refine T_aload_n dX7_move_59 rfl ?_
      refine T_getR dX7_move_60 flX7_25 rfl rfl ?_
      refine T_iload_n dX7_move_63 rfl ?_
      refine T_aload_n dX7_move_64 rfl ?_
      refine T_getR dX7_move_65 flX7_65 rfl rfl ?_
      refine T_iload dX7_move_68 rfl ?_
      refine T_iald dX7_move_70 rfl (by first | decide | omega) (by first | omega | (simp [st2]; omega)) (by first | omega | (simp [st2]; omega)) ?_
      rw [e76]
      refine T_iast dX7_move_71 rfl (by first | decide | omega) (by first | omega | (simp [st2]; omega)) (by first | omega | (simp [st2]; omega)) ?_
      refine T_aload_n dX7_move_72 rfl ?_
      rw [ec]
      show T _ _ _ _ _ _ _ _ _ _ (mvD D1 c (D 75 p) (D 76 p))
      refine T_cV_0 dX7_move_73 lkX7_207 rfl (Nat.le_of_ble_eq_true rfl) (RO_r (by decide)) (Nat.le_of_ble_eq_true rfl) ?_
      refine r_milesNow hLm (fun D2 f2 rr => ?_)
      rw [em] at rr ⊢
      have fr2 := fr'.fw f2
      refine T_istore dX7_move_76 (by decide) ?_
      refine T_iload dX7_move_78 rfl ?_
      refine T_if_lt 103 dX7_move_80 (by decide) (by unfold InR; omega) (fun hc80 => ?_) (fun hc80 => ?_)
      · refine T_iinc dX7_move_103 rfl (by decide) ?_
        refine T_goto (tgt := 37) dX7_move_106 (by decide) ?_
        first
        | exact ih (p + 1) r l D2 _ (by omega) fr2 (hsk (by omega) (by omega)) hl hml hlb
        | (have z := hok (by omega) (by omega)
           exact ih (p + 1) p _ D2 _ (by omega) fr2 z.1 z.2 hml (by omega))
      · refine T_iload dX7_move_83 rfl ?_
        refine T_if_lt 95 dX7_move_85 (by decide) (by unfold InR; omega) (fun hc85 => ?_) (fun hc85 => ?_)
        · refine T_iload dX7_move_95 rfl ?_
          refine T_istore dX7_move_97 (by decide) ?_
          refine T_iload dX7_move_99 rfl ?_
          refine T_istore dX7_move_101 (by decide) ?_
          refine T_iinc dX7_move_103 rfl (by decide) ?_
          refine T_goto (tgt := 37) dX7_move_106 (by decide) ?_
          first
          | exact ih (p + 1) r l D2 _ (by omega) fr2 (hsk (by omega) (by omega)) hl hml hlb
          | (have z := hok (by omega) (by omega)
             exact ih (p + 1) p _ D2 _ (by omega) fr2 z.1 z.2 hml (by omega))
        · refine T_iload dX7_move_88 rfl ?_
          refine T_iload dX7_move_90 rfl ?_
          refine T_icmp_ge 103 dX7_move_92 (by decide) (by unfold InR; omega) (by unfold InR; omega) (fun hc92 => ?_) (fun hc92 => ?_)
          · refine T_iinc dX7_move_103 rfl (by decide) ?_
            refine T_goto (tgt := 37) dX7_move_106 (by decide) ?_
            first
            | exact ih (p + 1) r l D2 _ (by omega) fr2 (hsk (by omega) (by omega)) hl hml hlb
            | (have z := hok (by omega) (by omega)
               exact ih (p + 1) p _ D2 _ (by omega) fr2 z.1 z.2 hml (by omega))
          · refine T_iload dX7_move_95 rfl ?_
            refine T_istore dX7_move_97 (by decide) ?_
            refine T_iload dX7_move_99 rfl ?_
            refine T_istore dX7_move_101 (by decide) ?_
            refine T_iinc dX7_move_103 rfl (by decide) ?_
            refine T_goto (tgt := 37) dX7_move_106 (by decide) ?_
            first
            | exact ih (p + 1) r l D2 _ (by omega) fr2 (hsk (by omega) (by omega)) hl hml hlb
            | (have z := hok (by omega) (by omega)
               exact ih (p + 1) p _ D2 _ (by omega) fr2 z.1 z.2 hml (by omega))
  refine T_aload_n dX7_move_0 rfl ?_
  refine T_iload_n dX7_move_1 rfl ?_
  refine T_cV_1 dX7_move_2 lkX7_173 rfl (Nat.le_of_ble_eq_true rfl) (RO_r (by decide)) (Nat.le_of_ble_eq_true rfl) ?_
  refine r_noChurch hc hM (fun h1 h2 => ?_) (fun h1 => ?_)
  · refine T_if_eq 10 dX7_move_5 (by decide) (by unfold InR; decide) (fun _ => ?_) (fun h => absurd (by decide) h)
    refine T_aload_n dX7_move_10 rfl ?_
    refine T_getR dX7_move_11 flX7_22 rfl rfl ?_
    refine T_iload_n dX7_move_14 rfl ?_
    refine T_iald dX7_move_15 rfl (by first | decide | omega) (by first | omega | (simp [st2]; omega)) (by first | omega | (simp [st2]; omega)) ?_
    refine T_istore_n dX7_move_16 (by decide) ?_
    refine T_aload_n dX7_move_17 rfl ?_
    refine T_getR dX7_move_18 flX7_25 rfl rfl ?_
    refine T_iload_n dX7_move_21 rfl ?_
    refine T_iald dX7_move_22 rfl (by first | decide | omega) (by first | omega | (simp [st2]; omega)) (by first | omega | (simp [st2]; omega)) ?_
    refine T_istore_n dX7_move_23 (by decide) ?_
    refine T_aload_n dX7_move_24 rfl ?_
    refine T_cV_0 dX7_move_25 lkX7_207 rfl (Nat.le_of_ble_eq_true rfl) (RO_r (by decide)) (Nat.le_of_ble_eq_true rfl) ?_
    refine r_milesNow hL (fun D1 f1 rr => ?_)
    refine T_istore dX7_move_28 (by decide) ?_
    refine T_bipush dX7_move_30 (by decide) ?_
    refine T_istore dX7_move_32 (by decide) ?_
    refine T_iconst dX7_move_34 ?_
    refine T_istore dX7_move_35 (by decide) ?_
    obtain ⟨c, rfl⟩ : ∃ k : Nat, c = k := ⟨c.toNat, by omega⟩
    rw [Int.toNat_natCast] at kN kk ⊢
    have hP0 := hP.1
    exact loop c h2 (fun D' w1 w2 => kN h1 h2 D' w1 w2) (fun D' p w1 w2 w3 => kk h1 h2 D' p w1 w2 w3) (D 57 23).toNat 0 (-9) (mlM D) D1 none (by omega) (FrM.fw ⟨fun _ _ _ _ => rfl, fun _ _ => ⟨rfl, rfl⟩⟩ f1) ArgM.zero (Or.inl ⟨rfl, rfl⟩) rr rr
  · refine T_if_eq 10 dX7_move_5 (by decide) (by unfold InR; decide) (fun h => absurd h (by decide)) (fun _ => ?_)
    refine T_iconst dX7_move_8 ?_
    refine T_iret dX7_move_9 rfl ?_
    exact kU (by omega)
end

