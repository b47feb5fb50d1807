/-! the reference's sending -/
abbrev fR (D : DD) (h c : Nat) : Int := D 69 (5 * h + c)
abbrev xR (D : DD) (h c : Nat) : Int := D 70 (5 * h + c)
abbrev alR (D : DD) (h c : Nat) : Prop := fR D h c < 100000000
/-- what the reference's rows of costs and rooms hold -/
def RnK (D : DD) : Prop := (0 ≤ D 57 1 ∧ D 57 1 ≤ 10) ∧ (0 ≤ D 57 5 ∧ D 57 5 ≤ 5) ∧ (∀ h c, h < (D 57 1).toNat → c < (D 57 5).toNat → (0 ≤ fR D h c ∧ fR D h c ≤ 7200) ∨ fR D h c = 100000000) ∧ (∀ h, 0 ≤ D 60 h ∧ D 60 h ≤ 5) ∧ ∀ c, c < (D 57 5).toNat → 0 ≤ D 68 c ∧ D 68 c ≤ 51
theorem RnK.of {D D1 : DD} (h : RnK D) (e0 : D1 57 = D 57) (e1 : D1 60 = D 60) (e2 : D1 68 = D 68) (e3 : D1 69 = D 69) : RnK D1 := by unfold RnK fR; rw [e0, e1, e2, e3]; exact h
def SitR (D : DD) : Prop := ∀ h c, h < (D 57 1).toNat → c < (D 57 5).toNat → 0 ≤ xR D h c ∧ xR D h c ≤ 5 ∧ (0 < xR D h c → alR D h c)
/-- who moves at the least from a to b -/
def okV (D : DD) (a b g : Nat) : Prop := 0 < xR D g a ∧ fR D g b < 100000000
abbrev byV (D : DD) (a b g : Nat) : Int := fR D g b - fR D g a
noncomputable def mvV (D : DD) (a b : Nat) : Nat := (Classical.epsilon (ArgM (D 57 1).toNat (okV D a b) (byV D a b))).toNat
theorem mvV_eq {D : DD} {a b : Nat} {r : Int} (h : ArgM (D 57 1).toNat (okV D a b) (byV D a b) r) : mvV D a b = r.toNat := by
  unfold mvV
  rw [(Classical.epsilon_spec (p := ArgM (D 57 1).toNat (okV D a b) (byV D a b)) ⟨r, h⟩).uniq h]
section
variable {g : G0} {d : Nat} {P : Option Value → List SC → DD → Prop} {D : DD}
theorem r_takenIn {c : Nat} (hN : 0 ≤ D 57 1 ∧ D 57 1 ≤ 10) (hc : c < 5) (hk : P (some (iI (sm (D 57 1).toNat (fun h => xR D h c)))) SH D) : TM g mX7_takenIn d P [.ref 57, iI c] D := by
  have loop : ∀ (q h : Nat), q + h = (D 57 1).toNat → T g mX7_takenIn (rmd d 0 0) 0 0 (Qm g (rmd d 0 0) P) 4 [some (.ref 57), some (iI c), some (iI (sm h (fun h => xR D h c))), some (iI h)] [] SH D := by
    intro q
    induction q with
    | zero =>
      intro h hq
      refine T_iload_n dX7_takenIn_4 rfl ?_
      refine T_aload_n dX7_takenIn_5 rfl ?_
      refine T_getI dX7_takenIn_6 flX7_112 rfl rfl ?_
      refine T_icmp_ge 31 dX7_takenIn_9 (by decide) (by first | (unfold InR; omega) | (simp [st2, InR]; omega)) (by first | (unfold InR; omega) | (simp [st2, InR]; omega)) (fun hc9 => ?_) (fun hc9 => (by exfalso; omega))
      refine T_iload_n dX7_takenIn_31 rfl ?_
      refine T_iret dX7_takenIn_32 rfl ?_
      rw [show h = (D 57 1).toNat by omega]; exact hk
    | succ q ih =>
      intro h hq
      have ix : (5 * (h : Int) + c).toNat = 5 * h + c := by omega
      have e : sm (h + 1) (fun h => xR D h c) = sm h (fun h => xR D h c) + D 70 (5 * (h : Int) + c).toNat := by rw [ix]; rfl
      refine T_iload_n dX7_takenIn_4 rfl ?_
      refine T_aload_n dX7_takenIn_5 rfl ?_
      refine T_getI dX7_takenIn_6 flX7_112 rfl rfl ?_
      refine T_icmp_ge 31 dX7_takenIn_9 (by decide) (by first | (unfold InR; omega) | (simp [st2, InR]; omega)) (by first | (unfold InR; omega) | (simp [st2, InR]; omega)) (fun hc9 => (by exfalso; omega)) (fun hc9 => ?_)
      refine T_iload_n dX7_takenIn_12 rfl ?_
      refine T_aload_n dX7_takenIn_13 rfl ?_
      refine T_getR dX7_takenIn_14 flX7_47 rfl rfl ?_
      refine T_iconst dX7_takenIn_17 ?_
      refine T_iload_n dX7_takenIn_18 rfl ?_
      refine T_imul dX7_takenIn_19 ?_
      refine T_iload_n dX7_takenIn_20 rfl ?_
      refine T_iadd dX7_takenIn_21 ?_
      refine T_iald dX7_takenIn_22 rfl (by first | decide | omega) (by first | omega | (simp [st2]; omega)) (by first | omega | (simp [st2]; omega)) ?_
      refine T_iadd dX7_takenIn_23 ?_
      refine T_istore_n dX7_takenIn_24 (by decide) ?_
      refine T_iinc dX7_takenIn_25 rfl (by decide) ?_
      refine T_goto (tgt := 4) dX7_takenIn_28 (by decide) ?_
      rw [← e]
      exact ih (h + 1) (by omega)
  refine T_iconst dX7_takenIn_0 ?_
  refine T_istore_n dX7_takenIn_1 (by decide) ?_
  refine T_iconst dX7_takenIn_2 ?_
  refine T_istore_n dX7_takenIn_3 (by decide) ?_
  exact loop (D 57 1).toNat 0 (by omega)
theorem r_moverOf {a b : Nat} (hK : RnK D) (hI : SitR D) (ha : a < (D 57 5).toNat) (hb : b < (D 57 5).toNat) (hk : ∀ r, ArgM (D 57 1).toNat (okV D a b) (byV D a b) r → P (some (iI r)) SH D) : TM g mX7_moverOf d P [.ref 57, iI a, iI b] D := by
  have hN := hK.1
  have hM := hK.2.1
  have loop : ∀ (q h : Nat) (r l : Int) (m6 : Option Value), q + h = (D 57 1).toNat → ArgM h (okV D a b) (byV D a b) r → LsI (byV D a b) 100000000 r l → l = 100000000 ∨ (-7200 ≤ l ∧ l ≤ 7200) → T g mX7_moverOf (rmd d 0 0) 0 0 (Qm g (rmd d 0 0) P) 10 [some (.ref 57), some (iI a), some (iI b), some (iI r), some (iI l), some (iI h), m6] [] SH D := by
    intro q
    induction q with
    | zero =>
      intro h r l m6 hq hA hl hb
      refine T_iload dX7_moverOf_10 rfl ?_
      refine T_aload_n dX7_moverOf_12 rfl ?_
      refine T_getI dX7_moverOf_13 flX7_112 rfl rfl ?_
      refine T_icmp_ge 110 dX7_moverOf_16 (by decide) (by first | (unfold InR; omega) | (simp [st2, InR]; omega)) (by first | (unfold InR; omega) | (simp [st2, InR]; omega)) (fun hc16 => ?_) (fun hc16 => (by exfalso; omega))
      refine T_iload_n dX7_moverOf_110 rfl ?_
      refine T_iret dX7_moverOf_111 rfl ?_
      exact hk r (by rw [show (D 57 1).toNat = h by omega]; exact hA)
    | succ q ih =>
      intro h r l m6 hq hA hl hlb
      have ia : (5 * (h : Int) + a).toNat = 5 * h + a := by omega
      have ib : (5 * (h : Int) + b).toNat = 5 * h + b := by omega
      have ea : D 69 (5 * (h : Int) + a).toNat = fR D h a := by rw [ia]
      have eb : D 69 (5 * (h : Int) + b).toNat = fR D h b := by rw [ib]
      have ex : D 70 (5 * (h : Int) + a).toNat = xR D h a := by rw [ia]
      have ka := hK.2.2.1 h a (by omega) ha
      have kb := hK.2.2.1 h b (by omega) hb
      have kx := hI h a (by omega) ha
      have ok1 : ¬ 0 < xR D h a → ¬ okV D a b h := fun z q => z q.1
      have ok2 : ¬ fR D h b < 100000000 → ¬ okV D a b h := fun z q => z q.2
      have ok3 : 0 < xR D h a → fR D h b < 100000000 → okV D a b h := fun z q => ⟨z, q⟩
      clear hk
      refine T_iload dX7_moverOf_10 rfl ?_
      refine T_aload_n dX7_moverOf_12 rfl ?_
      refine T_getI dX7_moverOf_13 flX7_112 rfl rfl ?_
      refine T_icmp_ge 110 dX7_moverOf_16 (by decide) (by first | (unfold InR; omega) | (simp [st2, InR]; omega)) (by first | (unfold InR; omega) | (simp [st2, InR]; omega)) (fun hc16 => (by exfalso; omega)) (fun hc16 => ?_)
      refine T_aload_n dX7_moverOf_19 rfl ?_
      refine T_getR dX7_moverOf_20 flX7_47 rfl rfl ?_
      refine T_iconst dX7_moverOf_23 ?_
      refine T_iload dX7_moverOf_24 rfl ?_
      refine T_imul dX7_moverOf_26 ?_
      refine T_iload_n dX7_moverOf_27 rfl ?_
      refine T_iadd dX7_moverOf_28 ?_
      refine T_iald dX7_moverOf_29 rfl (by first | decide | omega) (by first | omega | (simp [st2]; omega)) (by first | omega | (simp [st2]; omega)) ?_
      refine T_if_le 104 dX7_moverOf_30 (by decide) (by rw [ex]; unfold InR; omega) (fun hc30 => ?_) (fun hc30 => ?_)
      · rw [ex] at hc30
        refine T_iinc dX7_moverOf_104 rfl (by decide) ?_
        refine T_goto (tgt := 10) dX7_moverOf_107 (by decide) ?_
        first
        | (exfalso; omega)
        | exact ih (h + 1) r l _ (by omega) (hA.ge hl (fun z => absurd z (ok1 (by omega)))) hl hlb
        | exact ih (h + 1) r l _ (by omega) (hA.ge hl (fun z => absurd z (ok2 (by omega)))) hl hlb
        | exact ih (h + 1) r l _ (by omega) (hA.ge hl (fun z => ⟨by show fR D h b - fR D h a < _; omega, by show _ ≤ fR D h b - fR D h a; omega⟩)) hl hlb
        | (have z := hA.lt hl (ok3 (by omega) (by omega)) (show fR D h b - fR D h a < l by omega)
           rw [ea, eb]
           exact ih (h + 1) _ _ _ (by omega) z.1 z.2 (Or.inr (show -7200 ≤ fR D h b - fR D h a ∧ fR D h b - fR D h a ≤ 7200 by omega)))
      · rw [ex] at hc30
        refine T_aload_n dX7_moverOf_33 rfl ?_
        refine T_getR dX7_moverOf_34 flX7_44 rfl rfl ?_
        refine T_iconst dX7_moverOf_37 ?_
        refine T_iload dX7_moverOf_38 rfl ?_
        refine T_imul dX7_moverOf_40 ?_
        refine T_iload_n dX7_moverOf_41 rfl ?_
        refine T_iadd dX7_moverOf_42 ?_
        refine T_iald dX7_moverOf_43 rfl (by first | decide | omega) (by first | omega | (simp [st2]; omega)) (by first | omega | (simp [st2]; omega)) ?_
        refine T_ldc (n := 100000000) dX7_moverOf_44 tk_995 ?_
        refine T_icmp_ge 104 dX7_moverOf_46 (by decide) (by rw [eb]; unfold InR; omega) (by first | (unfold InR; omega) | (simp [st2, InR]; omega)) (fun hc46 => ?_) (fun hc46 => ?_)
        · rw [eb] at hc46
          refine T_iinc dX7_moverOf_104 rfl (by decide) ?_
          refine T_goto (tgt := 10) dX7_moverOf_107 (by decide) ?_
          first
          | (exfalso; omega)
          | exact ih (h + 1) r l _ (by omega) (hA.ge hl (fun z => absurd z (ok1 (by omega)))) hl hlb
          | exact ih (h + 1) r l _ (by omega) (hA.ge hl (fun z => absurd z (ok2 (by omega)))) hl hlb
          | exact ih (h + 1) r l _ (by omega) (hA.ge hl (fun z => ⟨by show fR D h b - fR D h a < _; omega, by show _ ≤ fR D h b - fR D h a; omega⟩)) hl hlb
          | (have z := hA.lt hl (ok3 (by omega) (by omega)) (show fR D h b - fR D h a < l by omega)
             rw [ea, eb]
             exact ih (h + 1) _ _ _ (by omega) z.1 z.2 (Or.inr (show -7200 ≤ fR D h b - fR D h a ∧ fR D h b - fR D h a ≤ 7200 by omega)))
        · rw [eb] at hc46
          have kx3 : fR D h a < 100000000 := kx.2.2 (by omega)
          refine T_aload_n dX7_moverOf_49 rfl ?_
          refine T_getR dX7_moverOf_50 flX7_44 rfl rfl ?_
          refine T_iconst dX7_moverOf_53 ?_
          refine T_iload dX7_moverOf_54 rfl ?_
          refine T_imul dX7_moverOf_56 ?_
          refine T_iload_n dX7_moverOf_57 rfl ?_
          refine T_iadd dX7_moverOf_58 ?_
          refine T_iald dX7_moverOf_59 rfl (by first | decide | omega) (by first | omega | (simp [st2]; omega)) (by first | omega | (simp [st2]; omega)) ?_
          refine T_aload_n dX7_moverOf_60 rfl ?_
          refine T_getR dX7_moverOf_61 flX7_44 rfl rfl ?_
          refine T_iconst dX7_moverOf_64 ?_
          refine T_iload dX7_moverOf_65 rfl ?_
          refine T_imul dX7_moverOf_67 ?_
          refine T_iload_n dX7_moverOf_68 rfl ?_
          refine T_iadd dX7_moverOf_69 ?_
          refine T_iald dX7_moverOf_70 rfl (by first | decide | omega) (by first | omega | (simp [st2]; omega)) (by first | omega | (simp [st2]; omega)) ?_
          refine T_isub dX7_moverOf_71 ?_
          refine T_istore dX7_moverOf_72 (by decide) ?_
          refine T_iload dX7_moverOf_74 rfl ?_
          refine T_iload dX7_moverOf_76 rfl ?_
          refine T_icmp_ge 86 dX7_moverOf_78 (by decide) (by rw [ea, eb]; unfold InR; omega) (by unfold InR; omega) (fun hc78 => ?_) (fun hc78 => ?_)
          · rw [ea, eb] at hc78
            refine T_iload_n dX7_moverOf_86 rfl ?_
            refine T_istore_n dX7_moverOf_87 (by decide) ?_
            refine T_iload dX7_moverOf_88 rfl ?_
            refine T_iload dX7_moverOf_90 rfl ?_
            refine T_icmp_ge 100 dX7_moverOf_92 (by decide) (by rw [ea, eb]; unfold InR; omega) (by unfold InR; omega) (fun hc92 => ?_) (fun hc92 => ?_)
            · rw [ea, eb] at hc92
              refine T_iload dX7_moverOf_100 rfl ?_
              refine T_istore dX7_moverOf_102 (by decide) ?_
              refine T_iinc dX7_moverOf_104 rfl (by decide) ?_
              refine T_goto (tgt := 10) dX7_moverOf_107 (by decide) ?_
              first
              | (exfalso; omega)
              | exact ih (h + 1) r l _ (by omega) (hA.ge hl (fun z => absurd z (ok1 (by omega)))) hl hlb
              | exact ih (h + 1) r l _ (by omega) (hA.ge hl (fun z => absurd z (ok2 (by omega)))) hl hlb
              | exact ih (h + 1) r l _ (by omega) (hA.ge hl (fun z => ⟨by show fR D h b - fR D h a < _; omega, by show _ ≤ fR D h b - fR D h a; omega⟩)) hl hlb
              | (have z := hA.lt hl (ok3 (by omega) (by omega)) (show fR D h b - fR D h a < l by omega)
                 rw [ea, eb]
                 exact ih (h + 1) _ _ _ (by omega) z.1 z.2 (Or.inr (show -7200 ≤ fR D h b - fR D h a ∧ fR D h b - fR D h a ≤ 7200 by omega)))
            · rw [ea, eb] at hc92
              refine T_iload dX7_moverOf_95 rfl ?_
              refine T_goto (tgt := 102) dX7_moverOf_97 (by decide) ?_
              refine T_istore dX7_moverOf_102 (by decide) ?_
              refine T_iinc dX7_moverOf_104 rfl (by decide) ?_
              refine T_goto (tgt := 10) dX7_moverOf_107 (by decide) ?_
              first
              | (exfalso; omega)
              | exact ih (h + 1) r l _ (by omega) (hA.ge hl (fun z => absurd z (ok1 (by omega)))) hl hlb
              | exact ih (h + 1) r l _ (by omega) (hA.ge hl (fun z => absurd z (ok2 (by omega)))) hl hlb
              | exact ih (h + 1) r l _ (by omega) (hA.ge hl (fun z => ⟨by show fR D h b - fR D h a < _; omega, by show _ ≤ fR D h b - fR D h a; omega⟩)) hl hlb
              | (have z := hA.lt hl (ok3 (by omega) (by omega)) (show fR D h b - fR D h a < l by omega)
                 rw [ea, eb]
                 exact ih (h + 1) _ _ _ (by omega) z.1 z.2 (Or.inr (show -7200 ≤ fR D h b - fR D h a ∧ fR D h b - fR D h a ≤ 7200 by omega)))
          · rw [ea, eb] at hc78
            refine T_iload dX7_moverOf_81 rfl ?_
            refine T_goto (tgt := 87) dX7_moverOf_83 (by decide) ?_
            refine T_istore_n dX7_moverOf_87 (by decide) ?_
            refine T_iload dX7_moverOf_88 rfl ?_
            refine T_iload dX7_moverOf_90 rfl ?_
            refine T_icmp_ge 100 dX7_moverOf_92 (by decide) (by rw [ea, eb]; unfold InR; omega) (by unfold InR; omega) (fun hc92 => ?_) (fun hc92 => ?_)
            · rw [ea, eb] at hc92
              refine T_iload dX7_moverOf_100 rfl ?_
              refine T_istore dX7_moverOf_102 (by decide) ?_
              refine T_iinc dX7_moverOf_104 rfl (by decide) ?_
              refine T_goto (tgt := 10) dX7_moverOf_107 (by decide) ?_
              first
              | (exfalso; omega)
              | exact ih (h + 1) r l _ (by omega) (hA.ge hl (fun z => absurd z (ok1 (by omega)))) hl hlb
              | exact ih (h + 1) r l _ (by omega) (hA.ge hl (fun z => absurd z (ok2 (by omega)))) hl hlb
              | exact ih (h + 1) r l _ (by omega) (hA.ge hl (fun z => ⟨by show fR D h b - fR D h a < _; omega, by show _ ≤ fR D h b - fR D h a; omega⟩)) hl hlb
              | (have z := hA.lt hl (ok3 (by omega) (by omega)) (show fR D h b - fR D h a < l by omega)
                 rw [ea, eb]
                 exact ih (h + 1) _ _ _ (by omega) z.1 z.2 (Or.inr (show -7200 ≤ fR D h b - fR D h a ∧ fR D h b - fR D h a ≤ 7200 by omega)))
            · rw [ea, eb] at hc92
              refine T_iload dX7_moverOf_95 rfl ?_
              refine T_goto (tgt := 102) dX7_moverOf_97 (by decide) ?_
              refine T_istore dX7_moverOf_102 (by decide) ?_
              refine T_iinc dX7_moverOf_104 rfl (by decide) ?_
              refine T_goto (tgt := 10) dX7_moverOf_107 (by decide) ?_
              first
              | (exfalso; omega)
              | exact ih (h + 1) r l _ (by omega) (hA.ge hl (fun z => absurd z (ok1 (by omega)))) hl hlb
              | exact ih (h + 1) r l _ (by omega) (hA.ge hl (fun z => absurd z (ok2 (by omega)))) hl hlb
              | exact ih (h + 1) r l _ (by omega) (hA.ge hl (fun z => ⟨by show fR D h b - fR D h a < _; omega, by show _ ≤ fR D h b - fR D h a; omega⟩)) hl hlb
              | (have z := hA.lt hl (ok3 (by omega) (by omega)) (show fR D h b - fR D h a < l by omega)
                 rw [ea, eb]
                 exact ih (h + 1) _ _ _ (by omega) z.1 z.2 (Or.inr (show -7200 ≤ fR D h b - fR D h a ∧ fR D h b - fR D h a ≤ 7200 by omega)))
  refine T_bipush dX7_moverOf_0 (by decide) ?_
  refine T_istore_n dX7_moverOf_2 (by decide) ?_
  refine T_ldc (n := 100000000) dX7_moverOf_3 tk_995 ?_
  refine T_istore dX7_moverOf_5 (by decide) ?_
  refine T_iconst dX7_moverOf_7 ?_
  refine T_istore dX7_moverOf_8 (by decide) ?_
  exact loop (D 57 1).toNat 0 (-9) 100000000 none (by omega) ArgM.zero (Or.inl ⟨rfl, rfl⟩) (Or.inl rfl)
/-- the costs of a limit -/
noncomputable def farL (D : DD) (L : Int) (h c : Nat) : Int := cif (brM D h c ∨ L < farM D h c) 100000000 (farM D h c)
theorem r_layCosts {L : Int} (hL : MK D) (hl : InR L) (hk : ∀ D' : DD, (∀ r, r ≠ 68 → r ≠ 69 → D' r = D r) → (∀ c, c < (D 57 5).toNat → D' 68 c = D 64 c) → (∀ h c, h < (D 57 1).toNat → c < (D 57 5).toNat → fR D' h c = farL D L h c) → P none SH D') : TM g mX7_layCosts (d + 2) P [.ref 57, iI L] D := by
  have hN := hL.1
  have hM := hL.2.1
  have inner : ∀ (c : Nat), c < (D 57 5).toNat → (∀ (D1 : DD) (m3 m4 : Option Value), (∀ r, r ≠ 68 → r ≠ 69 → D1 r = D r) → (∀ c', c' < c + 1 → D1 68 c' = D 64 c') → (∀ h c', h < (D 57 1).toNat → c' < c + 1 → fR D1 h c' = farL D L h c') → T g mX7_layCosts (rmd (d + 2) 0 0) 0 0 (Qm g (rmd (d + 2) 0 0) P) 2 [some (.ref 57), some (iI L), some (iI ((c + 1 : Nat) : Int)), m3, m4] [] SH D1) → ∀ (q h : Nat) (D1 : DD) (m4 : Option Value), q + h = (D 57 1).toNat → (∀ r, r ≠ 68 → r ≠ 69 → D1 r = D r) → (∀ c', c' < c + 1 → D1 68 c' = D 64 c') → (∀ h c', h < (D 57 1).toNat → c' < c → fR D1 h c' = farL D L h c') → (∀ h', h' < h → fR D1 h' c = farL D L h' c) → T g mX7_layCosts (rmd (d + 2) 0 0) 0 0 (Qm g (rmd (d + 2) 0 0) P) 24 [some (.ref 57), some (iI L), some (iI c), some (iI h), m4] [] SH D1 := by
    intro c hc K q
    induction q with
    | zero =>
      intro h D1 m4 hq r1 r2 r3 r4
      have z1 : D1 57 = D 57 := r1 57 (by decide) (by decide)
      have z2 : D1 57 1 = D 57 1 := by rw [z1]
      refine T_iload_n dX7_layCosts_24 rfl ?_
      refine T_aload_n dX7_layCosts_25 rfl ?_
      refine T_getI dX7_layCosts_26 flX7_112 rfl rfl ?_
      refine T_icmp_ge 93 dX7_layCosts_29 (by decide) (by first | (unfold InR; omega) | (simp [st2, InR]; omega)) (by first | (unfold InR; omega) | (simp [st2, InR]; omega)) (fun hc29 => ?_) (fun hc29 => (by exfalso; omega))
      refine T_iinc dX7_layCosts_93 rfl (by decide) ?_
      refine T_goto (tgt := 2) dX7_layCosts_96 (by decide) ?_
      refine K D1 _ _ r1 r2 (fun h' c' hh' hc' => ?_)
      by_cases e : c' = c
      · subst e; exact r4 h' (by omega)
      · exact r3 h' c' hh' (by omega)
    | succ q ih =>
      intro h D1 m4 hq r1 r2 r3 r4
      have z1 : D1 57 = D 57 := r1 57 (by decide) (by decide)
      have z2 : D1 57 1 = D 57 1 := by rw [z1]
      have hL1 : MK D1 := by
        unfold MK
        rw [z1, r1 58 (by decide) (by decide), r1 59 (by decide) (by decide), r1 60 (by decide) (by decide), r1 61 (by decide) (by decide), r1 62 (by decide) (by decide), r1 63 (by decide) (by decide), r1 64 (by decide) (by decide), r1 65 (by decide) (by decide)]
        exact hL
      have eh : (h : Int).toNat = h := Int.toNat_natCast h
      have ec : (c : Int).toNat = c := Int.toNat_natCast c
      have ix : (5 * (h : Int) + c).toNat = 5 * h + c := by omega
      have ef : farK (D1 61 (c : Int).toNat) (D1 58 (h : Int).toNat) (D1 59 (h : Int).toNat) (D1 62 (c : Int).toNat) (D1 63 (c : Int).toNat) (D1 57 11) = farM D h c := by
        rw [eh, ec, z1, r1 58 (by decide) (by decide), r1 59 (by decide) (by decide), r1 61 (by decide) (by decide), r1 62 (by decide) (by decide), r1 63 (by decide) (by decide)]; rfl
      have eb : D1 65 (5 * (h : Int) + c).toNat = D 65 (5 * h + c) := by rw [ix, r1 65 (by decide) (by decide)]
      have bf := farM_bd hL h c
      have go : ∀ v : Int, v = farL D L h c → ∀ m4, T g mX7_layCosts (rmd (d + 2) 0 0) 0 0 (Qm g (rmd (d + 2) 0 0) P) 24 [some (.ref 57), some (iI L), some (iI c), some (iI ((h + 1 : Nat) : Int)), m4] [] SH (st2 D1 69 (5 * (h : Int) + c).toNat v) := by
        intro v hv m4
        rw [ix]
        refine ih (h + 1) _ _ (by omega) (fun r e8 e9 => by rw [st2_row e9]; exact r1 r e8 e9) (fun c' hc' => by rw [st2_row (by decide)]; exact r2 c' hc') (fun h' c' hh' hc' => ?_) (fun h' hh' => ?_)
        · unfold fR; rw [st2_ne (by omega)]; exact r3 h' c' hh' hc'
        · unfold fR
          by_cases e : h' = h
          · subst e; rw [st2_at]; exact hv
          · rw [st2_ne (by omega)]; exact r4 h' (by omega)
      have hbb := hL.2.2.2.2.2.2.2.2.2.2 (5 * h + c)
      refine T_iload_n dX7_layCosts_24 rfl ?_
      refine T_aload_n dX7_layCosts_25 rfl ?_
      refine T_getI dX7_layCosts_26 flX7_112 rfl rfl ?_
      refine T_icmp_ge 93 dX7_layCosts_29 (by decide) (by first | (unfold InR; omega) | (simp [st2, InR]; omega)) (by first | (unfold InR; omega) | (simp [st2, InR]; omega)) (fun hc29 => (by exfalso; omega)) (fun hc29 => ?_)
      refine T_aload_n dX7_layCosts_32 rfl ?_
      refine T_aload_n dX7_layCosts_33 rfl ?_
      refine T_getR dX7_layCosts_34 flX7_7 rfl rfl ?_
      refine T_iload_n dX7_layCosts_37 rfl ?_
      refine T_iald dX7_layCosts_38 rfl (by first | decide | omega) (by first | omega | (simp [st2]; omega)) (by first | omega | (simp [st2]; omega)) ?_
      refine T_aload_n dX7_layCosts_39 rfl ?_
      refine T_getR dX7_layCosts_40 flX7_13 rfl rfl ?_
      refine T_iload_n dX7_layCosts_43 rfl ?_
      refine T_iald dX7_layCosts_44 rfl (by first | decide | omega) (by first | omega | (simp [st2]; omega)) (by first | omega | (simp [st2]; omega)) ?_
      refine T_iload_n dX7_layCosts_45 rfl ?_
      refine T_cV_3 dX7_layCosts_46 lkX7_181 rfl (Nat.le_of_ble_eq_true rfl) (RO_r (by decide)) (Nat.le_of_ble_eq_true rfl) ?_
      refine r_farOf hL1 (by omega) (hL1.2.2.2.1 _) (hL1.2.2.2.2.1 _) ?_
      rw [ef]
      refine T_istore dX7_layCosts_49 (by decide) ?_
      refine T_aload_n dX7_layCosts_51 rfl ?_
      refine T_getR dX7_layCosts_52 flX7_44 rfl rfl ?_
      refine T_iconst dX7_layCosts_55 ?_
      refine T_iload_n dX7_layCosts_56 rfl ?_
      refine T_imul dX7_layCosts_57 ?_
      refine T_iload_n dX7_layCosts_58 rfl ?_
      refine T_iadd dX7_layCosts_59 ?_
      refine T_aload_n dX7_layCosts_60 rfl ?_
      refine T_getR dX7_layCosts_61 flX7_31 rfl rfl ?_
      refine T_iconst dX7_layCosts_64 ?_
      refine T_iload_n dX7_layCosts_65 rfl ?_
      refine T_imul dX7_layCosts_66 ?_
      refine T_iload_n dX7_layCosts_67 rfl ?_
      refine T_iadd dX7_layCosts_68 ?_
      refine T_zald dX7_layCosts_69 rfl (by first | decide | omega) (by first | omega | (simp [st2]; omega)) (by first | omega | (simp [st2]; omega)) ?_
      refine T_if_ne 79 dX7_layCosts_70 (by decide) (by rw [eb]; unfold InR; omega) (fun hc70 => ?_) (fun hc70 => ?_)
      · rw [eb] at hc70
        refine T_ldc (n := 100000000) dX7_layCosts_79 tk_995 ?_
        refine T_goto (tgt := 86) dX7_layCosts_81 (by decide) ?_
        refine T_iast dX7_layCosts_86 rfl (by first | decide | omega) (by first | omega | (simp [st2]; omega)) (by first | omega | (simp [st2]; omega)) ?_
        refine T_iinc dX7_layCosts_87 rfl (by decide) ?_
        refine T_goto (tgt := 24) dX7_layCosts_90 (by decide) ?_
        first
        | exact go _ (by unfold farL; rw [cif_pos (Or.inl (by unfold brM; omega))]) _
        | exact go _ (by unfold farL; rw [cif_pos (Or.inr (by omega))]) _
        | exact go _ (by unfold farL; rw [cif_neg (by unfold brM; omega)]) _
      · rw [eb] at hc70
        refine T_iload dX7_layCosts_73 rfl ?_
        refine T_iload_n dX7_layCosts_75 rfl ?_
        refine T_icmp_le 84 dX7_layCosts_76 (by decide) (by unfold InR; omega) hl (fun hc76 => ?_) (fun hc76 => ?_)
        · refine T_iload dX7_layCosts_84 rfl ?_
          refine T_iast dX7_layCosts_86 rfl (by first | decide | omega) (by first | omega | (simp [st2]; omega)) (by first | omega | (simp [st2]; omega)) ?_
          refine T_iinc dX7_layCosts_87 rfl (by decide) ?_
          refine T_goto (tgt := 24) dX7_layCosts_90 (by decide) ?_
          first
          | exact go _ (by unfold farL; rw [cif_pos (Or.inl (by unfold brM; omega))]) _
          | exact go _ (by unfold farL; rw [cif_pos (Or.inr (by omega))]) _
          | exact go _ (by unfold farL; rw [cif_neg (by unfold brM; omega)]) _
        · refine T_ldc (n := 100000000) dX7_layCosts_79 tk_995 ?_
          refine T_goto (tgt := 86) dX7_layCosts_81 (by decide) ?_
          refine T_iast dX7_layCosts_86 rfl (by first | decide | omega) (by first | omega | (simp [st2]; omega)) (by first | omega | (simp [st2]; omega)) ?_
          refine T_iinc dX7_layCosts_87 rfl (by decide) ?_
          refine T_goto (tgt := 24) dX7_layCosts_90 (by decide) ?_
          first
          | exact go _ (by unfold farL; rw [cif_pos (Or.inl (by unfold brM; omega))]) _
          | exact go _ (by unfold farL; rw [cif_pos (Or.inr (by omega))]) _
          | exact go _ (by unfold farL; rw [cif_neg (by unfold brM; omega)]) _
  have outer : ∀ (q c : Nat) (D1 : DD) (m3 m4 : Option Value), q + c = (D 57 5).toNat → (∀ r, r ≠ 68 → r ≠ 69 → D1 r = D r) → (∀ c', c' < c → D1 68 c' = D 64 c') → (∀ h c', h < (D 57 1).toNat → c' < c → fR D1 h c' = farL D L h c') → T g mX7_layCosts (rmd (d + 2) 0 0) 0 0 (Qm g (rmd (d + 2) 0 0) P) 2 [some (.ref 57), some (iI L), some (iI c), m3, m4] [] SH D1 := by
    intro q
    induction q with
    | zero =>
      intro c D1 m3 m4 hq r1 r2 r3
      have z2 : D1 57 5 = D 57 5 := by rw [r1 57 (by decide) (by decide)]
      refine T_iload_n dX7_layCosts_2 rfl ?_
      refine T_aload_n dX7_layCosts_3 rfl ?_
      refine T_getI dX7_layCosts_4 flX7_115 rfl rfl ?_
      refine T_icmp_ge 99 dX7_layCosts_7 (by decide) (by first | (unfold InR; omega) | (simp [st2, InR]; omega)) (by first | (unfold InR; omega) | (simp [st2, InR]; omega)) (fun hc7 => ?_) (fun hc7 => (by exfalso; omega))
      refine T_vret dX7_layCosts_99 rfl ?_
      exact hk D1 r1 (fun c' hc' => r2 c' (by omega)) (fun h c' hh hc' => r3 h c' hh (by omega))
    | succ q ih =>
      intro c D1 m3 m4 hq r1 r2 r3
      have z2 : D1 57 5 = D 57 5 := by rw [r1 57 (by decide) (by decide)]
      have ec : (c : Int).toNat = c := Int.toNat_natCast c
      refine T_iload_n dX7_layCosts_2 rfl ?_
      refine T_aload_n dX7_layCosts_3 rfl ?_
      refine T_getI dX7_layCosts_4 flX7_115 rfl rfl ?_
      refine T_icmp_ge 99 dX7_layCosts_7 (by decide) (by first | (unfold InR; omega) | (simp [st2, InR]; omega)) (by first | (unfold InR; omega) | (simp [st2, InR]; omega)) (fun hc7 => (by exfalso; omega)) (fun hc7 => ?_)
      refine T_aload_n dX7_layCosts_10 rfl ?_
      refine T_getR dX7_layCosts_11 flX7_41 rfl rfl ?_
      refine T_iload_n dX7_layCosts_14 rfl ?_
      refine T_aload_n dX7_layCosts_15 rfl ?_
      refine T_getR dX7_layCosts_16 flX7_28 rfl rfl ?_
      refine T_iload_n dX7_layCosts_19 rfl ?_
      refine T_iald dX7_layCosts_20 rfl (by first | decide | omega) (by first | omega | (simp [st2]; omega)) (by first | omega | (simp [st2]; omega)) ?_
      refine T_iast dX7_layCosts_21 rfl (by first | decide | omega) (by first | omega | (simp [st2]; omega)) (by first | omega | (simp [st2]; omega)) ?_
      refine T_iconst dX7_layCosts_22 ?_
      refine T_istore_n dX7_layCosts_23 (by decide) ?_
      rw [ec]
      refine inner c (by omega) (fun D2 m3 m4 s1 s2 s3 => ih (c + 1) D2 m3 m4 (by omega) s1 s2 s3) (D 57 1).toNat 0 _ _ (by omega) (fun r e8 e9 => by rw [st2_row e8]; exact r1 r e8 e9) (fun c' hc' => ?_) (fun h c' hh hc' => ?_) (fun h' hh' => by omega)
      · by_cases e : c' = c
        · subst e; rw [st2_at, r1 64 (by decide) (by decide)]
        · rw [st2_ne e]; exact r2 c' (by omega)
      · unfold fR; rw [st2_row (by decide)]; exact r3 h c' hh hc'
  refine T_iconst dX7_layCosts_0 ?_
  refine T_istore_n dX7_layCosts_1 (by decide) ?_
  exact outer (D 57 5).toNat 0 D none none (by omega) (fun r _ _ => rfl) (fun c' hc' => by omega) (fun h c' _ hc' => by omega)
end

