theorem PSR.next {D : DD} {h : Nat} (hP : PSR D h (D 60 h)) : PSR D (h + 1) 0 := by
  obtain ⟨p, hF, hC⟩ := hP
  refine ⟨p, hF.cong (fun g _ => ?_) (fun _ _ => rfl) (fun _ _ _ _ => Iff.rfl), hC⟩
  unfold supR
  by_cases e : g = h
  · subst e; rw [if_neg (by omega), if_pos rfl, if_pos (by omega)]
  · by_cases e2 : g < h
    · rw [if_pos e2, if_pos (by omega)]
    · rw [if_neg e2, if_neg e, if_neg (by omega)]; split <;> rfl
theorem PSR.first {D : DD} (hK : RnK D) (hx : ∀ j, j < 50 → D 70 j = 0) : PSR D 0 0 ∧ costX (D 57 1).toNat (D 57 5).toNat (fR D) (xR D) = 0 := by
  have hN := hK.1
  have hM := hK.2.1
  have x0 : ∀ g c, g < (D 57 1).toNat → c < (D 57 5).toNat → xR D g c = 0 := fun g c hg hc => hx (5 * g + c) (by omega)
  have row : ∀ g, g < (D 57 1).toNat → sm (D 57 5).toNat (xR D g) = 0 := fun g hg => by rw [sm_cong (f' := fun _ => 0) _ (fun c hc => x0 g c hg hc), sm_zero]
  have col : ∀ c, c < (D 57 5).toNat → sm (D 57 1).toNat (fun g => xR D g c) = 0 := fun c hc => by rw [sm_cong (f' := fun _ => 0) _ (fun g hg => x0 g c hg hc), sm_zero]
  refine ⟨⟨fun _ => 0, ⟨fun g hg c hc => ?_, fun g hg => ?_, fun c hc => ?_⟩, fun _ _ => Int.le_refl _, fun _ _ _ => rfl, fun g hg a ha b hb hpos => ?_⟩, ?_⟩
  · rw [x0 g c hg hc]; exact ⟨Int.le_refl _, fun q => absurd q (by decide)⟩
  · rw [row g hg]; unfold supR; split
    · omega
    · split <;> rfl
  · rw [col c hc]; exact (hK.2.2.2.2 c hc).1
  · rw [x0 g a hg ha] at hpos; exact absurd hpos (by decide)
  · unfold costX
    rw [sm_cong (f' := fun _ => 0) _ (fun g hg => ?_), sm_zero]
    show sm (D 57 5).toNat (fun c => xR D g c * fR D g c) = 0
    rw [sm_cong (f' := fun _ => 0) _ (fun c hc => by rw [x0 g c hg hc, Int.zero_mul]), sm_zero]
theorem PSR.miles {D : DD} (hP : PSR D (D 57 1).toNat 0) : IsMiles (D 57 1).toNat (D 57 5).toNat (D 60) (D 68) (alR D) (fR D) (costX (D 57 1).toNat (D 57 5).toNat (fR D) (xR D)) := by
  obtain ⟨p, hF, hC⟩ := hP
  refine miles_of_cert (hF.cong (fun g hg => ?_) (fun _ _ => rfl) (fun _ _ _ _ => Iff.rfl)) hC
  unfold supR
  rw [if_pos hg]
section
variable {g : G0} {d : Nat} {P : Option Value → List SC → DD → Prop} {D : DD}
theorem r_leastMilesR (hK : RnK D) (hk : ∀ (D' : DD) (r : Int), FrS D D' → IsMiles (D 57 1).toNat (D 57 5).toNat (D 60) (D 68) (alR D) (fR D) r → P (some (iI r)) SH D') : TM g mX7_leastMiles (d + 3) P [.ref 57] D := by
  have hN := hK.1
  have hM := hK.2.1
  have heads : ∀ (h : Nat), h < (D 57 1).toNat → (∀ (D1 : DD) (s : Int) (m3 m4 : Option Value), FrS D D1 → PSR D1 (h + 1) 0 → s = costX (D 57 1).toNat (D 57 5).toNat (fR D) (xR D1) → T g mX7_leastMiles (rmd (d + 3) 0 0) 0 0 (Qm g (rmd (d + 3) 0 0) P) 25 [some (.ref 57), some (iI s), some (iI ((h + 1 : Nat) : Int)), m3, m4] [] SH D1) → ∀ (q k : Nat) (D1 : DD) (s : Int) (m4 : Option Value), (q : Int) + k = D 60 h → FrS D D1 → PSR D1 h k → s = costX (D 57 1).toNat (D 57 5).toNat (fR D) (xR D1) → T g mX7_leastMiles (rmd (d + 3) 0 0) 0 0 (Qm g (rmd (d + 3) 0 0) P) 35 [some (.ref 57), some (iI s), some (iI h), some (iI k), m4] [] SH D1 := by
    intro h hh K q
    have hhd := hK.2.2.2.1 h
    have eh : (h : Int).toNat = h := Int.toNat_natCast h
    induction q with
    | zero =>
      intro k D1 s m4 hq fr hP hs
      have e60 : D1 60 (h : Int).toNat = D 60 h := by rw [eh, fr 60 (by decide) (by decide) (by decide) (by decide)]
      have ek : (k : Int) = D1 60 h := by rw [fr 60 (by decide) (by decide) (by decide) (by decide)]; omega
      refine T_iload_n dX7_leastMiles_35 rfl ?_
      refine T_aload_n dX7_leastMiles_36 rfl ?_
      refine T_getR dX7_leastMiles_37 flX7_16 rfl rfl ?_
      refine T_iload_n dX7_leastMiles_40 rfl ?_
      refine T_iald dX7_leastMiles_41 rfl (by first | decide | omega) (by first | omega | (simp [st2]; omega)) (by first | omega | (simp [st2]; omega)) ?_
      refine T_icmp_ge 73 dX7_leastMiles_42 (by decide) (by unfold InR; omega) (by rw [e60]; unfold InR; omega) (fun hc42 => ?_) (fun hc42 => (by exfalso; rw [e60] at hc42; omega))
      refine T_iinc dX7_leastMiles_73 rfl (by decide) ?_
      refine T_goto (tgt := 25) dX7_leastMiles_76 (by decide) ?_
      exact K D1 s _ _ fr (PSR.next (by rw [← ek]; exact hP)) hs
    | succ q ih =>
      intro k D1 s m4 hq fr hP hs
      have z57 : D1 57 = D 57 := fr 57 (by decide) (by decide) (by decide) (by decide)
      have z60 : D1 60 = D 60 := fr 60 (by decide) (by decide) (by decide) (by decide)
      have z68 : D1 68 = D 68 := fr 68 (by decide) (by decide) (by decide) (by decide)
      have z69 : D1 69 = D 69 := fr 69 (by decide) (by decide) (by decide) (by decide)
      have hK1 : RnK D1 := hK.of z57 z60 z68 z69
      have e60 : D1 60 (h : Int).toNat = D 60 h := by rw [eh, z60]
      have f1 : fR D1 = fR D := by unfold fR; rw [z69]
      have a1 : alR D1 = alR D := by unfold alR; rw [f1]
      refine T_iload_n dX7_leastMiles_35 rfl ?_
      refine T_aload_n dX7_leastMiles_36 rfl ?_
      refine T_getR dX7_leastMiles_37 flX7_16 rfl rfl ?_
      refine T_iload_n dX7_leastMiles_40 rfl ?_
      refine T_iald dX7_leastMiles_41 rfl (by first | decide | omega) (by first | omega | (simp [st2]; omega)) (by first | omega | (simp [st2]; omega)) ?_
      refine T_icmp_ge 73 dX7_leastMiles_42 (by decide) (by unfold InR; omega) (by rw [e60]; unfold InR; omega) (fun hc42 => (by exfalso; rw [e60] at hc42; omega)) (fun hc42 => ?_)
      refine T_aload_n dX7_leastMiles_45 rfl ?_
      refine T_iload_n dX7_leastMiles_46 rfl ?_
      refine T_cV_1 dX7_leastMiles_47 lkX7_196 rfl (Nat.le_of_ble_eq_true rfl) (RO_r (by decide)) (Nat.le_of_ble_eq_true rfl) ?_
      refine r_seatOne hK1 (by rw [z57]; exact hh) (by rw [z60]; omega) hP (fun D2 δ fr2 hP2 hc2 d1 d2 => ?_) (fun D2 fr2 no => ?_)
      · refine T_istore dX7_leastMiles_50 (by decide) ?_
        refine T_iload dX7_leastMiles_52 rfl ?_
        refine T_ldc (n := 100000000) dX7_leastMiles_54 tk_995 ?_
        refine T_icmp_ne 62 dX7_leastMiles_56 (by decide) (by unfold InR; omega) (by first | (unfold InR; omega) | (simp [st2, InR]; omega)) (fun hc56 => ?_) (fun hc56 => ?_)
        · refine T_iload_n dX7_leastMiles_62 rfl ?_
          refine T_iload dX7_leastMiles_63 rfl ?_
          refine T_iadd dX7_leastMiles_65 ?_
          refine T_istore_n dX7_leastMiles_66 (by decide) ?_
          refine T_iinc dX7_leastMiles_67 rfl (by decide) ?_
          refine T_goto (tgt := 35) dX7_leastMiles_70 (by decide) ?_
          first
          | (exfalso; omega)
          | (refine ih (k + 1) D2 _ _ (by omega) (fun r e0 e1 e2 e3 => (fr2 r e0 e1 e2 e3).trans (fr r e0 e1 e2 e3)) (by rw [show ((k + 1 : Nat) : Int) = (k : Int) + 1 by omega]; exact hP2) ?_
             rw [z57, f1] at hc2
             rw [hc2, hs])
        · refine T_bipush dX7_leastMiles_59 (by decide) ?_
          refine T_iret dX7_leastMiles_61 rfl ?_
          first
          | (exfalso; omega)
          | (rw [z57, z60, z68, a1] at no
             exact hk D2 (-9) (fun r e0 e1 e2 e3 => (fr2 r e0 e1 e2 e3).trans (fr r e0 e1 e2 e3)) (Or.inr ⟨rfl, no⟩))
      · refine T_istore dX7_leastMiles_50 (by decide) ?_
        refine T_iload dX7_leastMiles_52 rfl ?_
        refine T_ldc (n := 100000000) dX7_leastMiles_54 tk_995 ?_
        refine T_icmp_ne 62 dX7_leastMiles_56 (by decide) (by unfold InR; omega) (by first | (unfold InR; omega) | (simp [st2, InR]; omega)) (fun hc56 => ?_) (fun hc56 => ?_)
        · refine T_iload_n dX7_leastMiles_62 rfl ?_
          refine T_iload dX7_leastMiles_63 rfl ?_
          refine T_iadd dX7_leastMiles_65 ?_
          refine T_istore_n dX7_leastMiles_66 (by decide) ?_
          refine T_iinc dX7_leastMiles_67 rfl (by decide) ?_
          refine T_goto (tgt := 35) dX7_leastMiles_70 (by decide) ?_
          first
          | (exfalso; omega)
          | (refine ih (k + 1) D2 _ _ (by omega) (fun r e0 e1 e2 e3 => (fr2 r e0 e1 e2 e3).trans (fr r e0 e1 e2 e3)) (by rw [show ((k + 1 : Nat) : Int) = (k : Int) + 1 by omega]; exact hP2) ?_
             rw [z57, f1] at hc2
             rw [hc2, hs])
        · refine T_bipush dX7_leastMiles_59 (by decide) ?_
          refine T_iret dX7_leastMiles_61 rfl ?_
          first
          | (exfalso; omega)
          | (rw [z57, z60, z68, a1] at no
             exact hk D2 (-9) (fun r e0 e1 e2 e3 => (fr2 r e0 e1 e2 e3).trans (fr r e0 e1 e2 e3)) (Or.inr ⟨rfl, no⟩))
  have homes : ∀ (q h : Nat) (D1 : DD) (s : Int) (m3 m4 : Option Value), q + h = (D 57 1).toNat → FrS D D1 → PSR D1 h 0 → s = costX (D 57 1).toNat (D 57 5).toNat (fR D) (xR D1) → T g mX7_leastMiles (rmd (d + 3) 0 0) 0 0 (Qm g (rmd (d + 3) 0 0) P) 25 [some (.ref 57), some (iI s), some (iI h), m3, m4] [] SH D1 := by
    intro q
    induction q with
    | zero =>
      intro h D1 s m3 m4 hq fr hP hs
      have z57 : D1 57 = D 57 := fr 57 (by decide) (by decide) (by decide) (by decide)
      have z2 : D1 57 1 = D 57 1 := by rw [z57]
      have z60 : D1 60 = D 60 := fr 60 (by decide) (by decide) (by decide) (by decide)
      have z68 : D1 68 = D 68 := fr 68 (by decide) (by decide) (by decide) (by decide)
      have z69 : D1 69 = D 69 := fr 69 (by decide) (by decide) (by decide) (by decide)
      have f1 : fR D1 = fR D := by unfold fR; rw [z69]
      have a1 : alR D1 = alR D := by unfold alR; rw [f1]
      have hm := PSR.miles (D := D1) (by rw [z2, show (D 57 1).toNat = h by omega]; exact hP)
      rw [z57, z60, z68, a1, f1, ← hs] at hm
      refine T_iload_n dX7_leastMiles_25 rfl ?_
      refine T_aload_n dX7_leastMiles_26 rfl ?_
      refine T_getI dX7_leastMiles_27 flX7_112 rfl rfl ?_
      refine T_icmp_ge 79 dX7_leastMiles_30 (by decide) (by first | (unfold InR; omega) | (simp [st2, InR]; omega)) (by first | (unfold InR; omega) | (simp [st2, InR]; omega)) (fun hc30 => ?_) (fun hc30 => (by exfalso; omega))
      refine T_iload_n dX7_leastMiles_79 rfl ?_
      refine T_iret dX7_leastMiles_80 rfl ?_
      exact hk D1 s fr hm
    | succ q ih =>
      intro h D1 s m3 m4 hq fr hP hs
      have z2 : D1 57 1 = D 57 1 := by rw [fr 57 (by decide) (by decide) (by decide) (by decide)]
      have hhd := hK.2.2.2.1 h
      refine T_iload_n dX7_leastMiles_25 rfl ?_
      refine T_aload_n dX7_leastMiles_26 rfl ?_
      refine T_getI dX7_leastMiles_27 flX7_112 rfl rfl ?_
      refine T_icmp_ge 79 dX7_leastMiles_30 (by decide) (by first | (unfold InR; omega) | (simp [st2, InR]; omega)) (by first | (unfold InR; omega) | (simp [st2, InR]; omega)) (fun hc30 => (by exfalso; omega)) (fun hc30 => ?_)
      refine T_iconst dX7_leastMiles_33 ?_
      refine T_istore_n dX7_leastMiles_34 (by decide) ?_
      exact heads h (by omega) (fun D2 s2 m3 m4 w1 w2 w3 => ih (h + 1) D2 s2 m3 m4 (by omega) w1 w2 w3) (D 60 h).toNat 0 D1 s _ (by omega) fr hP hs
  have zeros : ∀ (q i : Nat) (D1 : DD), q + i = 50 → FrS D D1 → (∀ j, j < i → D1 70 j = 0) → T g mX7_leastMiles (rmd (d + 3) 0 0) 0 0 (Qm g (rmd (d + 3) 0 0) P) 2 [some (.ref 57), some (iI i), none, none, none] [] SH D1 := by
    intro q
    induction q with
    | zero =>
      intro i D1 hq fr h0
      have z57 : D1 57 = D 57 := fr 57 (by decide) (by decide) (by decide) (by decide)
      have z60 : D1 60 = D 60 := fr 60 (by decide) (by decide) (by decide) (by decide)
      have z68 : D1 68 = D 68 := fr 68 (by decide) (by decide) (by decide) (by decide)
      have z69 : D1 69 = D 69 := fr 69 (by decide) (by decide) (by decide) (by decide)
      have f1 : fR D1 = fR D := by unfold fR; rw [z69]
      have hK1 : RnK D1 := hK.of z57 z60 z68 z69
      have hf := PSR.first hK1 (fun j hj => h0 j (by omega))
      rw [z57, f1] at hf
      refine T_iload_n dX7_leastMiles_2 rfl ?_
      refine T_bipush dX7_leastMiles_3 (by decide) ?_
      refine T_icmp_ge 21 dX7_leastMiles_5 (by decide) (by first | (unfold InR; omega) | (simp [st2, InR]; omega)) (by first | (unfold InR; omega) | (simp [st2, InR]; omega)) (fun hc5 => ?_) (fun hc5 => (by exfalso; omega))
      refine T_iconst dX7_leastMiles_21 ?_
      refine T_istore_n dX7_leastMiles_22 (by decide) ?_
      refine T_iconst dX7_leastMiles_23 ?_
      refine T_istore_n dX7_leastMiles_24 (by decide) ?_
      exact homes (D 57 1).toNat 0 D1 0 _ _ (by omega) fr hf.1 hf.2.symm
    | succ q ih =>
      intro i D1 hq fr h0
      refine T_iload_n dX7_leastMiles_2 rfl ?_
      refine T_bipush dX7_leastMiles_3 (by decide) ?_
      refine T_icmp_ge 21 dX7_leastMiles_5 (by decide) (by first | (unfold InR; omega) | (simp [st2, InR]; omega)) (by first | (unfold InR; omega) | (simp [st2, InR]; omega)) (fun hc5 => (by exfalso; omega)) (fun hc5 => ?_)
      refine T_aload_n dX7_leastMiles_8 rfl ?_
      refine T_getR dX7_leastMiles_9 flX7_47 rfl rfl ?_
      refine T_iload_n dX7_leastMiles_12 rfl ?_
      refine T_iconst dX7_leastMiles_13 ?_
      refine T_iast dX7_leastMiles_14 rfl (by first | decide | omega) (by first | omega | (simp [st2]; omega)) (by first | omega | (simp [st2]; omega)) ?_
      refine T_iinc dX7_leastMiles_15 rfl (by decide) ?_
      refine T_goto (tgt := 2) dX7_leastMiles_18 (by decide) ?_
      refine ih (i + 1) _ (by omega) (fun r e0 e1 e2 e3 => by rw [st2_row e0]; exact fr r e0 e1 e2 e3) (fun j hj => ?_)
      rw [Int.toNat_natCast]
      by_cases e : j = i
      · subst e; exact st2_at
      · rw [st2_ne e]; exact h0 j (by omega)
  refine T_iconst dX7_leastMiles_0 ?_
  refine T_istore_n dX7_leastMiles_1 (by decide) ?_
  exact zeros 50 0 D (by omega) (fun r _ _ _ _ => rfl) (fun j hj => by omega)
end
abbrev alM (D : DD) (h c : Nat) : Prop := ¬ brM D h c
abbrev alML (D : DD) (L : Int) (h c : Nat) : Prop := alM D h c ∧ farM D h c ≤ L
/-- MILES of the reference's land, and with a seat more at c -/
noncomputable def mlM (D : DD) : Int := milesF (D 57 1).toNat (D 57 5).toNat (D 60) (D 64) (alM D) (farM D)
noncomputable def mpM (D : DD) (c : Nat) : Int := milesF (D 57 1).toNat (D 57 5).toNat (D 60) (fun c' => if c' = c then D 64 c + 1 else D 64 c') (alM D) (farM D)
/-- D' holds the costs of D's land with a limit, and these rooms -/
def HoldR (D D' : DD) (L : Int) (rm : Nat → Int) : Prop := D' 57 = D 57 ∧ D' 60 = D 60 ∧ (∀ c, c < (D 57 5).toNat → D' 68 c = rm c ∧ 0 ≤ rm c ∧ rm c ≤ 51) ∧ ∀ h c, h < (D 57 1).toNat → c < (D 57 5).toNat → fR D' h c = farL D L h c
theorem HoldR.rnk {D D' : DD} {L : Int} {rm : Nat → Int} (hL : MK D) (h : HoldR D D' L rm) : RnK D' := by
  obtain ⟨a, b, c, e⟩ := h
  unfold RnK
  rw [a, b]
  refine ⟨hL.1, hL.2.1, fun h c' hh hc => ?_, hL.2.2.2.2.2.1, fun c' hc => by rw [(c c' hc).1]; exact (c c' hc).2⟩
  rw [e h c' hh hc]
  have := farM_bd hL h c'
  unfold farL
  by_cases q : brM D h c' ∨ L < farM D h c'
  · rw [cif_pos q]; exact Or.inr rfl
  · rw [cif_neg q]; exact Or.inl this
theorem HoldR.miles {D D' : DD} {L r : Int} {rm : Nat → Int} (hL : MK D) (h : HoldR D D' L rm) (hm : IsMiles (D' 57 1).toNat (D' 57 5).toNat (D' 60) (D' 68) (alR D') (fR D') r) : IsMiles (D 57 1).toNat (D 57 5).toNat (D 60) rm (alML D L) (farM D) r := by
  obtain ⟨a, b, c, e⟩ := h
  rw [a, b] at hm
  refine hm.cong (fun _ _ => rfl) (fun c' hc => (c c' hc).1) (fun h c' hh hc => ?_) (fun h c' hh hc q => ?_)
  · have := farM_bd hL h c'
    unfold alR
    rw [e h c' hh hc]
    unfold farL
    by_cases q : brM D h c' ∨ L < farM D h c'
    · rw [cif_pos q]
      exact ⟨fun z => absurd z (by decide), fun z => by rcases q with q | q; exact absurd q z.1; have := z.2; omega⟩
    · rw [cif_neg q]
      exact ⟨fun _ => ⟨fun z => q (Or.inl z), Int.not_lt.mp (fun z => q (Or.inr z))⟩, fun _ => by omega⟩
  · unfold alR at q
    rw [e h c' hh hc] at q ⊢
    unfold farL at q ⊢
    by_cases q2 : brM D h c' ∨ L < farM D h c'
    · rw [cif_pos q2] at q; exact absurd q (by decide)
    · rw [cif_neg q2]
theorem HoldR.all {D D' : DD} {r : Int} {rm : Nat → Int} (hL : MK D) (h : HoldR D D' 99999999 rm) (hm : IsMiles (D' 57 1).toNat (D' 57 5).toNat (D' 60) (D' 68) (alR D') (fR D') r) : IsMiles (D 57 1).toNat (D 57 5).toNat (D 60) rm (alM D) (farM D) r := by
  refine (h.miles hL hm).cong (fun _ _ => rfl) (fun _ _ => rfl) (fun h c hh hc => ⟨fun z => z.1, fun z => ⟨z, ?_⟩⟩) (fun _ _ _ _ _ => rfl)
  have := farM_bd hL h c
  omega
def FrW (D D' : DD) : Prop := ∀ r, (r < 68 ∨ 73 < r) → D' r = D r
theorem MK_fr {D D1 : DD} (h : ∀ a, 57 ≤ a → a ≤ 65 → D1 a = D a) (hL : MK D) : MK D1 := by
  unfold MK
  rw [h 57 (by decide) (by decide), h 58 (by decide) (by decide), h 59 (by decide) (by decide), h 60 (by decide) (by decide), h 61 (by decide) (by decide), h 62 (by decide) (by decide), h 63 (by decide) (by decide), h 64 (by decide) (by decide), h 65 (by decide) (by decide)]
  exact hL
theorem mlM_of {D D1 : DD} (h : ∀ a, 57 ≤ a → a ≤ 65 → D1 a = D a) : mlM D1 = mlM D ∧ mpM D1 = mpM D ∧ alM D1 = alM D ∧ farM D1 = farM D := by
  have e1 : alM D1 = alM D := by unfold alM brM; rw [h 65 (by decide) (by decide)]
  have e2 : farM D1 = farM D := by funext x y; unfold farM; rw [h 57 (by decide) (by decide), h 58 (by decide) (by decide), h 59 (by decide) (by decide), h 61 (by decide) (by decide), h 62 (by decide) (by decide), h 63 (by decide) (by decide)]
  refine ⟨?_, ?_, e1, e2⟩
  · unfold mlM; rw [e1, e2, h 57 (by decide) (by decide), h 60 (by decide) (by decide), h 64 (by decide) (by decide)]
  · funext c; unfold mpM; rw [e1, e2, h 57 (by decide) (by decide), h 60 (by decide) (by decide), h 64 (by decide) (by decide)]
section
variable {g : G0} {d : Nat} {P : Option Value → List SC → DD → Prop} {D : DD}
theorem laid {D D1 : DD} {L : Int} (hL : MK D) (f : ∀ r, r ≠ 68 → r ≠ 69 → D1 r = D r) (h68 : ∀ c, c < (D 57 5).toNat → D1 68 c = D 64 c) (hf : ∀ h c, h < (D 57 1).toNat → c < (D 57 5).toNat → fR D1 h c = farL D L h c) : HoldR D D1 L (D 64) := ⟨f 57 (by decide) (by decide), f 60 (by decide) (by decide), fun c hc => ⟨h68 c hc, by have := hL.2.2.2.2.2.2.2.2.2.1 c; omega⟩, hf⟩
theorem r_milesNow (hL : MK D) (hk : ∀ D' : DD, FrW D D' → (mlM D = -9 ∨ (0 ≤ mlM D ∧ mlM D ≤ 360000)) → P (some (iI (mlM D))) SH D') : TM g mX7_milesNow (d + 4) P [.ref 57] D := by
  refine T_aload_n dX7_milesNow_0 rfl ?_
  refine T_ldc (n := 99999999) dX7_milesNow_1 tk_990 ?_
  refine T_cV_1 dX7_milesNow_3 lkX7_200 rfl (Nat.le_of_ble_eq_true rfl) (RO_r (by decide)) (Nat.le_of_ble_eq_true rfl) ?_
  refine r_layCosts hL (by first | (unfold InR; omega) | (simp [st2, InR]; omega)) (fun D1 f1 r68 r69 => ?_)
  have hH := laid hL f1 r68 r69
  refine T_aload_n dX7_milesNow_6 rfl ?_
  refine T_cV_0 dX7_milesNow_7 lkX7_203 rfl (Nat.le_of_ble_eq_true rfl) (RO_r (by decide)) (Nat.le_of_ble_eq_true rfl) ?_
  refine r_leastMilesR (hH.rnk hL) (fun D2 r f2 hm => ?_)
  have hm2 := hH.all hL hm
  have rr := hm2.rng (by have := hL.1; omega) (fun h _ => (hL.2.2.2.2.2.1 h).2) (fun h c _ _ _ => farM_bd hL h c)
  have em : mlM D = r := hm2.eqF
  rw [← em] at rr ⊢
  refine T_iret dX7_milesNow_10 rfl ?_
  exact hk D2 (fun a ha => (f2 a (by omega) (by omega) (by omega) (by omega)).trans (f1 a (by omega) (by omega))) rr
theorem r_miles (hL : MK D) (hk : ∀ D' : DD, FrW D D' → P (some (iI (mlM D))) SH D') : TM g mX7_miles (d + 5) P [.ref 57] D := by
  refine T_aload_n dX7_miles_0 rfl ?_
  refine T_cV_0 dX7_miles_1 lkX7_207 rfl (Nat.le_of_ble_eq_true rfl) (RO_r (by decide)) (Nat.le_of_ble_eq_true rfl) ?_
  refine r_milesNow hL (fun D1 f1 _ => ?_)
  refine T_iret dX7_miles_4 rfl ?_
  exact hk D1 f1
/-- what weights and sendings of the reference change -/
def FrV (D D' : DD) : Prop := ∀ r, (r < 68 ∨ 74 < r) → D' r = D r
theorem r_layWeights (hL : MK D) (k1 : 0 ≤ mlM D → mlM D ≤ 360000 → ∀ D' : DD, FrV D D' → (∀ c, c < (D 57 5).toNat → D' 74 c = mlM D - mpM D c ∧ -360000 ≤ D' 74 c ∧ D' 74 c ≤ 400000) → P (some (iI 1)) SH D') (k0 : mlM D = -9 → ∀ D' : DD, FrV D D' → P (some (iI 0)) SH D') : TM g mX7_layWeights (d + 5) P [.ref 57] D := by
  have hN := hL.1
  have hM := hL.2.1
  have loop : 0 ≤ mlM D → mlM D ≤ 360000 → ∀ (q c : Nat) (D1 : DD), q + c = (D 57 5).toNat → FrV D D1 → (∀ c', c' < c → D1 74 c' = mlM D - mpM D c' ∧ -360000 ≤ D1 74 c' ∧ D1 74 c' ≤ 400000) → T g mX7_layWeights (rmd (d + 5) 0 0) 0 0 (Qm g (rmd (d + 5) 0 0) P) 7 [some (.ref 57), some (iI (mlM D)), some (iI c)] [] SH D1 := by
    intro b0 b1 q
    induction q with
    | zero =>
      intro c D1 hq fr hw
      have z2 : D1 57 5 = D 57 5 := by rw [fr 57 (by omega)]
      refine T_iload_n dX7_layWeights_7 rfl ?_
      refine T_aload_n dX7_layWeights_8 rfl ?_
      refine T_getI dX7_layWeights_9 flX7_115 rfl rfl ?_
      refine T_icmp_ge 53 dX7_layWeights_12 (by decide) (by first | (unfold InR; omega) | (simp [st2, InR]; omega)) (by first | (unfold InR; omega) | (simp [st2, InR]; omega)) (fun hc12 => ?_) (fun hc12 => (by exfalso; omega))
      refine T_iload_n dX7_layWeights_53 rfl ?_
      refine T_if_lt 61 dX7_layWeights_54 (by decide) (by unfold InR; omega) (fun hc54 => (by exfalso; omega)) (fun hc54 => ?_)
      refine T_iconst dX7_layWeights_57 ?_
      refine T_goto (tgt := 62) dX7_layWeights_58 (by decide) ?_
      refine T_zret dX7_layWeights_62 rfl (by decide) ?_
      exact k1 b0 b1 D1 fr (fun c' hc' => hw c' (by omega))
    | succ q ih =>
      intro c D1 hq fr hw
      have z2 : D1 57 5 = D 57 5 := by rw [fr 57 (by omega)]
      have ml : ∀ a, 57 ≤ a → a ≤ 65 → D1 a = D a := fun a h1 h2 => fr a (by omega)
      have hL1 : MK D1 := MK_fr ml hL
      have ec : (c : Int).toNat = c := Int.toNat_natCast c
      obtain ⟨-, mp1, -, -⟩ := mlM_of ml
      refine T_iload_n dX7_layWeights_7 rfl ?_
      refine T_aload_n dX7_layWeights_8 rfl ?_
      refine T_getI dX7_layWeights_9 flX7_115 rfl rfl ?_
      refine T_icmp_ge 53 dX7_layWeights_12 (by decide) (by first | (unfold InR; omega) | (simp [st2, InR]; omega)) (by first | (unfold InR; omega) | (simp [st2, InR]; omega)) (fun hc12 => (by exfalso; omega)) (fun hc12 => ?_)
      refine T_iload_n dX7_layWeights_15 rfl ?_
      refine T_if_lt 53 dX7_layWeights_16 (by decide) (by unfold InR; omega) (fun hc16 => (by exfalso; omega)) (fun hc16 => ?_)
      refine T_aload_n dX7_layWeights_19 rfl ?_
      refine T_ldc (n := 99999999) dX7_layWeights_20 tk_990 ?_
      refine T_cV_1 dX7_layWeights_22 lkX7_200 rfl (Nat.le_of_ble_eq_true rfl) (RO_r (by decide)) (Nat.le_of_ble_eq_true rfl) ?_
      refine r_layCosts hL1 (by first | (unfold InR; omega) | (simp [st2, InR]; omega)) (fun D2 f2 r68 r69 => ?_)
      have hH := laid hL1 f2 r68 r69
      refine T_aload_n dX7_layWeights_25 rfl ?_
      refine T_getR dX7_layWeights_26 flX7_41 rfl rfl ?_
      refine T_iload_n dX7_layWeights_29 rfl ?_
      refine T_dup2 dX7_layWeights_30 rfl rfl ?_
      refine T_iald dX7_layWeights_31 rfl (by first | decide | omega) (by first | omega | (simp [st2]; omega)) (by first | omega | (simp [st2]; omega)) ?_
      refine T_iconst dX7_layWeights_32 ?_
      refine T_iadd dX7_layWeights_33 ?_
      refine T_iast dX7_layWeights_34 rfl (by first | decide | omega) (by first | omega | (simp [st2]; omega)) (by first | omega | (simp [st2]; omega)) ?_
      rw [ec]
      have hH3 : HoldR D1 (st2 D2 68 c (D2 68 c + 1)) 99999999 (fun c' => if c' = c then D1 64 c + 1 else D1 64 c') := by
        obtain ⟨q1, q2, q3, q4⟩ := hH
        refine ⟨by rw [st2_row (by decide)]; exact q1, by rw [st2_row (by decide)]; exact q2, fun c' hc' => ?_, fun h c' hh hc' => by unfold fR; rw [st2_row (by decide)]; exact q4 h c' hh hc'⟩
        have b64 := hL1.2.2.2.2.2.2.2.2.2.1
        show _ = (if c' = c then D1 64 c + 1 else D1 64 c') ∧ 0 ≤ (if c' = c then D1 64 c + 1 else D1 64 c') ∧ (if c' = c then D1 64 c + 1 else D1 64 c') ≤ 51
        by_cases e : c' = c
        · subst e; rw [st2_at, if_pos rfl, (q3 c' hc').1]; have := b64 c'; exact ⟨rfl, by omega, by omega⟩
        · rw [st2_ne e, if_neg e]; exact q3 c' hc'
      refine T_aload_n dX7_layWeights_35 rfl ?_
      refine T_getR dX7_layWeights_36 flX7_59 rfl rfl ?_
      refine T_iload_n dX7_layWeights_39 rfl ?_
      refine T_iload_n dX7_layWeights_40 rfl ?_
      refine T_aload_n dX7_layWeights_41 rfl ?_
      refine T_cV_0 dX7_layWeights_42 lkX7_203 rfl (Nat.le_of_ble_eq_true rfl) (RO_r (by decide)) (Nat.le_of_ble_eq_true rfl) ?_
      refine r_leastMilesR (hH3.rnk hL1) (fun D3 r f3 hm => ?_)
      have hm2 := hH3.all hL1 hm
      have rr := hm2.rng (by have := hL1.1; omega) (fun h _ => (hL1.2.2.2.2.2.1 h).2) (fun h c _ _ _ => farM_bd hL1 h c)
      have em : mpM D1 c = r := hm2.eqF
      rw [mp1] at em
      refine T_isub dX7_layWeights_45 ?_
      refine T_iast dX7_layWeights_46 rfl (by first | decide | omega) (by first | omega | (simp [st2]; omega)) (by first | omega | (simp [st2]; omega)) ?_
      refine T_iinc dX7_layWeights_47 rfl (by decide) ?_
      refine T_goto (tgt := 7) dX7_layWeights_50 (by decide) ?_
      rw [ec]
      refine ih (c + 1) _ (by omega) (fun a ha => by rw [st2_row (by omega), f3 a (by omega) (by omega) (by omega) (by omega), st2_row (by omega), f2 a (by omega) (by omega)]; exact fr a ha) (fun c' hc' => ?_)
      by_cases e : c' = c
      · subst e; rw [st2_at, em]; exact ⟨rfl, by omega, by omega⟩
      · rw [st2_ne e, f3 74 (by decide) (by decide) (by decide) (by decide), st2_row (by decide), f2 74 (by decide) (by decide)]; exact hw c' (by omega)
  refine T_aload_n dX7_layWeights_0 rfl ?_
  refine T_cV_0 dX7_layWeights_1 lkX7_207 rfl (Nat.le_of_ble_eq_true rfl) (RO_r (by decide)) (Nat.le_of_ble_eq_true rfl) ?_
  refine r_milesNow hL (fun D1 f1 rr => ?_)
  have fv : FrV D D1 := fun a ha => f1 a (by omega)
  have z2 : D1 57 5 = D 57 5 := by rw [fv 57 (by omega)]
  by_cases hneg : mlM D = -9
  · refine T_istore_n dX7_layWeights_4 (by decide) ?_
    refine T_iconst dX7_layWeights_5 ?_
    refine T_istore_n dX7_layWeights_6 (by decide) ?_
    refine T_iload_n dX7_layWeights_7 rfl ?_
    refine T_aload_n dX7_layWeights_8 rfl ?_
    refine T_getI dX7_layWeights_9 flX7_115 rfl rfl ?_
    refine T_icmp_ge 53 dX7_layWeights_12 (by decide) (by first | (unfold InR; omega) | (simp [st2, InR]; omega)) (by first | (unfold InR; omega) | (simp [st2, InR]; omega)) (fun hc12 => ?_) (fun hc12 => ?_)
    · refine T_iload_n dX7_layWeights_53 rfl ?_
      refine T_if_lt 61 dX7_layWeights_54 (by decide) (by unfold InR; omega) (fun hc54 => ?_) (fun hc54 => (by exfalso; omega))
      refine T_iconst dX7_layWeights_61 ?_
      refine T_zret dX7_layWeights_62 rfl (by decide) ?_
      exact k0 hneg D1 fv
    · refine T_iload_n dX7_layWeights_15 rfl ?_
      refine T_if_lt 53 dX7_layWeights_16 (by decide) (by unfold InR; omega) (fun hc16 => ?_) (fun hc16 => (by exfalso; omega))
      refine T_iload_n dX7_layWeights_53 rfl ?_
      refine T_if_lt 61 dX7_layWeights_54 (by decide) (by unfold InR; omega) (fun hc54 => ?_) (fun hc54 => (by exfalso; omega))
      refine T_iconst dX7_layWeights_61 ?_
      refine T_zret dX7_layWeights_62 rfl (by decide) ?_
      exact k0 hneg D1 fv
  refine T_istore_n dX7_layWeights_4 (by decide) ?_
  refine T_iconst dX7_layWeights_5 ?_
  refine T_istore_n dX7_layWeights_6 (by decide) ?_
  exact loop (by omega) (by omega) (D 57 5).toNat 0 D1 (by omega) fv (fun c' hc' => by omega)
end

