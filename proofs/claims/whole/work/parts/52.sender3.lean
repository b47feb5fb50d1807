abbrev exO (D : DD) (o a b : Nat) : Prop := D (o + 6) (a * 5 + b) < 500000000
abbrev wO (D : DD) (o a b : Nat) : Int := D (o + 6) (a * 5 + b)
def mvO (D : DD) (o a b : Nat) : Nat := (D (o + 7) (a * 5 + b)).toNat
theorem StI.edge {D : DD} {o : Nat} (hK : SnK D o) (hI : SitI D o) (h : StI (D o 10).toNat (D o 11).toNat (fO D o) (xO D o) (fun _ _ _ => True) (D (o + 6)) (D (o + 7))) : EdgeOK (D o 10).toNat (D o 11).toNat (fun g b => fO D o g b < 500000000) (fO D o) (xO D o) (exO D o) (wO D o) (mvO D o) := by
  refine ⟨fun a ha b hb he => ?_, fun a ha b hb g hg hx hal => ?_⟩
  · obtain ⟨w1, w2, w3, w4, w5⟩ := (h.1 a ha b hb).2 he
    exact ⟨w2, w3, w4, w5⟩
  · have h1 := h.2 a ha b hb g hg trivial hx hal
    have h2 := hK.2.2.1 g b hg hb
    have h3 := hK.2.2.1 g a hg ha
    have h4 := (hI g a hg ha).2.2 hx
    simp only [fO, exO, wO] at *
    exact ⟨by omega, h1⟩
theorem edge_PW {D : DD} {o : Nat} {rm p : Nat → Int} (hK : SnK D o) (hI : SitI D o) (hE : EdgeOK (D o 10).toNat (D o 11).toNat (fun g b => fO D o g b < 500000000) (fO D o) (xO D o) (exO D o) (wO D o) (mvO D o)) (hC : Cert (D o 10).toNat (D o 11).toNat rm (fun g b => fO D o g b < 500000000) (fO D o) (xO D o) p) : PW (D o 11).toNat (exO D o) (wO D o) p := by
  intro a ha b hb he
  obtain ⟨e1, e2, e3, e4⟩ := hE.1 a ha b hb he
  have h1 := hC.2.2 _ e1 a ha b hb e2 e3
  have h2 := hK.2.2.1 _ b e1 hb
  have h3 := hK.2.2.1 _ a e1 ha
  have h4 := (hI _ a e1 ha).2.2 e2
  simp only [fO] at *
  omega
section
variable {g : G0} {d : Nat} {P : Option Value → List SC → DD → Prop} {D : DD}
theorem c_findSteps {o : Nat} (hs : SnAt o) (hK : SnK D o) (hI : SitI D o) (hk : ∀ D' : DD, (∀ r, r ≠ o + 6 → r ≠ o + 7 → D' r = D r) → StI (D o 10).toNat (D o 11).toNat (fO D o) (xO D o) (fun _ _ _ => True) (D' (o + 6)) (D' (o + 7)) → P none SH D') : TM g mX3_findSteps (d + 1) P [.ref o] D := by
  have hs2 := hs
  obtain ⟨hS, hA0, hA1, hA2, hA3, hA4, hA5, hA6, hA7, hA8, hA9, ho16⟩ := hs
  have hN := hK.1
  have hM := hK.2.1
  have inner : ∀ (h : Nat), h < (D o 10).toNat → (∀ (D1 : DD) (m2 : Option Value), (∀ r, r ≠ o + 6 → r ≠ o + 7 → D1 r = D r) → StI (D o 10).toNat (D o 11).toNat (fO D o) (xO D o) (fun g' _ _ => g' < h + 1) (D1 (o + 6)) (D1 (o + 7)) → T g mX3_findSteps (rmd (d + 1) 0 0) 0 0 (Qm g (rmd (d + 1) 0 0) P) 27 [some (.ref o), some (iI ((h + 1 : Nat) : Int)), m2] [] SH D1) → ∀ (q a : Nat) (D1 : DD), q + a = (D o 11).toNat → (∀ r, r ≠ o + 6 → r ≠ o + 7 → D1 r = D r) → StI (D o 10).toNat (D o 11).toNat (fO D o) (xO D o) (fun g' a' _ => g' < h ∨ (g' = h ∧ a' < a)) (D1 (o + 6)) (D1 (o + 7)) → T g mX3_findSteps (rmd (d + 1) 0 0) 0 0 (Qm g (rmd (d + 1) 0 0) P) 37 [some (.ref o), some (iI h), some (iI a)] [] SH D1 := by
    intro h hh K q
    induction q with
    | zero =>
      intro a D1 hq r1 r2
      have z2 : D1 o 11 = D o 11 := by rw [r1 o (by omega) (by omega)]
      refine T_iload_n dX3_findSteps_37 rfl ?_
      refine T_aload_n dX3_findSteps_38 rfl ?_
      refine T_getI dX3_findSteps_39 flX3_52 hS rfl ?_
      refine T_icmp_ge 70 dX3_findSteps_42 (by decide) (by first | (unfold InR; omega) | (simp [st2, InR]; omega)) (by first | (unfold InR; omega) | (simp [st2, InR]; omega)) (fun hc42 => ?_) (fun hc42 => (by exfalso; omega))
      refine T_iinc dX3_findSteps_70 rfl (by decide) ?_
      refine T_goto (tgt := 27) dX3_findSteps_73 (by decide) ?_
      exact K D1 _ r1 (r2.weaken (fun g' a' b' _ ha' _ _ _ z => Or.inl (by omega)))
    | succ q ih =>
      intro a D1 hq r1 r2
      have z0 : D1 o = D o := r1 o (by omega) (by omega)
      have y1 : D1 (o + 1) = D (o + 1) := r1 (o + 1) (by omega) (by omega)
      have y2 : D1 (o + 2) = D (o + 2) := r1 (o + 2) (by omega) (by omega)
      have z2 : D1 o 11 = D o 11 := by rw [z0]
      have ia : ((h : Int) * 5 + a).toNat = h * 5 + a := by omega
      have ex : D1 (o + 2) ((h : Int) * 5 + a).toNat = xO D o h a := by rw [y2, ia]
      have hxr := hI h a hh (by omega)
      have hK1 : SnK D1 o := SnK_of hK z0 y1 (r1 (o + 3) (by omega) (by omega)) (r1 (o + 4) (by omega) (by omega))
      have hI1 : SitI D1 o := by unfold SitI; rw [z0, y1, y2]; exact hI
      have f1 : fO D1 o = fO D o := by unfold fO; rw [y1]
      have f2 : xO D1 o = xO D o := by unfold xO; rw [y2]
      refine T_iload_n dX3_findSteps_37 rfl ?_
      refine T_aload_n dX3_findSteps_38 rfl ?_
      refine T_getI dX3_findSteps_39 flX3_52 hS rfl ?_
      refine T_icmp_ge 70 dX3_findSteps_42 (by decide) (by first | (unfold InR; omega) | (simp [st2, InR]; omega)) (by first | (unfold InR; omega) | (simp [st2, InR]; omega)) (fun hc42 => (by exfalso; omega)) (fun hc42 => ?_)
      refine T_aload_n dX3_findSteps_45 rfl ?_
      refine T_getR dX3_findSteps_46 flX3_15 hS rfl ?_
      refine T_iload_n dX3_findSteps_49 rfl ?_
      refine T_iconst dX3_findSteps_50 ?_
      refine T_imul dX3_findSteps_51 ?_
      refine T_iload_n dX3_findSteps_52 rfl ?_
      refine T_iadd dX3_findSteps_53 ?_
      refine T_iald dX3_findSteps_54 hA1 (by first | decide | omega) (by first | omega | (simp [st2]; omega)) (by first | omega | (simp [st2]; omega)) ?_
      refine T_if_le 64 dX3_findSteps_55 (by decide) (by rw [ex]; unfold InR; simp only [xO]; omega) (fun hc55 => ?_) (fun hc55 => ?_)
      · rw [ex] at hc55
        have r3 : StI (D o 10).toNat (D o 11).toNat (fO D o) (xO D o) (fun g' a' _ => g' < h ∨ (g' = h ∧ a' < a + 1)) (D1 (o + 6)) (D1 (o + 7)) := r2.weaken (fun g' a' b' _ ha' _ hx' _ z => Or.inl (by
          rcases z with z | ⟨z1, z2⟩
          · exact Or.inl z
          · by_cases e : a' = a
            · subst z1; subst e; omega
            · exact Or.inr ⟨z1, by omega⟩))
        refine T_iinc dX3_findSteps_64 rfl (by decide) ?_
        refine T_goto (tgt := 37) dX3_findSteps_67 (by decide) ?_
        first | exact ih (a + 1) D1 (by omega) r1 r3 | exact ih (a + 1) D' (by omega) (fun r e6 e7 => by rw [p1 r e6 e7]; exact r1 r e6 e7) (p2.weaken (fun g' a' b' _ _ _ _ _ z => Or.inl (by omega)))
      · rw [ex] at hc55
        refine T_aload_n dX3_findSteps_58 rfl ?_
        refine T_iload_n dX3_findSteps_59 rfl ?_
        refine T_iload_n dX3_findSteps_60 rfl ?_
        refine T_cV_2 dX3_findSteps_61 lkX3_110 hS (Nat.le_of_ble_eq_true rfl) (RO_r (by decide)) (Nat.le_of_ble_eq_true rfl) ?_
        refine c_findStepsOf (o := o) (h := h) (a := a) hs2 hK1 hI1 (by rw [z0]; exact hh) (by rw [z0]; omega) (by rw [f2]; omega) (by rw [z0, f1, f2]; exact r2) (fun D' p1 p2 => ?_)
        rw [z0, f1, f2] at p2
        refine T_iinc dX3_findSteps_64 rfl (by decide) ?_
        refine T_goto (tgt := 37) dX3_findSteps_67 (by decide) ?_
        first | exact ih (a + 1) D1 (by omega) r1 r3 | exact ih (a + 1) D' (by omega) (fun r e6 e7 => by rw [p1 r e6 e7]; exact r1 r e6 e7) (p2.weaken (fun g' a' b' _ _ _ _ _ z => Or.inl (by omega)))
  have outer : ∀ (q h : Nat) (D1 : DD) (m2 : Option Value), q + h = (D o 10).toNat → (∀ r, r ≠ o + 6 → r ≠ o + 7 → D1 r = D r) → StI (D o 10).toNat (D o 11).toNat (fO D o) (xO D o) (fun g' _ _ => g' < h) (D1 (o + 6)) (D1 (o + 7)) → T g mX3_findSteps (rmd (d + 1) 0 0) 0 0 (Qm g (rmd (d + 1) 0 0) P) 27 [some (.ref o), some (iI h), m2] [] SH D1 := by
    intro q
    induction q with
    | zero =>
      intro h D1 m2 hq r1 r2
      have z2 : D1 o 10 = D o 10 := by rw [r1 o (by omega) (by omega)]
      refine T_iload_n dX3_findSteps_27 rfl ?_
      refine T_aload_n dX3_findSteps_28 rfl ?_
      refine T_getI dX3_findSteps_29 flX3_48 hS rfl ?_
      refine T_icmp_ge 76 dX3_findSteps_32 (by decide) (by first | (unfold InR; omega) | (simp [st2, InR]; omega)) (by first | (unfold InR; omega) | (simp [st2, InR]; omega)) (fun hc32 => ?_) (fun hc32 => (by exfalso; omega))
      refine T_vret dX3_findSteps_76 rfl ?_
      exact hk D1 r1 (r2.weaken (fun g' a' b' hg' _ _ _ _ _ => Or.inl (by omega)))
    | succ q ih =>
      intro h D1 m2 hq r1 r2
      have z2 : D1 o 10 = D o 10 := by rw [r1 o (by omega) (by omega)]
      refine T_iload_n dX3_findSteps_27 rfl ?_
      refine T_aload_n dX3_findSteps_28 rfl ?_
      refine T_getI dX3_findSteps_29 flX3_48 hS rfl ?_
      refine T_icmp_ge 76 dX3_findSteps_32 (by decide) (by first | (unfold InR; omega) | (simp [st2, InR]; omega)) (by first | (unfold InR; omega) | (simp [st2, InR]; omega)) (fun hc32 => (by exfalso; omega)) (fun hc32 => ?_)
      refine T_iconst dX3_findSteps_35 ?_
      refine T_istore_n dX3_findSteps_36 (by decide) ?_
      exact inner h (by omega) (fun D2 m2 s1 s2 => ih (h + 1) D2 m2 (by omega) s1 s2) (D o 11).toNat 0 D1 (by omega) r1 (r2.weaken (fun g' a' b' _ _ _ _ _ z => Or.inl (by omega)))
  have first : ∀ (q i : Nat) (D1 : DD), q + i = 25 → (∀ r, r ≠ o + 6 → r ≠ o + 7 → D1 r = D r) → (∀ j, j < i → D1 (o + 6) j = 500000000) → T g mX3_findSteps (rmd (d + 1) 0 0) 0 0 (Qm g (rmd (d + 1) 0 0) P) 2 [some (.ref o), some (iI i), none] [] SH D1 := by
    intro q
    induction q with
    | zero =>
      intro i D1 hq r1 r2
      refine T_iload_n dX3_findSteps_2 rfl ?_
      refine T_aload_n dX3_findSteps_3 rfl ?_
      refine T_getR dX3_findSteps_4 flX3_27 hS rfl ?_
      refine T_alen dX3_findSteps_7 hA5 ?_
      refine T_icmp_ge 25 dX3_findSteps_8 (by decide) (by first | (unfold InR; omega) | (simp [st2, InR]; omega)) (by first | (unfold InR; omega) | (simp [st2, InR]; omega)) (fun hc8 => ?_) (fun hc8 => (by exfalso; omega))
      refine T_iconst dX3_findSteps_25 ?_
      refine T_istore_n dX3_findSteps_26 (by decide) ?_
      refine outer (D o 10).toNat 0 D1 none (by omega) r1 ⟨fun a ha b hb => ?_, fun a ha b hb g hg q => by omega⟩
      have := r2 (a * 5 + b) (by omega)
      exact ⟨by omega, fun z => by omega⟩
    | succ q ih =>
      intro i D1 hq r1 r2
      refine T_iload_n dX3_findSteps_2 rfl ?_
      refine T_aload_n dX3_findSteps_3 rfl ?_
      refine T_getR dX3_findSteps_4 flX3_27 hS rfl ?_
      refine T_alen dX3_findSteps_7 hA5 ?_
      refine T_icmp_ge 25 dX3_findSteps_8 (by decide) (by first | (unfold InR; omega) | (simp [st2, InR]; omega)) (by first | (unfold InR; omega) | (simp [st2, InR]; omega)) (fun hc8 => (by exfalso; omega)) (fun hc8 => ?_)
      refine T_aload_n dX3_findSteps_11 rfl ?_
      refine T_getR dX3_findSteps_12 flX3_27 hS rfl ?_
      refine T_iload_n dX3_findSteps_15 rfl ?_
      refine T_ldc (n := 500000000) dX3_findSteps_16 tk_469 ?_
      refine T_iast dX3_findSteps_18 hA5 (by first | decide | omega) (by first | omega | (simp [st2]; omega)) (by first | omega | (simp [st2]; omega)) ?_
      refine T_iinc dX3_findSteps_19 rfl (by decide) ?_
      refine T_goto (tgt := 2) dX3_findSteps_22 (by decide) ?_
      refine ih (i + 1) _ (by omega) (fun r e6 e7 => by rw [st2_row e6]; exact r1 r e6 e7) (fun j hj => ?_)
      rw [Int.toNat_natCast]
      by_cases e : j = i
      · subst e; exact st2_at
      · rw [st2_ne e]; exact r2 j (by omega)
  refine T_iconst dX3_findSteps_0 ?_
  refine T_istore_n dX3_findSteps_1 (by decide) ?_
  exact first 25 0 D (by omega) (fun r _ _ => rfl) (fun j hj => by omega)
theorem c_startAt {o h : Nat} (hs : SnAt o) (hK : SnK D o) (hh : h < (D o 10).toNat) (hk : ∀ D' : DD, (∀ r, r ≠ o + 8 → r ≠ o + 9 → D' r = D r) → (∀ c, c < (D o 11).toNat → D' (o + 8) c = fO D o h c ∧ D' (o + 9) c = -1) → P none SH D') : TM g mX3_startAt d P [.ref o, iI h] D := by
  obtain ⟨hS, hA0, hA1, hA2, hA3, hA4, hA5, hA6, hA7, hA8, hA9, ho16⟩ := hs
  have hN := hK.1
  have hM := hK.2.1
  have loop : ∀ (q c : Nat) (D1 : DD), q + c = (D o 11).toNat → (∀ r, r ≠ o + 8 → r ≠ o + 9 → D1 r = D r) → (∀ j, j < c → D1 (o + 8) j = fO D o h j ∧ D1 (o + 9) j = -1) → T g mX3_startAt (rmd d 0 0) 0 0 (Qm g (rmd d 0 0) P) 2 [some (.ref o), some (iI h), some (iI c)] [] SH D1 := by
    intro q
    induction q with
    | zero =>
      intro c D1 hq r1 r2
      have z2 : D1 o 11 = D o 11 := by rw [r1 o (by omega) (by omega)]
      refine T_iload_n dX3_startAt_2 rfl ?_
      refine T_aload_n dX3_startAt_3 rfl ?_
      refine T_getI dX3_startAt_4 flX3_52 hS rfl ?_
      refine T_icmp_ge 39 dX3_startAt_7 (by decide) (by first | (unfold InR; omega) | (simp [st2, InR]; omega)) (by first | (unfold InR; omega) | (simp [st2, InR]; omega)) (fun hc7 => ?_) (fun hc7 => (by exfalso; omega))
      refine T_vret dX3_startAt_39 rfl ?_
      exact hk D1 r1 (fun j hj => r2 j (by omega))
    | succ q ih =>
      intro c D1 hq r1 r2
      have z2 : D1 o 11 = D o 11 := by rw [r1 o (by omega) (by omega)]
      have y1 : D1 (o + 1) = D (o + 1) := r1 (o + 1) (by omega) (by omega)
      have ia : ((h : Int) * 5 + c).toNat = h * 5 + c := by omega
      have ec : (c : Int).toNat = c := Int.toNat_natCast c
      refine T_iload_n dX3_startAt_2 rfl ?_
      refine T_aload_n dX3_startAt_3 rfl ?_
      refine T_getI dX3_startAt_4 flX3_52 hS rfl ?_
      refine T_icmp_ge 39 dX3_startAt_7 (by decide) (by first | (unfold InR; omega) | (simp [st2, InR]; omega)) (by first | (unfold InR; omega) | (simp [st2, InR]; omega)) (fun hc7 => (by exfalso; omega)) (fun hc7 => ?_)
      refine T_aload_n dX3_startAt_10 rfl ?_
      refine T_getR dX3_startAt_11 flX3_33 hS rfl ?_
      refine T_iload_n dX3_startAt_14 rfl ?_
      refine T_aload_n dX3_startAt_15 rfl ?_
      refine T_getR dX3_startAt_16 flX3_9 hS rfl ?_
      refine T_iload_n dX3_startAt_19 rfl ?_
      refine T_iconst dX3_startAt_20 ?_
      refine T_imul dX3_startAt_21 ?_
      refine T_iload_n dX3_startAt_22 rfl ?_
      refine T_iadd dX3_startAt_23 ?_
      refine T_iald dX3_startAt_24 hA0 (by first | decide | omega) (by first | omega | (simp [st2]; omega)) (by first | omega | (simp [st2]; omega)) ?_
      refine T_iast dX3_startAt_25 hA7 (by first | decide | omega) (by first | omega | (simp [st2]; omega)) (by first | omega | (simp [st2]; omega)) ?_
      refine T_aload_n dX3_startAt_26 rfl ?_
      refine T_getR dX3_startAt_27 flX3_36 hS rfl ?_
      refine T_iload_n dX3_startAt_30 rfl ?_
      refine T_iconst dX3_startAt_31 ?_
      refine T_iast dX3_startAt_32 hA8 (by first | decide | omega) (by first | omega | (simp [st2]; omega)) (by first | omega | (simp [st2]; omega)) ?_
      refine T_iinc dX3_startAt_33 rfl (by decide) ?_
      refine T_goto (tgt := 2) dX3_startAt_36 (by decide) ?_
      refine ih (c + 1) _ (by omega) (fun r e6 e7 => by rw [st2_row e7, st2_row e6]; exact r1 r e6 e7) (fun j hj => ?_)
      rw [ec, ia, y1]
      by_cases e : j = c
      · subst e; rw [st2_at, st2_row (by omega), st2_at]; exact ⟨rfl, rfl⟩
      · rw [st2_ne e, st2_row (show o + 8 ≠ o + 9 by omega), st2_ne e, st2_row (show o + 9 ≠ o + 8 by omega)]; exact r2 j (by omega)
  refine T_iconst dX3_startAt_0 ?_
  refine T_istore_n dX3_startAt_1 (by decide) ?_
  exact loop (D o 11).toNat 0 D (by omega) (fun r _ _ => rfl) (fun j hj => by omega)
end

