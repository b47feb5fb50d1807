theorem PSt.next {D : DD} {o h : Nat} (hP : PSt D o h (D (o + 3) h)) : PSt D o (h + 1) 0 := by
  obtain ⟨⟨p, hF, hC⟩, ht⟩ := hP
  refine ⟨⟨p, hF.cong (fun g _ => ?_) (fun _ _ => rfl) (fun _ _ _ _ => Iff.rfl), hC⟩, ht⟩
  unfold supO
  by_cases e : g = h
  · subst e; rw [if_neg (by omega), if_pos rfl, if_pos (by omega)]
  · by_cases e2 : g < h
    · rw [if_pos e2, if_pos (by omega)]
    · rw [if_neg e2, if_neg e, if_neg (by omega)]; split <;> rfl
theorem PSt.first {D : DD} {o : Nat} (hK : SnK D o) (hx : ∀ j, j < 50 → D (o + 2) j = 0) (ht : ∀ c, c < (D o 11).toNat → D (o + 5) c = 0) : PSt D o 0 0 := by
  have hN := hK.1
  have hM := hK.2.1
  have x0 : ∀ g c, g < (D o 10).toNat → c < (D o 11).toNat → xO D o g c = 0 := fun g c hg hc => hx (g * 5 + c) (by omega)
  have row : ∀ g, g < (D o 10).toNat → sm (D o 11).toNat (xO D o g) = 0 := fun g hg => by rw [sm_cong (f' := fun _ => 0) _ (fun c hc => x0 g c hg hc), sm_zero]
  have col : ∀ c, c < (D o 11).toNat → sm (D o 10).toNat (fun g => xO D o g c) = 0 := fun c hc => by rw [sm_cong (f' := fun _ => 0) _ (fun g hg => x0 g c hg hc), sm_zero]
  refine ⟨⟨fun _ => 0, ⟨fun g hg c hc => ?_, fun g hg => ?_, fun c hc => ?_⟩, fun _ _ => Int.le_refl _, fun _ _ _ => rfl, fun g hg a ha b hb hpos => ?_⟩, fun c hc => ?_, fun j hj _ => hx j hj⟩
  · rw [x0 g c hg hc]; exact ⟨Int.le_refl _, fun q => absurd q (by decide)⟩
  · rw [row g hg]; unfold supO; split
    · omega
    · split <;> rfl
  · rw [col c hc]; exact (hK.2.2.2.2 c hc).1
  · rw [x0 g a hg ha] at hpos; exact absurd hpos (by decide)
  · rw [ht c hc, col c hc]
theorem PSt.miles {D : DD} {o : Nat} (hP : PSt D o (D o 10).toNat 0) : IsMiles (D o 10).toNat (D o 11).toNat (D (o + 3)) (D (o + 4)) (alO D o) (fO D o) (costX (D o 10).toNat (D o 11).toNat (fO D o) (xO D o)) := by
  obtain ⟨⟨p, hF, hC⟩, -⟩ := hP
  refine miles_of_cert (hF.cong (fun g hg => ?_) (fun _ _ => rfl) (fun _ _ _ _ => Iff.rfl)) hC
  unfold supO
  rw [if_pos hg]
theorem keepO.miles {D D1 : DD} {o : Nat} (h : keepO o D D1) {r : Int} (hr : IsMiles (D1 o 10).toNat (D1 o 11).toNat (D1 (o + 3)) (D1 (o + 4)) (alO D1 o) (fO D1 o) r) : IsMiles (D o 10).toNat (D o 11).toNat (D (o + 3)) (D (o + 4)) (alO D o) (fO D o) r := by
  have e1 : fO D1 o = fO D o := by unfold fO; rw [h.2.2.1]
  have e2 : alO D1 o = alO D o := by unfold alO; rw [e1]
  rw [h.2.1, h.2.2.2.1, h.2.2.2.2, e2, e1] at hr
  exact hr
section
variable {g : G0} {d : Nat} {P : Option Value → List SC → DD → Prop} {D : DD}
theorem c_send {o : Nat} (hs : SnAt o) (hK : SnK D o) (hk : ∀ (D' : DD) (r : Int), keepO o D D' → IsMiles (D o 10).toNat (D o 11).toNat (D (o + 3)) (D (o + 4)) (alO D o) (fO D o) r → ((r = -9 ∧ ¬ ∃ y, Feas (D o 10).toNat (D o 11).toNat (D (o + 3)) (D (o + 4)) (alO D o) y) ∨ (r = costX (D' o 10).toNat (D' o 11).toNat (fO D' o) (xO D' o) ∧ PSt D' o (D' o 10).toNat 0)) → P (some (iI r)) SH D') : TM g mX3_send (d + 3) P [.ref o] D := by
  have hs2 := hs
  obtain ⟨hS, hA0, hA1, hA2, hA3, hA4, hA5, hA6, hA7, hA8, hA9, ho16⟩ := hs
  have hN := hK.1
  have hM := hK.2.1
  have homes : ∀ (q h : Nat) (D1 : DD), q + h = (D o 10).toNat → keepO o D D1 → PSt D1 o h 0 → T g mX3_send (rmd (d + 3) 0 0) 0 0 (Qm g (rmd (d + 3) 0 0) P) 49 [some (.ref o), some (iI h)] [] SH D1 := by
    intro q
    induction q with
    | zero =>
      intro h D1 hq kp hP
      have z10 : D1 o 10 = D o 10 := by rw [kp.2.1]
      have hK1 : SnK D1 o := SnK_of hK kp.2.1 kp.2.2.1 kp.2.2.2.1 kp.2.2.2.2
      have hP2 : PSt D1 o (D1 o 10).toNat 0 := by rw [show (D1 o 10).toNat = h by omega]; exact hP
      refine T_iload_n dX3_send_49 rfl ?_
      refine T_aload_n dX3_send_50 rfl ?_
      refine T_getI dX3_send_51 flX3_48 hS rfl ?_
      refine T_icmp_ge 74 dX3_send_54 (by decide) (by first | (unfold InR; omega) | (simp [st2, InR]; omega)) (by first | (unfold InR; omega) | (simp [st2, InR]; omega)) (fun hc54 => ?_) (fun hc54 => (by exfalso; omega))
      refine T_aload_n dX3_send_74 rfl ?_
      refine T_cV_0 dX3_send_75 lkX3_89 hS (Nat.le_of_ble_eq_true rfl) (RO_r (by decide)) (Nat.le_of_ble_eq_true rfl) ?_
      refine c_sumOfMiles hs2 hK1.1 hK1.2.1 ?_
      refine T_iret dX3_send_78 rfl ?_
      exact hk D1 _ kp (kp.miles hP2.miles) (Or.inr ⟨rfl, hP2⟩)
    | succ q ih =>
      intro h D1 hq kp hP
      have z10 : D1 o 10 = D o 10 := by rw [kp.2.1]
      have hK1 : SnK D1 o := SnK_of hK kp.2.1 kp.2.2.1 kp.2.2.2.1 kp.2.2.2.2
      have e1 : alO D1 o = alO D o := by unfold alO fO; rw [kp.2.2.1]
      refine T_iload_n dX3_send_49 rfl ?_
      refine T_aload_n dX3_send_50 rfl ?_
      refine T_getI dX3_send_51 flX3_48 hS rfl ?_
      refine T_icmp_ge 74 dX3_send_54 (by decide) (by first | (unfold InR; omega) | (simp [st2, InR]; omega)) (by first | (unfold InR; omega) | (simp [st2, InR]; omega)) (fun hc54 => (by exfalso; omega)) (fun hc54 => ?_)
      refine T_aload_n dX3_send_57 rfl ?_
      refine T_iload_n dX3_send_58 rfl ?_
      refine T_cV_1 dX3_send_59 lkX3_85 hS (Nat.le_of_ble_eq_true rfl) (RO_r (by decide)) (Nat.le_of_ble_eq_true rfl) ?_
      refine c_seatHome hs2 hK1 (by omega) hP (fun D2 k2 P2 => ?_) (fun D2 k2 no => ?_)
      · refine T_if_ne 68 dX3_send_62 (by decide) (by unfold InR; decide) (fun _ => ?_) (fun h => absurd (by decide) h)
        refine T_iinc dX3_send_68 rfl (by decide) ?_
        refine T_goto (tgt := 49) dX3_send_71 (by decide) ?_
        exact ih (h + 1) D2 (by omega) (kp.tr k2) (PSt.next (by rw [k2.2.2.2.1]; exact P2))
      · refine T_if_ne 68 dX3_send_62 (by decide) (by unfold InR; decide) (fun h => absurd h (by decide)) (fun _ => ?_)
        refine T_bipush dX3_send_65 (by decide) ?_
        refine T_iret dX3_send_67 rfl ?_
        rw [kp.2.1, kp.2.2.2.1, kp.2.2.2.2, e1] at no
        exact hk D2 (-9) (kp.tr k2) (Or.inr ⟨rfl, no⟩) (Or.inl ⟨rfl, no⟩)
  have sents : ∀ (q i : Nat) (D1 : DD), q + i = 50 → (∀ r, r ≠ o + 2 → r ≠ o + 5 → D1 r = D r) → (∀ c, c < (D o 11).toNat → D1 (o + 5) c = 0) → (∀ j, j < i → D1 (o + 2) j = 0) → T g mX3_send (rmd (d + 3) 0 0) 0 0 (Qm g (rmd (d + 3) 0 0) P) 25 [some (.ref o), some (iI i)] [] SH D1 := by
    intro q
    induction q with
    | zero =>
      intro i D1 hq r1 r2 r3
      have kp : keepO o D D1 := keepO.of (fun r z2 z5 _ _ _ _ => r1 r z2 z5)
      have hK1 : SnK D1 o := SnK_of hK kp.2.1 kp.2.2.1 kp.2.2.2.1 kp.2.2.2.2
      refine T_iload_n dX3_send_25 rfl ?_
      refine T_aload_n dX3_send_26 rfl ?_
      refine T_getR dX3_send_27 flX3_15 hS rfl ?_
      refine T_alen dX3_send_30 hA1 ?_
      refine T_icmp_ge 47 dX3_send_31 (by decide) (by first | (unfold InR; omega) | (simp [st2, InR]; omega)) (by first | (unfold InR; omega) | (simp [st2, InR]; omega)) (fun hc31 => ?_) (fun hc31 => (by exfalso; omega))
      refine T_iconst dX3_send_47 ?_
      refine T_istore_n dX3_send_48 (by decide) ?_
      exact homes (D o 10).toNat 0 D1 (by omega) kp (PSt.first hK1 (fun j hj => r3 j (by omega)) (by rw [kp.2.1]; exact r2))
    | succ q ih =>
      intro i D1 hq r1 r2 r3
      refine T_iload_n dX3_send_25 rfl ?_
      refine T_aload_n dX3_send_26 rfl ?_
      refine T_getR dX3_send_27 flX3_15 hS rfl ?_
      refine T_alen dX3_send_30 hA1 ?_
      refine T_icmp_ge 47 dX3_send_31 (by decide) (by first | (unfold InR; omega) | (simp [st2, InR]; omega)) (by first | (unfold InR; omega) | (simp [st2, InR]; omega)) (fun hc31 => (by exfalso; omega)) (fun hc31 => ?_)
      refine T_aload_n dX3_send_34 rfl ?_
      refine T_getR dX3_send_35 flX3_15 hS rfl ?_
      refine T_iload_n dX3_send_38 rfl ?_
      refine T_iconst dX3_send_39 ?_
      refine T_iast dX3_send_40 hA1 (by first | decide | omega) (by first | omega | (simp [st2]; omega)) (by first | omega | (simp [st2]; omega)) ?_
      refine T_iinc dX3_send_41 rfl (by decide) ?_
      refine T_goto (tgt := 25) dX3_send_44 (by decide) ?_
      refine ih (i + 1) _ (by omega) (fun r e2 e5 => by rw [st2_row e2]; exact r1 r e2 e5) (fun c hc => by rw [st2_row (by omega)]; exact r2 c hc) (fun j hj => ?_)
      rw [Int.toNat_natCast]
      by_cases e : j = i
      · subst e; exact st2_at
      · rw [st2_ne e]; exact r3 j (by omega)
  have takens : ∀ (q c : Nat) (D1 : DD), q + c = (D o 11).toNat → (∀ r, r ≠ o + 2 → r ≠ o + 5 → D1 r = D r) → (∀ j, j < c → D1 (o + 5) j = 0) → T g mX3_send (rmd (d + 3) 0 0) 0 0 (Qm g (rmd (d + 3) 0 0) P) 2 [some (.ref o), some (iI c)] [] SH D1 := by
    intro q
    induction q with
    | zero =>
      intro c D1 hq r1 r2
      have z11 : D1 o 11 = D o 11 := by rw [r1 o (by omega) (by omega)]
      refine T_iload_n dX3_send_2 rfl ?_
      refine T_aload_n dX3_send_3 rfl ?_
      refine T_getI dX3_send_4 flX3_52 hS rfl ?_
      refine T_icmp_ge 23 dX3_send_7 (by decide) (by first | (unfold InR; omega) | (simp [st2, InR]; omega)) (by first | (unfold InR; omega) | (simp [st2, InR]; omega)) (fun hc7 => ?_) (fun hc7 => (by exfalso; omega))
      refine T_iconst dX3_send_23 ?_
      refine T_istore_n dX3_send_24 (by decide) ?_
      exact sents 50 0 D1 (by omega) r1 (fun c hc => r2 c (by omega)) (fun j hj => by omega)
    | succ q ih =>
      intro c D1 hq r1 r2
      have z11 : D1 o 11 = D o 11 := by rw [r1 o (by omega) (by omega)]
      refine T_iload_n dX3_send_2 rfl ?_
      refine T_aload_n dX3_send_3 rfl ?_
      refine T_getI dX3_send_4 flX3_52 hS rfl ?_
      refine T_icmp_ge 23 dX3_send_7 (by decide) (by first | (unfold InR; omega) | (simp [st2, InR]; omega)) (by first | (unfold InR; omega) | (simp [st2, InR]; omega)) (fun hc7 => (by exfalso; omega)) (fun hc7 => ?_)
      refine T_aload_n dX3_send_10 rfl ?_
      refine T_getR dX3_send_11 flX3_24 hS rfl ?_
      refine T_iload_n dX3_send_14 rfl ?_
      refine T_iconst dX3_send_15 ?_
      refine T_iast dX3_send_16 hA4 (by first | decide | omega) (by first | omega | (simp [st2]; omega)) (by first | omega | (simp [st2]; omega)) ?_
      refine T_iinc dX3_send_17 rfl (by decide) ?_
      refine T_goto (tgt := 2) dX3_send_20 (by decide) ?_
      refine ih (c + 1) _ (by omega) (fun r e2 e5 => by rw [st2_row e5]; exact r1 r e2 e5) (fun j hj => ?_)
      rw [Int.toNat_natCast]
      by_cases e : j = c
      · subst e; exact st2_at
      · rw [st2_ne e]; exact r2 j (by omega)
  refine T_iconst dX3_send_0 ?_
  refine T_istore_n dX3_send_1 (by decide) ?_
  exact takens (D o 11).toNat 0 D (by omega) (fun r _ _ => rfl) (fun j hj => by omega)
end

