/-- what leastMiles changes -/
def KpN (D D' : DD) : Prop := (∀ r, r ≠ 0 → (r < 16 ∨ 26 < r) → D' r = D r) ∧ ∀ j, j ≠ 11 → j ≠ 14 → D' 0 j = D 0 j
theorem KpN.rf {D : DD} : KpN D D := ⟨fun _ _ _ => rfl, fun _ _ _ => rfl⟩
section
variable {g : G0} {d : Nat} {P : Option Value → List SC → DD → Prop} {D : DD}
theorem c_leastMiles (hL : LK D) (hC : CacheN D) (hk : ∀ D' : DD, KpN D D' → D' 0 11 = D 1 11 → NowOK D' → P (some (iI (mlC D))) SH D') : TM g mX6_leastMiles (d + 4) P [.ref 0] D := by
  have hch := hL.2.2.2.1
  have h11 := hC.1
  have h12 := hC.2.1
  have fin : ∀ (D5 : DD) (r : Int), (∀ a, a ≠ 0 → (a < 16 ∨ 26 < a) → D5 a = D a) → (∀ j, j ≠ 14 → D5 0 j = D 0 j) → D5 0 14 = r → IsMiles (D 1 8).toNat (D 1 9).toNat (D 4) (D 9) (alC D) (farC D) r → (r ≠ -9 → Holds D5 16 (D 1 8).toNat (D 1 9).toNat (D 4) (D 9) (alC D) (farC D) ∧ PSt D5 16 (D 1 8).toNat 0 ∧ r = costX (D 1 8).toNat (D 1 9).toNat (fO D5 16) (xO D5 16) ∧ ∀ c, c < (D 1 9).toNat → 0 ≤ D5 26 c ∧ D5 26 c ≤ 2000000 ∧ D5 26 c = r - mpC D c) → P (some (iI (st2 D5 0 11 (D5 1 11) 0 14))) SH (st2 D5 0 11 (D5 1 11)) := by
    intro D5 r f1 f2 f3 hm hf
    have em := hm.eqF
    have e14 : st2 D5 0 11 (D5 1 11) 0 14 = mlC D := by rw [st2_ne (by decide), f3]; exact em.symm
    have e1 : D5 1 = D 1 := f1 1 (by decide) (by omega)
    obtain ⟨m1, m2, m3, m4⟩ := mlC_of (D := D) (D1 := D5) (fun a h1 h2 => f1 a (by omega) (by omega))
    have hN5 : NowOK D5 := by
      unfold NowOK
      rw [m1, m2, m3, m4, e1, f1 4 (by decide) (by omega), f1 9 (by decide) (by omega), f3]
      refine ⟨em.symm, hm.rng (by have := hL.1; omega) (fun h _ => (hL.2.2.2.2.2.2.1 h).2) (fun h c _ _ _ => farC_bd hL h c), fun q => ?_⟩
      have em2 : mlC D = r := em
      rw [em2] at q ⊢
      exact hf q
    rw [e14]
    refine hk _ ⟨fun a h0 ha => ?_, fun j h1 h2 => ?_⟩ ?_ ?_
    · rw [st2_row h0]; exact f1 a h0 ha
    · rw [st2_ne h1]; exact f2 j h2
    · rw [st2_at, e1]
    · exact hN5.of (fun a h1 _ _ => st2_row (by omega)) (st2_ne (by decide))
  refine T_aload_n dX6_leastMiles_0 rfl ?_
  refine T_getI dX6_leastMiles_1 flX6_62 rfl rfl ?_
  refine T_aload_n dX6_leastMiles_4 rfl ?_
  refine T_getR dX6_leastMiles_5 flX6_12 rfl rfl ?_
  refine T_getI dX6_leastMiles_8 flX6_274 rfl rfl ?_
  refine T_icmp_eq 63 dX6_leastMiles_11 (by decide) (by first | (unfold InR; omega) | (simp [st2, InR]; omega)) (by first | (unfold InR; omega) | (simp [st2, InR]; omega)) (fun hc11 => ?_) (fun hc11 => ?_)
  · refine T_aload_n dX6_leastMiles_63 rfl ?_
    refine T_getI dX6_leastMiles_64 flX6_284 rfl rfl ?_
    refine T_iret dX6_leastMiles_67 rfl ?_
    first
    | (have hN := hC.2.2 hc11; rw [hN.1]; exact hk D KpN.rf hc11 hN)
    | (refine fin _ r (fun a h0 ha => by rw [st2_row h0, kp.1 a (by omega)]; exact fr a (by omega)) (fun j hj => by rw [st2_ne hj, kp.1 0 (by omega), fr 0 (by omega)]) st2_at hm (fun q => ?_); omega)
    | (refine fin D4 r (fun a h0 ha => by rw [w1 a (by omega) (by omega) (by omega) (by omega) (by omega), st2_row h0, kp.1 a (by omega)]; exact fr a (by omega)) (fun j hj => by rw [w1 0 (by omega) (by omega) (by omega) (by omega) (by omega), st2_ne hj, kp.1 0 (by omega), fr 0 (by omega)]) (by rw [w1 0 (by omega) (by omega) (by omega) (by omega) (by omega), st2_at]) hm (fun q => ?_)
       have v0 : D4 16 = st2 D2 0 14 r 16 := w1 16 (by omega) (by omega) (by omega) (by omega) (by omega)
       have v1 : D4 17 = st2 D2 0 14 r 17 := w1 17 (by omega) (by omega) (by omega) (by omega) (by omega)
       have v2 : D4 18 = st2 D2 0 14 r 18 := w1 18 (by omega) (by omega) (by omega) (by omega) (by omega)
       have v3 : D4 19 = st2 D2 0 14 r 19 := w1 19 (by omega) (by omega) (by omega) (by omega) (by omega)
       have v4 : D4 20 = st2 D2 0 14 r 20 := w1 20 (by omega) (by omega) (by omega) (by omega) (by omega)
       have v5 : D4 21 = st2 D2 0 14 r 21 := w1 21 (by omega) (by omega) (by omega) (by omega) (by omega)
       have g1 : fO D4 16 = fO (st2 D2 0 14 r) 16 := by unfold fO; rw [v1]
       have g2 : xO D4 16 = xO (st2 D2 0 14 r) 16 := by unfold xO; rw [v2]
       have g3 : alO D4 16 = alO (st2 D2 0 14 r) 16 := by unfold alO; rw [g1]
       have g4 : supO D4 16 = supO (st2 D2 0 14 r) 16 := by unfold supO; rw [v3]
       refine ⟨hH3.of v0 v1 v3 v4, ?_, ?_, fun c hc => ?_⟩
       · have hP4 := hP3
         rw [hH3.nH] at hP4
         unfold PSt at hP4 ⊢
         rw [v0, v2, v4, v5, g1, g2, g3, g4]
         exact hP4
       · rw [g1, g2, ← hH3.nH, ← hH3.nC]; exact hr3
       · have k := w2 c (by rw [hH3.nC]; exact hc)
         refine ⟨k.1, k.2.1, ?_⟩
         have k3 := (hH3.milesW hc k.2.2).eqF
         unfold mpC
         rw [k3, ← hr3]
         show D4 26 c = r - (r - D4 26 c)
         omega)
  · refine T_aload_n dX6_leastMiles_14 rfl ?_
    refine T_getR dX6_leastMiles_15 flX6_28 rfl rfl ?_
    refine T_aload_n dX6_leastMiles_18 rfl ?_
    refine T_getR dX6_leastMiles_19 flX6_12 rfl rfl ?_
    refine T_cV_1 dX6_leastMiles_22 lkX6_277 rfl (Nat.le_of_ble_eq_true rfl) (RO_r (by decide)) (Nat.le_of_ble_eq_true rfl) ?_
    refine c_load SnAt16 hL (fun D1 fr ld => ?_)
    have hH1 := ld.holds hL
    refine T_aload_n dX6_leastMiles_25 rfl ?_
    refine T_aload_n dX6_leastMiles_26 rfl ?_
    refine T_getR dX6_leastMiles_27 flX6_28 rfl rfl ?_
    refine T_cV_0 dX6_leastMiles_30 lkX6_281 rfl (Nat.le_of_ble_eq_true rfl) (RO_r (by decide)) (Nat.le_of_ble_eq_true rfl) ?_
    refine c_send SnAt16 hH1.snk (fun D2 r kp hm0 hd => ?_)
    have hm := hH1.miles hm0
    have rr := hm.rng (by have := hL.1; omega) (fun h _ => (hL.2.2.2.2.2.2.1 h).2) (fun h c _ _ _ => farC_bd hL h c)
    have e14 : st2 D2 0 14 r 0 14 = r := st2_at
    refine T_putI dX6_leastMiles_33 flX6_284 rfl rfl ?_
    refine T_aload_n dX6_leastMiles_36 rfl ?_
    refine T_getI dX6_leastMiles_37 flX6_284 rfl rfl ?_
    refine T_bipush dX6_leastMiles_40 (by decide) ?_
    refine T_icmp_eq 52 dX6_leastMiles_42 (by decide) (by rw [e14]; unfold InR; omega) (by first | (unfold InR; omega) | (simp [st2, InR]; omega)) (fun hc42 => ?_) (fun hc42 => ?_)
    · rw [e14] at hc42
      refine T_aload_n dX6_leastMiles_52 rfl ?_
      refine T_aload_n dX6_leastMiles_53 rfl ?_
      refine T_getR dX6_leastMiles_54 flX6_12 rfl rfl ?_
      refine T_getI dX6_leastMiles_57 flX6_274 rfl rfl ?_
      refine T_putI dX6_leastMiles_60 flX6_62 rfl rfl ?_
      refine T_aload_n dX6_leastMiles_63 rfl ?_
      refine T_getI dX6_leastMiles_64 flX6_284 rfl rfl ?_
      refine T_iret dX6_leastMiles_67 rfl ?_
      first
      | (have hN := hC.2.2 hc11; rw [hN.1]; exact hk D KpN.rf hc11 hN)
      | (refine fin _ r (fun a h0 ha => by rw [st2_row h0, kp.1 a (by omega)]; exact fr a (by omega)) (fun j hj => by rw [st2_ne hj, kp.1 0 (by omega), fr 0 (by omega)]) st2_at hm (fun q => ?_); omega)
      | (refine fin D4 r (fun a h0 ha => by rw [w1 a (by omega) (by omega) (by omega) (by omega) (by omega), st2_row h0, kp.1 a (by omega)]; exact fr a (by omega)) (fun j hj => by rw [w1 0 (by omega) (by omega) (by omega) (by omega) (by omega), st2_ne hj, kp.1 0 (by omega), fr 0 (by omega)]) (by rw [w1 0 (by omega) (by omega) (by omega) (by omega) (by omega), st2_at]) hm (fun q => ?_)
         have v0 : D4 16 = st2 D2 0 14 r 16 := w1 16 (by omega) (by omega) (by omega) (by omega) (by omega)
         have v1 : D4 17 = st2 D2 0 14 r 17 := w1 17 (by omega) (by omega) (by omega) (by omega) (by omega)
         have v2 : D4 18 = st2 D2 0 14 r 18 := w1 18 (by omega) (by omega) (by omega) (by omega) (by omega)
         have v3 : D4 19 = st2 D2 0 14 r 19 := w1 19 (by omega) (by omega) (by omega) (by omega) (by omega)
         have v4 : D4 20 = st2 D2 0 14 r 20 := w1 20 (by omega) (by omega) (by omega) (by omega) (by omega)
         have v5 : D4 21 = st2 D2 0 14 r 21 := w1 21 (by omega) (by omega) (by omega) (by omega) (by omega)
         have g1 : fO D4 16 = fO (st2 D2 0 14 r) 16 := by unfold fO; rw [v1]
         have g2 : xO D4 16 = xO (st2 D2 0 14 r) 16 := by unfold xO; rw [v2]
         have g3 : alO D4 16 = alO (st2 D2 0 14 r) 16 := by unfold alO; rw [g1]
         have g4 : supO D4 16 = supO (st2 D2 0 14 r) 16 := by unfold supO; rw [v3]
         refine ⟨hH3.of v0 v1 v3 v4, ?_, ?_, fun c hc => ?_⟩
         · have hP4 := hP3
           rw [hH3.nH] at hP4
           unfold PSt at hP4 ⊢
           rw [v0, v2, v4, v5, g1, g2, g3, g4]
           exact hP4
         · rw [g1, g2, ← hH3.nH, ← hH3.nC]; exact hr3
         · have k := w2 c (by rw [hH3.nC]; exact hc)
           refine ⟨k.1, k.2.1, ?_⟩
           have k3 := (hH3.milesW hc k.2.2).eqF
           unfold mpC
           rw [k3, ← hr3]
           show D4 26 c = r - (r - D4 26 c)
           omega)
    · rw [e14] at hc42
      have hd2 : r = costX (D2 16 10).toNat (D2 16 11).toNat (fO D2 16) (xO D2 16) ∧ PSt D2 16 (D2 16 10).toNat 0 := by
        rcases hd with hd | hd
        · exact absurd hd.1 hc42
        · exact hd
      have hH2 := hH1.keep kp
      have t0 : st2 D2 0 14 r 16 = D2 16 := st2_row (by decide)
      have t1 : st2 D2 0 14 r (16 + 1) = D2 (16 + 1) := st2_row (by decide)
      have t2 : st2 D2 0 14 r (16 + 2) = D2 (16 + 2) := st2_row (by decide)
      have t3 : st2 D2 0 14 r (16 + 3) = D2 (16 + 3) := st2_row (by decide)
      have t4 : st2 D2 0 14 r (16 + 4) = D2 (16 + 4) := st2_row (by decide)
      have t5 : st2 D2 0 14 r (16 + 5) = D2 (16 + 5) := st2_row (by decide)
      have hH3 : Holds (st2 D2 0 14 r) 16 _ _ _ _ _ _ := hH2.of t0 t1 t3 t4
      have y1 : fO (st2 D2 0 14 r) 16 = fO D2 16 := by unfold fO; rw [t1]
      have y2 : xO (st2 D2 0 14 r) 16 = xO D2 16 := by unfold xO; rw [t2]
      have y3 : alO (st2 D2 0 14 r) 16 = alO D2 16 := by unfold alO; rw [y1]
      have y4 : supO (st2 D2 0 14 r) 16 = supO D2 16 := by unfold supO; rw [t3]
      have hP3 : PSt (st2 D2 0 14 r) 16 (st2 D2 0 14 r 16 10).toNat 0 := by
        have z := hd2.2
        unfold PSt at z ⊢
        rw [t0, t4, t5, t2, y1, y2, y3, y4]
        exact z
      have hr3 : r = costX (st2 D2 0 14 r 16 10).toNat (st2 D2 0 14 r 16 11).toNat (fO (st2 D2 0 14 r) 16) (xO (st2 D2 0 14 r) 16) := by rw [t0, y1, y2]; exact hd2.1
      refine T_aload_n dX6_leastMiles_45 rfl ?_
      refine T_getR dX6_leastMiles_46 flX6_28 rfl rfl ?_
      refine T_cV_0 dX6_leastMiles_49 lkX6_287 rfl (Nat.le_of_ble_eq_true rfl) (RO_r (by decide)) (Nat.le_of_ble_eq_true rfl) ?_
      refine c_weigh SnAt16 hH3.snk hP3 (fun D4 w1 w2 => ?_)
      refine T_aload_n dX6_leastMiles_52 rfl ?_
      refine T_aload_n dX6_leastMiles_53 rfl ?_
      refine T_getR dX6_leastMiles_54 flX6_12 rfl rfl ?_
      refine T_getI dX6_leastMiles_57 flX6_274 rfl rfl ?_
      refine T_putI dX6_leastMiles_60 flX6_62 rfl rfl ?_
      refine T_aload_n dX6_leastMiles_63 rfl ?_
      refine T_getI dX6_leastMiles_64 flX6_284 rfl rfl ?_
      refine T_iret dX6_leastMiles_67 rfl ?_
      first
      | (have hN := hC.2.2 hc11; rw [hN.1]; exact hk D KpN.rf hc11 hN)
      | (refine fin _ r (fun a h0 ha => by rw [st2_row h0, kp.1 a (by omega)]; exact fr a (by omega)) (fun j hj => by rw [st2_ne hj, kp.1 0 (by omega), fr 0 (by omega)]) st2_at hm (fun q => ?_); omega)
      | (refine fin D4 r (fun a h0 ha => by rw [w1 a (by omega) (by omega) (by omega) (by omega) (by omega), st2_row h0, kp.1 a (by omega)]; exact fr a (by omega)) (fun j hj => by rw [w1 0 (by omega) (by omega) (by omega) (by omega) (by omega), st2_ne hj, kp.1 0 (by omega), fr 0 (by omega)]) (by rw [w1 0 (by omega) (by omega) (by omega) (by omega) (by omega), st2_at]) hm (fun q => ?_)
         have v0 : D4 16 = st2 D2 0 14 r 16 := w1 16 (by omega) (by omega) (by omega) (by omega) (by omega)
         have v1 : D4 17 = st2 D2 0 14 r 17 := w1 17 (by omega) (by omega) (by omega) (by omega) (by omega)
         have v2 : D4 18 = st2 D2 0 14 r 18 := w1 18 (by omega) (by omega) (by omega) (by omega) (by omega)
         have v3 : D4 19 = st2 D2 0 14 r 19 := w1 19 (by omega) (by omega) (by omega) (by omega) (by omega)
         have v4 : D4 20 = st2 D2 0 14 r 20 := w1 20 (by omega) (by omega) (by omega) (by omega) (by omega)
         have v5 : D4 21 = st2 D2 0 14 r 21 := w1 21 (by omega) (by omega) (by omega) (by omega) (by omega)
         have g1 : fO D4 16 = fO (st2 D2 0 14 r) 16 := by unfold fO; rw [v1]
         have g2 : xO D4 16 = xO (st2 D2 0 14 r) 16 := by unfold xO; rw [v2]
         have g3 : alO D4 16 = alO (st2 D2 0 14 r) 16 := by unfold alO; rw [g1]
         have g4 : supO D4 16 = supO (st2 D2 0 14 r) 16 := by unfold supO; rw [v3]
         refine ⟨hH3.of v0 v1 v3 v4, ?_, ?_, fun c hc => ?_⟩
         · have hP4 := hP3
           rw [hH3.nH] at hP4
           unfold PSt at hP4 ⊢
           rw [v0, v2, v4, v5, g1, g2, g3, g4]
           exact hP4
         · rw [g1, g2, ← hH3.nH, ← hH3.nC]; exact hr3
         · have k := w2 c (by rw [hH3.nC]; exact hc)
           refine ⟨k.1, k.2.1, ?_⟩
           have k3 := (hH3.milesW hc k.2.2).eqF
           unfold mpC
           rw [k3, ← hr3]
           show D4 26 c = r - (r - D4 26 c)
           omega)
end

