section
variable {g : G0} {d : Nat} {P : Option Value → List SC → DD → Prop} {D : DD}
theorem c_seatHome {o h : Nat} (hs : SnAt o) (hK : SnK D o) (hh : h < (D o 10).toNat) (hP0 : PSt D o h 0) (k1 : ∀ D' : DD, keepO o D D' → PSt D' o h (D (o + 3) h) → P (some (iI 1)) SH D') (k0 : ∀ D' : DD, keepO o D D' → (¬ ∃ y, Feas (D o 10).toNat (D o 11).toNat (D (o + 3)) (D (o + 4)) (alO D o) y) → P (some (iI 0)) SH D') : TM g mX3_seatHome (d + 2) P [.ref o, iI h] D := by
  have hs2 := hs
  obtain ⟨hS, hA0, hA1, hA2, hA3, hA4, hA5, hA6, hA7, hA8, hA9, ho16⟩ := hs
  have hN := hK.1
  have hM := hK.2.1
  have hhd := hK.2.2.2.1 h hh
  have eh : (h : Int).toNat = h := Int.toNat_natCast h
  have loop : ∀ (q r : Nat) (k : Int) (D1 : DD) (m4 : Option Value), k + q = D (o + 3) h → 0 ≤ k → (r : Int) ≤ k → keepO o D D1 → PSt D1 o h k → T g mX3_seatHome (rmd (d + 2) 0 0) 0 0 (Qm g (rmd (d + 2) 0 0) P) 9 [some (.ref o), some (iI h), some (iI (D (o + 3) h - k)), some (iI r), m4] [] SH D1 := by
    intro q
    induction q using Nat.strongRecOn with
    | ind q ih =>
      intro r k D1 m4 hq hk0 hr kp hPS
      by_cases hdone : q = 0
      · have ek : k = D (o + 3) h := by omega
        refine T_iload_n dX3_seatHome_9 rfl ?_
        refine T_iconst dX3_seatHome_10 ?_
        refine T_icmp_ge 61 dX3_seatHome_11 (by decide) (by first | (unfold InR; omega) | (simp [st2, InR]; omega)) (by first | (unfold InR; omega) | (simp [st2, InR]; omega)) (fun hc11 => ?_) (fun hc11 => ?_)
        · refine T_iload_n dX3_seatHome_61 rfl ?_
          refine T_if_ne 69 dX3_seatHome_62 (by decide) (by first | (unfold InR; omega) | (simp [st2, InR]; omega)) (fun hc62 => (by exfalso; omega)) (fun hc62 => ?_)
          refine T_iconst dX3_seatHome_65 ?_
          refine T_goto (tgt := 70) dX3_seatHome_66 (by decide) ?_
          refine T_zret dX3_seatHome_70 rfl (by decide) ?_
          exact k1 D1 kp (by rw [← ek]; exact hPS)
        · refine T_iload_n dX3_seatHome_14 rfl ?_
          refine T_if_le 61 dX3_seatHome_15 (by decide) (by first | (unfold InR; omega) | (simp [st2, InR]; omega)) (fun hc15 => ?_) (fun hc15 => (by exfalso; omega))
          refine T_iload_n dX3_seatHome_61 rfl ?_
          refine T_if_ne 69 dX3_seatHome_62 (by decide) (by first | (unfold InR; omega) | (simp [st2, InR]; omega)) (fun hc62 => (by exfalso; omega)) (fun hc62 => ?_)
          refine T_iconst dX3_seatHome_65 ?_
          refine T_goto (tgt := 70) dX3_seatHome_66 (by decide) ?_
          refine T_zret dX3_seatHome_70 rfl (by decide) ?_
          exact k1 D1 kp (by rw [← ek]; exact hPS)
      have hK1 : SnK D1 o := SnK_of hK kp.2.1 kp.2.2.1 kp.2.2.2.1 kp.2.2.2.2
      have hI1 : SitI D1 o := hPS.sit hK1 ⟨hk0, by omega⟩
      obtain ⟨⟨p, hF, hC⟩, htk, hz1⟩ := id hPS
      have z0 : D1 o = D o := kp.2.1
      have hh1 : h < (D1 o 10).toNat := by rw [z0]; exact hh
      refine T_iload_n dX3_seatHome_9 rfl ?_
      refine T_iconst dX3_seatHome_10 ?_
      refine T_icmp_ge 61 dX3_seatHome_11 (by decide) (by first | (unfold InR; omega) | (simp [st2, InR]; omega)) (by first | (unfold InR; omega) | (simp [st2, InR]; omega)) (fun hc11 => (by exfalso; omega)) (fun hc11 => ?_)
      refine T_iload_n dX3_seatHome_14 rfl ?_
      refine T_if_le 61 dX3_seatHome_15 (by decide) (by first | (unfold InR; omega) | (simp [st2, InR]; omega)) (fun hc15 => (by exfalso; omega)) (fun hc15 => ?_)
      refine T_aload_n dX3_seatHome_18 rfl ?_
      refine T_cV_0 dX3_seatHome_19 lkX3_93 hS (Nat.le_of_ble_eq_true rfl) (RO_r (by decide)) (Nat.le_of_ble_eq_true rfl) ?_
      refine c_findSteps hs2 hK1 hI1 (fun D2 a1 a2 => ?_)
      have b0 : D2 o = D1 o := a1 o (by omega) (by omega)
      have b1 : D2 (o + 1) = D1 (o + 1) := a1 (o + 1) (by omega) (by omega)
      have b2 : D2 (o + 2) = D1 (o + 2) := a1 (o + 2) (by omega) (by omega)
      have b4 : D2 (o + 4) = D1 (o + 4) := a1 (o + 4) (by omega) (by omega)
      have hK2 : SnK D2 o := SnK_of hK1 b0 b1 (a1 (o + 3) (by omega) (by omega)) b4
      refine T_aload_n dX3_seatHome_22 rfl ?_
      refine T_iload_n dX3_seatHome_23 rfl ?_
      refine T_cV_1 dX3_seatHome_24 lkX3_96 hS (Nat.le_of_ble_eq_true rfl) (RO_r (by decide)) (Nat.le_of_ble_eq_true rfl) ?_
      refine c_startAt hs2 hK2 (by rw [b0]; exact hh1) (fun D3 c1 c2 => ?_)
      have d0 : D3 o = D1 o := (c1 o (by omega) (by omega)).trans b0
      have d1 : D3 (o + 1) = D1 (o + 1) := (c1 (o + 1) (by omega) (by omega)).trans b1
      have d2 : D3 (o + 2) = D1 (o + 2) := (c1 (o + 2) (by omega) (by omega)).trans b2
      have d4 : D3 (o + 4) = D1 (o + 4) := (c1 (o + 4) (by omega) (by omega)).trans b4
      have d6 : D3 (o + 6) = D2 (o + 6) := c1 (o + 6) (by omega) (by omega)
      have d7 : D3 (o + 7) = D2 (o + 7) := c1 (o + 7) (by omega) (by omega)
      have d3 : D3 (o + 3) = D1 (o + 3) := (c1 (o + 3) (by omega) (by omega)).trans (a1 (o + 3) (by omega) (by omega))
      have hK3 : SnK D3 o := SnK_of hK1 d0 d1 d3 d4
      have hI3 : SitI D3 o := by unfold SitI; rw [d0, d1, d2]; exact hI1
      have hfe : fO D3 o = fO D1 o := by unfold fO; rw [d1]
      have hxe : xO D3 o = xO D1 o := by unfold xO; rw [d2]
      have hae : alO D3 o = alO D1 o := by unfold alO; rw [hfe]
      have hE3 := StI.edge hK3 hI3 (by rw [d0, hfe, hxe, d6, d7]; exact a2)
      have hC3 : Cert (D3 o 10).toNat (D3 o 11).toNat (D3 (o + 4)) (alO D3 o) (fO D3 o) (xO D3 o) p := by rw [d0, d4, hae, hfe, hxe]; exact hC
      have hF3 : Feas (D3 o 10).toNat (D3 o 11).toNat (supO D1 o h k) (D3 (o + 4)) (alO D3 o) (xO D3 o) := by rw [d0, d4, hae, hxe]; exact hF
      have hP3 := edge_PW hK3 hI3 hE3 hC3
      have hB3 : BfI (D3 o 11).toNat (exO D3 o) (wO D3 o) p (fun c v => alO D3 o h c ∧ v = fO D3 o h c) 500000000 0 (fun _ => 0) (D3 (o + 8)) (D3 (o + 9)) := bf_start hK3 (by rw [d0]; exact hh1) (fun c hc => by rw [hfe]; have := c2 c (by rw [b0, ← d0]; exact hc); unfold fO at *; rw [b1] at this; exact this)
      have hst3 : ∀ a, a < (D3 o 11).toNat → ∀ b, b < (D3 o 11).toNat → D3 (o + 6) (a * 5 + b) ≤ 500000000 := fun a ha b hb => by rw [d6]; exact (a2.1 a (by rw [← d0]; exact ha) b (by rw [← d0]; exact hb)).1
      refine T_aload_n dX3_seatHome_27 rfl ?_
      refine T_cV_0 dX3_seatHome_28 lkX3_100 hS (Nat.le_of_ble_eq_true rfl) (RO_r (by decide)) (Nat.le_of_ble_eq_true rfl) ?_
      refine c_spread hs2 hK3.2.1 hst3 hP3 rfl hB3 (fun D4 t' τ' e1 e2 e3 e4 => ?_)
      have f0 : D4 o = D3 o := e2 o (by omega) (by omega)
      have f1 : D4 (o + 1) = D3 (o + 1) := e2 (o + 1) (by omega) (by omega)
      have f2 : D4 (o + 2) = D3 (o + 2) := e2 (o + 2) (by omega) (by omega)
      have f3 : D4 (o + 3) = D3 (o + 3) := e2 (o + 3) (by omega) (by omega)
      have f4 : D4 (o + 4) = D3 (o + 4) := e2 (o + 4) (by omega) (by omega)
      have f5 : D4 (o + 5) = D1 (o + 5) := (e2 (o + 5) (by omega) (by omega)).trans ((c1 (o + 5) (by omega) (by omega)).trans (a1 (o + 5) (by omega) (by omega)))
      have f6 : D4 (o + 6) = D3 (o + 6) := e2 (o + 6) (by omega) (by omega)
      have f7 : D4 (o + 7) = D3 (o + 7) := e2 (o + 7) (by omega) (by omega)
      have g1 : fO D4 o = fO D3 o := by unfold fO; rw [f1]
      have g2 : xO D4 o = xO D3 o := by unfold xO; rw [f2]
      have g3 : exO D4 o = exO D3 o := by unfold exO; rw [f6]
      have g4 : wO D4 o = wO D3 o := by unfold wO; rw [f6]
      have g5 : mvO D4 o = mvO D3 o := by unfold mvO; rw [f7]
      have g6 : alO D4 o = alO D3 o := by unfold alO; rw [g1]
      have hK4 : SnK D4 o := SnK_of hK3 f0 f1 f3 f4
      have hI4 : SitI D4 o := by unfold SitI; rw [f0, f1, f2]; exact hI3
      have hE4 : EdgeOK (D4 o 10).toNat (D4 o 11).toNat (alO D4 o) (fO D4 o) (xO D4 o) (exO D4 o) (wO D4 o) (mvO D4 o) := by rw [f0, g6, g1, g2, g3, g4, g5]; exact hE3
      have hC4 : Cert (D4 o 10).toNat (D4 o 11).toNat (D4 (o + 4)) (alO D4 o) (fO D4 o) (xO D4 o) p := by rw [f0, f4, g6, g1, g2]; exact hC3
      have hF4 : Feas (D4 o 10).toNat (D4 o 11).toNat (supO D1 o h k) (D4 (o + 4)) (alO D4 o) (xO D4 o) := by rw [f0, f4, g6, g2]; exact hF3
      have hB4 : BfI (D4 o 11).toNat (exO D4 o) (wO D4 o) p (fun c v => alO D4 o h c ∧ v = fO D4 o h c) 500000000 t' τ' (D4 (o + 8)) (D4 (o + 9)) := by rw [f0, g3, g4, g6, g1]; exact e3
      have hA4 : AllR (D4 o 11).toNat (exO D4 o) (wO D4 o) 500000000 (D4 (o + 8)) := by rw [f0, g3, g4]; exact e4
      have hmv4 : ∀ a b, a < (D4 o 11).toNat → b < (D4 o 11).toNat → exO D4 o a b → 0 ≤ D4 (o + 7) (a * 5 + b) := fun a b ha hb he => by
        rw [f7, d7]
        rw [f0, d0] at ha hb
        exact ((a2.1 a ha b hb).2 (by rw [← d6, ← f6]; exact he)).1
      have htk4 : ∀ c, c < (D4 o 11).toNat → D4 (o + 5) c = sm (D4 o 10).toNat (fun g => xO D4 o g c) := fun c hc => by rw [f5, f0, d0, g2, hxe]; exact htk c (by rw [← d0, ← f0]; exact hc)
      have kp4 : keepO o D1 D4 := ⟨fun a ha => (e2 a (by omega) (by omega)).trans ((c1 a (by omega) (by omega)).trans (a1 a (by omega) (by omega))), f0.trans d0, f1.trans d1, f3.trans d3, f4.trans d4⟩
      have hh4 : h < (D4 o 10).toNat := by rw [f0, d0]; exact hh1
      have e43 : D4 (o + 3) = D (o + 3) := (f3.trans d3).trans kp.2.2.2.1
      refine T_aload_n dX3_seatHome_31 rfl ?_
      refine T_cV_0 dX3_seatHome_32 lkX3_103 hS (Nat.le_of_ble_eq_true rfl) (RO_r (by decide)) (Nat.le_of_ble_eq_true rfl) ?_
      refine c_cheapestWithRoom hs2 hK4.2.1 (fun c hc => by have := hK4.2.2.2.2 c hc; unfold InR; omega) (fun c hc => by have := hK4.2.2.2.2 c hc; have := hF4.2.2 c hc; rw [htk4 c hc]; have := sm_nn (f := fun g => xO D4 o g c) (n := (D4 o 10).toNat) (fun j hj => (hF4.1 j hj c hc).1); unfold InR; omega) (fun c hc => by have := d_rng hB4 (by omega) (by omega) hc; unfold InR; omega) (fun rr hb => ?_)
      refine T_istore dX3_seatHome_35 (by decide) ?_
      rcases hb with ⟨hb0, hb1⟩ | ⟨hb1, hb2, hb3, hb4⟩
      · subst hb0
        refine T_iload dX3_seatHome_37 rfl ?_
        refine T_if_ge 44 dX3_seatHome_39 (by decide) (by first | (unfold InR; omega) | (simp [st2, InR]; omega)) (fun hc39 => (by exfalso; omega)) (fun hc39 => ?_)
        refine T_iconst dX3_seatHome_42 ?_
        refine T_zret dX3_seatHome_43 rfl (by decide) ?_
        refine k0 D4 (kp.tr kp4) ?_
        have ns := no_sending (B := 500000000) (d := D4 (o + 8)) (hd := D4 (o + 3)) hF4 hh4 (fun g' hg' => by
          have := hK4.2.2.2.1 g' hg'
          have z : D1 (o + 3) = D4 (o + 3) := (f3.trans d3).symm
          unfold supO
          rw [z]
          split
          · omega
          · split
            · next e0 => subst e0; rw [e43]; omega
            · omega) (by unfold supO; rw [if_neg (by omega), if_pos rfl, e43]; omega) (fun a ha b hb' g' hg' hd' hx' hal' => by
          obtain ⟨x1, x2⟩ := hE4.2 a ha b hb' g' hg' hx' hal'
          have y1 := hA4 a ha b hb' x1 hd'
          have y2 := hB4.2.2.2.2 a ha hd'
          have y3 := hK4.2.2.1 g' b hg' hb'
          have y4 := hK4.2.2.1 g' a hg' ha
          have y5 := (hI4 g' a hg' ha).2.2 hx'
          simp only [alO, fO] at *
          omega) (fun b hb' hal' => by
          have y1 := hB4.1 b hb' _ ⟨hal', rfl⟩
          simp only [alO] at *
          omega) (fun c hc hd' hlt => hb1 c hc ⟨by rw [htk4 c hc]; exact hlt, hd'⟩)
        rw [← kp.2.1, ← kp.2.2.2.1, ← kp.2.2.2.2]
        have hal : alO D o = alO D4 o := by rw [g6, hae]; unfold alO fO; rw [kp.2.2.1]
        rw [hal, ← d0, ← f0, ← d3, ← f3, ← d4, ← f4]
        exact ns
      · obtain ⟨e, rfl⟩ : ∃ e : Nat, rr = e := ⟨rr.toNat, by omega⟩
        rw [Int.toNat_natCast] at hb2 hb3 hb4
        have hM4 := hK4.2.1
        obtain ⟨ρ, hT⟩ := hB4.tree hA4
        have hpe : p e = 0 := hC4.2.1 e hb2 (by rw [← htk4 e hb2]; exact hb3.1)
        refine T_iload dX3_seatHome_37 rfl ?_
        refine T_if_ge 44 dX3_seatHome_39 (by decide) (by first | (unfold InR; omega) | (simp [st2, InR]; omega)) (fun hc39 => ?_) (fun hc39 => (by exfalso; omega))
        refine T_iload_n dX3_seatHome_44 rfl ?_
        refine T_aload_n dX3_seatHome_45 rfl ?_
        refine T_iload_n dX3_seatHome_46 rfl ?_
        refine T_iload dX3_seatHome_47 rfl ?_
        refine T_iload_n dX3_seatHome_49 rfl ?_
        refine T_cV_3 dX3_seatHome_50 lkX3_106 hS (Nat.le_of_ble_eq_true rfl) (RO_r (by decide)) (Nat.le_of_ble_eq_true rfl) ?_
        refine c_seatAlong (o := o) (h := h) (e := e) (δ := D4 (o + 8) e) (p := p) (ρ := ρ) hs2 hK4 hI4 hh4 hb2 hE4 hT hmv4 hb3.2 (by omega) rfl (by omega) ⟨by rw [htk4 e hb2]; exact sm_nn (fun j hj => (hF4.1 j hj e hb2).1), hb3.1⟩ (fun D5 n c x1 n1 n2 n3 q1 q2 q3 q4 q5 q6 q7 => ?_)
        have au := aug_done (sup := supO D1 o h k) (fin := e) (n := n) (δ := D4 (o + 8) e) hF4 hC4 hE4 hA4 hT (fun c' hc' hal' => hB4.1 c' hc' _ ⟨hal', rfl⟩) hB4.2.2.1 hh4 hb2 n1 (by rw [← htk4 e hb2]; exact n3) hb3.2 (fun c' hc' hlt' hd' => hb4 c' hc' ⟨by rw [htk4 c' hc']; exact hlt', hd'⟩) rfl q3 q4 q5
        obtain ⟨u1, u2, -, u4⟩ := au
        have w0 : D5 o = D4 o := q1 o (by omega) (by omega)
        have w1 : D5 (o + 1) = D4 (o + 1) := q1 (o + 1) (by omega) (by omega)
        have w3 : D5 (o + 3) = D4 (o + 3) := q1 (o + 3) (by omega) (by omega)
        have w4 : D5 (o + 4) = D4 (o + 4) := q1 (o + 4) (by omega) (by omega)
        have v1 : fO D5 o = fO D4 o := by unfold fO; rw [w1]
        have v2 : alO D5 o = alO D4 o := by unfold alO; rw [v1]
        have kp5 : keepO o D D5 := (kp.tr kp4).tr (keepO.of (fun r z2 z5 _ _ _ _ => q1 r z2 z5))
        have PS5 : PSt D5 o h (k + n) := by
          refine ⟨⟨pNew p (D4 (o + 8)) (D4 (o + 8) e), ?_, ?_⟩, fun c' hc' => ?_, fun j hj hn => ?_⟩
          · rw [w0, w4, v2]
            refine (Feas.congX q6 u1).cong (fun g' hg' => ?_) (fun _ _ => rfl) (fun _ _ _ _ => Iff.rfl)
            unfold supO
            rw [w3, f3, d3]
            by_cases z : g' = h
            · subst z; rw [if_pos rfl, if_neg (by omega), if_pos rfl, if_neg (by omega), if_pos rfl]
            · simp only [if_neg z]
          · rw [w0, w4, v2, v1]; exact Cert.congX q6 u2
          · rw [w0] at hc' ⊢
            rw [q2, ← colc q6 hc', u4 c' hc', ← htk4 c' hc']
            by_cases z : c' = e
            · subst z; rw [up1_at, if_pos rfl]
            · rw [up1_ne z, if_neg z, Int.add_zero]
          · rw [w0] at hn
            rw [q7 j hn, f2, d2]
            rw [f0, d0] at hn
            exact hz1 j hj hn
        refine T_isub dX3_seatHome_53 ?_
        refine T_istore_n dX3_seatHome_54 (by decide) ?_
        refine T_iinc dX3_seatHome_55 rfl (by decide) ?_
        refine T_goto (tgt := 9) dX3_seatHome_58 (by decide) ?_
        rw [show D (o + 3) h - k - n = D (o + 3) h - (k + n) by omega]
        exact ih (q - n.toNat) (by omega) (r + 1) (k + n) D5 _ (by omega) (by omega) (by omega) kp5 PS5
  refine T_aload_n dX3_seatHome_0 rfl ?_
  refine T_getR dX3_seatHome_1 flX3_18 hS rfl ?_
  refine T_iload_n dX3_seatHome_4 rfl ?_
  refine T_iald dX3_seatHome_5 hA2 (by first | decide | omega) (by first | omega | (simp [st2]; omega)) (by first | omega | (simp [st2]; omega)) ?_
  refine T_istore_n dX3_seatHome_6 (by decide) ?_
  refine T_iconst dX3_seatHome_7 ?_
  refine T_istore_n dX3_seatHome_8 (by decide) ?_
  have l := loop (D (o + 3) h).toNat 0 0 D none (by omega) (by omega) (by omega) ⟨Fr.rf, rfl, rfl, rfl, rfl⟩ hP0
  rw [Int.sub_zero] at l
  rw [eh]
  exact l
end

