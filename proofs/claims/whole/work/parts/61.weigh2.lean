section
variable {g : G0} {d : Nat} {P : Option Value → List SC → DD → Prop} {D : DD}
theorem c_weigh {o : Nat} (hs : SnAt o) (hK : SnK D o) (hP : PSt D o (D o 10).toNat 0) (hk : ∀ D' : DD, (∀ r, r ≠ o + 6 → r ≠ o + 7 → r ≠ o + 8 → r ≠ o + 9 → r ≠ o + 10 → D' r = D r) → (∀ c, c < (D o 11).toNat → 0 ≤ D' (o + 10) c ∧ D' (o + 10) c ≤ 2000000 ∧ IsMiles (D o 10).toNat (D o 11).toNat (D (o + 3)) (fun c' => if c' = c then D (o + 4) c + 1 else D (o + 4) c') (alO D o) (fO D o) (costX (D o 10).toNat (D o 11).toNat (fO D o) (xO D o) - D' (o + 10) c)) → P none SH D') : TM g mX3_weigh (d + 2) P [.ref o] D := by
  have hs2 := hs
  obtain ⟨hS, hA0, hA1, hA2, hA3, hA4, hA5, hA6, hA7, hA8, hA9, ho16⟩ := hs
  have hN := hK.1
  have hM := hK.2.1
  have hI := hP.sit hK ⟨by decide, by decide⟩
  obtain ⟨⟨p, hF, hC⟩, htk, -⟩ := id hP
  have hF' : Feas (D o 10).toNat (D o 11).toNat (D (o + 3)) (D (o + 4)) (alO D o) (xO D o) := hF.cong (fun g' hg' => by unfold supO; rw [if_pos hg']) (fun _ _ => rfl) (fun _ _ _ _ => Iff.rfl)
  have tr : ∀ c, c < (D o 11).toNat → 0 ≤ D (o + 5) c ∧ D (o + 5) c ≤ 50 := fun c hc => by
    have h1 := hF.2.2 c hc
    have h2 := hK.2.2.2.2 c hc
    have h3 := sm_nn (f := fun g' => xO D o g' c) (n := (D o 10).toNat) (fun j hj => (hF.1 j hj c hc).1)
    rw [htk c hc]; omega
  have last : ∀ (D3 : DD), (∀ r, r ≠ o + 6 → r ≠ o + 7 → r ≠ o + 8 → r ≠ o + 9 → D3 r = D r) → (∀ c, c < (D o 11).toNat → -2000000 ≤ D3 (o + 8) c ∧ D3 (o + 8) c ≤ 500000000) → (∀ c, c < (D o 11).toNat → IsMiles (D o 10).toNat (D o 11).toNat (D (o + 3)) (fun c' => if c' = c then D (o + 4) c + 1 else D (o + 4) c') (alO D o) (fO D o) (costX (D o 10).toNat (D o 11).toNat (fO D o) (xO D o) - wtD (D3 (o + 8)) c)) → ∀ (q c : Nat) (D4 : DD), q + c = (D o 11).toNat → (∀ r, r ≠ o + 10 → D4 r = D3 r) → (∀ j, j < c → D4 (o + 10) j = wtD (D3 (o + 8)) j) → T g mX3_weigh (rmd (d + 2) 0 0) 0 0 (Qm g (rmd (d + 2) 0 0) P) 54 [some (.ref o), some (iI c)] [] SH D4 := by
    intro D3 r1 r2 r3 q
    induction q with
    | zero =>
      intro c D4 hq s1 s2
      have z11 : D4 o 11 = D o 11 := by rw [s1 o (by omega), r1 o (by omega) (by omega) (by omega) (by omega)]
      refine T_iload_n dX3_weigh_54 rfl ?_
      refine T_aload_n dX3_weigh_55 rfl ?_
      refine T_getI dX3_weigh_56 flX3_52 hS rfl ?_
      refine T_icmp_ge 85 dX3_weigh_59 (by decide) (by first | (unfold InR; omega) | (simp [st2, InR]; omega)) (by first | (unfold InR; omega) | (simp [st2, InR]; omega)) (fun hc59 => ?_) (fun hc59 => (by exfalso; omega))
      refine T_vret dX3_weigh_85 rfl ?_
      refine hk D4 (fun r z6 z7 z8 z9 z10 => by rw [s1 r z10]; exact r1 r z6 z7 z8 z9) (fun c' hc' => ?_)
      rw [s2 c' (by omega)]
      have := r2 c' hc'
      exact ⟨by unfold wtD; split <;> omega, by unfold wtD; split <;> omega, r3 c' hc'⟩
    | succ q ih =>
      intro c D4 hq s1 s2
      have z11 : D4 o 11 = D o 11 := by rw [s1 o (by omega), r1 o (by omega) (by omega) (by omega) (by omega)]
      have ec : (c : Int).toNat = c := Int.toNat_natCast c
      have e8 : D4 (o + 8) (c : Int).toNat = D3 (o + 8) c := by rw [ec, s1 (o + 8) (by omega)]
      have b8 := r2 c (by omega)
      refine T_iload_n dX3_weigh_54 rfl ?_
      refine T_aload_n dX3_weigh_55 rfl ?_
      refine T_getI dX3_weigh_56 flX3_52 hS rfl ?_
      refine T_icmp_ge 85 dX3_weigh_59 (by decide) (by first | (unfold InR; omega) | (simp [st2, InR]; omega)) (by first | (unfold InR; omega) | (simp [st2, InR]; omega)) (fun hc59 => (by exfalso; omega)) (fun hc59 => ?_)
      refine T_aload_n dX3_weigh_62 rfl ?_
      refine T_getR dX3_weigh_63 flX3_39 hS rfl ?_
      refine T_iload_n dX3_weigh_66 rfl ?_
      refine T_iconst dX3_weigh_67 ?_
      refine T_aload_n dX3_weigh_68 rfl ?_
      refine T_getR dX3_weigh_69 flX3_33 hS rfl ?_
      refine T_iload_n dX3_weigh_72 rfl ?_
      refine T_iald dX3_weigh_73 hA7 (by first | decide | omega) (by first | omega | (simp [st2]; omega)) (by first | omega | (simp [st2]; omega)) ?_
      refine T_ineg dX3_weigh_74 ?_
      refine T_max dX3_weigh_75 lkX3_127 (by first | (unfold InR; omega) | (simp [st2, InR]; omega)) (by rw [e8]; unfold InR; omega) (Nat.le_of_ble_eq_true rfl) ⟨by show _ ≤ _; first | decide | (simp only [rmd]; omega) | omega, by show _ ≤ _; first | decide | (simp only [rmd]; omega) | omega⟩ ?_
      refine T_iast dX3_weigh_78 hA9 (by first | decide | omega) (by first | omega | (simp [st2]; omega)) (by first | omega | (simp [st2]; omega)) ?_
      refine T_iinc dX3_weigh_79 rfl (by decide) ?_
      refine T_goto (tgt := 54) dX3_weigh_82 (by decide) ?_
      refine ih (c + 1) _ (by omega) (fun r z => by rw [st2_row z]; exact s1 r z) (fun j hj => ?_)
      rw [e8, ec]
      by_cases e : j = c
      · subst e; rw [st2_at]; unfold wtD; split <;> split <;> omega
      · rw [st2_ne e]; exact s2 j (by omega)
  have init : ∀ (D1 : DD), (∀ r, r ≠ o + 6 → r ≠ o + 7 → D1 r = D r) → StI (D o 10).toNat (D o 11).toNat (fO D o) (xO D o) (fun _ _ _ => True) (D1 (o + 6)) (D1 (o + 7)) → ∀ (q c : Nat) (D2 : DD), q + c = (D o 11).toNat → (∀ r, r ≠ o + 8 → r ≠ o + 9 → D2 r = D1 r) → (∀ j, j < c → D2 (o + 8) j = (if 0 < D (o + 5) j then 0 else 500000000) ∧ D2 (o + 9) j = -1) → T g mX3_weigh (rmd (d + 2) 0 0) 0 0 (Qm g (rmd (d + 2) 0 0) P) 6 [some (.ref o), some (iI c)] [] SH D2 := by
    intro D1 a1 a2 q
    induction q with
    | zero =>
      intro c D2 hq s1 s2
      have w : ∀ r, r ≠ o + 6 → r ≠ o + 7 → r ≠ o + 8 → r ≠ o + 9 → D2 r = D r := fun r z6 z7 z8 z9 => (s1 r z8 z9).trans (a1 r z6 z7)
      have w0 : D2 o = D o := w o (by omega) (by omega) (by omega) (by omega)
      have w1 : D2 (o + 1) = D (o + 1) := w (o + 1) (by omega) (by omega) (by omega) (by omega)
      have w2 : D2 (o + 2) = D (o + 2) := w (o + 2) (by omega) (by omega) (by omega) (by omega)
      have w4 : D2 (o + 4) = D (o + 4) := w (o + 4) (by omega) (by omega) (by omega) (by omega)
      have w6 : D2 (o + 6) = D1 (o + 6) := s1 (o + 6) (by omega) (by omega)
      have w7 : D2 (o + 7) = D1 (o + 7) := s1 (o + 7) (by omega) (by omega)
      have z11 : D2 o 11 = D o 11 := by rw [w0]
      have hfe : fO D2 o = fO D o := by unfold fO; rw [w1]
      have hxe : xO D2 o = xO D o := by unfold xO; rw [w2]
      have hae : alO D2 o = alO D o := by unfold alO; rw [hfe]
      have hK2 : SnK D2 o := SnK_of hK w0 w1 (w (o + 3) (by omega) (by omega) (by omega) (by omega)) w4
      have hI2 : SitI D2 o := by unfold SitI; rw [w0, w1, w2]; exact hI
      have hE2 := StI.edge hK2 hI2 (by rw [w0, hfe, hxe, w6, w7]; exact a2)
      have hC2 : Cert (D2 o 10).toNat (D2 o 11).toNat (D2 (o + 4)) (alO D2 o) (fO D2 o) (xO D2 o) p := by rw [w0, w4, hae, hfe, hxe]; exact hC
      have hP2 := edge_PW hK2 hI2 hE2 hC2
      have hB2 : BfI (D2 o 11).toNat (exO D2 o) (wO D2 o) p (fun c v => 0 < sm (D o 10).toNat (fun g' => xO D o g' c) ∧ v = 0) 500000000 0 (fun _ => 0) (D2 (o + 8)) (D2 (o + 9)) := by rw [w0]; exact bf_startW (fun c' hc' => s2 c' (by omega)) htk
      have hst2 : ∀ a, a < (D2 o 11).toNat → ∀ b, b < (D2 o 11).toNat → D2 (o + 6) (a * 5 + b) ≤ 500000000 := fun a ha b hb => by rw [w6]; exact (a2.1 a (by rw [← w0]; exact ha) b (by rw [← w0]; exact hb)).1
      refine T_iload_n dX3_weigh_6 rfl ?_
      refine T_aload_n dX3_weigh_7 rfl ?_
      refine T_getI dX3_weigh_8 flX3_52 hS rfl ?_
      refine T_icmp_ge 48 dX3_weigh_11 (by decide) (by first | (unfold InR; omega) | (simp [st2, InR]; omega)) (by first | (unfold InR; omega) | (simp [st2, InR]; omega)) (fun hc11 => ?_) (fun hc11 => (by exfalso; omega))
      refine T_aload_n dX3_weigh_48 rfl ?_
      refine T_cV_0 dX3_weigh_49 lkX3_100 hS (Nat.le_of_ble_eq_true rfl) (RO_r (by decide)) (Nat.le_of_ble_eq_true rfl) ?_
      refine c_spread hs2 hK2.2.1 hst2 hP2 rfl hB2 (fun D3 t' τ' e1 e2 e3 e4 => ?_)
      obtain ⟨ρ, hT⟩ := e3.tree e4
      rw [w0] at e3 e4 hT hE2
      rw [hfe, hxe] at hE2
      refine T_iconst dX3_weigh_52 ?_
      refine T_istore_n dX3_weigh_53 (by decide) ?_
      refine last D3 (fun r z6 z7 z8 z9 => (e2 r z8 z9).trans (w r z6 z7 z8 z9)) (fun c' hc' => ?_) (fun c' hc' => ?_) (D o 11).toNat 0 D3 (by omega) (fun _ _ => rfl) (fun j hj => by omega)
      · by_cases z : D3 (o + 8) c' < 500000000
        · have := e3.2.2.2.2 c' hc' z; omega
        · have := e3.2.2.1 c' hc' z; omega
      · exact weight_ok hF' hC hE2 e4 hT (fun c'' hc'' hpos => e3.1 c'' hc'' 0 ⟨hpos, rfl⟩) (by decide) e3.2.2.1 hc'
    | succ q ih =>
      intro c D2 hq s1 s2
      have w0 : D2 o = D o := (s1 o (by omega) (by omega)).trans (a1 o (by omega) (by omega))
      have z11 : D2 o 11 = D o 11 := by rw [w0]
      have ec : (c : Int).toNat = c := Int.toNat_natCast c
      have e5 : D2 (o + 5) (c : Int).toNat = D (o + 5) c := by rw [ec, s1 (o + 5) (by omega) (by omega), a1 (o + 5) (by omega) (by omega)]
      have t5 := tr c (by omega)
      refine T_iload_n dX3_weigh_6 rfl ?_
      refine T_aload_n dX3_weigh_7 rfl ?_
      refine T_getI dX3_weigh_8 flX3_52 hS rfl ?_
      refine T_icmp_ge 48 dX3_weigh_11 (by decide) (by first | (unfold InR; omega) | (simp [st2, InR]; omega)) (by first | (unfold InR; omega) | (simp [st2, InR]; omega)) (fun hc11 => (by exfalso; omega)) (fun hc11 => ?_)
      refine T_aload_n dX3_weigh_14 rfl ?_
      refine T_getR dX3_weigh_15 flX3_33 hS rfl ?_
      refine T_iload_n dX3_weigh_18 rfl ?_
      refine T_aload_n dX3_weigh_19 rfl ?_
      refine T_getR dX3_weigh_20 flX3_24 hS rfl ?_
      refine T_iload_n dX3_weigh_23 rfl ?_
      refine T_iald dX3_weigh_24 hA4 (by first | decide | omega) (by first | omega | (simp [st2]; omega)) (by first | omega | (simp [st2]; omega)) ?_
      refine T_if_le 32 dX3_weigh_25 (by decide) (by rw [e5]; unfold InR; omega) (fun hc25 => ?_) (fun hc25 => ?_)
      · rw [e5] at hc25
        have vv : (500000000 : Int) = if 0 < D (o + 5) c then 0 else 500000000 := by rw [if_neg (by omega)]
        refine T_ldc (n := 500000000) dX3_weigh_32 tk_469 ?_
        refine T_iast dX3_weigh_34 hA7 (by first | decide | omega) (by first | omega | (simp [st2]; omega)) (by first | omega | (simp [st2]; omega)) ?_
        refine T_aload_n dX3_weigh_35 rfl ?_
        refine T_getR dX3_weigh_36 flX3_36 hS rfl ?_
        refine T_iload_n dX3_weigh_39 rfl ?_
        refine T_iconst dX3_weigh_40 ?_
        refine T_iast dX3_weigh_41 hA8 (by first | decide | omega) (by first | omega | (simp [st2]; omega)) (by first | omega | (simp [st2]; omega)) ?_
        refine T_iinc dX3_weigh_42 rfl (by decide) ?_
        refine T_goto (tgt := 6) dX3_weigh_45 (by decide) ?_
        refine ih (c + 1) _ (by omega) (fun r z8 z9 => by rw [st2_row z9, st2_row z8]; exact s1 r z8 z9) (fun j hj => ?_)
        rw [ec]
        by_cases e : j = c
        · subst e; rw [st2_at, st2_row (show o + 8 ≠ o + 9 by omega), st2_at]; exact ⟨vv, rfl⟩
        · rw [st2_ne e, st2_row (show o + 8 ≠ o + 9 by omega), st2_ne e, st2_row (show o + 9 ≠ o + 8 by omega)]; exact s2 j (by omega)
      · rw [e5] at hc25
        have vv : (0 : Int) = if 0 < D (o + 5) c then 0 else 500000000 := by rw [if_pos (by omega)]
        refine T_iconst dX3_weigh_28 ?_
        refine T_goto (tgt := 34) dX3_weigh_29 (by decide) ?_
        refine T_iast dX3_weigh_34 hA7 (by first | decide | omega) (by first | omega | (simp [st2]; omega)) (by first | omega | (simp [st2]; omega)) ?_
        refine T_aload_n dX3_weigh_35 rfl ?_
        refine T_getR dX3_weigh_36 flX3_36 hS rfl ?_
        refine T_iload_n dX3_weigh_39 rfl ?_
        refine T_iconst dX3_weigh_40 ?_
        refine T_iast dX3_weigh_41 hA8 (by first | decide | omega) (by first | omega | (simp [st2]; omega)) (by first | omega | (simp [st2]; omega)) ?_
        refine T_iinc dX3_weigh_42 rfl (by decide) ?_
        refine T_goto (tgt := 6) dX3_weigh_45 (by decide) ?_
        refine ih (c + 1) _ (by omega) (fun r z8 z9 => by rw [st2_row z9, st2_row z8]; exact s1 r z8 z9) (fun j hj => ?_)
        rw [ec]
        by_cases e : j = c
        · subst e; rw [st2_at, st2_row (show o + 8 ≠ o + 9 by omega), st2_at]; exact ⟨vv, rfl⟩
        · rw [st2_ne e, st2_row (show o + 8 ≠ o + 9 by omega), st2_ne e, st2_row (show o + 9 ≠ o + 8 by omega)]; exact s2 j (by omega)
  refine T_aload_n dX3_weigh_0 rfl ?_
  refine T_cV_0 dX3_weigh_1 lkX3_93 hS (Nat.le_of_ble_eq_true rfl) (RO_r (by decide)) (Nat.le_of_ble_eq_true rfl) ?_
  refine c_findSteps hs2 hK hI (fun D1 a1 a2 => ?_)
  refine T_iconst dX3_weigh_4 ?_
  refine T_istore_n dX3_weigh_5 (by decide) ?_
  exact init D1 a1 a2 (D o 11).toNat 0 D1 (by omega) (fun _ _ _ => rfl) (fun j hj => by omega)
end

