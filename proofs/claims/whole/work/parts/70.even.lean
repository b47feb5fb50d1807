/-! the longest way made shortest -/
theorem Feas.mono {H C : Nat} {sup rm : Nat → Int} {al al' : Nat → Nat → Prop} {x : Nat → Nat → Int} (h : Feas H C sup rm al x) (hu : ∀ h c, h < H → c < C → 0 < x h c → al' h c) : Feas H C sup rm al' x := ⟨fun a ha b hb => ⟨(h.1 a ha b hb).1, fun q => hu a b ha hb q⟩, h.2⟩
theorem tight {H C : Nat} {sup rm : Nat → Int} {al al' : Nat → Nat → Prop} {ct x : Nat → Nat → Int} (hx : Feas H C sup rm al x) (hm : IsMiles H C sup rm al ct (costX H C ct x)) (sub : ∀ h c, h < H → c < C → al' h c → al h c) (hu : ∀ h c, h < H → c < C → 0 < x h c → al' h c) : Feas H C sup rm al' x ∧ IsMiles H C sup rm al' ct (costX H C ct x) := by
  have h1 := hx.mono hu
  refine ⟨h1, Or.inl ⟨x, h1, rfl, fun y hy => ?_⟩⟩
  have hy2 : Feas H C sup rm al y := hy.mono (fun a b ha hb q => sub a b ha hb ((hy.1 a ha b hb).2 q))
  rcases hm with ⟨z, z1, z2, z3⟩ | ⟨-, z2⟩
  · exact z3 y hy2
  · exact absurd ⟨x, hx⟩ z2
theorem IsMiles.none {H C : Nat} {sup rm : Nat → Int} {al : Nat → Nat → Prop} {ct : Nat → Nat → Int} (hm : IsMiles H C sup rm al ct (-9)) (hct : ∀ h c, 0 ≤ ct h c) : ¬ ∃ x, Feas H C sup rm al x := by
  rcases hm with ⟨z, z1, z2, -⟩ | ⟨-, z2⟩
  · have := costX_nn z1 hct; omega
  · exact z2
section
variable {D : DD} {o H C : Nat} {sup rm : Nat → Int} {al : Nat → Nat → Prop} {ct : Nat → Nat → Int}
theorem Holds.sent (hH : Holds D o H C sup rm al ct) (hP : PSt D o H 0) : Feas H C sup rm al (xO D o) ∧ (∀ j, j < 50 → 0 ≤ D (o + 2) j ∧ D (o + 2) j ≤ 5) ∧ (∀ h c, h < H → c < C → D (o + 2) (h * 5 + c) = xO D o h c) ∧ ∀ j, j < 50 → 0 < D (o + 2) j → 0 ≤ D (o + 1) j ∧ D (o + 1) j ≤ 7200 ∧ ∃ h c, h < H ∧ c < C ∧ al h c ∧ 0 < xO D o h c ∧ D (o + 1) j = ct h c := by
  have hK := hH.snk
  have hs := PSt.sit hK ⟨Int.le_refl 0, by decide⟩ hP
  obtain ⟨⟨p, hF, -⟩, -, h3⟩ := hP
  rw [hH.nH, hH.nC] at hF h3
  have e : ∀ h c, D (o + 2) (h * 5 + c) = xO D o h c := fun h c => rfl
  have hF2 : Feas H C sup rm al (xO D o) := hF.cong (fun h hh => by unfold supO; rw [if_pos hh]; exact (hH.2.1 h hh).1) (fun c hc => (hH.2.2.1 c hc).1) (fun h c hh hc => hH.alo hh hc)
  have at0 : ∀ j, j < 50 → (∃ h c, h < H ∧ c < C ∧ j = h * 5 + c) ∨ D (o + 2) j = 0 := by
    intro j hj
    by_cases q : ∃ h c, h < H ∧ c < C ∧ j = h * 5 + c
    · exact Or.inl q
    · exact Or.inr (h3 j hj (fun h c hh hc e => q ⟨h, c, hh, hc, e⟩))
  refine ⟨hF2, fun j hj => ?_, fun h c _ _ => e h c, fun j hj hp => ?_⟩
  · rcases at0 j hj with ⟨h, c, hh, hc, rfl⟩ | z
    · rw [e]; have := hs h c (by rw [hH.nH]; exact hh) (by rw [hH.nC]; exact hc); exact ⟨this.1, this.2.1⟩
    · omega
  · rcases at0 j hj with ⟨h, c, hh, hc, rfl⟩ | z
    · rw [e] at hp
      have a := (hF2.1 h hh c hc).2 hp
      have f := (hH.2.2.2 h c hh hc).1 a
      have f1 : D (o + 1) (h * 5 + c) = ct h c := f.1
      exact ⟨by omega, by omega, h, c, hh, hc, a, hp, f1⟩
    · omega
theorem long_ok (hH : Holds D o H C sup rm al ct) (hP : PSt D o H 0) {r : Int} (hl : IsLong D o 50 r) (hHC : H ≤ 10 ∧ C ≤ 5) : 0 ≤ r ∧ r ≤ 7200 ∧ (∀ h c, h < H → c < C → 0 < xO D o h c → ct h c ≤ r) ∧ (r = 0 ∨ ∃ h c, h < H ∧ c < C ∧ al h c ∧ r = ct h c) := by
  obtain ⟨s1, s2, s3, s4⟩ := hH.sent hP
  obtain ⟨l1, l2, l3⟩ := hl
  have h7 : r ≤ 7200 := by
    rcases l1 with l1 | ⟨j, a, b, c⟩
    · omega
    · have := s4 j a b; omega
  refine ⟨l2, h7, fun h c hh hc q => ?_, ?_⟩
  · have a := (s1.1 h hh c hc).2 q
    have f := (hH.2.2.2 h c hh hc).1 a
    have f1 : D (o + 1) (h * 5 + c) = ct h c := f.1
    have z := l3 (h * 5 + c) (by omega) (by rw [s3 h c hh hc]; exact q)
    omega
  · rcases l1 with l1 | ⟨j, a, b, c⟩
    · exact Or.inl l1
    · obtain ⟨-, -, h, c', q1, q2, q3, q4, q5⟩ := s4 j a b
      exact Or.inr ⟨h, c', q1, q2, q3, by omega⟩
end
abbrev alL (D : DD) (L : Int) (h c : Nat) : Prop := alC D h c ∧ farC D h c ≤ L
def FsL (D : DD) (L : Int) : Prop := ∃ x, Feas (D 1 8).toNat (D 1 9).toNat (D 4) (D 9) (alL D L) x
noncomputable def meC (D : DD) (L : Int) : Int := milesF (D 1 8).toNat (D 1 9).toNat (D 4) (D 9) (alL D L) (farC D)
/-- a longest way that will do, and the least miles with it -/
def EvS (D : DD) (L m : Int) : Prop := 0 ≤ L ∧ L ≤ 7200 ∧ FsL D L ∧ m = meC D L
def IsEven (D : DD) (L m : Int) : Prop := (mlC D = -9 ∧ L = -9 ∧ m = -9) ∨ (mlC D ≠ -9 ∧ EvS D L m ∧ ∀ L', 0 ≤ L' → FsL D L' → L ≤ L')
theorem FsL.mono {D : DD} {L L' : Int} (h : FsL D L) (hl : L ≤ L') : FsL D L' := by
  obtain ⟨x, hx⟩ := h
  exact ⟨x, hx.mono (fun a b ha hb q => by have := (hx.1 a ha b hb).2 q; exact ⟨this.1, by have := this.2; omega⟩)⟩
theorem even_of {D D1 : DD} (h : ∀ a, 1 ≤ a → a ≤ 9 → D1 a = D a) : FsL D1 = FsL D ∧ meC D1 = meC D ∧ IsEven D1 = IsEven D := by
  obtain ⟨m1, -, m3, m4⟩ := mlC_of h
  have e1 : alL D1 = alL D := by funext L x y; unfold alL; rw [m4]; have := congrFun (congrFun m3 x) y; rw [this]
  have e2 : FsL D1 = FsL D := by funext L; unfold FsL; rw [e1, h 1 (by decide) (by decide), h 4 (by decide) (by decide), h 9 (by decide) (by decide)]
  have e3 : meC D1 = meC D := by funext L; unfold meC; rw [e1, m4, h 1 (by decide) (by decide), h 4 (by decide) (by decide), h 9 (by decide) (by decide)]
  refine ⟨e2, e3, ?_⟩
  funext L m
  unfold IsEven EvS
  rw [m1, e2, e3]
/-- what even changes -/
def KpE (D D' : DD) : Prop := (∀ r, r ≠ 0 → (r < 16 ∨ 37 < r) → D' r = D r) ∧ ∀ j, j ≠ 11 → j ≠ 14 → j ≠ 12 → j ≠ 15 → j ≠ 16 → D' 0 j = D 0 j
def CacheE (D : DD) : Prop := -1 ≤ D 0 12 ∧ D 0 12 ≤ D 1 11 ∧ (D 0 12 = D 1 11 → IsEven D (D 0 15) (D 0 16))
theorem KpE.land {D D' : DD} (h : KpE D D') : ∀ a, 1 ≤ a → a ≤ 9 → D' a = D a := fun a h1 h2 => h.1 a (by omega) (Or.inl (by omega))
/-- only the trial sender, and 15 and 16 of the first cell -/
def KpS (D D' : DD) : Prop := (∀ r, r ≠ 0 → (r < 27 ∨ 37 < r) → D' r = D r) ∧ ∀ j, j ≠ 15 → j ≠ 16 → D' 0 j = D 0 j
theorem KpS.rf {D : DD} : KpS D D := ⟨fun _ _ _ => rfl, fun _ _ _ => rfl⟩
theorem KpS.fr {D D1 D2 : DD} (h : KpS D D1) (f : Fr 27 D1 D2) : KpS D D2 := ⟨fun r h0 h1 => (f r (by omega)).trans (h.1 r h0 h1), fun j h1 h2 => by rw [f 0 (by omega)]; exact h.2 j h1 h2⟩
theorem KpS.st {D D1 : DD} {j : Nat} {v : Int} (h : KpS D D1) (hj : j = 15 ∨ j = 16) : KpS D (st2 D1 0 j v) := ⟨fun r h0 h1 => by rw [st2_row h0]; exact h.1 r h0 h1, fun i h1 h2 => by rw [st2_ne (by omega)]; exact h.2 i h1 h2⟩
theorem KpS.land {D D' : DD} (h : KpS D D') : ∀ a, 1 ≤ a → a ≤ 9 → D' a = D a := fun a h1 h2 => h.1 a (by omega) (Or.inl (by omega))
section
variable {g : G0} {d : Nat} {P : Option Value → List SC → DD → Prop} {D : DD}
theorem evs_of {D1 D : DD} {o : Nat} {al : Nat → Nat → Prop} {L : Int} (hL : LK D) (hH : Holds D1 o (D 1 8).toNat (D 1 9).toNat (D 4) (D 9) al (farC D)) (hP : PSt D1 o (D 1 8).toNat 0) (hl : IsLong D1 o 50 L) (hm : IsMiles (D 1 8).toNat (D 1 9).toNat (D 4) (D 9) al (farC D) (costX (D 1 8).toNat (D 1 9).toNat (farC D) (xO D1 o))) (sub : ∀ h c, alL D L h c → al h c) (sup : ∀ h c, al h c → alC D h c) : EvS D L (costX (D 1 8).toNat (D 1 9).toNat (farC D) (xO D1 o)) := by
  obtain ⟨a, b, c, -⟩ := long_ok hH hP hl (by have := hL.1; have := hL.2.1; omega)
  have hF := (hH.sent hP).1
  obtain ⟨t1, t2⟩ := tight (al' := alL D L) hF hm (fun h c _ _ q => sub h c q) (fun h c' hh hc q => ⟨sup h c' ((hF.1 h hh c' hc).2 q), c h c' hh hc q⟩)
  exact ⟨a, b, ⟨_, t1⟩, t2.eqF.symm⟩
theorem c_shortenLongest (hL : LK D) (h0 : (D 0 15 = -9) ∨ EvS D (D 0 15) (D 0 16)) (hk : ∀ D' : DD, KpS D D' → ((D 0 15 = -9 ∧ D' 0 15 = -9 ∧ D' 0 16 = D 0 16) ∨ (D 0 15 ≠ -9 ∧ EvS D (D' 0 15) (D' 0 16) ∧ ∀ L', 0 ≤ L' → FsL D L' → D' 0 15 ≤ L')) → P none SH D') : TM g mX6_shortenLongest (d + 4) P [.ref 0] D := by
  have hM := hL.2.1
  have hN := hL.1
  have loop : D 0 15 ≠ -9 → ∀ (q r : Nat) (low : Int) (D1 : DD) (m3 m4 : Option Value), q + r = 16 → KpS D D1 → 0 ≤ low → low ≤ 8000 → (∀ L', 0 ≤ L' → FsL D L' → low ≤ L') → EvS D (D1 0 15) (D1 0 16) → D1 0 15 - low < ((2 ^ q : Nat) : Int) → T g mX6_shortenLongest (rmd (d + 4) 0 0) 0 0 (Qm g (rmd (d + 4) 0 0) P) 4 [some (.ref 0), some (iI low), some (iI r), m3, m4] [] SH D1 := by
    intro n9 q
    induction q with
    | zero =>
      intro r low D1 m3 m4 hq kp b0 b1 hlow hE hw
      have e1 := hE.1; have e2 := hE.2.1
      have e3 := hlow _ hE.1 hE.2.2.1
      refine T_iload_n dX6_shortenLongest_4 rfl ?_
      refine T_bipush dX6_shortenLongest_5 (by decide) ?_
      refine T_icmp_ge 92 dX6_shortenLongest_7 (by decide) (by first | (unfold InR; omega) | (simp [st2, InR]; omega)) (by first | (unfold InR; omega) | (simp [st2, InR]; omega)) (fun hc7 => ?_) (fun hc7 => (by exfalso; omega))
      refine T_vret dX6_shortenLongest_92 rfl ?_
      exact hk D1 kp (Or.inr ⟨n9, hE, fun L' h1 h2 => by have := hlow L' h1 h2; omega⟩)
    | succ q ih =>
      intro r low D1 m3 m4 hq kp b0 b1 hlow hE hw
      have e1 := hE.1; have e2 := hE.2.1
      have hL1 : LK D1 := LK_fr kp.land hL
      rw [Nat.pow_succ] at hw
      refine T_iload_n dX6_shortenLongest_4 rfl ?_
      refine T_bipush dX6_shortenLongest_5 (by decide) ?_
      refine T_icmp_ge 92 dX6_shortenLongest_7 (by decide) (by first | (unfold InR; omega) | (simp [st2, InR]; omega)) (by first | (unfold InR; omega) | (simp [st2, InR]; omega)) (fun hc7 => (by exfalso; omega)) (fun hc7 => ?_)
      refine T_iload_n dX6_shortenLongest_10 rfl ?_
      refine T_aload_n dX6_shortenLongest_11 rfl ?_
      refine T_getI dX6_shortenLongest_12 flX6_188 rfl rfl ?_
      refine T_icmp_ge 92 dX6_shortenLongest_15 (by decide) (by unfold InR; omega) (by unfold InR; omega) (fun hc15 => ?_) (fun hc15 => ?_)
      · refine T_vret dX6_shortenLongest_92 rfl ?_
        exact hk D1 kp (Or.inr ⟨n9, hE, fun L' h1 h2 => by have := hlow L' h1 h2; omega⟩)
      · refine T_iload_n dX6_shortenLongest_18 rfl ?_
        refine T_aload_n dX6_shortenLongest_19 rfl ?_
        refine T_getI dX6_shortenLongest_20 flX6_188 rfl rfl ?_
        refine T_iadd dX6_shortenLongest_23 ?_
        refine T_iconst dX6_shortenLongest_24 ?_
        refine T_idiv dX6_shortenLongest_25 (by unfold InR; omega) (by first | (unfold InR; omega) | (simp [st2, InR]; omega)) (by decide) ?_
        have ed : (low + D1 0 15).tdiv 2 = (low + D1 0 15) / 2 := Int.tdiv_eq_ediv_of_nonneg (by omega)
        rw [ed]
        generalize hmid : (low + D1 0 15) / 2 = mid
        refine T_istore_n dX6_shortenLongest_26 (by decide) ?_
        refine T_aload_n dX6_shortenLongest_27 rfl ?_
        refine T_getR dX6_shortenLongest_28 flX6_32 rfl rfl ?_
        refine T_aload_n dX6_shortenLongest_31 rfl ?_
        refine T_getR dX6_shortenLongest_32 flX6_12 rfl rfl ?_
        refine T_cV_1 dX6_shortenLongest_35 lkX6_277 rfl (Nat.le_of_ble_eq_true rfl) (RO_r (by decide)) (Nat.le_of_ble_eq_true rfl) ?_
        refine c_load SnAt27 hL1 (fun D2 fr ld => ?_)
        have hH2 := ld.holds hL1
        obtain ⟨-, -, al1, fc1⟩ := mlC_of kp.land
        rw [al1, fc1, kp.land 1 (by decide) (by decide), kp.land 4 (by decide) (by decide), kp.land 9 (by decide) (by decide)] at hH2
        refine T_aload_n dX6_shortenLongest_38 rfl ?_
        refine T_getR dX6_shortenLongest_39 flX6_32 rfl rfl ?_
        refine T_iload_n dX6_shortenLongest_42 rfl ?_
        refine T_cV_1 dX6_shortenLongest_43 lkX6_299 rfl (Nat.le_of_ble_eq_true rfl) (RO_r (by decide)) (Nat.le_of_ble_eq_true rfl) ?_
        refine c_forbidBeyond SnAt27 hH2.snk (by unfold InR; omega) (fun D3 f3 g3 => ?_)
        have hH3 : Holds D3 27 (D 1 8).toNat (D 1 9).toNat (D 4) (D 9) (alL D mid) (farC D) := by
          have nH := hH2.nH
          have nC := hH2.nC
          obtain ⟨q1, q2, q3, q4⟩ := hH2
          have z0 : D3 27 = D2 27 := f3 27 (by decide)
          have z3 : D3 (27 + 3) = D2 (27 + 3) := f3 _ (by decide)
          have z4 : D3 (27 + 4) = D2 (27 + 4) := f3 _ (by decide)
          refine ⟨by rw [z0]; exact q1, fun h hh => by rw [z3]; exact q2 h hh, fun c hc => by rw [z4]; exact q3 c hc, fun h c hh hc => ?_⟩
          rw [g3 h c (by rw [nH]; exact hh) (by rw [nC]; exact hc)]
          obtain ⟨k1, k2⟩ := q4 h c hh hc
          refine ⟨fun qa => ?_, fun qa => ?_⟩
          · obtain ⟨j1, j2, j3⟩ := k1 qa.1
            have := qa.2
            unfold limF
            rw [if_neg (by omega)]
            exact ⟨j1, j2, j3⟩
          · by_cases qb : alC D h c
            · obtain ⟨j1, j2, j3⟩ := k1 qb
              unfold limF
              rw [if_pos]
              refine Classical.byContradiction fun z => qa ⟨qb, by omega⟩
            · have j := k2 qb
              unfold limF
              rw [if_pos (by omega)]
        refine T_aload_n dX6_shortenLongest_46 rfl ?_
        refine T_getR dX6_shortenLongest_47 flX6_32 rfl rfl ?_
        refine T_cV_0 dX6_shortenLongest_50 lkX6_281 rfl (Nat.le_of_ble_eq_true rfl) (RO_r (by decide)) (Nat.le_of_ble_eq_true rfl) ?_
        refine c_send SnAt27 hH3.snk (fun D4 v kp4 hm0 hd => ?_)
        have hm := hH3.miles hm0
        have rr := hm.rng (by omega) (fun h _ => (hL.2.2.2.2.2.2.1 h).2) (fun h c _ _ _ => farC_bd hL h c)
        have f24 : Fr 27 D1 D4 := fr.tr (Fr.tr (fun a ha => f3 a (by omega)) kp4.1)
        have kp5 := kp.fr f24
        have z15 : D4 0 15 = D1 0 15 := by rw [f24 0 (by omega)]
        have z16 : D4 0 16 = D1 0 16 := by rw [f24 0 (by omega)]
        refine T_istore dX6_shortenLongest_53 (by decide) ?_
        refine T_iload dX6_shortenLongest_55 rfl ?_
        refine T_bipush dX6_shortenLongest_57 (by decide) ?_
        refine T_icmp_ne 69 dX6_shortenLongest_59 (by decide) (by unfold InR; omega) (by first | (unfold InR; omega) | (simp [st2, InR]; omega)) (fun hc59 => ?_) (fun hc59 => ?_)
        · have hd2 : v = costX (D4 27 10).toNat (D4 27 11).toNat (fO D4 27) (xO D4 27) ∧ PSt D4 27 (D4 27 10).toNat 0 := by
            rcases hd with hd | hd
            · exact absurd hd.1 hc59
            · exact hd
          have hH4 := hH3.keep kp4
          obtain ⟨hv, hP4⟩ := hd2
          rw [hH4.nH] at hP4
          rw [hH4.nH, hH4.nC] at hv
          have hs4 := hH4.sent hP4
          have hv2 : costX (D 1 8).toNat (D 1 9).toNat (fO D4 27) (xO D4 27) = costX (D 1 8).toNat (D 1 9).toNat (farC D) (xO D4 27) := costX_cong (al := alL D mid) hs4.1.1 (fun h c hh hc q => ((hH4.2.2.2 h c hh hc).1 q).1)
          rw [hv2] at hv
          have y0 : ∀ a, a ≠ 0 → st2 D4 0 16 v a = D4 a := fun a ha => st2_row ha
          have hH5 : Holds (st2 D4 0 16 v) 27 _ _ _ _ _ _ := hH4.of (y0 _ (by decide)) (y0 _ (by decide)) (y0 _ (by decide)) (y0 _ (by decide))
          have hx5 : xO (st2 D4 0 16 v) 27 = xO D4 27 := by unfold xO; rw [y0 _ (by decide)]
          have hf5 : fO (st2 D4 0 16 v) 27 = fO D4 27 := by unfold fO; rw [y0 _ (by decide)]
          have hP5 : PSt (st2 D4 0 16 v) 27 (D 1 8).toNat 0 := by
            have ha5 : alO (st2 D4 0 16 v) 27 = alO D4 27 := by unfold alO; rw [hf5]
            have hs5 : supO (st2 D4 0 16 v) 27 = supO D4 27 := by unfold supO; rw [y0 _ (by decide)]
            unfold PSt at hP4 ⊢
            rw [hx5, hf5, ha5, hs5, y0 27 (by decide), y0 (27 + 4) (by decide), y0 (27 + 5) (by decide), y0 (27 + 2) (by decide)]
            exact hP4
          have hs5 := hH5.sent hP5
          refine T_aload_n dX6_shortenLongest_69 rfl ?_
          refine T_iload dX6_shortenLongest_70 rfl ?_
          refine T_putI dX6_shortenLongest_72 flX6_191 rfl rfl ?_
          refine T_aload_n dX6_shortenLongest_75 rfl ?_
          refine T_aload_n dX6_shortenLongest_76 rfl ?_
          refine T_getR dX6_shortenLongest_77 flX6_32 rfl rfl ?_
          refine T_cV_0 dX6_shortenLongest_80 lkX6_293 rfl (Nat.le_of_ble_eq_true rfl) (RO_r (by decide)) (Nat.le_of_ble_eq_true rfl) ?_
          refine c_longest SnAt27 hs5.2.1 (fun j hj q => by have := hs5.2.2.2 j hj q; omega) (fun Ln hln => ?_)
          have lo := long_ok hH5 hP5 hln (by omega)
          have hLm : Ln ≤ mid := by
            rcases lo.2.2.2 with z | ⟨h, c, _, _, z3, z4⟩
            · omega
            · have := z3.2; omega
          have hE5 : EvS D Ln v := by
            have z := evs_of hL hH5 hP5 hln (by rw [hx5, ← hv]; exact hm) (fun h c q => ⟨q.1, by have := q.2; omega⟩) (fun h c q => q.1)
            rw [hx5, ← hv] at z
            exact z
          have s15 : st2 (st2 D4 0 16 v) 0 15 Ln 0 15 = Ln := st2_at
          have s16 : st2 (st2 D4 0 16 v) 0 15 Ln 0 16 = v := by rw [st2_ne (by decide), st2_at]
          refine T_putI dX6_shortenLongest_83 flX6_188 rfl rfl ?_
          refine T_iinc dX6_shortenLongest_86 rfl (by decide) ?_
          refine T_goto (tgt := 4) dX6_shortenLongest_89 (by decide) ?_
          first
          | (have hv9 : v = -9 := by omega
             have hnf : ¬ FsL D mid := by
               rw [hv9] at hm
               exact hm.none (fun h c => (farC_bd hL h c).1)
             exact ih (r + 1) (mid + 1) D4 _ _ (by omega) kp5 (by omega) (by omega) (fun L' h1 h2 => Classical.byContradiction fun z => hnf (h2.mono (by omega))) (by rw [z15, z16]; exact hE) (by rw [z15]; omega))
          | exact ih (r + 1) low _ _ _ (by omega) ((kp5.st (Or.inr rfl)).st (Or.inl rfl)) b0 b1 hlow (by rw [s15, s16]; exact hE5) (by rw [s15]; omega)
        · refine T_iload_n dX6_shortenLongest_62 rfl ?_
          refine T_iconst dX6_shortenLongest_63 ?_
          refine T_iadd dX6_shortenLongest_64 ?_
          refine T_istore_n dX6_shortenLongest_65 (by decide) ?_
          refine T_goto (tgt := 86) dX6_shortenLongest_66 (by decide) ?_
          refine T_iinc dX6_shortenLongest_86 rfl (by decide) ?_
          refine T_goto (tgt := 4) dX6_shortenLongest_89 (by decide) ?_
          first
          | (have hv9 : v = -9 := by omega
             have hnf : ¬ FsL D mid := by
               rw [hv9] at hm
               exact hm.none (fun h c => (farC_bd hL h c).1)
             exact ih (r + 1) (mid + 1) D4 _ _ (by omega) kp5 (by omega) (by omega) (fun L' h1 h2 => Classical.byContradiction fun z => hnf (h2.mono (by omega))) (by rw [z15, z16]; exact hE) (by rw [z15]; omega))
          | exact ih (r + 1) low _ _ _ (by omega) ((kp5.st (Or.inr rfl)).st (Or.inl rfl)) b0 b1 hlow (by rw [s15, s16]; exact hE5) (by rw [s15]; omega)
  rcases h0 with h0 | h0
  · skip
    refine T_iconst dX6_shortenLongest_0 ?_
    refine T_istore_n dX6_shortenLongest_1 (by decide) ?_
    refine T_iconst dX6_shortenLongest_2 ?_
    refine T_istore_n dX6_shortenLongest_3 (by decide) ?_
    refine T_iload_n dX6_shortenLongest_4 rfl ?_
    refine T_bipush dX6_shortenLongest_5 (by decide) ?_
    refine T_icmp_ge 92 dX6_shortenLongest_7 (by decide) (by unfold InR; decide) (by unfold InR; decide) (fun h => absurd h (by decide)) (fun _ => ?_)
    refine T_iload_n dX6_shortenLongest_10 rfl ?_
    refine T_aload_n dX6_shortenLongest_11 rfl ?_
    refine T_getI dX6_shortenLongest_12 flX6_188 rfl rfl ?_
    refine T_icmp_ge 92 dX6_shortenLongest_15 (by decide) (by first | (unfold InR; omega) | (simp [st2, InR]; omega)) (by first | (unfold InR; omega) | (simp [st2, InR]; omega)) (fun hc15 => ?_) (fun hc15 => (by exfalso; omega))
    refine T_vret dX6_shortenLongest_92 rfl ?_
    exact hk D KpS.rf (Or.inl ⟨h0, h0, rfl⟩)
  · have e1 := h0.1; have e2 := h0.2.1
    refine T_iconst dX6_shortenLongest_0 ?_
    refine T_istore_n dX6_shortenLongest_1 (by decide) ?_
    refine T_iconst dX6_shortenLongest_2 ?_
    refine T_istore_n dX6_shortenLongest_3 (by decide) ?_
    exact loop (by omega) 16 0 0 D none none (by omega) KpS.rf (by omega) (by omega) (fun L' h1 _ => h1) h0 (by omega)
theorem c_seekEven (hL : LK D) (hC : CacheN D) (hE : CacheE D) (hk : ∀ D' : DD, KpE D D' → CacheN D' → CacheE D' → IsEven D (D' 0 15) (D' 0 16) → P none SH D') : TM g mX6_seekEven (d + 5) P [.ref 0] D := by
  have hch := hL.2.2.2.1
  have h11 := hE.1
  have h12 := hE.2.1
  have fin : ∀ D1 D4 : DD, KpN D D1 → D1 0 11 = D 1 11 → NowOK D1 → (∀ r, r ≠ 0 → (r < 27 ∨ 37 < r) → D4 r = D1 r) → (∀ j, j ≠ 15 → j ≠ 16 → D4 0 j = D1 0 j) → IsEven D (D4 0 15) (D4 0 16) → P none SH (st2 D4 0 12 (D4 1 11)) := by
    intro D1 D4 kp e1 hN f1 f2 hI
    have q1 : ∀ r, r ≠ 0 → (r < 16 ∨ 37 < r) → D4 r = D r := fun r h0 h1 => (f1 r h0 (by omega)).trans (kp.1 r h0 (by omega))
    have ql : ∀ a, 1 ≤ a → a ≤ 9 → st2 D4 0 12 (D4 1 11) a = D a := fun a h1 h2 => by rw [st2_row (by omega)]; exact q1 a (by omega) (by omega)
    have q11 : D4 1 11 = D 1 11 := by rw [q1 1 (by decide) (by decide)]
    have n11 : st2 D4 0 12 (D4 1 11) 0 11 = D 1 11 := by rw [st2_ne (by decide), f2 11 (by decide) (by decide)]; exact e1
    have c11 : st2 D4 0 12 (D4 1 11) 1 11 = D 1 11 := by rw [ql 1 (by decide) (by decide)]
    have r12 : st2 D4 0 12 (D4 1 11) 0 12 = D 1 11 := by rw [st2_at, q11]
    have r15 : st2 D4 0 12 (D4 1 11) 0 15 = D4 0 15 := st2_ne (by decide)
    have r16 : st2 D4 0 12 (D4 1 11) 0 16 = D4 0 16 := st2_ne (by decide)
    refine hk _ ⟨fun r h0 h1 => by rw [st2_row h0]; exact q1 r h0 h1, fun j a b c d e => by rw [st2_ne c, f2 j d e]; exact kp.2 j a b⟩ ⟨by omega, by omega, fun _ => ?_⟩ ⟨by omega, by omega, fun _ => ?_⟩ ?_
    · refine hN.of (fun a h1 h2 h3 => by rw [st2_row (by omega)]; exact f1 a (by omega) (by omega)) ?_
      rw [st2_ne (by decide)]; exact f2 14 (by decide) (by decide)
    · rw [(even_of ql).2.2, r15, r16]; exact hI
    · rw [r15, r16]; exact hI
  refine T_aload_n dX6_seekEven_0 rfl ?_
  refine T_getI dX6_seekEven_1 flX6_66 rfl rfl ?_
  refine T_aload_n dX6_seekEven_4 rfl ?_
  refine T_getR dX6_seekEven_5 flX6_12 rfl rfl ?_
  refine T_getI dX6_seekEven_8 flX6_274 rfl rfl ?_
  refine T_icmp_eq 62 dX6_seekEven_11 (by decide) (by first | (unfold InR; omega) | (simp [st2, InR]; omega)) (by first | (unfold InR; omega) | (simp [st2, InR]; omega)) (fun hc11 => ?_) (fun hc11 => ?_)
  · refine T_vret dX6_seekEven_62 rfl ?_
    first
    | exact hk D ⟨fun _ _ _ => rfl, fun _ _ _ _ _ _ => rfl⟩ hC hE (hE.2.2 hc11)
    | (have s15 : st2 (st2 D1 0 16 (mlC D)) 0 15 Ln 0 15 = Ln := st2_at
       have ev := even_of (D := D) (D1 := st2 (st2 D1 0 16 (mlC D)) 0 15 Ln) (fun a h1 h2 => by rw [st2_row (by omega), st2_row (by omega)]; exact kp.land a h1 h2)
       refine fin D1 D4 kp e1 hN (fun r h0 h1 => by rw [ks.1 r h0 h1, st2_row h0, st2_row h0]) (fun j h1 h2 => by rw [ks.2 j h1 h2, st2_ne h1, st2_ne h2]) (Or.inr ⟨hc29, ?_⟩)
       rcases hz with hz | hz
       · have := lo.1; rw [s15] at hz; omega
       · obtain ⟨-, hz⟩ := hz
         unfold EvS at hz
         rw [ev.1, ev.2.1] at hz
         exact hz)
    | (have s15 : st2 (st2 D1 0 16 (mlC D)) 0 15 (-9) 0 15 = -9 := st2_at
       have s16 : st2 (st2 D1 0 16 (mlC D)) 0 15 (-9) 0 16 = mlC D := by rw [st2_ne (by decide), st2_at]
       have ev := even_of (D := D) (D1 := st2 (st2 D1 0 16 (mlC D)) 0 15 (-9)) (fun a h1 h2 => by rw [st2_row (by omega), st2_row (by omega)]; exact kp.land a h1 h2)
       have hc9 : mlC D = -9 := by omega
       refine fin D1 D4 kp e1 hN (fun r h0 h1 => by rw [ks.1 r h0 h1, st2_row h0, st2_row h0]) (fun j h1 h2 => by rw [ks.2 j h1 h2, st2_ne h1, st2_ne h2]) (Or.inl ⟨hc9, ?_⟩)
       rcases hz with hz | hz
       · rw [s16] at hz; exact ⟨hz.2.1, hz.2.2.trans hc9⟩
       · exact absurd s15 hz.1)
  · refine T_aload_n dX6_seekEven_14 rfl ?_
    refine T_aload_n dX6_seekEven_15 rfl ?_
    refine T_cV_0 dX6_seekEven_16 lkX6_158 rfl (Nat.le_of_ble_eq_true rfl) (RO_r (by decide)) (Nat.le_of_ble_eq_true rfl) ?_
    refine c_leastMiles hL hC (fun D1 kp e1 hN => ?_)
    obtain ⟨rr, f2, f3⟩ := now_facts kp hN
    have e16 : st2 D1 0 16 (mlC D) 0 16 = mlC D := st2_at
    have y0 : ∀ a, a ≠ 0 → st2 D1 0 16 (mlC D) a = D1 a := fun a ha => st2_row ha
    refine T_putI dX6_seekEven_19 flX6_191 rfl rfl ?_
    refine T_aload_n dX6_seekEven_22 rfl ?_
    refine T_aload_n dX6_seekEven_23 rfl ?_
    refine T_getI dX6_seekEven_24 flX6_191 rfl rfl ?_
    refine T_bipush dX6_seekEven_27 (by decide) ?_
    refine T_icmp_ne 37 dX6_seekEven_29 (by decide) (by rw [e16]; unfold InR; omega) (by first | (unfold InR; omega) | (simp [st2, InR]; omega)) (fun hc29 => ?_) (fun hc29 => ?_)
    · rw [e16] at hc29
      obtain ⟨hH, hP, hml, -⟩ := f3 hc29
      have hH5 : Holds (st2 D1 0 16 (mlC D)) 16 _ _ _ _ _ _ := hH.of (y0 _ (by decide)) (y0 _ (by decide)) (y0 _ (by decide)) (y0 _ (by decide))
      have hx5 : xO (st2 D1 0 16 (mlC D)) 16 = xO D1 16 := by unfold xO; rw [y0 _ (by decide)]
      have hf5 : fO (st2 D1 0 16 (mlC D)) 16 = fO D1 16 := by unfold fO; rw [y0 _ (by decide)]
      have hP5 : PSt (st2 D1 0 16 (mlC D)) 16 (D 1 8).toNat 0 := by
        have ha5 : alO (st2 D1 0 16 (mlC D)) 16 = alO D1 16 := by unfold alO; rw [hf5]
        have hs5 : supO (st2 D1 0 16 (mlC D)) 16 = supO D1 16 := by unfold supO; rw [y0 _ (by decide)]
        unfold PSt at hP ⊢
        rw [hx5, hf5, ha5, hs5, y0 16 (by decide), y0 (16 + 4) (by decide), y0 (16 + 5) (by decide), y0 (16 + 2) (by decide)]
        exact hP
      have hs5 := hH5.sent hP5
      have hml2 : costX (D 1 8).toNat (D 1 9).toNat (fO D1 16) (xO D1 16) = costX (D 1 8).toNat (D 1 9).toNat (farC D) (xO D1 16) := costX_cong (al := alC D) (hH.sent hP).1.1 (fun h c hh hc q => ((hH.2.2.2 h c hh hc).1 q).1)
      rw [hml2] at hml
      have hmi : IsMiles (D 1 8).toNat (D 1 9).toNat (D 4) (D 9) (alC D) (farC D) (mlC D) := by
        have z := PSt.miles (D := D1) (o := 16) (by rw [hH.nH]; exact hP)
        have z2 := hH.miles z
        rw [hH.nH, hH.nC, hml2, ← hml] at z2
        exact z2
      refine T_aload_n dX6_seekEven_37 rfl ?_
      refine T_getR dX6_seekEven_38 flX6_28 rfl rfl ?_
      refine T_cV_0 dX6_seekEven_41 lkX6_293 rfl (Nat.le_of_ble_eq_true rfl) (RO_r (by decide)) (Nat.le_of_ble_eq_true rfl) ?_
      refine c_longest SnAt16 hs5.2.1 (fun j hj q => by have := hs5.2.2.2 j hj q; omega) (fun Ln hln => ?_)
      have lo := long_ok hH5 hP5 hln (by have := hL.1; have := hL.2.1; omega)
      have hE5 : EvS D Ln (mlC D) := by
        have z := evs_of hL hH5 hP5 hln (by rw [hx5, ← hml]; exact hmi) (fun h c q => q.1) (fun h c q => q)
        rw [hx5, ← hml] at z
        exact z
      refine T_putI dX6_seekEven_44 flX6_188 rfl rfl ?_
      refine T_aload_n dX6_seekEven_47 rfl ?_
      refine T_cV_0 dX6_seekEven_48 lkX6_296 rfl (Nat.le_of_ble_eq_true rfl) (RO_r (by decide)) (Nat.le_of_ble_eq_true rfl) ?_
      first
      | (refine c_shortenLongest (LK_fr (fun a h1 h2 => by rw [st2_row (by omega), st2_row (by omega)]; exact kp.land a h1 h2) hL) (Or.inr ?_) (fun D4 ks hz => ?_)
         · have s15 : st2 (st2 D1 0 16 (mlC D)) 0 15 Ln 0 15 = Ln := st2_at
           have s16 : st2 (st2 D1 0 16 (mlC D)) 0 15 Ln 0 16 = mlC D := by rw [st2_ne (by decide), st2_at]
           have ev := even_of (D := D) (D1 := st2 (st2 D1 0 16 (mlC D)) 0 15 Ln) (fun a h1 h2 => by rw [st2_row (by omega), st2_row (by omega)]; exact kp.land a h1 h2)
           unfold EvS
           rw [ev.1, ev.2.1, s15, s16]
           exact hE5)
      | refine c_shortenLongest (LK_fr (fun a h1 h2 => by rw [st2_row (by omega), st2_row (by omega)]; exact kp.land a h1 h2) hL) (Or.inl st2_at) (fun D4 ks hz => ?_)
      refine T_aload_n dX6_seekEven_51 rfl ?_
      refine T_aload_n dX6_seekEven_52 rfl ?_
      refine T_getR dX6_seekEven_53 flX6_12 rfl rfl ?_
      refine T_getI dX6_seekEven_56 flX6_274 rfl rfl ?_
      refine T_putI dX6_seekEven_59 flX6_66 rfl rfl ?_
      refine T_vret dX6_seekEven_62 rfl ?_
      first
      | exact hk D ⟨fun _ _ _ => rfl, fun _ _ _ _ _ _ => rfl⟩ hC hE (hE.2.2 hc11)
      | (have s15 : st2 (st2 D1 0 16 (mlC D)) 0 15 Ln 0 15 = Ln := st2_at
         have ev := even_of (D := D) (D1 := st2 (st2 D1 0 16 (mlC D)) 0 15 Ln) (fun a h1 h2 => by rw [st2_row (by omega), st2_row (by omega)]; exact kp.land a h1 h2)
         refine fin D1 D4 kp e1 hN (fun r h0 h1 => by rw [ks.1 r h0 h1, st2_row h0, st2_row h0]) (fun j h1 h2 => by rw [ks.2 j h1 h2, st2_ne h1, st2_ne h2]) (Or.inr ⟨hc29, ?_⟩)
         rcases hz with hz | hz
         · have := lo.1; rw [s15] at hz; omega
         · obtain ⟨-, hz⟩ := hz
           unfold EvS at hz
           rw [ev.1, ev.2.1] at hz
           exact hz)
      | (have s15 : st2 (st2 D1 0 16 (mlC D)) 0 15 (-9) 0 15 = -9 := st2_at
         have s16 : st2 (st2 D1 0 16 (mlC D)) 0 15 (-9) 0 16 = mlC D := by rw [st2_ne (by decide), st2_at]
         have ev := even_of (D := D) (D1 := st2 (st2 D1 0 16 (mlC D)) 0 15 (-9)) (fun a h1 h2 => by rw [st2_row (by omega), st2_row (by omega)]; exact kp.land a h1 h2)
         have hc9 : mlC D = -9 := by omega
         refine fin D1 D4 kp e1 hN (fun r h0 h1 => by rw [ks.1 r h0 h1, st2_row h0, st2_row h0]) (fun j h1 h2 => by rw [ks.2 j h1 h2, st2_ne h1, st2_ne h2]) (Or.inl ⟨hc9, ?_⟩)
         rcases hz with hz | hz
         · rw [s16] at hz; exact ⟨hz.2.1, hz.2.2.trans hc9⟩
         · exact absurd s15 hz.1)
    · rw [e16] at hc29
      refine T_bipush dX6_seekEven_32 (by decide) ?_
      refine T_goto (tgt := 44) dX6_seekEven_34 (by decide) ?_
      refine T_putI dX6_seekEven_44 flX6_188 rfl rfl ?_
      refine T_aload_n dX6_seekEven_47 rfl ?_
      refine T_cV_0 dX6_seekEven_48 lkX6_296 rfl (Nat.le_of_ble_eq_true rfl) (RO_r (by decide)) (Nat.le_of_ble_eq_true rfl) ?_
      first
      | (refine c_shortenLongest (LK_fr (fun a h1 h2 => by rw [st2_row (by omega), st2_row (by omega)]; exact kp.land a h1 h2) hL) (Or.inr ?_) (fun D4 ks hz => ?_)
         · have s15 : st2 (st2 D1 0 16 (mlC D)) 0 15 Ln 0 15 = Ln := st2_at
           have s16 : st2 (st2 D1 0 16 (mlC D)) 0 15 Ln 0 16 = mlC D := by rw [st2_ne (by decide), st2_at]
           have ev := even_of (D := D) (D1 := st2 (st2 D1 0 16 (mlC D)) 0 15 Ln) (fun a h1 h2 => by rw [st2_row (by omega), st2_row (by omega)]; exact kp.land a h1 h2)
           unfold EvS
           rw [ev.1, ev.2.1, s15, s16]
           exact hE5)
      | refine c_shortenLongest (LK_fr (fun a h1 h2 => by rw [st2_row (by omega), st2_row (by omega)]; exact kp.land a h1 h2) hL) (Or.inl st2_at) (fun D4 ks hz => ?_)
      refine T_aload_n dX6_seekEven_51 rfl ?_
      refine T_aload_n dX6_seekEven_52 rfl ?_
      refine T_getR dX6_seekEven_53 flX6_12 rfl rfl ?_
      refine T_getI dX6_seekEven_56 flX6_274 rfl rfl ?_
      refine T_putI dX6_seekEven_59 flX6_66 rfl rfl ?_
      refine T_vret dX6_seekEven_62 rfl ?_
      first
      | exact hk D ⟨fun _ _ _ => rfl, fun _ _ _ _ _ _ => rfl⟩ hC hE (hE.2.2 hc11)
      | (have s15 : st2 (st2 D1 0 16 (mlC D)) 0 15 Ln 0 15 = Ln := st2_at
         have ev := even_of (D := D) (D1 := st2 (st2 D1 0 16 (mlC D)) 0 15 Ln) (fun a h1 h2 => by rw [st2_row (by omega), st2_row (by omega)]; exact kp.land a h1 h2)
         refine fin D1 D4 kp e1 hN (fun r h0 h1 => by rw [ks.1 r h0 h1, st2_row h0, st2_row h0]) (fun j h1 h2 => by rw [ks.2 j h1 h2, st2_ne h1, st2_ne h2]) (Or.inr ⟨hc29, ?_⟩)
         rcases hz with hz | hz
         · have := lo.1; rw [s15] at hz; omega
         · obtain ⟨-, hz⟩ := hz
           unfold EvS at hz
           rw [ev.1, ev.2.1] at hz
           exact hz)
      | (have s15 : st2 (st2 D1 0 16 (mlC D)) 0 15 (-9) 0 15 = -9 := st2_at
         have s16 : st2 (st2 D1 0 16 (mlC D)) 0 15 (-9) 0 16 = mlC D := by rw [st2_ne (by decide), st2_at]
         have ev := even_of (D := D) (D1 := st2 (st2 D1 0 16 (mlC D)) 0 15 (-9)) (fun a h1 h2 => by rw [st2_row (by omega), st2_row (by omega)]; exact kp.land a h1 h2)
         have hc9 : mlC D = -9 := by omega
         refine fin D1 D4 kp e1 hN (fun r h0 h1 => by rw [ks.1 r h0 h1, st2_row h0, st2_row h0]) (fun j h1 h2 => by rw [ks.2 j h1 h2, st2_ne h1, st2_ne h2]) (Or.inl ⟨hc9, ?_⟩)
         rcases hz with hz | hz
         · rw [s16] at hz; exact ⟨hz.2.1, hz.2.2.trans hc9⟩
         · exact absurd s15 hz.1)
theorem c_even {w : Int} (hL : LK D) (hC : CacheN D) (hE : CacheE D) (hw : InR w) (kO : ¬ (0 ≤ w ∧ w ≤ 1) → P (some (iI (-2))) SH D) (kk : ∀ D' : DD, KpE D D' → CacheN D' → CacheE D' → ∀ L m, IsEven D L m → (w = 0 → P (some (iI L)) SH D') ∧ (w = 1 → P (some (iI m)) SH D')) : TM g mX6_even (d + 6) P [.ref 0, iI w] D := by
  refine T_iload_n dX6_even_0 rfl ?_
  refine T_iconst dX6_even_1 ?_
  refine T_iconst dX6_even_2 ?_
  refine T_cS_3 dX6_even_3 lkX6_77 (Nat.le_of_ble_eq_true rfl) (RO_r (by decide)) (Nat.le_of_ble_eq_true rfl) ?_
  refine c_isWithin hw (by first | (unfold InR; omega) | (simp [st2, InR]; omega)) (by first | (unfold InR; omega) | (simp [st2, InR]; omega)) (fun h1 h2 => ?_) (fun h1 => ?_)
  · refine T_if_ne 12 dX6_even_6 (by decide) (by unfold InR; decide) (fun _ => ?_) (fun h => absurd (by decide) h)
    refine T_aload_n dX6_even_12 rfl ?_
    refine T_cV_0 dX6_even_13 lkX6_185 rfl (Nat.le_of_ble_eq_true rfl) (RO_r (by decide)) (Nat.le_of_ble_eq_true rfl) ?_
    refine c_seekEven hL hC hE (fun D1 kp cn ce hI => ?_)
    refine T_iload_n dX6_even_16 rfl ?_
    refine T_if_ne 27 dX6_even_17 (by decide) hw (fun hc17 => ?_) (fun hc17 => ?_)
    · refine T_aload_n dX6_even_27 rfl ?_
      refine T_getI dX6_even_28 flX6_191 rfl rfl ?_
      refine T_iret dX6_even_31 rfl ?_
      first
      | exact kO (by omega)
      | exact (kk D1 kp cn ce _ _ hI).1 (by omega)
      | exact (kk D1 kp cn ce _ _ hI).2 (by omega)
    · refine T_aload_n dX6_even_20 rfl ?_
      refine T_getI dX6_even_21 flX6_188 rfl rfl ?_
      refine T_goto (tgt := 31) dX6_even_24 (by decide) ?_
      refine T_iret dX6_even_31 rfl ?_
      first
      | exact kO (by omega)
      | exact (kk D1 kp cn ce _ _ hI).1 (by omega)
      | exact (kk D1 kp cn ce _ _ hI).2 (by omega)
  · refine T_if_ne 12 dX6_even_6 (by decide) (by unfold InR; decide) (fun h => absurd h (by decide)) (fun _ => ?_)
    refine T_bipush dX6_even_9 (by decide) ?_
    refine T_iret dX6_even_11 rfl ?_
    first
    | exact kO (by omega)
    | exact (kk D1 kp cn ce _ _ hI).1 (by omega)
    | exact (kk D1 kp cn ce _ _ hI).2 (by omega)
end

