section
variable {g : G0} {P : Option Value → List SC → DD → Prop} {D : DD} {n : Nat}
theorem o_sheet {k l m : Int} (h : IV n D) (hk : InR k) (hl : InR l) (hm : InR m) (K : ∀ v' D1, Rf g mX7_sheet [.ref 57, iI k, iI l, iI m] (n + 1) (iI v') D1 → P (some (iI v')) SH D1) : TM g mX6_sheet 20 P [.ref 0, iI k, iI l, iI m] D := by
  refine c_sheet2 (d := 18) hk hl hm (fun z => K _ _ (fun P' q => ?_)) (fun h1 h2 z => K _ _ (fun P' q => ?_)) (fun h1 h2 z z2 => K _ _ (fun P' q => ?_)) (fun h1 h2 z z2 D1 g1 g2 g3 g4 g5 g6 => K _ _ (fun P' q => ?_))
  · exact r_sheet (d := 18) hk hl hm (fun _ => q _ (h.fa 0)) (fun a b => absurd ⟨a, b⟩ z) (fun a b => absurd ⟨a, b⟩ z) (fun a b => absurd ⟨a, b⟩ z)
  · exact r_sheet (d := 18) hk hl hm (fun y => absurd ⟨h1, h2⟩ y) (fun _ _ _ => q _ (h.fa 0)) (fun _ _ y => absurd y z) (fun _ _ y => absurd y z)
  · refine r_sheet (d := 18) hk hl hm (fun y => absurd ⟨h1, h2⟩ y) (fun _ _ y => absurd z y) (fun _ _ _ _ => q _ (h.fa 4)) (fun _ _ _ y => ?_)
    exfalso; omega
  · refine r_sheet (d := 18) hk hl hm (fun y => absurd ⟨h1, h2⟩ y) (fun _ _ y => absurd z y) (fun _ _ _ y => ?_) (fun _ _ _ _ D2 f1 f2 f3 => ?_)
    · exfalso; omega
    · have a0 : ∀ r, r ≠ 0 → r ≠ 49 + 2 * k.toNat → r ≠ 49 + 2 * k.toNat + 1 → D1 r = D r := fun r x y w => by rw [g3 r y w, st2_row x]
      have aj : ∀ j, D1 0 j = st2 D 0 10 0 0 j := fun j => by rw [g3 0 (by omega) (by omega)]
      have b0 : ∀ r, r ≠ 79 → r ≠ 57 → r ≠ 77 → r ≠ 78 → D2 r = D1 r := fun r x y w v => by rw [f3 r x, st2_row y, st2_row v, st2_row w]
      have bj : ∀ j, j ≠ 0 → D2 57 j = D 57 j := fun j x => by rw [f3 57 (by decide), st2_ne x, st2_row (by decide), st2_row (by decide), a0 57 (by decide) (by omega) (by omega)]
      have bz : D2 57 0 = 0 := by rw [f3 57 (by decide), st2_at]
      have b77 : D2 77 = up1 (D 77) k.toNat m := by rw [f3 77 (by decide), st2_row (by decide), st2_row (by decide), st2_up, a0 77 (by decide) (by omega) (by omega)]
      have b78 : D2 78 = up1 (D 78) k.toNat l := by rw [f3 78 (by decide), st2_row (by decide), st2_up, st2_row (by decide), a0 78 (by decide) (by omega) (by omega)]
      have z0 : D2 0 = D1 0 := b0 0 (by decide) (by decide) (by decide) (by decide)
      refine q D2 (h.sh (fun r a b c d' e' f i' => (b0 r f c d' e').trans (a0 r a (by omega) (by omega))) (fun j x => by rw [z0, aj, st2_ne x]) bj (by rw [bz, z0, aj, st2_at]) (fun t ht => ?_) ?_ (fun t ht => ?_))
      · have w := h.sk t ht
        rw [b0 (49 + 2 * t) (by omega) (by omega) (by omega) (by omega), b0 (49 + 2 * t + 1) (by omega) (by omega) (by omega) (by omega)]
        by_cases u : t = k.toNat
        · subst u
          rw [g4, g5, g6]
          refine ⟨Or.inr rfl, by omega, by omega, fun j => ?_⟩
          by_cases y : j < 80
          · rw [g1 j y]; unfold InR; omega
          · rw [g2 j (by omega)]; exact w.2.2.2 j
        · rw [a0 (49 + 2 * t) (by omega) (by omega) (by omega), a0 (49 + 2 * t + 1) (by omega) (by omega) (by omega)]; exact w
      · refine ⟨fun t ht => ?_, fun j => ?_⟩
        · rw [b77, b78]
          have w := h.rk.1 t ht
          by_cases u : t = k.toNat
          · subst u; rw [up1_at, up1_at]; omega
          · rw [up1_ne u, up1_ne u]; exact w
        · by_cases y : 80 * k ≤ (j : Int) ∧ (j : Int) < 80 * k + m
          · rw [f1 j y.1 y.2]; unfold InR; omega
          · rw [f2 j y, a0 79 (by decide) (by omega) (by omega)]; exact h.rk.2 j
      · have w := h.es t ht
        have rb := (h.rk.1 t ht).1
        rw [b77, b78, b0 (49 + 2 * t) (by omega) (by omega) (by omega) (by omega), b0 (49 + 2 * t + 1) (by omega) (by omega) (by omega) (by omega)]
        by_cases u : t = k.toNat
        · subst u
          rw [up1_at, up1_at, g4, g5, g6]
          refine ⟨⟨fun _ => z2, fun _ => rfl⟩, fun _ => ⟨rfl, rfl, fun j hj => ?_⟩⟩
          rw [g1 j (by omega), f1 _ (by omega) (by omega)]
        · rw [up1_ne u, up1_ne u, a0 (49 + 2 * t) (by omega) (by omega) (by omega), a0 (49 + 2 * t + 1) (by omega) (by omega) (by omega)]
          refine ⟨w.1, fun y => ⟨(w.2 y).1, (w.2 y).2.1, fun j hj => ?_⟩⟩
          rw [f2 _ (by omega), a0 79 (by decide) (by omega) (by omega)]
          exact (w.2 y).2.2 j hj
theorem o_copy {k i o j m : Int} (h : IV n D) (hk : InR k) (hi : InR i) (ho : InR o) (hj : InR j) (hm : InR m) (K : ∀ v' D1, Rf g mX7_copy [.ref 57, iI k, iI i, iI o, iI j, iI m] (n + 1) (iI v') D1 → P (some (iI v')) SH D1) : TM g mX6_copy 20 P [.ref 0, iI k, iI i, iI o, iI j, iI m] D := by
  have ek := fun (z : 0 ≤ k ∧ k ≤ 3 ∧ 0 ≤ o ∧ o ≤ 3) => h.es k.toNat (by omega)
  have eo := fun (z : 0 ≤ k ∧ k ≤ 3 ∧ 0 ≤ o ∧ o ≤ 3) => h.es o.toNat (by omega)
  have has := fun (z : 0 ≤ k ∧ k ≤ 3 ∧ 0 ≤ o ∧ o ≤ 3) => (⟨fun y => ⟨(ek z).1.mp y.1, (eo z).1.mp y.2⟩, fun y => ⟨(ek z).1.mpr y.1, (eo z).1.mpr y.2⟩⟩ : (D (49 + 2 * k.toNat) 1 = 1 ∧ D (49 + 2 * o.toNat) 1 = 1) ↔ (0 ≤ D 77 k.toNat ∧ 0 ≤ D 77 o.toNat))
  refine c_copy (d := 18) h.sk hk hi ho hj hm (fun z => K _ _ (fun P' q => ?_)) (fun z z1 => K _ _ (fun P' q => ?_)) (fun z z1 z2 => K _ _ (fun P' q => ?_)) (fun z z1 z2 z3 => K _ _ (fun P' q => ?_)) (fun z z1 z2 z3 => K _ _ (fun P' q => ?_))
  · exact r_copy (d := 18) (RK_0 h.rk) hk hi ho hj hm (fun _ => q _ (h.fa 0)) (fun y => absurd y z) (fun y => absurd y z) (fun y => absurd y z) (fun y => absurd y z)
  · have ng : ¬ (0 ≤ D 77 k.toNat ∧ 0 ≤ D 77 o.toNat) := fun y => z1 ((has z).mpr y)
    exact r_copy (d := 18) (RK_0 h.rk) hk hi ho hj hm (fun y => absurd z y) (fun _ _ => q _ (h.fa 1)) (fun _ y => absurd y ng) (fun _ y => absurd y ng) (fun _ y => absurd y ng)
  · have ps := (has z).mp z1
    have a := (ek z).2 ps.1
    have b := (eo z).2 ps.2
    refine r_copy (d := 18) (RK_0 h.rk) hk hi ho hj hm (fun y => absurd z y) (fun _ y => absurd ps y) (fun _ _ _ => q _ (h.fa 2)) (fun _ _ (y : D 78 k.toNat = D 78 o.toNat) => ?_) (fun _ _ (y : D 78 k.toNat = D 78 o.toNat) => ?_) <;> (exfalso; omega)
  · have ps := (has z).mp z1
    have a := (ek z).2 ps.1
    have b := (eo z).2 ps.2
    have a2 := a.2.1; have b2 := b.2.1; have a1 := a.1; have b1 := b.1
    refine r_copy (d := 18) (RK_0 h.rk) hk hi ho hj hm (fun y => absurd z y) (fun _ y => absurd ps y) (fun _ _ (y : D 78 k.toNat ≠ D 78 o.toNat) => ?_) (fun _ _ _ _ => q _ (h.fa 3)) (fun _ _ _ (y : 0 ≤ m ∧ 0 ≤ i ∧ i + m ≤ D 77 k.toNat ∧ 0 ≤ j ∧ j + m ≤ D 77 o.toNat) => ?_) <;> (exfalso; omega)
  · have ps := (has z).mp z1
    have a := (ek z).2 ps.1
    have b := (eo z).2 ps.2
    have a2 := a.2.1; have b2 := b.2.1; have a1 := a.1; have b1 := b.1
    have rbk := (h.rk.1 k.toNat (by omega)).1
    have rbo := (h.rk.1 o.toNat (by omega)).1
    generalize hD1 : cpD (st2 D 0 10 0) (49 + 2 * k.toNat + 1) i.toNat (49 + 2 * o.toNat + 1) j.toNat m.toNat = D1
    have a0 : ∀ r, r ≠ 0 → r ≠ 49 + 2 * o.toNat + 1 → D1 r = D r := fun r x y => by rw [← hD1, cpD_row y, st2_row x]
    have aj : ∀ t, D1 0 t = st2 D 0 10 0 0 t := fun t => by rw [← hD1, cpD_row (by omega)]
    have ab : ∀ t, D1 (49 + 2 * o.toNat + 1) t = if j.toNat ≤ t ∧ t < j.toNat + m.toNat then D (49 + 2 * k.toNat + 1) (i.toNat + (t - j.toNat)) else D (49 + 2 * o.toNat + 1) t := fun t => by
      rw [← hD1]
      unfold cpD
      by_cases y : j.toNat ≤ t ∧ t < j.toNat + m.toNat
      · rw [if_pos ⟨rfl, y.1, y.2⟩, if_pos y, st2_row (by omega)]
      · rw [if_neg (fun u => y u.2), if_neg y, st2_row (by omega)]
    have rk1 : RK D1 := by
      have w := h.rk
      unfold RK at w ⊢
      rw [a0 77 (by decide) (by omega), a0 78 (by decide) (by omega), a0 79 (by decide) (by omega)]
      exact w
    have e77 : D1 77 = D 77 := a0 77 (by decide) (by omega)
    have e78 : D1 78 = D 78 := a0 78 (by decide) (by omega)
    refine r_copy (d := 18) rk1 hk hi ho hj hm (fun y => absurd z y) (fun _ y => ?_) (fun _ _ y => ?_) (fun _ _ _ y => ?_) (fun _ _ _ _ D2 f1 f2 f3 => ?_)
    · rw [e77] at y; exact absurd ps y
    · rw [e78] at y; exfalso; omega
    · rw [e77] at y; exfalso; omega
    · have b0 : ∀ r, r ≠ 79 → r ≠ 80 → r ≠ 57 → D2 r = D1 r := fun r x y w => by rw [f3 r x y, st2_row w]
      have bj : ∀ t, t ≠ 0 → D2 57 t = D 57 t := fun t x => by rw [f3 57 (by decide) (by decide), st2_ne x, a0 57 (by decide) (by omega)]
      have bz : D2 57 0 = 0 := by rw [f3 57 (by decide) (by decide), st2_at]
      have z0 : D2 0 = D1 0 := b0 0 (by decide) (by decide) (by decide)
      have g77 : D2 77 = D 77 := (b0 77 (by decide) (by decide) (by decide)).trans e77
      have g78 : D2 78 = D 78 := (b0 78 (by decide) (by decide) (by decide)).trans e78
      rw [a0 79 (by decide) (by omega)] at f1 f2
      refine q D2 (h.sh (fun r x1 x2 x3 x4 x5 x6 x7 => (b0 r x6 x7 x3).trans (a0 r x1 (by omega))) (fun t x => by rw [z0, aj, st2_ne x]) bj (by rw [bz, z0, aj, st2_at]) (fun t ht => ?_) ⟨fun t ht => by rw [g77, g78]; exact h.rk.1 t ht, fun t => ?_⟩ (fun t ht => ?_))
      · have w := h.sk t ht
        rw [b0 (49 + 2 * t) (by omega) (by omega) (by omega), b0 (49 + 2 * t + 1) (by omega) (by omega) (by omega), a0 (49 + 2 * t) (by omega) (by omega)]
        by_cases u : t = o.toNat
        · subst u
          refine ⟨w.1, w.2.1, w.2.2.1, fun s => ?_⟩
          rw [ab s]
          split
          · exact (h.sk k.toNat (by omega)).2.2.2 _
          · exact w.2.2.2 s
        · rw [a0 (49 + 2 * t + 1) (by omega) (by omega)]; exact w
      · by_cases y : 80 * o + j ≤ (t : Int) ∧ (t : Int) < 80 * o + j + m
        · rw [f1 t y.1 y.2]; exact h.rk.2 _
        · rw [f2 t y]; exact h.rk.2 t
      · have w := h.es t ht
        have rb := (h.rk.1 t ht).1
        rw [g77, g78, b0 (49 + 2 * t) (by omega) (by omega) (by omega), b0 (49 + 2 * t + 1) (by omega) (by omega) (by omega), a0 (49 + 2 * t) (by omega) (by omega)]
        refine ⟨w.1, fun y => ⟨(w.2 y).1, (w.2 y).2.1, fun s hs => ?_⟩⟩
        have w3 := (w.2 y).2.2 s hs
        by_cases u : t = o.toNat
        · subst u
          rw [ab s]
          by_cases v : j.toNat ≤ s ∧ s < j.toNat + m.toNat
          · rw [if_pos v, f1 _ (by omega) (by omega), a.2.2 _ (by omega)]
            congr 1
            omega
          · rw [if_neg v, f2 _ (by omega)]
            exact w3
        · rw [a0 (49 + 2 * t + 1) (by omega) (by omega), f2 _ (by omega)]
          exact w3
theorem o_land {k l i m : Int} (h : IV n D) (hn : n ≤ 600) (hk : InR k) (hl : InR l) (hi : InR i) (hm : InR m) (K : ∀ v D1, Rf g mX7_land [.ref 57, iI k, iI l, iI i, iI m] (n + 1) (iI v) D1 → P (some (iI v)) SH D1) : TM g mX6_land 20 P [.ref 0, iI k, iI l, iI i, iI m] D := by
  have br := fun (h1 : 0 ≤ k) (h2 : k ≤ 3) => br_row h h1 h2 l i m
  have hch := h.ch
  have cos : 0 ≤ k → k ≤ 3 → (rwM D k l i m).1 = 0 → coS (D 79) (80 * k.toNat + i.toNat) m.toNat = coS (D (49 + 2 * k.toNat + 1)) i.toNat m.toNat := by
    intro h1 h2 h0
    have ok := (rowR_ok h0).2
    have hs := h.es k.toNat (by omega)
    have row := (hs.2 (by omega)).2.2
    funext p
    unfold coS
    by_cases u : p < m.toNat
    · rw [if_pos u, if_pos u, row (i.toNat + p) (by omega)]
      congr 1
      omega
    · rw [if_neg u, if_neg u]
  refine c_land (d := 15) h.lk (by omega) h.sk hk hl hi hm (fun z => K _ _ (fun P' q => ?_)) (fun h1 h2 z => K _ _ (fun P' q => ?_)) (fun h1 h2 z D1 t f hE hT => K _ _ (fun P' q => ?_)) (fun h1 h2 z D1 D2 t f lo hE hT => K _ _ (fun P' q => ?_))
  · exact r_land (d := 16) (MK_0 h.mm) (RK_0 h.rk) hk hl hi hm (fun _ => q _ (h.fa 0)) (fun a b => absurd ⟨a, b⟩ z) (fun a b => absurd ⟨a, b⟩ z) (fun a b => absurd ⟨a, b⟩ z)
  · rw [← br h1 h2] at z q ⊢
    exact r_land (d := 16) (MK_0 h.mm) (RK_0 h.rk) hk hl hi hm (fun y => absurd ⟨h1, h2⟩ y) (fun _ _ _ => q _ (h.fa _)) (fun _ _ y => absurd y z) (fun _ _ y => absurd y z)
  · rw [← br h1 h2] at z
    have c := cos h1 h2 z
    have al : ∀ r, r ≠ 0 → (r < 10 ∨ 15 < r) → D1 r = D r := fun r x y => by rw [f r y, st2_row x]
    have hi1 : ∀ r, 57 ≤ r → D1 r = D r := fun r x => al r (by omega) (by omega)
    have rk1 : RK D1 := by have w := h.rk; unfold RK at w ⊢; rw [hi1 77 (by decide), hi1 78 (by decide), hi1 79 (by decide)]; exact w
    have rw1 : rwM D1 k l i m = rwM D k l i m := by unfold rwM; rw [hi1 77 (by decide), hi1 78 (by decide)]
    refine r_land (d := 16) (MK_fr (fun a x y => hi1 a (by omega)) h.mm) rk1 hk hl hi hm (fun y => absurd ⟨h1, h2⟩ y) (fun _ _ y => ?_) (fun _ _ _ D2 t2 fx hE2 hT2 => ?_) (fun _ _ _ D2 D3 t2 fx lo hE2 hT2 => ?_)
    · rw [rw1] at y; exact absurd z y
    · rw [hi1 79 (by decide), c] at hE2
      have et := hE2.uniq hE
      subst et
      rw [hi1 79 (by decide), c]
      have z0 : ∀ j, st2 D2 57 0 0 0 j = st2 D 0 10 0 0 j := fun j => by rw [st2_row (by decide), fx.1 0 (by decide) (by decide) (by decide), f 0 (by omega)]
      have b0 : ∀ r, r ≠ 0 → r ≠ 57 → r ≠ 66 → r ≠ 67 → (r < 10 ∨ 15 < r) → st2 D2 57 0 0 r = D r := fun r x1 x2 x3 x4 x5 => by rw [st2_row x2, fx.1 r x2 x3 x4]; exact al r x1 x5
      obtain ⟨c1, c2, c3⟩ := cch (D2 := st2 D2 57 0 0) h (fun r hr => b0 r (by omega) (by omega) (by omega) (by omega) (by omega)) (fun j x y => by rw [z0, st2_ne (by omega)])
      refine q _ (h.quiet (fun r hr => b0 r (by omega) (by omega) (by omega) (by omega) (by omega)) (by rw [z0, st2_ne (by decide)]) (fun j x1 x2 x3 _ => by rw [st2_ne x1, fx.2 j x2 x3, hi1 57 (by decide)]) (by rw [st2_at, z0, st2_at]) ?_ c1 c2 c3)
      rw [st2_ne (by decide), fx.2 30 (by decide) (by decide), hi1 57 (by decide), b0 45 (by decide) (by decide) (by decide) (by decide) (by omega)]
      exact h.tr
    · rw [hi1 79 (by decide), c] at hE2 hT2
      have et := hE2.uniq hE
      subst et
      exact absurd hT2 hT
  · rw [← br h1 h2] at z
    have c := cos h1 h2 z
    have ok := (rowR_ok z).2
    have hs := h.es k.toNat (by omega)
    have rb := (h.rk.1 k.toNat (by omega)).1
    have t11 := (go_le (co := coS (D (49 + 2 * k.toNat + 1)) i.toNat m.toNat) (n := m.toNat) (by omega) (fun p hp => by unfold coS; rw [if_neg (by omega)]) hE.1).1
    obtain ⟨p1, p2, p3, p4, p5, p6, p7, p8⟩ := lo
    have al1 : ∀ r, r ≠ 0 → (r < 10 ∨ 15 < r) → D1 r = D r := fun r x y => by rw [f r y, st2_row x]
    have hi1 : ∀ r, 16 ≤ r → D2 r = D r := fun r x => (p1 r (by omega)).trans (al1 r (by omega) (by omega))
    have z2 : ∀ j, D2 0 j = st2 D 0 10 0 0 j := fun j => by rw [p1 0 (by omega), f 0 (by omega)]
    have rk1 : RK D2 := by have w := h.rk; unfold RK at w ⊢; rw [hi1 77 (by decide), hi1 78 (by decide), hi1 79 (by decide)]; exact w
    have rw1 : rwM D2 k l i m = rwM D k l i m := by unfold rwM; rw [hi1 77 (by decide), hi1 78 (by decide)]
    refine r_land (d := 16) (MK_fr (fun a x y => hi1 a (by omega)) h.mm) rk1 hk hl hi hm (fun y => absurd ⟨h1, h2⟩ y) (fun _ _ y => ?_) (fun _ _ _ D3 t2 fx hE2 hT2 => ?_) (fun _ _ _ D3 D4 t2 fx lo2 hE2 hT2 => ?_)
    · rw [rw1] at y; exact absurd z y
    · rw [hi1 79 (by decide), c] at hE2 hT2
      have et := hE2.uniq hE
      subst et
      exact absurd hT hT2
    · rw [hi1 79 (by decide), c] at hE2 lo2
      have et := hE2.uniq hE
      subst et
      generalize hco : coS (D (49 + 2 * k.toNat + 1)) i.toNat m.toNat = co at *
      obtain ⟨s1, s2, s3, s4, s5, s6, s7, s8⟩ := lo2
      generalize hD5 : st2 D4 57 0 0 = D5
      have v0 : ∀ r, r ≠ 57 → D5 r = D4 r := fun r x => by rw [← hD5, st2_row x]
      have vj : ∀ j, j ≠ 0 → D5 57 j = D4 57 j := fun j x => by rw [← hD5, st2_ne x]
      have vz : D5 57 0 = 0 := by rw [← hD5, st2_at]
      have lo5 : ∀ r, r < 57 → D5 r = D2 r := fun r x => (v0 r (by omega)).trans ((s1 r (by omega)).trans (fx.1 r (by omega) (by omega) (by omega)))
      have hi5 : ∀ r, 68 ≤ r → D5 r = D r := fun r x => (v0 r (by omega)).trans ((s1 r (by omega)).trans ((fx.1 r (by omega) (by omega) (by omega)).trans (hi1 r (by omega))))
      have w57 : ∀ j, j ≠ 0 → j ≠ 1 → j ≠ 5 → j ≠ 12 → j ≠ 15 → D5 57 j = D 57 j := fun j x1 x2 x3 x4 x5 => by rw [vj j x1, s5 j x2 x3, fx.2 j x4 x5, hi1 57 (by decide)]
      have hl8 := hcT_le co (t2 + 1)
      have d11 : D2 1 11 = D 1 11 + 1 + ((t2 + 1 : Nat) : Int) := by rw [p6, al1 1 (by decide) (by omega)]
      have ls := p7.same s6
      have n8 : (D5 1 8).toNat = hcT co (t2 + 1) := by rw [lo5 1 (by decide), p3]; omega
      have n9 : (D5 1 9).toNat = t2 + 1 - hcT co (t2 + 1) := by rw [lo5 1 (by decide), p4]; omega
      refine q D5 (h.chg (LK_fr (fun a x y => lo5 a (by omega)) p2) ?_ ?_ (fun r hr => ?_) ?_ (w57 23 (by decide) (by decide) (by decide) (by decide) (by decide)) ?_ ?_ (h.old (fun j x y => by rw [lo5 0 (by decide), z2, st2_ne (by omega)]) (by rw [lo5 1 (by decide), d11]; omega)) (by rw [lo5 1 (by decide), d11]; omega))
      · have w := s2
        unfold MK at w ⊢
        rw [vj 1 (by decide), vj 5 (by decide), vj 11 (by decide), v0 58 (by decide), v0 59 (by decide), v0 60 (by decide), v0 61 (by decide), v0 62 (by decide), v0 63 (by decide), v0 64 (by decide), v0 65 (by decide)]
        exact w
      · refine ⟨⟨by rw [vj 1 (by decide), s3, lo5 1 (by decide), p3], by rw [vj 5 (by decide), s4, lo5 1 (by decide), p4], ?_⟩, fun x hx => ?_, fun x hx => ?_, fun x y hx hy => ?_, fun x y hx h10 hy => ?_⟩
        · rw [w57 11 (by decide) (by decide) (by decide) (by decide) (by decide), lo5 1 (by decide), p5, al1 1 (by decide) (by omega)]; exact h.el.1.2.2
        · rw [n8] at hx
          have o := ls.1 x hx
          rw [v0 58 (by decide), v0 59 (by decide), v0 60 (by decide), lo5 2 (by decide), lo5 3 (by decide), lo5 4 (by decide)]
          exact ⟨o.1.symm, o.2.1.symm, o.2.2.symm, (p8 x hx).2⟩
        · rw [n9] at hx
          have o := ls.2 x hx
          rw [v0 61 (by decide), v0 62 (by decide), v0 63 (by decide), v0 64 (by decide), lo5 6 (by decide), lo5 7 (by decide), lo5 8 (by decide), lo5 9 (by decide)]
          exact ⟨o.1.symm, o.2.1.symm, o.2.2.1.symm, o.2.2.2.symm⟩
        · rw [n8] at hx
          have hb := hcT_bd (co := co) (t2 + 1) (fun j hj => by
            by_cases e : j = t2
            · subst e; exact hT.1
            · exact (hE.1 j (by omega)).1)
          rw [v0 65 (by decide), s8 _ (by omega), lo5 5 (by decide), (p8 x hx).1]
          exact ⟨⟨fun u => absurd u (by decide), fun u => absurd u (bit_0 (by omega))⟩, fun _ => bit_0 (by omega)⟩
        · rw [v0 65 (by decide)]; exact s8 _ (by omega)
      · by_cases u : r < 57
        · rw [lo5 r u]; exact hi1 r (by omega)
        · exact hi5 r (by omega)
      · rw [lo5 0 (by decide), z2, st2_ne (by decide)]
      · rw [vz, lo5 0 (by decide), z2, st2_at]
      · rw [w57 30 (by decide) (by decide) (by decide) (by decide) (by decide), lo5 45 (by decide), hi1 45 (by decide)]; exact h.tr
end

