section
variable {D D1 D2 : DD} {n : Nat}
theorem IV.chg (h : IV n D) (l : LK D2) (m : MK D2) (e : EqL D2) (a : ∀ r, (46 ≤ r ∧ r ≤ 56) ∨ (75 ≤ r ∧ r ≤ 79) → D2 r = D r) (b9 : D2 0 9 = D 0 9) (i23 : D2 57 23 = D 57 23) (ft : D2 57 0 = D2 0 10) (tr : D2 57 30 = D2 45 0) (cs : CacheN D2 ∧ CacheE D2 ∧ CacheF D2) (ch : D2 1 11 ≤ D 1 11 + 20) : IV (n + 1) D2 := by
  refine ⟨l, m, e, ?_, ?_, ?_, ?_, ?_, ?_, ft, tr, cs.1, cs.2.1, cs.2.2, by have := h.ch; omega⟩
  · intro k hk
    rw [a (49 + 2 * k) (by omega), a (49 + 2 * k + 1) (by omega)]
    exact h.sk k hk
  · have z := h.rk
    unfold RK at z ⊢
    rw [a 77 (by omega), a 78 (by omega), a 79 (by omega)]
    exact z
  · intro k hk
    rw [a (49 + 2 * k) (by omega), a (49 + 2 * k + 1) (by omega), a 77 (by omega), a 78 (by omega), a 79 (by omega)]
    exact h.es k hk
  · have z := h.pk
    unfold PlK at z ⊢
    rw [b9, a 47 (by omega), a 48 (by omega)]
    exact z
  · have z := h.pm
    unfold PlM at z ⊢
    rw [i23, a 75 (by omega), a 76 (by omega)]
    exact z
  · have z := h.ep
    unfold EqP at z ⊢
    rw [i23, b9, a 47 (by omega), a 48 (by omega), a 75 (by omega), a 76 (by omega)]
    exact z
theorem IV.old (h : IV n D) (b : ∀ j, 11 ≤ j → j ≤ 13 → D2 0 j = D 0 j) (k : D 1 11 < D2 1 11) : CacheN D2 ∧ CacheE D2 ∧ CacheF D2 := stale h.cn h.ce h.cf k (b 11 (by decide) (by decide)) (b 12 (by decide) (by decide)) (b 13 (by decide) (by decide))
end
section
variable {g : G0} {P : Option Value → List SC → DD → Prop} {D : DD} {n : Nat}
theorem o_home {x y k : Int} (h : IV n D) (hn : n ≤ 600) (hx : InR x) (hy : InR y) (hk : InR k) (K : ∀ v D1, Rf g mX7_home [.ref 57, iI x, iI y, iI k] (n + 1) (iI v) D1 → P (some (iI v)) SH D1) : TM g mX6_home 20 P [.ref 0, iI x, iI y, iI k] D := by
  have e := h.el
  have e1 := e.1.1
  have hc := h.ch
  have hH := h.lk.1
  refine c_home (d := 18) h.lk hx hy hk (fun z => K _ _ (fun P' q => ?_)) (fun z z2 => K _ _ (fun P' q => ?_)) (fun z z2 => K _ _ (fun P' q => ?_))
  · exact r_home (d := 18) h.mm hx hy hk (fun _ => q D (h.q2 h.qs (fun _ _ => rfl))) (fun y => absurd y z) (fun y => absurd y z)
  · refine r_home (d := 18) h.mm hx hy hk (fun y => absurd z y) (fun _ _ => q D (h.q2 h.qs (fun _ _ => rfl))) (fun _ y => ?_)
    exfalso; omega
  · obtain ⟨b0, b2, b3, b4, b5, b8, b9, b10, b11⟩ := addH_r (D := D) (x := x) (y := y) (n := k)
    have l1 : LK (addH D x y k) := addH_LK h.lk z2 (by omega) ⟨z.1, z.2.1⟩ ⟨z.2.2.1, z.2.2.2.1⟩ (by omega)
    have m1 : MK (addH D x y k) := MK_fr (fun a a1 a2 => b0 a (by omega)) h.mm
    show TM g mX7_home 20 P' _ (addH D x y k)
    have i57 : addH D x y k 57 1 = D 1 8 := by rw [b0 57 (by omega)]; exact e1
    refine r_home (d := 18) m1 hx hy hk (fun y => absurd z y) (fun _ y => ?_) (fun _ _ => ?_)
    · exfalso; omega
    · show P' _ SH (addHM (addH D x y k) x y k)
      obtain ⟨f0, f2, f3, f4, f5, f6⟩ := addHM_r (D := addH D x y k) (x := x) (y := y) (n := k)
      have m2 := addHM_MK (x := x) (y := y) (n := k) m1 (by omega) ⟨z.1, z.2.1⟩ ⟨z.2.2.1, z.2.2.2.1⟩ (by omega)
      rw [show addH D x y k 57 1 + 1 - 1 = D 1 8 by omega]
      have lo : ∀ r, r < 57 → addHM (addH D x y k) x y k r = addH D x y k r := fun r hr => f0 r (by omega)
      have nH : (addH D x y k 57 1).toNat = (D 1 8).toNat := by rw [i57]
      rw [nH] at f2 f3 f4
      refine q _ (h.chg (LK_fr (fun a a1 a2 => lo a (by omega)) l1) m2 ?_ (fun r hr => ?_) ?_ ?_ ?_ ?_ (h.old (fun j _ _ => by rw [lo 0 (by decide), b0 0 (by omega)]) (by rw [lo 1 (by decide), b11]; omega)) (by rw [lo 1 (by decide), b11]; omega))
      · have h8 : addHM (addH D x y k) x y k 1 8 = D 1 8 + 1 := by rw [lo 1 (by decide), b8]
        have h9 : addHM (addH D x y k) x y k 1 9 = D 1 9 := by rw [lo 1 (by decide), b9]
        have n8 : (addHM (addH D x y k) x y k 1 8).toNat = (D 1 8).toNat + 1 := by omega
        refine ⟨⟨by rw [f5, i57, h8], by rw [f6 5 (by decide), b0 57 (by omega), h9]; exact e.1.2.1, by rw [f6 11 (by decide), b0 57 (by omega), lo 1 (by decide), b10]; exact e.1.2.2⟩, fun t ht => ?_, fun c hc' => ?_, fun t c ht hc' => ?_, fun t c ht h10 hc' => ?_⟩
        · rw [n8] at ht
          rw [f2, f3, f4, lo 2 (by decide), lo 3 (by decide), lo 4 (by decide), b2, b3, b4, b0 58 (by omega), b0 59 (by omega), b0 60 (by omega)]
          by_cases w : t = (D 1 8).toNat
          · subst w
            rw [up1_at, up1_at, up1_at, up1_at, up1_at, up1_at]
            exact ⟨rfl, rfl, rfl, by omega⟩
          · rw [up1_ne w, up1_ne w, up1_ne w, up1_ne w, up1_ne w, up1_ne w]
            exact e.2.1 t (by omega)
        · rw [h9] at hc'
          rw [f0 61 (by omega), f0 62 (by omega), f0 63 (by omega), f0 64 (by omega), b0 61 (by omega), b0 62 (by omega), b0 63 (by omega), b0 64 (by omega), lo 6 (by decide), lo 7 (by decide), lo 8 (by decide), lo 9 (by decide), b0 6 (by omega), b0 7 (by omega), b0 8 (by omega), b0 9 (by omega)]
          exact e.2.2.1 c hc'
        · rw [n8] at ht
          rw [h9, f0 65 (by omega), b0 65 (by omega), lo 5 (by decide), b5]
          by_cases w : t = (D 1 8).toNat
          · subst w
            rw [up1_at, e.2.2.2.2 _ c (Nat.le_refl _) (by omega) hc']
            exact ⟨⟨fun u => absurd u (by decide), fun u => absurd u (bit_0 (by omega))⟩, fun _ => bit_0 (by omega)⟩
          · rw [up1_ne w]
            exact e.2.2.2.1 t c (by omega) hc'
        · rw [n8] at ht
          rw [f0 65 (by omega), b0 65 (by omega)]
          exact e.2.2.2.2 t c (by omega) h10 hc'
      · rw [f0 r (by omega)]; exact b0 r (by omega)
      · rw [lo 0 (by decide), b0 0 (by omega)]
      · rw [f6 23 (by decide), b0 57 (by omega)]
      · rw [f6 0 (by decide), b0 57 (by omega), lo 0 (by decide), b0 0 (by omega)]; exact h.ft
      · rw [f6 30 (by decide), b0 57 (by omega), lo 45 (by decide), b0 45 (by omega)]; exact h.tr
theorem o_church {kd x y k : Int} (h : IV n D) (hn : n ≤ 600) (hkd : InR kd) (hx : InR x) (hy : InR y) (hk : InR k) (K : ∀ v D1, Rf g mX7_church [.ref 57, iI kd, iI x, iI y, iI k] (n + 1) (iI v) D1 → P (some (iI v)) SH D1) : TM g mX6_church 20 P [.ref 0, iI kd, iI x, iI y, iI k] D := by
  have e := h.el
  have e1 := e.1.2.1
  have hc := h.ch
  have hH := h.lk.2.1
  refine c_church (d := 18) h.lk hkd hx hy hk (fun z => K _ _ (fun P' q => ?_)) (fun z z2 => K _ _ (fun P' q => ?_)) (fun z z2 => K _ _ (fun P' q => ?_))
  · exact r_church (d := 18) h.mm hkd hx hy hk (fun _ => q D (h.q2 h.qs (fun _ _ => rfl))) (fun y => absurd y z) (fun y => absurd y z)
  · refine r_church (d := 18) h.mm hkd hx hy hk (fun y => absurd z y) (fun _ _ => q D (h.q2 h.qs (fun _ _ => rfl))) (fun _ y => ?_)
    exfalso; omega
  · obtain ⟨b0, b2, b3, b4, b5, b8, b9, b10, b11⟩ := addC_r (D := D) (k := kd) (x := x) (y := y) (n := k)
    have l1 : LK (addC D kd x y k) := addC_LK h.lk z2 (by omega) ⟨z.1, z.2.1⟩ ⟨z.2.2.1, z.2.2.2.1⟩ ⟨z.2.2.2.2.1, z.2.2.2.2.2.1⟩ (by omega)
    have m1 : MK (addC D kd x y k) := MK_fr (fun a a1 a2 => b0 a (by omega)) h.mm
    show TM g mX7_church 20 P' _ (addC D kd x y k)
    have i57 : addC D kd x y k 57 5 = D 1 9 := by rw [b0 57 (by omega)]; exact e1
    refine r_church (d := 18) m1 hkd hx hy hk (fun y => absurd z y) (fun _ y => ?_) (fun _ _ => ?_)
    · exfalso; omega
    · show P' _ SH (addCM (addC D kd x y k) kd x y k)
      obtain ⟨f0, f2, f3, f4, f7, f5, f6⟩ := addCM_r (D := addC D kd x y k) (k := kd) (x := x) (y := y) (n := k)
      have m2 := addCM_MK (k := kd) (x := x) (y := y) (n := k) m1 (by omega) ⟨z.1, z.2.1⟩ ⟨z.2.2.1, z.2.2.2.1⟩ ⟨z.2.2.2.2.1, z.2.2.2.2.2.1⟩ (by omega)
      rw [show addC D kd x y k 57 5 + 1 - 1 = D 1 9 by omega]
      have lo : ∀ r, r < 57 → addCM (addC D kd x y k) kd x y k r = addC D kd x y k r := fun r hr => f0 r (by omega)
      have nH : (addC D kd x y k 57 5).toNat = (D 1 9).toNat := by rw [i57]
      rw [nH] at f2 f3 f4 f7
      refine q _ (h.chg (LK_fr (fun a a1 a2 => lo a (by omega)) l1) m2 ?_ (fun r hr => ?_) ?_ ?_ ?_ ?_ (h.old (fun j _ _ => by rw [lo 0 (by decide), b0 0 (by omega)]) (by rw [lo 1 (by decide), b11]; omega)) (by rw [lo 1 (by decide), b11]; omega))
      · have h8 : addCM (addC D kd x y k) kd x y k 1 8 = D 1 8 := by rw [lo 1 (by decide), b8]
        have h9 : addCM (addC D kd x y k) kd x y k 1 9 = D 1 9 + 1 := by rw [lo 1 (by decide), b9]
        have n9 : (addCM (addC D kd x y k) kd x y k 1 9).toNat = (D 1 9).toNat + 1 := by omega
        refine ⟨⟨by rw [f6 1 (by decide), b0 57 (by omega), h8]; exact e.1.1, by rw [f5, i57, h9], by rw [f6 11 (by decide), b0 57 (by omega), lo 1 (by decide), b10]; exact e.1.2.2⟩, fun t ht => ?_, fun c hc' => ?_, fun t c ht hc' => ?_, fun t c ht h10 hc' => ?_⟩
        · rw [h8] at ht
          rw [f0 58 (by omega), f0 59 (by omega), f0 60 (by omega), b0 58 (by omega), b0 59 (by omega), b0 60 (by omega), lo 2 (by decide), lo 3 (by decide), lo 4 (by decide), b0 2 (by omega), b0 3 (by omega), b0 4 (by omega)]
          exact e.2.1 t ht
        · rw [n9] at hc'
          rw [f2, f3, f4, f7, lo 6 (by decide), lo 7 (by decide), lo 8 (by decide), lo 9 (by decide), b2, b3, b4, b5, b0 61 (by omega), b0 62 (by omega), b0 63 (by omega), b0 64 (by omega)]
          by_cases w : c = (D 1 9).toNat
          · subst w
            rw [up1_at, up1_at, up1_at, up1_at, up1_at, up1_at, up1_at, up1_at]
            exact ⟨rfl, rfl, rfl, rfl⟩
          · rw [up1_ne w, up1_ne w, up1_ne w, up1_ne w, up1_ne w, up1_ne w, up1_ne w, up1_ne w]
            exact e.2.2.1 c (by omega)
        · rw [h8] at ht
          rw [n9, f0 65 (by omega), b0 65 (by omega), lo 5 (by decide), b0 5 (by omega)]
          have o := e.2.2.2.1 t c ht hc'
          exact ⟨o.1, fun u => o.2 (by omega)⟩
        · rw [h8] at ht
          rw [f0 65 (by omega), b0 65 (by omega)]
          exact e.2.2.2.2 t c ht h10 hc'
      · rw [f0 r (by omega)]; exact b0 r (by omega)
      · rw [lo 0 (by decide), b0 0 (by omega)]
      · rw [f6 23 (by decide), b0 57 (by omega)]
      · rw [f6 0 (by decide), b0 57 (by omega), lo 0 (by decide), b0 0 (by omega)]; exact h.ft
      · rw [f6 30 (by decide), b0 57 (by omega), lo 45 (by decide), b0 45 (by omega)]; exact h.tr
theorem o_seats {c k : Int} (h : IV n D) (hn : n ≤ 600) (hc : InR c) (hk : InR k) (K : ∀ v D1, Rf g mX7_seats [.ref 57, iI c, iI k] (n + 1) (iI v) D1 → P (some (iI v)) SH D1) : TM g mX6_seats 20 P [.ref 0, iI c, iI k] D := by
  have e := h.el
  have e1 := e.1.2.1
  have hch := h.ch
  have hM := h.lk.2.1
  refine c_seats (d := 19) h.lk hc hk (fun z => K _ _ (fun P' q => ?_)) (fun a b z => K _ _ (fun P' q => ?_)) (fun a b z z2 => K _ _ (fun P' q => ?_))
  · refine r_seats (d := 18) h.mm hc hk (fun _ => q D (h.q2 h.qs (fun _ _ => rfl))) (fun a b => ?_) (fun a b => ?_) <;> (exfalso; omega)
  · refine r_seats (d := 18) h.mm hc hk (fun _ => ?_) (fun _ _ _ => q D (h.q2 h.qs (fun _ _ => rfl))) (fun _ _ y1 y2 => absurd ⟨y1, y2⟩ z)
    exfalso; omega
  · generalize hD1 : st2 (st2 D 9 c.toNat k) 1 11 (D 1 11 + 1) = D1
    have r0 : ∀ r, r ≠ 1 → r ≠ 9 → D1 r = D r := fun r x y => by rw [← hD1, st2_row x, st2_row y]
    have r1 : ∀ j, j ≠ 11 → D1 1 j = D 1 j := fun j x => by rw [← hD1, st2_ne x, st2_row (by decide)]
    have r9 : D1 9 = up1 (D 9) c.toNat k := by rw [← hD1, st2_row (by decide), st2_up]
    have r11 : D1 1 11 = D 1 11 + 1 := by rw [← hD1, st2_at]
    have l1 : LK D1 := by
      obtain ⟨a1, a2, a3, a4, a5, a6, a7, a8, a9, a10, a11, a12⟩ := h.lk
      unfold LK
      rw [r1 8 (by decide), r1 9 (by decide), r1 10 (by decide), r11, r9, r0 2 (by decide) (by decide), r0 3 (by decide) (by decide), r0 4 (by decide) (by decide), r0 5 (by decide) (by decide), r0 6 (by decide) (by decide), r0 7 (by decide) (by decide), r0 8 (by decide) (by decide)]
      exact ⟨a1, a2, a3, by omega, a5, a6, a7, a8, a9, a10, a11, up1_rg a12 ⟨z, z2⟩⟩
    have m1 : MK D1 := MK_fr (fun a a1 a2 => r0 a (by omega) (by omega)) h.mm
    have i5 : D1 57 5 = D 57 5 := by rw [r0 57 (by decide) (by decide)]
    have ev : D1 64 c.toNat = D 9 c.toNat := by rw [r0 64 (by decide) (by decide)]; exact (e.2.2.1 c.toNat (by omega)).2.2.2
    refine r_seats (d := 18) m1 hc hk (fun y => ?_) (fun _ _ y => absurd ⟨z, z2⟩ y) (fun _ _ _ _ => ?_)
    · exfalso; omega
    · rw [ev]
      have s0 : ∀ r, r ≠ 64 → st2 D1 64 c.toNat k r = D1 r := fun r x => st2_row x
      have s64 : st2 D1 64 c.toNat k 64 = up1 (D 64) c.toNat k := by rw [st2_up, r0 64 (by decide) (by decide)]
      refine q _ (h.chg (LK_fr (fun a a1 a2 => s0 a (by omega)) l1) ?_ ?_ (fun r hr => ?_) ?_ ?_ ?_ ?_ (h.old (fun j _ _ => by rw [s0 0 (by decide), r0 0 (by decide) (by decide)]) (by rw [s0 1 (by decide), r11]; omega)) (by rw [s0 1 (by decide), r11]; omega))
      · obtain ⟨a1, a2, a3, a4, a5, a6, a7, a8, a9, a10, a11⟩ := m1
        unfold MK
        rw [s64, s0 57 (by decide), s0 58 (by decide), s0 59 (by decide), s0 60 (by decide), s0 61 (by decide), s0 62 (by decide), s0 63 (by decide), s0 65 (by decide)]
        exact ⟨a1, a2, a3, a4, a5, a6, a7, a8, a9, up1_rg h.mm.2.2.2.2.2.2.2.2.2.1 ⟨z, z2⟩, a11⟩
      · unfold EqL
        rw [s0 1 (by decide), r1 8 (by decide), r1 9 (by decide), r1 10 (by decide), s64, s0 57 (by decide), s0 58 (by decide), s0 59 (by decide), s0 60 (by decide), s0 61 (by decide), s0 62 (by decide), s0 63 (by decide), s0 65 (by decide), s0 2 (by decide), s0 3 (by decide), s0 4 (by decide), s0 5 (by decide), s0 6 (by decide), s0 7 (by decide), s0 8 (by decide), s0 9 (by decide), r9, r0 57 (by decide) (by decide), r0 58 (by decide) (by decide), r0 59 (by decide) (by decide), r0 60 (by decide) (by decide), r0 61 (by decide) (by decide), r0 62 (by decide) (by decide), r0 63 (by decide) (by decide), r0 65 (by decide) (by decide), r0 2 (by decide) (by decide), r0 3 (by decide) (by decide), r0 4 (by decide) (by decide), r0 5 (by decide) (by decide), r0 6 (by decide) (by decide), r0 7 (by decide) (by decide), r0 8 (by decide) (by decide)]
        refine ⟨e.1, e.2.1, fun c' hc' => ?_, e.2.2.2⟩
        have o := e.2.2.1 c' hc'
        by_cases w : c' = c.toNat
        · subst w; rw [up1_at, up1_at]; exact ⟨o.1, o.2.1, o.2.2.1, rfl⟩
        · rw [up1_ne w, up1_ne w]; exact o
      · rw [s0 r (by omega)]; exact r0 r (by omega) (by omega)
      · rw [s0 0 (by decide), r0 0 (by decide) (by decide)]
      · rw [s0 57 (by decide), r0 57 (by decide) (by decide)]
      · rw [s0 57 (by decide), r0 57 (by decide) (by decide), s0 0 (by decide), r0 0 (by decide) (by decide)]; exact h.ft
      · rw [s0 57 (by decide), r0 57 (by decide) (by decide), s0 45 (by decide), r0 45 (by decide) (by decide)]; exact h.tr
theorem o_toll {v : Int} (h : IV n D) (hn : n ≤ 600) (hv : InR v) (K : ∀ v' D1, Rf g mX7_toll [.ref 57, iI v] (n + 1) (iI v') D1 → P (some (iI v')) SH D1) : TM g mX6_toll 20 P [.ref 0, iI v] D := by
  have e := h.el
  have hch := h.ch
  refine c_toll (d := 19) hv (fun z => K _ _ (fun P' q => ?_)) (fun z z2 => K _ _ (fun P' q => ?_))
  · exact r_toll (d := 19) hv (fun _ => q D (h.q2 h.qs (fun _ _ => rfl))) (fun y1 y2 => absurd ⟨y1, y2⟩ z)
  · generalize hD1 : st2 (st2 D 1 10 v) 1 11 (D 1 11 + 1) = D1
    have r0 : ∀ r, r ≠ 1 → D1 r = D r := fun r x => by rw [← hD1, st2_row x, st2_row x]
    have r1 : ∀ j, j ≠ 11 → j ≠ 10 → D1 1 j = D 1 j := fun j x y => by rw [← hD1, st2_ne x, st2_ne y]
    have r10 : D1 1 10 = v := by rw [← hD1, st2_ne (by decide), st2_at]
    have r11 : D1 1 11 = D 1 11 + 1 := by rw [← hD1, st2_at]
    have l1 : LK D1 := by
      obtain ⟨a1, a2, a3, a4, a5, a6, a7, a8, a9, a10, a11, a12⟩ := h.lk
      unfold LK
      rw [r1 8 (by decide) (by decide), r1 9 (by decide) (by decide), r10, r11, r0 2 (by decide), r0 3 (by decide), r0 4 (by decide), r0 5 (by decide), r0 6 (by decide), r0 7 (by decide), r0 8 (by decide), r0 9 (by decide)]
      exact ⟨a1, a2, ⟨z, z2⟩, by omega, a5, a6, a7, a8, a9, a10, a11, a12⟩
    have ev : D1 57 11 = D 1 10 := by rw [r0 57 (by decide)]; exact e.1.2.2
    refine r_toll (d := 19) hv (fun y => absurd ⟨z, z2⟩ y) (fun _ _ => ?_)
    rw [ev]
    have s0 : ∀ r, r ≠ 57 → st2 D1 57 11 v r = D1 r := fun r x => st2_row x
    have s57 : ∀ j, j ≠ 11 → st2 D1 57 11 v 57 j = D 57 j := fun j x => by rw [st2_ne x, r0 57 (by decide)]
    have s11 : st2 D1 57 11 v 57 11 = v := st2_at
    refine q _ (h.chg (LK_fr (fun a a1 a2 => s0 a (by omega)) l1) ?_ ?_ (fun r hr => ?_) ?_ ?_ ?_ ?_ (h.old (fun j _ _ => by rw [s0 0 (by decide), r0 0 (by decide)]) (by rw [s0 1 (by decide), r11]; omega)) (by rw [s0 1 (by decide), r11]; omega))
    · obtain ⟨a1, a2, a3, a4, a5, a6, a7, a8, a9, a10, a11⟩ := h.mm
      unfold MK
      rw [s57 1 (by decide), s57 5 (by decide), s11, s0 58 (by decide), s0 59 (by decide), s0 60 (by decide), s0 61 (by decide), s0 62 (by decide), s0 63 (by decide), s0 64 (by decide), s0 65 (by decide), r0 58 (by decide), r0 59 (by decide), r0 60 (by decide), r0 61 (by decide), r0 62 (by decide), r0 63 (by decide), r0 64 (by decide), r0 65 (by decide)]
      exact ⟨a1, a2, ⟨z, z2⟩, a4, a5, a6, a7, a8, a9, a10, a11⟩
    · unfold EqL
      rw [s57 1 (by decide), s57 5 (by decide), s11, s0 1 (by decide), r1 8 (by decide) (by decide), r1 9 (by decide) (by decide), r10, s0 58 (by decide), s0 59 (by decide), s0 60 (by decide), s0 61 (by decide), s0 62 (by decide), s0 63 (by decide), s0 64 (by decide), s0 65 (by decide), r0 58 (by decide), r0 59 (by decide), r0 60 (by decide), r0 61 (by decide), r0 62 (by decide), r0 63 (by decide), r0 64 (by decide), r0 65 (by decide), s0 2 (by decide), s0 3 (by decide), s0 4 (by decide), s0 5 (by decide), s0 6 (by decide), s0 7 (by decide), s0 8 (by decide), s0 9 (by decide), r0 2 (by decide), r0 3 (by decide), r0 4 (by decide), r0 5 (by decide), r0 6 (by decide), r0 7 (by decide), r0 8 (by decide), r0 9 (by decide)]
      exact ⟨⟨e.1.1, e.1.2.1, rfl⟩, e.2⟩
    · rw [s0 r (by omega)]; exact r0 r (by omega)
    · rw [s0 0 (by decide), r0 0 (by decide)]
    · exact s57 23 (by decide)
    · rw [s57 0 (by decide), s0 0 (by decide), r0 0 (by decide)]; exact h.ft
    · rw [s57 30 (by decide), s0 45 (by decide), r0 45 (by decide)]; exact h.tr
end

