section
variable {g : G0} {P : Option Value → List SC → DD → Prop} {D : DD} {n : Nat}
theorem o_bar {x c w : Int} (h : IV n D) (hn : n ≤ 600) (hx : InR x) (hc : InR c) (hw : w = 0 ∨ w = 1) (K : ∀ v D1, Rf g mX7_bar [.ref 57, iI x, iI c, iI w] (n + 1) (iI v) D1 → P (some (iI v)) SH D1) : TM g mX6_bar 20 P [.ref 0, iI x, iI c, iI w] D := by
  have e := h.el
  have e1 := e.1.1
  have e2 := e.1.2.1
  have hch := h.ch
  have hN := h.lk.1
  have hM := h.lk.2.1
  have bb := h.mm.2.2.2.2.2.2.2.2.2.2
  refine c_bar (d := 19) h.lk hx hc hw (fun z => K _ _ (fun P' q => ?_)) (fun z z2 => K _ _ (fun P' q => ?_)) (fun z z2 => K _ _ (fun P' q => ?_))
  · refine r_bar (d := 18) h.mm hx hc hw (fun _ => q D (h.q2 h.qs (fun _ _ => rfl))) (fun y => ?_)
    exfalso; omega
  · refine r_bar (d := 18) h.mm hx hc hw (fun y => ?_) (fun _ => ?_)
    · exfalso; omega
    · have ix : (5 * x + c).toNat = 5 * x.toNat + c.toNat := by omega
      have o := (e.2.2.2.1 x.toNat c.toNat (by omega) (by omega)).1
      rw [show ((c.toNat : Nat) : Int) = c by omega] at o
      have bv := bb (5 * x.toNat + c.toNat)
      have eq : D 65 (5 * x + c).toNat = w := by
        rw [ix]
        by_cases y : w = 1
        · rw [y]; exact o.mpr (z2.mpr y)
        · have : ¬ D 65 (5 * x.toNat + c.toNat) = 1 := fun u => y (z2.mp (o.mp u))
          omega
      rw [if_pos eq]
      have same : st2 D 65 (5 * x + c).toNat w = D := by
        funext a b'
        unfold st2
        by_cases y : a = 65 ∧ b' = (5 * x + c).toNat
        · rw [if_pos y, y.1, y.2]; exact eq.symm
        · rw [if_neg y]
      rw [same]
      exact q D (h.q2 h.qs (fun _ _ => rfl))
  · generalize hD1 : st2 (st2 D 5 x.toNat (ixor (D 5 x.toNat) (ishl 1 c))) 1 11 (D 1 11 + 1) = D1
    have r0 : ∀ r, r ≠ 1 → r ≠ 5 → D1 r = D r := fun r x y => by rw [← hD1, st2_row x, st2_row y]
    have r1 : ∀ j, j ≠ 11 → D1 1 j = D 1 j := fun j x => by rw [← hD1, st2_ne x, st2_row (by decide)]
    have r5 : D1 5 = up1 (D 5) x.toNat (ixor (D 5 x.toNat) (ishl 1 c)) := by rw [← hD1, st2_row (by decide), st2_up]
    have r11 : D1 1 11 = D 1 11 + 1 := by rw [← hD1, st2_at]
    have l1 : LK D1 := by
      obtain ⟨a1, a2, a3, a4, a5, a6, a7, a8, a9, a10, a11, a12⟩ := h.lk
      unfold LK
      rw [r1 8 (by decide), r1 9 (by decide), r1 10 (by decide), r11, r5, r0 2 (by decide) (by decide), r0 3 (by decide) (by decide), r0 4 (by decide) (by decide), r0 6 (by decide) (by decide), r0 7 (by decide) (by decide), r0 8 (by decide) (by decide), r0 9 (by decide) (by decide)]
      exact ⟨a1, a2, a3, by omega, a5, a6, a7, up1_rg a8 (ixor_bd (a8 x.toNat) (by omega)), a9, a10, a11, a12⟩
    have m1 : MK D1 := MK_fr (fun a a1 a2 => r0 a (by omega) (by omega)) h.mm
    have i57 : D1 57 = D 57 := r0 57 (by decide) (by decide)
    refine r_bar (d := 18) m1 hx hc hw (fun y => ?_) (fun _ => ?_)
    · rw [i57] at y; exfalso; omega
    · have ix : (5 * x + c).toNat = 5 * x.toNat + c.toNat := by omega
      have o := (e.2.2.2.1 x.toNat c.toNat (by omega) (by omega)).1
      have ecn : ((c.toNat : Nat) : Int) = c := by omega
      rw [ecn] at o
      have bv := bb (5 * x.toNat + c.toNat)
      have ne : D1 65 (5 * x + c).toNat ≠ w := by
        rw [r0 65 (by decide) (by decide), ix]
        intro u
        refine z2 ⟨fun t => ?_, fun t => o.mp (u.trans t)⟩
        rw [← u]; exact o.mpr t
      rw [if_neg ne, ix]
      have s0 : ∀ r, r ≠ 65 → st2 D1 65 (5 * x.toNat + c.toNat) w r = D1 r := fun r x => st2_row x
      have s65 : st2 D1 65 (5 * x.toNat + c.toNat) w 65 = up1 (D 65) (5 * x.toNat + c.toNat) w := by rw [st2_up, r0 65 (by decide) (by decide)]
      refine q _ (h.chg (LK_fr (fun a a1 a2 => s0 a (by omega)) l1) ?_ ?_ (fun r hr => ?_) ?_ ?_ ?_ ?_ (h.old (fun j _ _ => by rw [s0 0 (by decide), r0 0 (by decide) (by decide)]) (by rw [s0 1 (by decide), r11]; omega)) (by rw [s0 1 (by decide), r11]; omega))
      · obtain ⟨a1, a2, a3, a4, a5, a6, a7, a8, a9, a10, a11⟩ := m1
        unfold MK
        rw [s65, s0 57 (by decide), s0 58 (by decide), s0 59 (by decide), s0 60 (by decide), s0 61 (by decide), s0 62 (by decide), s0 63 (by decide), s0 64 (by decide)]
        exact ⟨a1, a2, a3, a4, a5, a6, a7, a8, a9, a10, up1_rg bb (by omega)⟩
      · unfold EqL
        rw [s0 1 (by decide), r1 8 (by decide), r1 9 (by decide), r1 10 (by decide), s65, s0 57 (by decide), s0 58 (by decide), s0 59 (by decide), s0 60 (by decide), s0 61 (by decide), s0 62 (by decide), s0 63 (by decide), s0 64 (by decide), s0 2 (by decide), s0 3 (by decide), s0 4 (by decide), s0 5 (by decide), s0 6 (by decide), s0 7 (by decide), s0 8 (by decide), s0 9 (by decide), r5, r0 57 (by decide) (by decide), r0 58 (by decide) (by decide), r0 59 (by decide) (by decide), r0 60 (by decide) (by decide), r0 61 (by decide) (by decide), r0 62 (by decide) (by decide), r0 63 (by decide) (by decide), r0 64 (by decide) (by decide), r0 2 (by decide) (by decide), r0 3 (by decide) (by decide), r0 4 (by decide) (by decide), r0 6 (by decide) (by decide), r0 7 (by decide) (by decide), r0 8 (by decide) (by decide), r0 9 (by decide) (by decide)]
        refine ⟨e.1, e.2.1, e.2.2.1, fun t c' ht hc' => ?_, fun t c' ht h10 hc' => ?_⟩
        · have o' := e.2.2.2.1 t c' ht hc'
          have ecc : ishl 1 c = ishl 1 ((c.toNat : Nat) : Int) := by rw [ecn]
          by_cases u : t = x.toNat
          · subst u
            rw [up1_at, bit_ixor (by omega), ecc, bit_pw (by omega) (by omega)]
            by_cases u2 : c' = c.toNat
            · subst u2
              rw [up1_at]
              rw [ecn] at o' ⊢
              refine ⟨⟨fun t1 t2 => ?_, fun t1 => ?_⟩, fun t1 => by omega⟩
              · have : bit (D 5 x.toNat) c := t2.mpr rfl
                exact z2 ⟨fun _ => t1, fun _ => this⟩
              · refine Classical.byContradiction fun t2 => z2 ⟨fun t3 => ?_, fun t3 => absurd t3 t2⟩
                exact absurd ⟨fun _ => rfl, fun _ => t3⟩ t1
            · rw [up1_ne (by omega)]
              refine ⟨⟨fun t1 t2 => u2 (t2.mp (o'.1.mp t1)), fun t1 => ?_⟩, fun t1 t2 => ?_⟩
              · refine o'.1.mpr (Classical.byContradiction fun t2 => t1 ⟨fun t3 => absurd t3 t2, fun t3 => absurd t3 u2⟩)
              · exact t2 ⟨fun t3 => absurd t3 (o'.2 t1), fun t3 => absurd t3 u2⟩
          · rw [up1_ne u, up1_ne (by omega)]
            exact o'
        · rw [up1_ne (by omega)]
          exact e.2.2.2.2 t c' ht h10 hc'
      · rw [s0 r (by omega)]; exact r0 r (by omega) (by omega)
      · rw [s0 0 (by decide), r0 0 (by decide) (by decide)]
      · rw [s0 57 (by decide), i57]
      · rw [s0 57 (by decide), i57, s0 0 (by decide), r0 0 (by decide) (by decide)]; exact h.ft
      · rw [s0 57 (by decide), i57, s0 45 (by decide), r0 45 (by decide) (by decide)]; exact h.tr
theorem o_place {x y : Int} (h : IV n D) (hx : InR x) (hy : InR y) (K : ∀ v D1, Rf g mX7_place [.ref 57, iI x, iI y] (n + 1) (iI v) D1 → P (some (iI v)) SH D1) : TM g mX6_place 20 P [.ref 0, iI x, iI y] D := by
  have e := h.ep.1
  have pb := h.pk.1
  refine c_place (d := 18) pb hx hy (fun z => K _ _ (fun P' q => ?_)) (fun z z2 => K _ _ (fun P' q => ?_)) (fun z z2 => K _ _ (fun P' q => ?_))
  · exact r_place (d := 18) h.pm.1 hx hy (fun _ => q D (h.q2 h.qs (fun _ _ => rfl))) (fun y => absurd y z) (fun y => absurd y z)
  · refine r_place (d := 18) h.pm.1 hx hy (fun y => absurd z y) (fun _ _ => q D (h.q2 h.qs (fun _ _ => rfl))) (fun _ y => ?_)
    exfalso; omega
  · generalize hD1 : st2 (st2 (st2 D 47 (D 0 9).toNat x) 48 (D 0 9).toNat y) 0 9 (D 0 9 + 1) = D1
    have r0 : ∀ r, r ≠ 0 → r ≠ 47 → r ≠ 48 → D1 r = D r := fun r a b c => by rw [← hD1, st2_row a, st2_row c, st2_row b]
    have r9 : D1 0 9 = D 0 9 + 1 := by rw [← hD1, st2_at]
    have rj : ∀ j, j ≠ 9 → D1 0 j = D 0 j := fun j a => by rw [← hD1, st2_ne a, st2_row (by decide), st2_row (by decide)]
    have r47 : D1 47 = up1 (D 47) (D 0 9).toNat x := by rw [← hD1, st2_row (by decide), st2_row (by decide), st2_up]
    have r48 : D1 48 = up1 (D 48) (D 0 9).toNat y := by rw [← hD1, st2_row (by decide), st2_up, st2_row (by decide)]
    have i57 : D1 57 = D 57 := r0 57 (by decide) (by decide) (by decide)
    have i23 : D1 57 23 = D 0 9 := by rw [i57]; exact e
    refine r_place (d := 18) (by rw [i57]; exact h.pm.1) hx hy (fun y => absurd z y) (fun _ y => ?_) (fun _ _ => ?_)
    · exfalso; omega
    · rw [i23, show D 0 9 + 1 - 1 = D 0 9 by omega]
      generalize hD2 : st2 (st2 (st2 D1 75 (D 0 9).toNat x) 76 (D 0 9).toNat y) 57 23 (D 0 9 + 1) = D2
      have s0 : ∀ r, r ≠ 57 → r ≠ 75 → r ≠ 76 → D2 r = D1 r := fun r a b c => by rw [← hD2, st2_row a, st2_row c, st2_row b]
      have s23 : D2 57 23 = D 0 9 + 1 := by rw [← hD2, st2_at]
      have sj : ∀ j, j ≠ 23 → D2 57 j = D 57 j := fun j a => by rw [← hD2, st2_ne a, st2_row (by decide), st2_row (by decide), i57]
      have s75 : D2 75 = up1 (D 75) (D 0 9).toNat x := by rw [← hD2, st2_row (by decide), st2_row (by decide), st2_up, r0 75 (by decide) (by decide) (by decide)]
      have s76 : D2 76 = up1 (D 76) (D 0 9).toNat y := by rw [← hD2, st2_row (by decide), st2_up, st2_row (by decide), r0 76 (by decide) (by decide) (by decide)]
      have al : ∀ r, r ≠ 0 → r ≠ 47 → r ≠ 48 → r ≠ 57 → r ≠ 75 → r ≠ 76 → D2 r = D r := fun r a b c d' f k => (s0 r d' f k).trans (r0 r a b c)
      have z0 : D2 0 = D1 0 := s0 0 (by decide) (by decide) (by decide)
      have m47 : D2 47 = up1 (D 47) (D 0 9).toNat x := (s0 47 (by decide) (by decide) (by decide)).trans r47
      have m48 : D2 48 = up1 (D 48) (D 0 9).toNat y := (s0 48 (by decide) (by decide) (by decide)).trans r48
      obtain ⟨c1, c2, c3⟩ := cch (D2 := D2) h (fun r hr => al r (by omega) (by omega) (by omega) (by omega) (by omega) (by omega)) (fun j a b => by rw [z0]; exact rj j (by omega))
      refine q D2 ⟨LK_fr (fun r a b => al r (by omega) (by omega) (by omega) (by omega) (by omega) (by omega)) h.lk, ?_, ?_, ?_, ?_, ?_, ?_, ?_, ?_, ?_, ?_, c1, c2, c3, ?_⟩
      · have w := h.mm
        unfold MK at w ⊢
        rw [sj 1 (by decide), sj 5 (by decide), sj 11 (by decide), al 58 (by decide) (by decide) (by decide) (by decide) (by decide) (by decide), al 59 (by decide) (by decide) (by decide) (by decide) (by decide) (by decide), al 60 (by decide) (by decide) (by decide) (by decide) (by decide) (by decide), al 61 (by decide) (by decide) (by decide) (by decide) (by decide) (by decide), al 62 (by decide) (by decide) (by decide) (by decide) (by decide) (by decide), al 63 (by decide) (by decide) (by decide) (by decide) (by decide) (by decide), al 64 (by decide) (by decide) (by decide) (by decide) (by decide) (by decide), al 65 (by decide) (by decide) (by decide) (by decide) (by decide) (by decide)]
        exact w
      · have w := h.el
        unfold EqL at w ⊢
        rw [sj 1 (by decide), sj 5 (by decide), sj 11 (by decide), al 1 (by decide) (by decide) (by decide) (by decide) (by decide) (by decide), al 2 (by decide) (by decide) (by decide) (by decide) (by decide) (by decide), al 3 (by decide) (by decide) (by decide) (by decide) (by decide) (by decide), al 4 (by decide) (by decide) (by decide) (by decide) (by decide) (by decide), al 5 (by decide) (by decide) (by decide) (by decide) (by decide) (by decide), al 6 (by decide) (by decide) (by decide) (by decide) (by decide) (by decide), al 7 (by decide) (by decide) (by decide) (by decide) (by decide) (by decide), al 8 (by decide) (by decide) (by decide) (by decide) (by decide) (by decide), al 9 (by decide) (by decide) (by decide) (by decide) (by decide) (by decide), al 58 (by decide) (by decide) (by decide) (by decide) (by decide) (by decide), al 59 (by decide) (by decide) (by decide) (by decide) (by decide) (by decide), al 60 (by decide) (by decide) (by decide) (by decide) (by decide) (by decide), al 61 (by decide) (by decide) (by decide) (by decide) (by decide) (by decide), al 62 (by decide) (by decide) (by decide) (by decide) (by decide) (by decide), al 63 (by decide) (by decide) (by decide) (by decide) (by decide) (by decide), al 64 (by decide) (by decide) (by decide) (by decide) (by decide) (by decide), al 65 (by decide) (by decide) (by decide) (by decide) (by decide) (by decide)]
        exact w
      · intro k hk
        rw [al (49 + 2 * k) (by omega) (by omega) (by omega) (by omega) (by omega) (by omega), al (49 + 2 * k + 1) (by omega) (by omega) (by omega) (by omega) (by omega) (by omega)]
        exact h.sk k hk
      · have w := h.rk
        unfold RK at w ⊢
        rw [al 77 (by decide) (by decide) (by decide) (by decide) (by decide) (by decide), al 78 (by decide) (by decide) (by decide) (by decide) (by decide) (by decide), al 79 (by decide) (by decide) (by decide) (by decide) (by decide) (by decide)]
        exact w
      · intro k hk
        rw [al (49 + 2 * k) (by omega) (by omega) (by omega) (by omega) (by omega) (by omega), al (49 + 2 * k + 1) (by omega) (by omega) (by omega) (by omega) (by omega) (by omega), al 77 (by decide) (by decide) (by decide) (by decide) (by decide) (by decide), al 78 (by decide) (by decide) (by decide) (by decide) (by decide) (by decide), al 79 (by decide) (by decide) (by decide) (by decide) (by decide) (by decide)]
        exact h.es k hk
      · refine ⟨by rw [z0, r9]; omega, fun p => ?_⟩
        rw [m47, m48]
        exact ⟨up1_rg (fun j => (h.pk.2 j).1) ⟨z.1, z.2.1⟩ p, up1_rg (fun j => (h.pk.2 j).2) ⟨z.2.2.1, z.2.2.2⟩ p⟩
      · refine ⟨by rw [s23]; omega, fun p => ?_⟩
        rw [s75, s76]
        exact ⟨up1_rg (fun j => (h.pm.2 j).1) ⟨z.1, z.2.1⟩ p, up1_rg (fun j => (h.pm.2 j).2) ⟨z.2.2.1, z.2.2.2⟩ p⟩
      · refine ⟨by rw [s23, z0, r9], fun p hp => ?_⟩
        rw [z0, r9] at hp
        rw [s75, s76, m47, m48]
        by_cases u : p = (D 0 9).toNat
        · subst u; rw [up1_at, up1_at, up1_at, up1_at]; exact ⟨rfl, rfl⟩
        · rw [up1_ne u, up1_ne u, up1_ne u, up1_ne u]; exact h.ep.2 p (by omega)
      · rw [sj 0 (by decide), z0, rj 10 (by decide)]; exact h.ft
      · rw [sj 30 (by decide), al 45 (by decide) (by decide) (by decide) (by decide) (by decide) (by decide)]; exact h.tr
      · rw [al 1 (by decide) (by decide) (by decide) (by decide) (by decide) (by decide)]; have := h.ch; omega
theorem o_move {c : Int} (h : IV n D) (hn : n ≤ 600) (hc : InR c) (K : ∀ v D1, Rf g mX7_move [.ref 57, iI c] (n + 1) (iI v) D1 → P (some (iI v)) SH D1) : TM g mX6_move 20 P [.ref 0, iI c] D := by
  have e1 := h.el.1.2.1
  have hch := h.ch
  have hM := h.lk.2.1
  have cong : ∀ (D1 : DD) (r : Int), (∀ a, 57 ≤ a → a ≤ 79 → D1 a = D a) → 0 ≤ c → c < D 1 9 → ArgM (D1 57 23).toNat (okPM D1 c.toNat) (fun p => mvM D1 c.toNat (D1 75 p) (D1 76 p)) r → ArgM (D 0 9).toNat (okP D c.toNat) (fun p => mvC D c.toNat (D 47 p) (D 48 p)) r := by
    intro D1 r hl a b hA
    have e57 := hl 57 (by decide) (by decide)
    rw [e57, h.ep.1] at hA
    have em : ∀ x y, mvM D1 c.toNat x y = mvC D c.toNat x y := fun x y => by
      rw [← br_mv h (c := c.toNat) (by omega) x y]
      unfold mvM
      refine (mlM_of (fun a h1 h2 => ?_)).1
      unfold mvD
      by_cases u : a = 63
      · subst u
        funext j
        by_cases v : j = c.toNat
        · subst v; rw [st2_at, st2_at]
        · rw [st2_ne v, st2_ne v, st2_row (by decide), st2_row (by decide), hl 63 (by decide) (by decide)]
      · rw [st2_row u, st2_row u]
        by_cases u2 : a = 62
        · subst u2
          funext j
          by_cases v : j = c.toNat
          · subst v; rw [st2_at, st2_at]
          · rw [st2_ne v, st2_ne v, hl 62 (by decide) (by decide)]
        · rw [st2_row u2, st2_row u2, hl a h1 (by omega)]
    have eml : mlM D1 = mlC D := ((mlM_of (fun a h1 h2 => hl a h1 (by omega))).1).trans (br_ml h)
    refine hA.cong (fun p hp => ?_)
    have ep := h.ep.2 p hp
    unfold okPM okP
    rw [em, eml, hl 75 (by decide) (by decide), hl 76 (by decide) (by decide), ep.1, ep.2]
    exact ⟨Iff.rfl, fun _ => rfl⟩
  refine c_move (d := 14) h.lk h.cn h.pk hc (fun z => K _ _ (fun P' q => ?_)) (fun a b D1 kp ee hN hA => K _ _ (fun P' q => ?_)) (fun a b D1 p kp ee hp hA => K _ _ (fun P' q => ?_))
  · refine r_move (d := 15) h.mm h.pm hc (fun _ => q D (h.q2 h.qs (fun _ _ => rfl))) (fun a b => ?_) (fun a b => ?_) <;> (exfalso; omega)
  · have u := h.kpt kp ee hN
    have e57 := u.e57
    have pm1 : PlM D1 := by unfold PlM; rw [e57, u.1 75 (by omega), u.1 76 (by omega)]; exact h.pm
    refine r_move (d := 15) (u.mm h) pm1 hc (fun y => ?_) (fun _ _ D2 f hA2 => q D2 (h.q2 u f)) (fun _ _ D2 p f hp hA2 => ?_)
    · rw [e57] at y; exfalso; omega
    · have := (cong D1 _ (fun a h1 h2 => u.1 a (by omega)) a b hA2).uniq hA
      omega
  · generalize hD2 : st2 (st2 (st2 D1 7 c.toNat (D 47 p)) 8 c.toNat (D 48 p)) 1 11 (D 1 11 + 1) = D2
    have kr : ∀ r, r ≠ 0 → (r < 16 ∨ 37 < r) → D1 r = D r := kp.1
    have r0 : ∀ r, r ≠ 1 → r ≠ 7 → r ≠ 8 → D2 r = D1 r := fun r x y z => by rw [← hD2, st2_row x, st2_row z, st2_row y]
    have r1 : ∀ j, j ≠ 11 → D2 1 j = D 1 j := fun j x => by rw [← hD2, st2_ne x, st2_row (by decide), st2_row (by decide), kr 1 (by decide) (by omega)]
    have r11 : D2 1 11 = D 1 11 + 1 := by rw [← hD2, st2_at]
    have r7 : D2 7 = up1 (D 7) c.toNat (D 47 p) := by rw [← hD2, st2_row (by decide), st2_row (by decide), st2_up, kr 7 (by decide) (by omega)]
    have r8 : D2 8 = up1 (D 8) c.toNat (D 48 p) := by rw [← hD2, st2_row (by decide), st2_up, st2_row (by decide), kr 8 (by decide) (by omega)]
    have hi : ∀ a, 45 ≤ a → D2 a = D a := fun a h1 => (r0 a (by omega) (by omega) (by omega)).trans (kr a (by omega) (by omega))
    have e57 : D2 57 = D 57 := hi 57 (by decide)
    have pp := h.pk.2 p
    have l2 : LK D2 := by
      obtain ⟨a1, a2, a3, a4, a5, a6, a7, a8, a9, a10, a11, a12⟩ := h.lk
      unfold LK
      rw [r1 8 (by decide), r1 9 (by decide), r1 10 (by decide), r11, r7, r8, r0 2 (by decide) (by decide) (by decide), r0 3 (by decide) (by decide) (by decide), r0 4 (by decide) (by decide) (by decide), r0 5 (by decide) (by decide) (by decide), r0 6 (by decide) (by decide) (by decide), r0 9 (by decide) (by decide) (by decide), kr 2 (by decide) (by omega), kr 3 (by decide) (by omega), kr 4 (by decide) (by omega), kr 5 (by decide) (by omega), kr 6 (by decide) (by omega), kr 9 (by decide) (by omega)]
      exact ⟨a1, a2, a3, by omega, a5, a6, a7, a8, a9, up1_rg a10 pp.1, up1_rg a11 pp.2, a12⟩
    have m2 : MK D2 := MK_fr (fun a h1 h2 => hi a (by omega)) h.mm
    have pm2 : PlM D2 := by unfold PlM; rw [e57, hi 75 (by decide), hi 76 (by decide)]; exact h.pm
    refine r_move (d := 15) m2 pm2 hc (fun y => ?_) (fun _ _ D3 f hA2 => ?_) (fun _ _ D3 p2 f hp2 hA2 => ?_)
    · rw [e57] at y; exfalso; omega
    · have := (cong D2 _ (fun a h1 h2 => hi a (by omega)) a b hA2).uniq hA
      omega
    · have ep2 := (cong D2 _ (fun a h1 h2 => hi a (by omega)) a b hA2).uniq hA
      obtain rfl : p2 = p := by omega
      have epl := h.ep.2 p2 hp
      have q75 : D2 75 p2 = D 47 p2 := by rw [hi 75 (by decide)]; exact epl.1
      have q76 : D2 76 p2 = D 48 p2 := by rw [hi 76 (by decide)]; exact epl.2
      rw [q75, q76] at f
      have f0 : ∀ r, r ≠ 62 → r ≠ 63 → (r < 68 ∨ 74 < r) → D3 r = D2 r := fun r x y z => by rw [f r z]; unfold mvD; rw [st2_row y, st2_row x]
      have f62 : D3 62 = up1 (D 62) c.toNat (D 47 p2) := by rw [f 62 (by omega)]; unfold mvD; rw [st2_row (by decide), st2_up, hi 62 (by decide)]
      have f63 : D3 63 = up1 (D 63) c.toNat (D 48 p2) := by rw [f 63 (by omega)]; unfold mvD; rw [st2_up, st2_row (by decide), hi 63 (by decide)]
      have e57' : D3 57 = D 57 := (f0 57 (by decide) (by decide) (by omega)).trans e57
      have z0 : D3 0 = D1 0 := (f0 0 (by decide) (by decide) (by omega)).trans (r0 0 (by decide) (by decide) (by decide))
      have zl : ∀ a, 1 ≤ a → a ≤ 9 → D3 a = D2 a := fun a h1 h2 => f0 a (by omega) (by omega) (by omega)
      have cN := h.cn
      have c31 : D3 1 11 = D 1 11 + 1 := by rw [zl 1 (by decide) (by decide), r11]
      refine q D3 (h.chg (LK_fr zl l2) ?_ ?_ (fun r hr => ?_) ?_ ?_ ?_ ?_ ?_ (by rw [c31]; omega))
      · obtain ⟨a1, a2, a3, a4, a5, a6, a7, a8, a9, a10, a11⟩ := m2
        unfold MK
        rw [f62, f63, f0 57 (by decide) (by decide) (by omega), f0 58 (by decide) (by decide) (by omega), f0 59 (by decide) (by decide) (by omega), f0 60 (by decide) (by decide) (by omega), f0 61 (by decide) (by decide) (by omega), f0 64 (by decide) (by decide) (by omega), f0 65 (by decide) (by decide) (by omega)]
        exact ⟨a1, a2, a3, a4, a5, a6, a7, up1_rg h.mm.2.2.2.2.2.2.2.1 pp.1, up1_rg h.mm.2.2.2.2.2.2.2.2.1 pp.2, a10, a11⟩
      · have w := h.el
        unfold EqL
        rw [e57', zl 1 (by decide) (by decide), r1 8 (by decide), r1 9 (by decide), r1 10 (by decide), f62, f63, zl 7 (by decide) (by decide), zl 8 (by decide) (by decide), r7, r8, f0 58 (by decide) (by decide) (by omega), f0 59 (by decide) (by decide) (by omega), f0 60 (by decide) (by decide) (by omega), f0 61 (by decide) (by decide) (by omega), f0 64 (by decide) (by decide) (by omega), f0 65 (by decide) (by decide) (by omega), hi 58 (by decide), hi 59 (by decide), hi 60 (by decide), hi 61 (by decide), hi 64 (by decide), hi 65 (by decide), zl 2 (by decide) (by decide), zl 3 (by decide) (by decide), zl 4 (by decide) (by decide), zl 5 (by decide) (by decide), zl 6 (by decide) (by decide), zl 9 (by decide) (by decide), r0 2 (by decide) (by decide) (by decide), r0 3 (by decide) (by decide) (by decide), r0 4 (by decide) (by decide) (by decide), r0 5 (by decide) (by decide) (by decide), r0 6 (by decide) (by decide) (by decide), r0 9 (by decide) (by decide) (by decide), kr 2 (by decide) (by omega), kr 3 (by decide) (by omega), kr 4 (by decide) (by omega), kr 5 (by decide) (by omega), kr 6 (by decide) (by omega), kr 9 (by decide) (by omega)]
        refine ⟨w.1, w.2.1, fun c' hc' => ?_, w.2.2.2⟩
        have o := w.2.2.1 c' hc'
        by_cases v : c' = c.toNat
        · subst v; rw [up1_at, up1_at, up1_at, up1_at]; exact ⟨o.1, rfl, rfl, o.2.2.2⟩
        · rw [up1_ne v, up1_ne v, up1_ne v, up1_ne v]; exact o
      · rw [f0 r (by omega) (by omega) (by omega)]; exact hi r (by omega)
      · rw [z0]; exact kp.2 9 (by decide) (by decide)
      · rw [e57']
      · rw [e57', z0, kp.2 10 (by decide) (by decide)]; exact h.ft
      · rw [e57', f0 45 (by decide) (by decide) (by omega), hi 45 (by decide)]; exact h.tr
      · have g12 : D3 0 12 = D 0 12 := by rw [z0]; exact kp.2 12 (by decide) (by decide)
        have g13 : D3 0 13 = D 0 13 := by rw [z0]; exact kp.2 13 (by decide) (by decide)
        have g11 : D3 0 11 = D 1 11 := by rw [z0]; exact ee
        have cE := h.ce
        have cF := h.cf
        have lb := h.lk.2.2.2.1
        unfold CacheE at cE
        unfold CacheF at cF
        have q1 := cE.1; have q2 := cE.2.1; have q3 := cF.1; have q4 := cF.2.1
        exact ⟨⟨by omega, by omega, fun v => by omega⟩, ⟨by omega, by omega, fun v => by omega⟩, ⟨by omega, by omega, fun v => by omega⟩⟩
end

