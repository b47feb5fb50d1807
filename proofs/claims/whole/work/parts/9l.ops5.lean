theorem PfG.cong {H C : Nat} {hd hd' se se' : Nat → Int} {br br' : Nat → Nat → Prop} {far far' x x' : Nat → Nat → Int} {y y' : Nat → Int} (e1 : ∀ h, h < H → hd h = hd' h) (e2 : ∀ c, c < C → se c = se' c ∧ y c = y' c) (e3 : ∀ h c, h < H → c < C → (br h c ↔ br' h c) ∧ far h c = far' h c ∧ x h c = x' h c) (p : PfG H C hd se br far x y) : PfG H C hd' se' br' far' x' y' := by
  refine ⟨fun h hh => ⟨fun c hc => ?_, ?_⟩, fun c hc => ?_, fun h hh c hc p1 p2 c' hc' p3 => ?_⟩
  · have a := (p.1 h hh).1 c hc
    have b := e3 h c hh hc
    rw [← b.2.2]
    exact ⟨a.1, fun q r => a.2 q (b.1.mpr r)⟩
  · rw [← e1 h hh, ← (p.1 h hh).2]
    exact sm_cong C (fun c hc => ((e3 h c hh hc).2.2).symm)
  · have a := p.2.1 c hc
    have s : sm H (fun h => x h c) = sm H (fun h => x' h c) := sm_cong H (fun h hh => (e3 h c hh hc).2.2)
    unfold NumG at a ⊢
    rw [← s, ← (e2 c hc).1, ← (e2 c hc).2]
    exact a
  · have b := e3 h c hh hc
    have b' := e3 h c' hh hc'
    have a := p.2.2 h hh c hc (by rw [b.2.2]; exact p1) (fun q => p2 (b.1.mp q)) c' hc' (fun q => p3 (b'.1.mp q))
    show far' h c + y' c ≤ far' h c' + y' c'
    rw [← b.2.1, ← b'.2.1, ← (e2 c hc).2, ← (e2 c' hc').2]
    exact a
theorem rowR_0 {la la' si si' l i n : Int} : rowR 0 la si l i n = rowR 0 la' si' l i n := by
  unfold rowR
  by_cases z : ¬ (0 ≤ l ∧ l ≤ 2)
  · rw [if_pos z, if_pos z]
  · rw [if_neg z, if_neg z, if_pos rfl, if_pos rfl]
section
variable {g : G0} {P : Option Value → List SC → DD → Prop} {D : DD} {n : Nat}
theorem br_row (h : IV n D) {k : Int} (h1 : 0 ≤ k) (h2 : k ≤ 3) (l i m : Int) : rwM D k l i m = rowR (D (49 + 2 * k.toNat) 1) (D (49 + 2 * k.toNat) 2) (D (49 + 2 * k.toNat) 3) l i m := by
  have e := h.es k.toNat (by omega)
  have s := (h.sk k.toNat (by omega)).1
  by_cases z : 0 ≤ D 77 k.toNat
  · have o := e.2 z
    show rowR (if D 77 k.toNat < 0 then 0 else 1) _ _ _ _ _ = _
    rw [if_neg (by omega), e.1.mpr z, o.1, o.2.1]
  · have y : D (49 + 2 * k.toNat) 1 = 0 := by
      rcases s with s | s
      · exact s
      · exact absurd (e.1.mp s) z
    show rowR (if D 77 k.toNat < 0 then 0 else 1) _ _ _ _ _ = _
    rw [if_pos (by omega), y]
    exact rowR_0
theorem RK_0 {v : Int} (h : RK D) : RK (st2 D 0 10 v) := h
theorem o_check {k l i m : Int} (h : IV n D) (hk : InR k) (hl : InR l) (hi : InR i) (hm : InR m) (K : ∀ v D1, Rf g mX7_check [.ref 57, iI k, iI l, iI i, iI m] (n + 1) (iI v) D1 → P (some (iI v)) SH D1) : TM g mX6_check 20 P [.ref 0, iI k, iI l, iI i, iI m] D := by
  have br := fun (h1 : 0 ≤ k) (h2 : k ≤ 3) => br_row h h1 h2 l i m
  have e := h.el
  have en : D 57 1 * D 57 5 + D 57 5 = D 1 8 * D 1 9 + D 1 9 := by rw [e.1.1, e.1.2.1]
  have hN := h.lk.1
  have hM := h.lk.2.1
  have pf : 0 ≤ k → k ≤ 3 → (rwM D k l i m).1 = 0 → m = D 1 8 * D 1 9 + D 1 9 → (PfM D (80 * k + i) ↔ PfC D (49 + 2 * k.toNat + 1) i) := by
    intro h1 h2 h0 hm'
    have ok := (rowR_ok h0).2
    have hs := h.es k.toNat (by omega)
    have sz := (hs.2 (by omega)).2.1
    have row := (hs.2 (by omega)).2.2
    have cell : ∀ j : Int, 0 ≤ j → j < m → D 79 (80 * k + i + j).toNat = D (49 + 2 * k.toNat + 1) (i + j).toNat := fun j j1 j2 => by
      rw [row (i + j).toNat (by omega), show (80 * k + i + j).toNat = 80 * k.toNat + (i + j).toNat by omega]
    have hC : ((D 1 9).toNat : Int) = D 1 9 := by omega
    have hH : ((D 1 8).toNat : Int) = D 1 8 := by omega
    have ix : ∀ x c : Nat, x < (D 1 8).toNat → c < (D 1 9).toNat → 0 ≤ D 1 9 * (x : Int) + c ∧ D 1 9 * (x : Int) + c < m := fun x c hx hc => by
      have p1 : 0 ≤ D 1 9 * (x : Int) := Int.mul_nonneg hM.1 (by omega)
      have p2 : D 1 9 * (x : Int) + D 1 9 ≤ D 1 9 * D 1 8 := by
        have := Int.mul_le_mul_of_nonneg_left (show (x : Int) + 1 ≤ D 1 8 by omega) hM.1
        rw [Int.mul_add, Int.mul_one] at this
        exact this
      rw [Int.mul_comm (D 1 9) (D 1 8)] at p2
      omega
    have iy : ∀ c : Nat, c < (D 1 9).toNat → 0 ≤ D 1 8 * D 1 9 + c ∧ D 1 8 * D 1 9 + c < m := fun c hc => by
      have := Int.mul_nonneg hN.1 hM.1
      omega
    have ex : ∀ x c : Nat, x < (D 1 8).toNat → c < (D 1 9).toNat → qX D (80 * k + i) x c = pX D (49 + 2 * k.toNat + 1) i x c := fun x c hx hc => by
      have b := ix x c hx hc
      show D 79 (80 * k + i + D 57 5 * x + c).toNat = D (49 + 2 * k.toNat + 1) (i + x * D 1 9 + c).toNat
      rw [e.1.2.1, show 80 * k + i + D 1 9 * x + c = 80 * k + i + (D 1 9 * x + c) by omega, cell _ b.1 b.2, Int.mul_comm (x : Int) (D 1 9), show i + D 1 9 * (x : Int) + c = i + (D 1 9 * x + c) by omega]
    have ey : ∀ c : Nat, c < (D 1 9).toNat → qY D (80 * k + i) c = pY D (49 + 2 * k.toNat + 1) i c := fun c hc => by
      have b := iy c hc
      show D 79 (80 * k + i + D 57 1 * D 57 5 + c).toNat = D (49 + 2 * k.toNat + 1) (i + D 1 8 * D 1 9 + c).toNat
      rw [e.1.1, e.1.2.1, show 80 * k + i + D 1 8 * D 1 9 + c = 80 * k + i + (D 1 8 * D 1 9 + c) by omega, cell _ b.1 b.2, show i + D 1 8 * D 1 9 + (c : Int) = i + (D 1 8 * D 1 9 + c) by omega]
    unfold PfM PfC
    rw [e.1.1, e.1.2.1]
    constructor
    · exact PfG.cong (fun x hx => (e.2.1 x hx).2.2.1) (fun c hc => ⟨(e.2.2.1 c hc).2.2.2, ey c hc⟩) (fun x c hx hc => ⟨(e.2.2.2.1 x c hx (by omega)).1, (br_far e hx hc).symm, ex x c hx hc⟩)
    · exact PfG.cong (fun x hx => ((e.2.1 x hx).2.2.1).symm) (fun c hc => ⟨((e.2.2.1 c hc).2.2.2).symm, (ey c hc).symm⟩) (fun x c hx hc => ⟨(e.2.2.2.1 x c hx (by omega)).1.symm, br_far e hx hc, (ex x c hx hc).symm⟩)
  refine c_check (d := 16) h.lk h.sk hk hl hi hm (fun z => K _ _ (fun P' q => ?_)) (fun h1 h2 z => K _ _ (fun P' q => ?_)) (fun h1 h2 z z2 => K _ _ (fun P' q => ?_)) (fun h1 h2 z z2 z3 => K _ _ (fun P' q => ?_)) (fun h1 h2 z z2 z3 => K _ _ (fun P' q => ?_))
  · exact r_check (d := 17) (MK_0 h.mm) (RK_0 h.rk) hk hl hi hm (fun _ => q _ (h.fa 0)) (fun a b => absurd ⟨a, b⟩ z) (fun a b => absurd ⟨a, b⟩ z) (fun a b => absurd ⟨a, b⟩ z) (fun a b => absurd ⟨a, b⟩ z)
  · rw [← br h1 h2] at z q ⊢
    refine r_check (d := 17) (MK_0 h.mm) (RK_0 h.rk) hk hl hi hm (fun y => absurd ⟨h1, h2⟩ y) (fun _ _ _ => q _ (h.fa _)) (fun _ _ y => absurd y z) (fun _ _ y => absurd y z) (fun _ _ y => absurd y z)
  · rw [← br h1 h2] at z
    refine r_check (d := 17) (MK_0 h.mm) (RK_0 h.rk) hk hl hi hm (fun y => absurd ⟨h1, h2⟩ y) (fun _ _ y => absurd z y) (fun _ _ _ _ => q _ (h.fa 0)) (fun _ _ _ (y : m = D 57 1 * D 57 5 + D 57 5) => absurd (y.trans en) z2) (fun _ _ _ (y : m = D 57 1 * D 57 5 + D 57 5) => absurd (y.trans en) z2)
  · rw [← br h1 h2] at z
    refine r_check (d := 17) (MK_0 h.mm) (RK_0 h.rk) hk hl hi hm (fun y => absurd ⟨h1, h2⟩ y) (fun _ _ y => absurd z y) (fun _ _ _ (y : m ≠ D 57 1 * D 57 5 + D 57 5) => absurd (z2.trans en.symm) y) (fun _ _ _ _ _ => q _ (h.fa 0)) (fun _ _ _ _ (y : ¬ PfM D (80 * k + i)) => absurd ((pf h1 h2 z z2).mpr z3) y)
  · rw [← br h1 h2] at z
    refine r_check (d := 17) (MK_0 h.mm) (RK_0 h.rk) hk hl hi hm (fun y => absurd ⟨h1, h2⟩ y) (fun _ _ y => absurd z y) (fun _ _ _ (y : m ≠ D 57 1 * D 57 5 + D 57 5) => absurd (z2.trans en.symm) y) (fun _ _ _ _ (y : PfM D (80 * k + i)) => absurd ((pf h1 h2 z z2).mp y) z3) (fun _ _ _ _ _ => q _ (h.fa 0))
theorem o_cell {k i l : Int} (h : IV n D) (hk : InR k) (hi : InR i) (hl : InR l) (K : ∀ v D1, Rf g mX7_cell [.ref 57, iI k, iI i, iI l] (n + 1) (lI v) D1 → P (some (lI v)) SH D1) : TM g mX6_cell 20 P [.ref 0, iI k, iI i, iI l] D := by
  have es := fun (z : 0 ≤ k ∧ k ≤ 3) => h.es k.toNat (by omega)
  refine c_cell (d := 18) h.sk hk hi hl (fun z => K _ _ (fun P' q => ?_)) (fun z z1 => K _ _ (fun P' q => ?_)) (fun z z1 z2 => K _ _ (fun P' q => ?_)) (fun z z1 z2 z3 => K _ _ (fun P' q => ?_)) (fun z z1 z2 z3 z4 => K _ _ (fun P' q => ?_))
  · exact r_cell (d := 18) (RK_0 h.rk) hk hi hl (fun _ => q _ (h.fa 0)) (fun y => absurd y z) (fun y => absurd y z) (fun y => absurd y z) (fun y => absurd y z)
  · have e := es ⟨z.1, z.2.1⟩
    have ng : ¬ 0 ≤ D 77 k.toNat := fun y => by have := e.1.mpr y; omega
    exact r_cell (d := 18) (RK_0 h.rk) hk hi hl (fun y => absurd z y) (fun _ _ => q _ (h.fa 1)) (fun _ y => absurd y ng) (fun _ y => absurd y ng) (fun _ y => absurd y ng)
  · have e := es ⟨z.1, z.2.1⟩
    have ps := e.1.mp z1
    have o := e.2 ps
    refine r_cell (d := 18) (RK_0 h.rk) hk hi hl (fun y => absurd z y) (fun _ (y : D 77 k.toNat < 0) => ?_) (fun _ _ _ => q _ (h.fa 2)) (fun _ _ (y : D 78 k.toNat = l) => ?_) (fun _ _ (y : D 78 k.toNat = l) => ?_) <;> (exfalso; omega)
  · have e := es ⟨z.1, z.2.1⟩
    have ps := e.1.mp z1
    have o := e.2 ps
    refine r_cell (d := 18) (RK_0 h.rk) hk hi hl (fun y => absurd z y) (fun _ (y : D 77 k.toNat < 0) => ?_) (fun _ _ (y : D 78 k.toNat ≠ l) => ?_) (fun _ _ _ _ => q _ (h.fa 3)) (fun _ _ _ y1 (y2 : i < D 77 k.toNat) => ?_) <;> (exfalso; omega)
  · have e := es ⟨z.1, z.2.1⟩
    have ps := e.1.mp z1
    have o := e.2 ps
    refine r_cell (d := 18) (RK_0 h.rk) hk hi hl (fun y => absurd z y) (fun _ (y : D 77 k.toNat < 0) => ?_) (fun _ _ (y : D 78 k.toNat ≠ l) => ?_) (fun _ _ _ (y : ¬ (0 ≤ i ∧ i < D 77 k.toNat)) => ?_) (fun _ _ _ _ _ => ?_)
    · exfalso; omega
    · exfalso; omega
    · exfalso; omega
    · have c := o.2.2 i.toNat (by omega)
      have i2 := q _ (h.fa 0)
      rw [c, ← show (80 * k + i).toNat = 80 * k.toNat + i.toNat by omega] at i2
      exact i2
/-- sheets, changed on both sides alike -/
theorem IV.sh {D2 : DD} (h : IV n D) (a : ∀ r, r ≠ 0 → (r < 49 ∨ 56 < r) → r ≠ 57 → r ≠ 77 → r ≠ 78 → r ≠ 79 → r ≠ 80 → D2 r = D r) (b : ∀ j, j ≠ 10 → D2 0 j = D 0 j) (c : ∀ j, j ≠ 0 → D2 57 j = D 57 j) (f : D2 57 0 = D2 0 10) (s : SK D2) (r : RK D2) (e : EqS D2) : IV (n + 1) D2 := by
  obtain ⟨c1, c2, c3⟩ := cch (D2 := D2) h (fun r hr => a r (by omega) (by omega) (by omega) (by omega) (by omega) (by omega) (by omega)) (fun j x y => b j (by omega))
  have al : ∀ r, (1 ≤ r ∧ r ≤ 48) ∨ (58 ≤ r ∧ r ≤ 76) → D2 r = D r := fun r hr => a r (by omega) (by omega) (by omega) (by omega) (by omega) (by omega) (by omega)
  refine ⟨LK_fr (fun r x y => al r (by omega)) h.lk, ?_, ?_, s, r, e, ?_, ?_, ?_, f, ?_, c1, c2, c3, ?_⟩
  · have w := h.mm
    unfold MK at w ⊢
    rw [c 1 (by decide), c 5 (by decide), c 11 (by decide), al 58 (by omega), al 59 (by omega), al 60 (by omega), al 61 (by omega), al 62 (by omega), al 63 (by omega), al 64 (by omega), al 65 (by omega)]
    exact w
  · have w := h.el
    unfold EqL at w ⊢
    rw [c 1 (by decide), c 5 (by decide), c 11 (by decide), al 1 (by omega), al 2 (by omega), al 3 (by omega), al 4 (by omega), al 5 (by omega), al 6 (by omega), al 7 (by omega), al 8 (by omega), al 9 (by omega), al 58 (by omega), al 59 (by omega), al 60 (by omega), al 61 (by omega), al 62 (by omega), al 63 (by omega), al 64 (by omega), al 65 (by omega)]
    exact w
  · have w := h.pk
    unfold PlK at w ⊢
    rw [b 9 (by decide), al 47 (by omega), al 48 (by omega)]
    exact w
  · have w := h.pm
    unfold PlM at w ⊢
    rw [c 23 (by decide), al 75 (by omega), al 76 (by omega)]
    exact w
  · have w := h.ep
    unfold EqP at w ⊢
    rw [c 23 (by decide), b 9 (by decide), al 47 (by omega), al 48 (by omega), al 75 (by omega), al 76 (by omega)]
    exact w
  · rw [c 30 (by decide), al 45 (by omega)]; exact h.tr
  · rw [al 1 (by omega)]; have := h.ch; omega
theorem inR_laned {la v : Int} (hv : InR v) : InR (laned la v) := by
  unfold laned i2b i2s
  have a : ∀ x : Int32, InR x.toInt := fun x => ⟨Int32.le_toInt x, Int32.toInt_lt x⟩
  split
  · exact a _
  · split
    · exact a _
    · exact hv
theorem o_lose {k : Int} (h : IV n D) (hk : InR k) (K : ∀ v D1, Rf g mX7_lose [.ref 57, iI k] (n + 1) (iI v) D1 → P (some (iI v)) SH D1) : TM g mX6_lose 20 P [.ref 0, iI k] D := by
  refine c_lose (d := 18) h.sk hk (fun z => K _ _ (fun P' q => ?_)) (fun h1 h2 z => K _ _ (fun P' q => ?_)) (fun h1 h2 z => K _ _ (fun P' q => ?_))
  · exact r_lose (d := 18) h.rk hk (fun _ => q D (h.q2 h.qs (fun _ _ => rfl))) (fun a b => absurd ⟨a, b⟩ z) (fun a b => absurd ⟨a, b⟩ z)
  · have e := h.es k.toNat (by omega)
    have ng : ¬ 0 ≤ D 77 k.toNat := fun y => by have := e.1.mpr y; omega
    have rb := (h.rk.1 k.toNat (by omega)).1
    refine r_lose (d := 18) h.rk hk (fun y => absurd ⟨h1, h2⟩ y) (fun _ _ _ => ?_) (fun _ _ y => absurd y ng)
    have same : st2 D 77 k.toNat (-1) = D := by
      funext a b'
      unfold st2
      by_cases y : a = 77 ∧ b' = k.toNat
      · rw [if_pos y, y.1, y.2]; omega
      · rw [if_neg y]
    rw [same]
    exact q D (h.q2 h.qs (fun _ _ => rfl))
  · have e := h.es k.toNat (by omega)
    have ps := e.1.mp z
    have rk1 : RK (st2 D (49 + 2 * k.toNat) 1 0) := by
      have w := h.rk
      unfold RK at w ⊢
      rw [st2_row (show (77 : Nat) ≠ 49 + 2 * k.toNat by omega), st2_row (show (78 : Nat) ≠ 49 + 2 * k.toNat by omega), st2_row (show (79 : Nat) ≠ 49 + 2 * k.toNat by omega)]
      exact w
    have e77 : st2 D (49 + 2 * k.toNat) 1 0 77 k.toNat = D 77 k.toNat := by rw [st2_row (by omega)]
    refine r_lose (d := 18) rk1 hk (fun y => absurd ⟨h1, h2⟩ y) (fun _ _ y => ?_) (fun _ _ _ => ?_)
    · rw [e77] at y; exfalso; omega
    · generalize hD2 : st2 (st2 D (49 + 2 * k.toNat) 1 0) 77 k.toNat (-1) = D2
      have r0 : ∀ r, r ≠ 77 → r ≠ 49 + 2 * k.toNat → D2 r = D r := fun r x y => by rw [← hD2, st2_row x, st2_row y]
      have ro : ∀ j, j ≠ 1 → D2 (49 + 2 * k.toNat) j = D (49 + 2 * k.toNat) j := fun j x => by rw [← hD2, st2_row (by omega), st2_ne x]
      have ro1 : D2 (49 + 2 * k.toNat) 1 = 0 := by rw [← hD2, st2_row (by omega), st2_at]
      have r77 : D2 77 = up1 (D 77) k.toNat (-1) := by rw [← hD2, st2_up, st2_row (by omega)]
      refine q D2 (h.sh (fun r a b c d' e' f i => r0 r d' (by omega)) (fun j _ => by rw [r0 0 (by decide) (by omega)]) (fun j _ => by rw [r0 57 (by decide) (by omega)]) (by rw [r0 57 (by decide) (by omega), r0 0 (by decide) (by omega)]; exact h.ft) (fun t ht => ?_) ?_ (fun t ht => ?_))
      · have w := h.sk t ht
        by_cases u : t = k.toNat
        · subst u
          rw [ro1, ro 2 (by decide), ro 3 (by decide), r0 (49 + 2 * k.toNat + 1) (by omega) (by omega)]
          exact ⟨Or.inl rfl, w.2⟩
        · rw [r0 (49 + 2 * t) (by omega) (by omega), r0 (49 + 2 * t + 1) (by omega) (by omega)]
          exact w
      · refine ⟨fun t ht => ?_, fun j => by rw [r0 79 (by decide) (by omega)]; exact h.rk.2 j⟩
        rw [r77, r0 78 (by decide) (by omega)]
        have w := h.rk.1 t ht
        by_cases u : t = k.toNat
        · subst u; rw [up1_at]; exact ⟨by omega, w.2⟩
        · rw [up1_ne u]; exact w
      · have w := h.es t ht
        rw [r77, r0 78 (by decide) (by omega), r0 79 (by decide) (by omega)]
        by_cases u : t = k.toNat
        · subst u
          rw [up1_at, ro1]
          exact ⟨⟨fun y => by omega, fun y => by omega⟩, fun y => by omega⟩
        · rw [up1_ne u, r0 (49 + 2 * t) (by omega) (by omega), r0 (49 + 2 * t + 1) (by omega) (by omega)]
          exact w
theorem o_put {k i v : Int} (h : IV n D) (hk : InR k) (hi : InR i) (hv : InR v) (K : ∀ v' D1, Rf g mX7_put [.ref 57, iI k, iI i, iI v] (n + 1) (iI v') D1 → P (some (iI v')) SH D1) : TM g mX6_put 20 P [.ref 0, iI k, iI i, iI v] D := by
  refine c_put (d := 18) h.sk hk hi (fun z => K _ _ (fun P' q => ?_)) (fun h1 h2 z => K _ _ (fun P' q => ?_)) (fun h1 h2 z z2 => K _ _ (fun P' q => ?_)) (fun h1 h2 z z2 z3 => K _ _ (fun P' q => ?_))
  · exact r_put (d := 18) (RK_0 h.rk) hk hi (fun _ => q _ (h.fa 0)) (fun a b => absurd ⟨a, b⟩ z) (fun a b => absurd ⟨a, b⟩ z) (fun a b => absurd ⟨a, b⟩ z)
  · have e := h.es k.toNat (by omega)
    have ng : ¬ 0 ≤ D 77 k.toNat := fun y => by have := e.1.mpr y; omega
    exact r_put (d := 18) (RK_0 h.rk) hk hi (fun y => absurd ⟨h1, h2⟩ y) (fun _ _ _ => q _ (h.fa 1)) (fun _ _ y => absurd y ng) (fun _ _ y => absurd y ng)
  · have e := h.es k.toNat (by omega)
    have ps := e.1.mp z
    have o := (e.2 ps).2.1
    refine r_put (d := 18) (RK_0 h.rk) hk hi (fun y => absurd ⟨h1, h2⟩ y) (fun _ _ (y : D 77 k.toNat < 0) => ?_) (fun _ _ _ _ => q _ (h.fa 3)) (fun _ _ _ y1 (y2 : i < D 77 k.toNat) => ?_) <;> (exfalso; omega)
  · have e := h.es k.toNat (by omega)
    have ps := e.1.mp z
    have o := e.2 ps
    have sb := h.sk k.toNat (by omega)
    generalize hD1 : st2 (st2 D 0 10 0) (49 + 2 * k.toNat + 1) i.toNat (laned (D (49 + 2 * k.toNat) 2) v) = D1
    have a0 : ∀ r, r ≠ 0 → r ≠ 49 + 2 * k.toNat + 1 → D1 r = D r := fun r x y => by rw [← hD1, st2_row y, st2_row x]
    have a10 : D1 0 10 = 0 := by rw [← hD1, st2_row (by omega), st2_at]
    have aj : ∀ j, j ≠ 10 → D1 0 j = D 0 j := fun j x => by rw [← hD1, st2_row (by omega), st2_ne x]
    have ab : D1 (49 + 2 * k.toNat + 1) = up1 (D (49 + 2 * k.toNat + 1)) i.toNat (laned (D (49 + 2 * k.toNat) 2) v) := by rw [← hD1, st2_up, st2_row (by omega)]
    have rk1 : RK D1 := by
      have w := h.rk
      unfold RK at w ⊢
      rw [a0 77 (by decide) (by omega), a0 78 (by decide) (by omega), a0 79 (by decide) (by omega)]
      exact w
    have e77 : D1 77 = D 77 := a0 77 (by decide) (by omega)
    have e78 : D1 78 = D 78 := a0 78 (by decide) (by omega)
    refine r_put (d := 18) rk1 hk hi (fun y => absurd ⟨h1, h2⟩ y) (fun _ _ y => ?_) (fun _ _ _ y => ?_) (fun _ _ _ _ _ => ?_)
    · rw [e77] at y; exfalso; omega
    · rw [e77] at y; exfalso; omega
    · rw [e78, ← o.1, show (80 * k + i).toNat = 80 * k.toNat + i.toNat by omega]
      generalize hD2 : st2 (st2 D1 79 (80 * k.toNat + i.toNat) (laned (D (49 + 2 * k.toNat) 2) v)) 57 0 0 = D2
      have b0 : ∀ r, r ≠ 57 → r ≠ 79 → D2 r = D1 r := fun r x y => by rw [← hD2, st2_row x, st2_row y]
      have bj : ∀ j, j ≠ 0 → D2 57 j = D 57 j := fun j x => by rw [← hD2, st2_ne x, st2_row (by decide), a0 57 (by decide) (by omega)]
      have bz : D2 57 0 = 0 := by rw [← hD2, st2_at]
      have b79 : D2 79 = up1 (D 79) (80 * k.toNat + i.toNat) (laned (D (49 + 2 * k.toNat) 2) v) := by rw [← hD2, st2_row (by decide), st2_up, a0 79 (by decide) (by omega)]
      have z0 : D2 0 = D1 0 := b0 0 (by decide) (by decide)
      refine q D2 (h.sh (fun r a b c d' e' f i' => (b0 r c f).trans (a0 r a (by omega))) (fun j x => by rw [z0]; exact aj j x) bj (by rw [bz, z0, a10]) (fun t ht => ?_) ?_ (fun t ht => ?_))
      · have w := h.sk t ht
        rw [b0 (49 + 2 * t) (by omega) (by omega), b0 (49 + 2 * t + 1) (by omega) (by omega), a0 (49 + 2 * t) (by omega) (by omega)]
        by_cases u : t = k.toNat
        · subst u
          rw [ab]
          refine ⟨w.1, w.2.1, w.2.2.1, fun j => ?_⟩
          by_cases y : j = i.toNat
          · subst y; rw [up1_at]; exact inR_laned hv
          · rw [up1_ne y]; exact w.2.2.2 j
        · rw [a0 (49 + 2 * t + 1) (by omega) (by omega)]; exact w
      · refine ⟨fun t ht => by rw [b0 77 (by decide) (by decide), b0 78 (by decide) (by decide), e77, e78]; exact h.rk.1 t ht, fun j => ?_⟩
        rw [b79]
        by_cases y : j = 80 * k.toNat + i.toNat
        · subst y; rw [up1_at]; exact inR_laned hv
        · rw [up1_ne y]; exact h.rk.2 j
      · have w := h.es t ht
        have rb := (h.rk.1 t ht).1
        have rbk := (h.rk.1 k.toNat (by omega)).1
        rw [b0 77 (by decide) (by decide), b0 78 (by decide) (by decide), e77, e78, b79, b0 (49 + 2 * t) (by omega) (by omega), b0 (49 + 2 * t + 1) (by omega) (by omega), a0 (49 + 2 * t) (by omega) (by omega)]
        refine ⟨w.1, fun y => ⟨(w.2 y).1, (w.2 y).2.1, fun j hj => ?_⟩⟩
        have w3 := (w.2 y).2.2 j hj
        by_cases u : t = k.toNat
        · subst u
          rw [ab]
          by_cases y2 : j = i.toNat
          · subst y2; rw [up1_at, up1_at]
          · rw [up1_ne y2, up1_ne (by omega)]; exact w3
        · rw [a0 (49 + 2 * t + 1) (by omega) (by omega), up1_ne (by omega)]; exact w3
end

