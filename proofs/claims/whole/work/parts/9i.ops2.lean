section
variable {g : G0} {P : Option Value → List SC → DD → Prop} {D : DD} {n : Nat}
theorem o_border {p q w : Int} (h : IV n D) (hp : InR p) (hq : InR q) (hw : InR w) (K : ∀ v D1, Rf g mX7_border [.ref 57, iI p, iI q, iI w] (n + 1) (lI v) D1 → P (some (lI v)) SH D1) : TM g mX6_border 20 P [.ref 0, iI p, iI q, iI w] D := by
  have okk : okDM D p q w ↔ okD D p q w := by
    have e := h.el
    have e1 := e.1.2.1
    constructor
    · rintro ⟨⟨a1, a2⟩, ⟨b1, b2⟩, c, d', k1, k2, k3⟩
      have x := e.2.2.1 p.toNat (by omega)
      have y := e.2.2.1 q.toNat (by omega)
      exact ⟨⟨a1, by omega⟩, ⟨b1, by omega⟩, c, d', by omega, by omega, by omega⟩
    · rintro ⟨⟨a1, a2⟩, ⟨b1, b2⟩, c, d', k1, k2, k3⟩
      have x := e.2.2.1 p.toNat (by omega)
      have y := e.2.2.1 q.toNat (by omega)
      exact ⟨⟨a1, by omega⟩, ⟨b1, by omega⟩, c, d', by omega, by omega, by omega⟩
  have ok1 : ∀ D1 : DD, QS D D1 → (okDM D1 p q w ↔ okD D p q w) := fun D1 u => by
    have : okDM D1 p q w = okDM D p q w := by unfold okDM; rw [u.e57, u.1 61 (by omega), u.1 62 (by omega), u.1 63 (by omega)]
    rw [this]; exact okk
  refine c_border (d := 15) h.lk h.cn hp hq hw (fun z => K _ D (fun P' k => ?_)) (fun z m D1 kp e hN => K _ D1 (fun P' k => ?_)) (fun z m D1 kp e hN => K _ D1 (fun P' k => ?_))
  · exact r_border (d := 14) h.mm hp hq hw (fun _ => k D (h.q2 h.qs (fun _ _ => rfl))) (fun y => absurd (okk.mp y) z) (fun y => absurd (okk.mp y) z)
  · have u := h.kpn kp e hN
    exact r_border (d := 14) (u.mm h) hp hq hw (fun y => absurd ((ok1 D1 u).mpr z) y) (fun _ _ D2 f => k D2 (h.q2 u f)) (fun _ y => absurd ((u.ml h).trans m) y)
  · have u := h.kpn kp e hN
    refine r_border (d := 14) (u.mm h) hp hq hw (fun y => absurd ((ok1 D1 u).mpr z) y) (fun _ y => absurd ((u.ml h).symm.trans y) m) (fun _ _ D2 f => ?_)
    have hM := h.lk.2.1
    have x := h.el.2.2.1 p.toNat (by have := z.1; omega)
    have y := h.el.2.2.1 q.toNat (by have := z.2.1; omega)
    have eb : bdM D1 p.toNat q.toNat w = bdC D p.toNat q.toNat w := by
      have mp1 := u.mp h (c := p.toNat) (by have := z.1; omega)
      have mp2 := u.mp h (c := q.toNat) (by have := z.2.1; omega)
      unfold bdM bdC sdM sdC
      rw [u.ml h, mp1, mp2, u.1 62 (by omega), u.1 63 (by omega), x.2.1, x.2.2.1, y.2.1, y.2.2.1]
    rw [eb]
    exact k D2 (h.q2 u f)
theorem o_who {x y : Int} (h : IV n D) (hx : InR x) (hy : InR y) (K : ∀ v D1, Rf g mX7_who [.ref 57, iI x, iI y] (n + 1) (iI v) D1 → P (some (iI v)) SH D1) : TM g mX6_who 20 P [.ref 0, iI x, iI y] D := by
  refine c_who (d := 15) h.lk h.cn hx hy (fun z => K _ D (fun P' k => ?_)) (fun z m D1 kp e hN => K _ D1 (fun P' k => ?_)) (fun z m D1 r kp e hN hA => K _ D1 (fun P' k => ?_))
  · exact r_who (d := 14) h.mm hx hy (fun _ => k D (h.q2 h.qs (fun _ _ => rfl))) (fun y => absurd y z) (fun y => absurd y z)
  · have u := h.kpn kp e hN
    exact r_who (d := 14) (u.mm h) hx hy (fun y => absurd z y) (fun _ _ D2 f => k D2 (h.q2 u f)) (fun _ y => absurd ((u.ml h).trans m) y)
  · have u := h.kpn kp e hN
    refine r_who (d := 14) (u.mm h) hx hy (fun y => absurd z y) (fun _ y => absurd ((u.ml h).symm.trans y) m) (fun _ _ D2 r2 f hA2 => ?_)
    have C : (D1 57 5).toNat = (D 1 9).toNat := by rw [u.e57, h.el.1.2.1]
    rw [C] at hA2
    have hA3 := hA2.cong (ok' := fun _ => True) (f' := fun c => farX D x y c + (mlC D - mpC D c)) (fun c hc => ⟨Iff.rfl, fun _ => by
      have z := h.el.2.2.1 c hc
      show farXM D1 x y c + (mlM D1 - mpM D1 c) = farX D x y c + (mlC D - mpC D c)
      rw [u.ml h, u.mp h hc]
      unfold farXM farX
      rw [u.e57, u.1 61 (by omega), u.1 62 (by omega), u.1 63 (by omega), z.1, z.2.1, z.2.2.1, h.el.1.2.2]⟩)
    rw [hA3.uniq hA]
    exact k D2 (h.q2 u f)
theorem o_open {s : Int} (h : IV n D) (hs : InR s) (K : ∀ v D1, Rf g mX7_open [.ref 57, iI s] (n + 1) (iI v) D1 → P (some (iI v)) SH D1) : TM g mX6_open 20 P [.ref 0, iI s] D := by
  have e1 := h.el.1.2.1
  refine c_open (d := 15) h.lk hs (fun z => K _ D (fun P' k => ?_)) (fun a b D1 f => K _ D1 (fun P' k => ?_))
  · rw [← e1] at z
    exact r_open (d := 15) h.mm hs (fun _ => k D (h.q2 h.qs (fun _ _ => rfl))) (fun a b => absurd ⟨a, b⟩ z)
  · have u := h.f27 f
    rw [← e1] at b
    refine r_open (d := 15) (u.mm h) hs (fun y => absurd ⟨a, by rw [u.e57]; exact b⟩ y) (fun _ _ D2 f2 => ?_)
    rw [moM_of u.l, br_mo h]
    exact k D2 (h.q2 u f2)
theorem o_best {s : Int} (h : IV n D) (hs : InR s) (K : ∀ v D1, Rf g mX7_best [.ref 57, iI s] (n + 1) (iI v) D1 → P (some (iI v)) SH D1) : TM g mX6_best 20 P [.ref 0, iI s] D := by
  have e1 := h.el.1.2.1
  refine c_best (d := 15) h.lk hs (fun z => K _ D (fun P' k => ?_)) (fun a b D1 r f hA => K _ D1 (fun P' k => ?_))
  · rw [← e1] at z
    exact r_best (d := 15) h.mm hs (fun _ => k D (h.q2 h.qs (fun _ _ => rfl))) (fun a b => absurd ⟨a, b⟩ z)
  · have u := h.f27 f
    refine r_best (d := 15) (u.mm h) hs (fun y => absurd ⟨a, by rw [u.e57, e1]; exact b⟩ y) (fun _ _ D2 r2 f2 hA2 => ?_)
    rw [u.e57, e1] at hA2
    have hA3 := hA2.cong (ok' := okB D s) (f' := fun s => moC D s) (fun c _ => by
      unfold okBM okB
      rw [moM_of u.l, br_mo h]
      exact ⟨Iff.rfl, fun _ => rfl⟩)
    rw [hA3.uniq hA]
    exact k D2 (h.q2 u f2)
theorem o_trace (h : IV n D) (K : ∀ v D1, Rf g mX7_trace [.ref 57] (n + 1) (iI v) D1 → P (some (iI v)) SH D1) : TM g mX6_trace 20 P [.ref 0] D := by
  refine c_trace (d := 20) (K _ D (fun P' k => ?_))
  refine r_trace (d := 20) ?_
  rw [h.tr]
  exact k D (h.q2 h.qs (fun _ _ => rfl))
theorem o_fault (h : IV n D) (K : ∀ v D1, Rf g mX7_fault [.ref 57] (n + 1) (iI v) D1 → P (some (iI v)) SH D1) : TM g mX6_fault 20 P [.ref 0] D := by
  refine c_fault (d := 20) (K _ D (fun P' k => ?_))
  refine r_fault (d := 20) ?_
  rw [h.ft]
  exact k D (h.q2 h.qs (fun _ _ => rfl))
theorem o_many {w : Int} (h : IV n D) (hw : InR w) (K : ∀ v D1, Rf g mX7_many [.ref 57, iI w] (n + 1) (iI v) D1 → P (some (iI v)) SH D1) : TM g mX6_many 20 P [.ref 0, iI w] D := by
  have e := h.el
  have fin : IV (n + 1) D := h.q2 h.qs (fun _ _ => rfl)
  have s1 : sm (D 57 1).toNat (D 60) = sm (D 1 8).toNat (D 4) := by rw [e.1.1]; exact sm_cong _ (fun j hj => (e.2.1 j hj).2.2.1)
  have s2 : sm (D 57 5).toNat (D 64) = sm (D 1 9).toNat (D 9) := by rw [e.1.2.1]; exact sm_cong _ (fun j hj => (e.2.2.1 j hj).2.2.2)
  refine c_many (d := 19) h.lk hw (fun z => K _ D (fun P' k => ?_)) (fun z => K _ D (fun P' k => ?_)) (fun z => K _ D (fun P' k => ?_)) (fun z => K _ D (fun P' k => ?_)) (fun z => K _ D (fun P' k => ?_)) (fun z => K _ D (fun P' k => ?_))
  all_goals
    have kk := k D fin
    refine r_many (d := 20) h.mm hw (fun a => ?_) (fun a => ?_) (fun a => ?_) (fun a => ?_) (fun a => ?_) (fun a => ?_) <;> first
      | (exfalso; omega)
      | exact kk
      | (rw [e.1.1]; exact kk)
      | (rw [e.1.2.1]; exact kk)
      | (rw [h.ep.1]; exact kk)
      | (rw [s1]; exact kk)
      | (rw [s2]; exact kk)
/-- the caches speak of what has not changed -/
theorem cch {D D2 : DD} {n : Nat} (h : IV n D) (a : ∀ r, (1 ≤ r ∧ r ≤ 9) ∨ (16 ≤ r ∧ r ≤ 44) → D2 r = D r) (b : ∀ j, 11 ≤ j → j ≤ 16 → D2 0 j = D 0 j) : CacheN D2 ∧ CacheE D2 ∧ CacheF D2 :=
  ⟨h.cn.of (fun r hr => a r (by omega)) (b 11 (by decide) (by decide)) (b 14 (by decide) (by decide)), h.ce.of (fun r _ _ => a r (by omega)) (b 12 (by decide) (by decide)) (b 15 (by decide) (by decide)) (b 16 (by decide) (by decide)), h.cf.of (fun r _ _ => a r (by omega)) (b 13 (by decide) (by decide)) (by rw [a 38 (by omega)]) (a 44 (by omega))⟩
/-- a fault is kept on both sides -/
theorem IV.fa {D : DD} {n : Nat} (h : IV n D) (v : Int) : IV (n + 1) (st2 (st2 D 0 10 v) 57 0 v) := by
  have a : ∀ r, r ≠ 0 → r ≠ 57 → st2 (st2 D 0 10 v) 57 0 v r = D r := fun r x y => by rw [st2_row y, st2_row x]
  have b : ∀ j, j ≠ 10 → st2 (st2 D 0 10 v) 57 0 v 0 j = D 0 j := fun j x => by rw [st2_row (by decide), st2_ne x]
  obtain ⟨c1, c2, c3⟩ := cch (D2 := st2 (st2 D 0 10 v) 57 0 v) h (fun r hr => a r (by omega) (by omega)) (fun j x y => b j (by omega))
  refine h.quiet (fun r hr => a r (by omega) (by omega)) (b 9 (by decide)) (fun j x _ _ _ => by rw [st2_ne x, st2_row (by decide)]) (by rw [st2_at, st2_row (by decide), st2_at]) ?_ c1 c2 c3
  rw [st2_ne (by decide), st2_row (by decide), a 45 (by decide) (by decide)]
  exact h.tr
theorem MK_0 {D : DD} {v : Int} (h : MK D) : MK (st2 D 0 10 v) := h
theorem o_as {c k0 : Int} (h : IV n D) (hc : InR c) (hk : InR k0) (K : ∀ v D1, Rf g mX7_as [.ref 57, iI c, iI k0] (n + 1) (iI v) D1 → P (some (iI v)) SH D1) : TM g mX6_as 20 P [.ref 0, iI c, iI k0] D := by
  have e1 := h.el.1.2.1
  have r := fun (z : 0 ≤ c ∧ c < D 1 9) => (h.el.2.2.1 c.toNat (by omega)).1
  refine c_as (d := 19) h.lk hc hk (fun z => K _ _ (fun P' k => ?_)) (fun z1 z2 z3 => K _ _ (fun P' k => ?_)) (fun z1 z2 z3 z4 => K _ _ (fun P' k => ?_)) (fun z1 z2 z3 z4 => K _ _ (fun P' k => ?_))
  · have i := k _ (h.fa 0)
    refine r_as (d := 18) (MK_0 h.mm) hc hk (fun _ => i) (fun (a : 0 ≤ c) (b : c < D 57 5) _ => ?_) (fun (a : 0 ≤ c) (b : c < D 57 5) _ _ => ?_) (fun (a : 0 ≤ c) (b : c < D 57 5) _ _ => ?_) <;> (exfalso; omega)
  · have i := k _ (h.fa 0)
    refine r_as (d := 18) (MK_0 h.mm) hc hk (fun (y : ¬ (0 ≤ c ∧ c < D 57 5)) => ?_) (fun _ _ _ => i) (fun a b y => absurd y z3) (fun a b y => absurd y z3)
    exfalso; omega
  · have i := k _ (h.fa 2)
    have rr := r ⟨z1, z2⟩
    refine r_as (d := 18) (MK_0 h.mm) hc hk (fun (y : ¬ (0 ≤ c ∧ c < D 57 5)) => ?_) (fun a b y => absurd z3 y) (fun _ _ _ _ => i) (fun a b y (u : k0 ≤ D 61 c.toNat) => ?_) <;> (exfalso; omega)
  · have i := k _ (h.fa 0)
    have rr := r ⟨z1, z2⟩
    refine r_as (d := 18) (MK_0 h.mm) hc hk (fun (y : ¬ (0 ≤ c ∧ c < D 57 5)) => ?_) (fun a b y => absurd z3 y) (fun _ _ _ (u : D 61 c.toNat < k0) => ?_) (fun _ _ _ _ => i) <;> (exfalso; omega)
/-- what is told is kept on both sides -/
theorem IV.tl {D : DD} {n : Nat} (h : IV n D) {v w : Int} (e : v = w) : IV (n + 1) (st2 (st2 D 45 0 v) 57 30 w) := by
  have a : ∀ r, r ≠ 45 → r ≠ 57 → st2 (st2 D 45 0 v) 57 30 w r = D r := fun r x y => by rw [st2_row y, st2_row x]
  obtain ⟨c1, c2, c3⟩ := cch (D2 := st2 (st2 D 45 0 v) 57 30 w) h (fun r hr => a r (by omega) (by omega)) (fun j x y => by rw [a 0 (by decide) (by decide)])
  refine h.quiet (fun r hr => a r (by omega) (by omega)) (by rw [a 0 (by decide) (by decide)]) (fun j _ _ _ x => by rw [st2_ne x, st2_row (by decide)]) ?_ (by rw [st2_at, st2_row (by decide), st2_at, e]) c1 c2 c3
  rw [st2_ne (by decide), st2_row (by decide), a 0 (by decide) (by decide)]
  exact h.ft
theorem o_tell {c : Int} (h : IV n D) (hc : InR c) (K : ∀ v D1, Rf g mX7_tell [.ref 57, iI c] (n + 1) (iI v) D1 → P (some (iI v)) SH D1) : TM g mX6_tell 20 P [.ref 0, iI c] D := by
  have e1 := h.el.1.2.1
  have r := fun (z : 0 ≤ c ∧ c < D 1 9) => h.el.2.2.1 c.toNat (by omega)
  have mk : ∀ v, MK (st2 D 45 0 v) := fun v => h.mm
  have kb := h.lk.2.2.2.2.2.2.2.2.1 c.toNat
  refine c_tell (d := 15) h.lk hc (fun z => K _ _ (fun P' k => ?_)) (fun z1 z2 z3 => K _ _ (fun P' k => ?_)) (fun z1 z2 z3 => K _ _ (fun P' k => ?_)) (fun z1 z2 z3 => K _ _ (fun P' k => ?_))
  · refine r_tell (d := 18) h.mm hc (fun _ => k D (h.q2 h.qs (fun _ _ => rfl))) (fun a b => ?_) (fun a b => ?_) (fun a b => ?_) <;> (exfalso; omega)
  · have rr := r ⟨z1, z2⟩
    refine r_tell (d := 18) (mk _) hc (fun (y : ¬ (0 ≤ c ∧ c < D 57 5)) => ?_) (fun _ _ _ => ?_) (fun _ _ (u : D 61 c.toNat = 1) => ?_) (fun _ _ (u : D 61 c.toNat = 2) => ?_)
    · exfalso; omega
    · have i := k _ (h.tl (show lv1 (D 45 0) 1 = lv1 (D 57 30) 1 by rw [h.tr]))
      rw [← rr.2.2.2] at i; exact i
    · exfalso; omega
    · exfalso; omega
  · have rr := r ⟨z1, z2⟩
    refine r_tell (d := 18) (mk _) hc (fun (y : ¬ (0 ≤ c ∧ c < D 57 5)) => ?_) (fun _ _ (u : D 61 c.toNat = 0) => ?_) (fun _ _ _ => ?_) (fun _ _ (u : D 61 c.toNat = 2) => ?_)
    · exfalso; omega
    · exfalso; omega
    · have i := k _ (h.tl (show lv1 (lv1 (D 45 0) 2) 1 = lv1 (lv1 (D 57 30) 2) 1 by rw [h.tr]))
      rw [← rr.2.2.2] at i; exact i
    · exfalso; omega
  · have rr := r ⟨z1, z2⟩
    refine r_tell (d := 18) (mk _) hc (fun (y : ¬ (0 ≤ c ∧ c < D 57 5)) => ?_) (fun _ _ (u : D 61 c.toNat = 0) => ?_) (fun _ _ (u : D 61 c.toNat = 1) => ?_) (fun _ _ _ => ?_)
    · exfalso; omega
    · exfalso; omega
    · exfalso; omega
    · have i := k _ (h.tl (show lv1 (lv1 (lv1 (lv1 (D 45 0) 3) 2) 1) 1 = lv1 (lv1 (lv1 (lv1 (D 57 30) 3) 2) 1) 1 by rw [h.tr]))
      rw [show D 9 c.toNat + 100 + D 9 c.toNat = 2 * D 64 c.toNat + 100 by omega] at i
      exact i
theorem o_ring {c : Int} (h : IV n D) (hc : InR c) (K : ∀ v D1, Rf g mX7_ring [.ref 57, iI c] (n + 1) (iI v) D1 → P (some (iI v)) SH D1) : TM g mX6_ring 20 P [.ref 0, iI c] D := by
  have e1 := h.el.1.2.1
  have r := fun (z : 0 ≤ c ∧ c < D 1 9) => h.el.2.2.1 c.toNat (by omega)
  have mk : ∀ v, MK (st2 D 45 0 v) := fun v => h.mm
  refine c_ring (d := 18) h.lk hc (fun z => K _ _ (fun P' k => ?_)) (fun z1 z2 z3 => K _ _ (fun P' k => ?_)) (fun z1 z2 z3 => K _ _ (fun P' k => ?_))
  · refine r_ring (d := 18) h.mm hc (fun _ => k D (h.q2 h.qs (fun _ _ => rfl))) (fun a b => ?_) (fun a b => ?_) <;> (exfalso; omega)
  · have rr := r ⟨z1, z2⟩
    refine r_ring (d := 18) (mk _) hc (fun (y : ¬ (0 ≤ c ∧ c < D 57 5)) => ?_) (fun _ _ _ => ?_) (fun _ _ (u : D 61 c.toNat ≠ 2) => ?_)
    · exfalso; omega
    · exact k _ (h.tl (show lv1 (D 45 0) 5 = lv1 (D 57 30) 5 by rw [h.tr]))
    · exfalso; omega
  · have rr := r ⟨z1, z2⟩
    refine r_ring (d := 18) (mk _) hc (fun (y : ¬ (0 ≤ c ∧ c < D 57 5)) => ?_) (fun _ _ (u : D 61 c.toNat = 2) => ?_) (fun _ _ _ => ?_)
    · exfalso; omega
    · exfalso; omega
    · exact k _ (h.tl (show lv1 (D 45 0) 4 = lv1 (D 57 30) 4 by rw [h.tr]))
end

