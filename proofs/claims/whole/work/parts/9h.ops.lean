/-- the reference's call from here answers the same, and all is well behind it -/
def Rf (g : G0) (m : MI) (vs : List Value) (n : Nat) (v : Value) (D1 : DD) : Prop := ∀ P' : Option Value → List SC → DD → Prop, (∀ D2, IV n D2 → P' (some v) SH D2) → TM g m 20 P' vs D1
/-- only senders, families and what is kept of them have changed -/
def QS (D D1 : DD) : Prop := (∀ r, (1 ≤ r ∧ r ≤ 9) ∨ 45 ≤ r → D1 r = D r) ∧ D1 0 9 = D 0 9 ∧ D1 0 10 = D 0 10 ∧ CacheN D1 ∧ CacheE D1 ∧ CacheF D1
section
variable {D D1 D2 : DD} {n : Nat}
theorem IV.qs (h : IV n D) : QS D D := ⟨fun _ _ => rfl, rfl, rfl, h.cn, h.ce, h.cf⟩
theorem IV.kpn (h : IV n D) (kp : KpN D D1) (e : D1 0 11 = D 1 11) (hN : NowOK D1) : QS D D1 := by
  have c := h.lk.2.2.2.1
  have a1 : D1 1 = D 1 := kp.1 1 (by decide) (by omega)
  refine ⟨fun r hr => kp.1 r (by omega) (by omega), kp.2 9 (by decide) (by decide), kp.2 10 (by decide) (by decide), ⟨by omega, by rw [a1]; omega, fun _ => hN⟩, h.ce.of (fun r r1 r2 => kp.1 r (by omega) (by omega)) (kp.2 12 (by decide) (by decide)) (kp.2 15 (by decide) (by decide)) (kp.2 16 (by decide) (by decide)), h.cf.of (fun r r1 r2 => kp.1 r (by omega) (by omega)) (kp.2 13 (by decide) (by decide)) (by rw [kp.1 38 (by decide) (by omega)]) (kp.1 44 (by decide) (by omega))⟩
theorem IV.kpt (h : IV n D) (kp : KpT D D1) (e : D1 0 11 = D 1 11) (hN : NowOK D1) : QS D D1 := by
  have c := h.lk.2.2.2.1
  have a1 : D1 1 = D 1 := kp.1 1 (by decide) (by omega)
  refine ⟨fun r hr => kp.1 r (by omega) (by omega), kp.2 9 (by decide) (by decide), kp.2 10 (by decide) (by decide), ⟨by omega, by rw [a1]; omega, fun _ => hN⟩, h.ce.of (fun r r1 r2 => kp.1 r (by omega) (by omega)) (kp.2 12 (by decide) (by decide)) (kp.2 15 (by decide) (by decide)) (kp.2 16 (by decide) (by decide)), h.cf.of (fun r r1 r2 => kp.1 r (by omega) (by omega)) (kp.2 13 (by decide) (by decide)) (by rw [kp.1 38 (by decide) (by omega)]) (kp.1 44 (by decide) (by omega))⟩
theorem IV.f27 (h : IV n D) (f : Fr 27 D D1) : QS D D1 := by
  refine ⟨fun r hr => f r (by omega), by rw [f 0 (by omega)], by rw [f 0 (by omega)], h.cn.of (fun r hr => f r (by omega)) (by rw [f 0 (by omega)]) (by rw [f 0 (by omega)]), h.ce.of (fun r r1 r2 => f r (by omega)) (by rw [f 0 (by omega)]) (by rw [f 0 (by omega)]) (by rw [f 0 (by omega)]), h.cf.of (fun r r1 r2 => f r (by omega)) (by rw [f 0 (by omega)]) (by rw [f 38 (by omega)]) (f 44 (by omega))⟩
theorem IV.kpe (h : IV n D) (kp : KpE D D1) (c1 : CacheN D1) (c2 : CacheE D1) : QS D D1 := by
  refine ⟨fun r hr => kp.1 r (by omega) (by omega), kp.2 9 (by decide) (by decide) (by decide) (by decide) (by decide), kp.2 10 (by decide) (by decide) (by decide) (by decide) (by decide), c1, c2, h.cf.of (fun r r1 r2 => kp.1 r (by omega) (by omega)) (kp.2 13 (by decide) (by decide) (by decide) (by decide) (by decide)) (by rw [kp.1 38 (by decide) (by omega)]) (kp.1 44 (by decide) (by omega))⟩
theorem IV.kpf (h : IV n D) (kp : KpF D D1) (c3 : CacheF D1) : QS D D1 := by
  refine ⟨fun r hr => kp.1 r (by omega) (by omega), kp.2 9 (by decide), kp.2 10 (by decide), h.cn.of (fun r hr => kp.1 r (by omega) (by omega)) (kp.2 11 (by decide)) (kp.2 14 (by decide)), h.ce.of (fun r r1 r2 => kp.1 r (by omega) (by omega)) (kp.2 12 (by decide)) (kp.2 15 (by decide)) (kp.2 16 (by decide)), c3⟩
theorem IV.q2 (h : IV n D) (q : QS D D1) (b : ∀ r, (r < 68 ∨ 74 < r) → D2 r = D1 r) : IV (n + 1) D2 := by
  obtain ⟨a1, a9, a10, c1, c2, c3⟩ := q
  have b0 : D2 0 = D1 0 := b 0 (by omega)
  refine h.quiet (fun r hr => (b r (by omega)).trans (a1 r (by omega))) (by rw [b0]; exact a9) (fun j _ _ _ _ => by rw [b 57 (by omega), a1 57 (by omega)]) ?_ ?_ (c1.of (fun r hr => b r (by omega)) (by rw [b0]) (by rw [b0])) (c2.of (fun r _ _ => b r (by omega)) (by rw [b0]) (by rw [b0]) (by rw [b0])) (c3.of (fun r _ _ => b r (by omega)) (by rw [b0]) (by rw [b 38 (by omega)]) (b 44 (by omega)))
  · rw [b 57 (by omega), a1 57 (by omega), b0, a10]; exact h.ft
  · rw [b 57 (by omega), a1 57 (by omega), b 45 (by omega), a1 45 (by omega)]; exact h.tr
theorem QS.l (q : QS D D1) : ∀ a, 57 ≤ a → a ≤ 65 → D1 a = D a := fun a h1 _ => q.1 a (by omega)
theorem QS.mm (q : QS D D1) (h : IV n D) : MK D1 := MK_fr q.l h.mm
theorem QS.ml (q : QS D D1) (h : IV n D) : mlM D1 = mlC D := (mlM_of q.l).1.trans (br_ml h)
theorem QS.mp (q : QS D D1) (h : IV n D) {c : Nat} (hc : c < (D 1 9).toNat) : mpM D1 c = mpC D c := by rw [(mlM_of q.l).2.1]; exact br_mp h hc
theorem QS.e57 (q : QS D D1) : D1 57 = D 57 := q.1 57 (by omega)
end
section
variable {g : G0} {P : Option Value → List SC → DD → Prop} {D : DD} {n : Nat}
theorem o_ofHome {x y : Int} (h : IV n D) (hx : InR x) (hy : InR y) (K : ∀ v D1, Rf g mX7_ofHome [.ref 57, iI x, iI y] (n + 1) (iI v) D1 → P (some (iI v)) SH D1) : TM g mX6_ofHome 20 P [.ref 0, iI x, iI y] D := by
  have e := h.el
  have e1 := e.1.1
  have r := fun (z : 0 ≤ x ∧ x < D 1 8) => e.2.1 x.toNat (by omega)
  have fin := fun D2 (z : D2 = D) => (z ▸ h.q2 h.qs (fun _ _ => rfl) : IV (n + 1) D2)
  refine c_ofHome (d := 19) h.lk hx hy (fun z => K _ D (fun P' k => ?_)) (fun a b c => K _ D (fun P' k => ?_)) (fun a b c => K _ D (fun P' k => ?_)) (fun a b c => K _ D (fun P' k => ?_)) (fun a b c => K _ D (fun P' k => ?_))
  all_goals
    have kk := k D (fin D rfl)
    refine r_ofHome (d := 18) h.mm hx hy (fun _ => ?_) (fun a b c => ?_) (fun a b c => ?_) (fun a b c => ?_) (fun a b c => ?_) <;> first
      | exact kk
      | (exfalso; omega)
      | (rw [(r ⟨by omega, by omega⟩).1]; exact kk)
      | (rw [(r ⟨by omega, by omega⟩).2.1]; exact kk)
      | (rw [(r ⟨by omega, by omega⟩).2.2.1]; exact kk)
theorem o_ofChurch {x y : Int} (h : IV n D) (hx : InR x) (hy : InR y) (K : ∀ v D1, Rf g mX7_ofChurch [.ref 57, iI x, iI y] (n + 1) (iI v) D1 → P (some (iI v)) SH D1) : TM g mX6_ofChurch 20 P [.ref 0, iI x, iI y] D := by
  have e := h.el
  have e1 := e.1.2.1
  have r := fun (z : 0 ≤ x ∧ x < D 1 9) => e.2.2.1 x.toNat (by omega)
  have fin : IV (n + 1) D := h.q2 h.qs (fun _ _ => rfl)
  refine c_ofChurch (d := 19) h.lk hx hy (fun z => K _ D (fun P' k => ?_)) (fun a b c => K _ D (fun P' k => ?_)) (fun a b c => K _ D (fun P' k => ?_)) (fun a b c => K _ D (fun P' k => ?_)) (fun a b c => K _ D (fun P' k => ?_)) (fun a b c => K _ D (fun P' k => ?_))
  all_goals
    have kk := k D fin
    refine r_ofChurch (d := 18) h.mm hx hy (fun _ => ?_) (fun a b c => ?_) (fun a b c => ?_) (fun a b c => ?_) (fun a b c => ?_) (fun a b c => ?_) <;> first
      | exact kk
      | (exfalso; omega)
      | (rw [(r ⟨by omega, by omega⟩).1]; exact kk)
      | (rw [(r ⟨by omega, by omega⟩).2.1]; exact kk)
      | (rw [(r ⟨by omega, by omega⟩).2.2.1]; exact kk)
      | (rw [(r ⟨by omega, by omega⟩).2.2.2]; exact kk)
theorem o_far {x y c : Int} (h : IV n D) (hx : InR x) (hy : InR y) (hc : InR c) (K : ∀ v D1, Rf g mX7_far [.ref 57, iI x, iI y, iI c] (n + 1) (iI v) D1 → P (some (iI v)) SH D1) : TM g mX6_far 20 P [.ref 0, iI x, iI y, iI c] D := by
  have e := h.el
  have e1 := e.1.2.1
  have r := fun (z : 0 ≤ c ∧ c < D 1 9) => e.2.2.1 c.toNat (by omega)
  have fin : IV (n + 1) D := h.q2 h.qs (fun _ _ => rfl)
  refine c_far (d := 18) h.lk hx hy hc (fun z => K _ D (fun P' k => ?_)) (fun a b c => K _ D (fun P' k => ?_)) (fun a b c => K _ D (fun P' k => ?_))
  all_goals
    have kk := k D fin
    refine r_far (d := 18) h.mm hx hy hc (fun _ => ?_) (fun a b c => ?_) (fun a b c => ?_) <;> first
      | exact kk
      | (exfalso; omega)
      | (have z := r ⟨by omega, by omega⟩; rw [z.1, z.2.1, z.2.2.1, e.1.2.2]; exact kk)
theorem o_miles (h : IV n D) (K : ∀ v D1, Rf g mX7_miles [.ref 57] (n + 1) (iI v) D1 → P (some (iI v)) SH D1) : TM g mX6_miles 20 P [.ref 0] D := by
  refine c_miles (d := 15) h.lk h.cn (fun D1 kp e hN => K _ D1 (fun P' k => ?_))
  have q := h.kpn kp e hN
  refine r_miles (d := 15) (q.mm h) (fun D2 f => ?_)
  rw [q.ml h]
  exact k D2 (h.q2 q (fun r hr => f r (by omega)))
theorem o_few (h : IV n D) (K : ∀ v D1, Rf g mX7_few [.ref 57] (n + 1) (iI v) D1 → P (some (iI v)) SH D1) : TM g mX6_few 20 P [.ref 0] D := by
  refine c_few (d := 19) h.lk (fun v hv => K v D (fun P' k => ?_))
  refine r_few (d := 19) h.mm (fun w hw => ?_)
  have e := h.el
  rw [e.1.1, e.1.2.1] at hw
  have hw2 := hw.cong (hd' := D 4) (se' := D 9) (br' := fun h c => bit (D 5 h) c) (fun x hx => (e.2.1 x hx).2.2.1) (fun c hc => (e.2.2.1 c hc).2.2.2) (fun x c hx hc => (e.2.2.2.1 x c hx (by have := h.lk.2.1; omega)).1)
  rw [hw2.uniq hv]
  exact k D (h.q2 h.qs (fun _ _ => rfl))
theorem o_weight {c : Int} (h : IV n D) (hc : InR c) (K : ∀ v D1, Rf g mX7_weight [.ref 57, iI c] (n + 1) (iI v) D1 → P (some (iI v)) SH D1) : TM g mX6_weight 20 P [.ref 0, iI c] D := by
  have e1 := h.el.1.2.1
  refine c_weight (d := 15) h.lk h.cn hc (fun z => K _ D (fun P' k => ?_)) (fun a b m D1 kp e hN => K _ D1 (fun P' k => ?_)) (fun a b m D1 kp e hN => K _ D1 (fun P' k => ?_))
  · refine r_weight (d := 14) h.mm hc (fun _ => k D (h.q2 h.qs (fun _ _ => rfl))) (fun a b => ?_) (fun a b => ?_) <;> (exfalso; omega)
  · have q := h.kpn kp e hN
    have e2 := q.ml h
    have e57 := q.e57
    refine r_weight (d := 14) (q.mm h) hc (fun z => ?_) (fun a b m D2 f => k D2 (h.q2 q f)) (fun a b m2 => ?_)
    · rw [e57] at z; exfalso; omega
    · exact absurd (e2.trans m) m2
  · have q := h.kpn kp e hN
    have e2 := q.ml h
    have e57 := q.e57
    refine r_weight (d := 14) (q.mm h) hc (fun z => ?_) (fun a b m2 => ?_) (fun a b m2 D2 f => ?_)
    · rw [e57] at z; exfalso; omega
    · exact absurd (e2.symm.trans m2) m
    · rw [e2, q.mp h (by omega)]; exact k D2 (h.q2 q f)
theorem o_line {x : Int} (h : IV n D) (hc : InR x) (K : ∀ v D1, Rf g mX7_line [.ref 57, iI x] (n + 1) (iI v) D1 → P (some (iI v)) SH D1) : TM g mX6_line 20 P [.ref 0, iI x] D := by
  have e1 := h.el.1.1
  refine c_line (d := 15) h.lk h.cn hc (fun z => K _ D (fun P' k => ?_)) (fun a b m D1 kp e hN => K _ D1 (fun P' k => ?_)) (fun a b m D1 kp e hN => K _ D1 (fun P' k => ?_))
  · refine r_line (d := 14) h.mm hc (fun _ => k D (h.q2 h.qs (fun _ _ => rfl))) (fun a b => ?_) (fun a b => ?_) <;> (exfalso; omega)
  · have q := h.kpn kp e hN
    have e2 := q.ml h
    have e57 := q.e57
    refine r_line (d := 14) (q.mm h) hc (fun z => ?_) (fun a b m D2 f => k D2 (h.q2 q f)) (fun a b m2 => ?_)
    · rw [e57] at z; exfalso; omega
    · exact absurd (e2.trans m) m2
  · have q := h.kpn kp e hN
    have e2 := q.ml h
    have e57 := q.e57
    have nf := now_facts kp hN
    refine r_line (d := 14) (q.mm h) hc (fun z => ?_) (fun a b m2 => ?_) (fun a b m2 D2 f wb => ?_)
    · rw [e57] at z; exfalso; omega
    · exact absurd (e2.symm.trans m2) m
    · obtain ⟨-, -, ea, ef⟩ := mlM_of q.l
      rw [e57] at wb
      rw [e57, h.el.1.2.1] 
      rw [h.el.1.2.1] at wb
      have l := (ln_B (ok := alM D1 x.toNat) (ok' := alC D x.toNat) (v := fun c => farM D1 x.toNat c + (mlM D1 - mpM D1 c)) (v' := fun c => farC D x.toNat c + (mlC D - mpC D c)) (B := 100000000) (B' := 500000000) (D 1 9).toNat (fun c hc' => by
        have z1 := wb c hc'
        have z2 := farC_bd h.lk x.toNat c
        rw [ea, ef]
        refine ⟨(br_al h.el h.lk.2.1.2 (by omega) hc').symm, fun _ => ?_⟩
        show farM D x.toNat c + (mlM D1 - mpM D1 c) = farC D x.toNat c + (mlC D - mpC D c) ∧ farM D x.toNat c + (mlM D1 - mpM D1 c) < 100000000 ∧ farM D x.toNat c + (mlM D1 - mpM D1 c) < 500000000
        rw [← br_far h.el (by omega) hc']
        rw [e2, q.mp h hc'] at z1 ⊢
        exact ⟨rfl, by omega, by omega⟩)).1
      rw [l]
      exact k D2 (h.q2 q f)
theorem o_family {x : Int} (h : IV n D) (hc : InR x) (K : ∀ v D1, Rf g mX7_family [.ref 57, iI x] (n + 1) (iI v) D1 → P (some (iI v)) SH D1) : TM g mX6_family 20 P [.ref 0, iI x] D := by
  have e1 := h.el.1.1
  refine c_family (d := 9) h.lk h.cf hc (fun z => K _ D (fun P' k => ?_)) (fun z z2 => K _ D (fun P' k => ?_)) (fun z z2 D1 r v kp cf hA hV => K _ D1 (fun P' k => ?_))
  · refine r_family (d := 17) h.mm hc (fun _ => k D (h.q2 h.qs (fun _ _ => rfl))) (fun a => ?_) (fun a => ?_) <;> (exfalso; omega)
  · refine r_family (d := 17) h.mm hc (fun _ => ?_) (fun a b => k D (h.q2 h.qs (fun _ _ => rfl))) (fun a b => ?_) <;> (exfalso; omega)
  · have q := h.kpf kp cf
    have e57 := q.e57
    refine r_family (d := 17) (q.mm h) hc (fun y => ?_) (fun a b => ?_) (fun a b D2 r2 v2 f hA2 hV2 => ?_)
    · rw [e57] at y; exfalso; omega
    · rw [e57] at b; exfalso; omega
    · obtain ⟨-, -, ea, ef⟩ := mlM_of q.l
      have H : (D1 57 1).toNat = (D 1 8).toNat := by rw [e57, e1]
      have C : (D1 57 5).toNat = (D 1 9).toNat := by rw [e57, h.el.1.2.1]
      unfold okRM csRM at hA2
      rw [H, C, ea, ef, q.1 60 (by omega), q.1 64 (by omega)] at hA2
      rw [H, C, ef, q.1 60 (by omega)] at hV2
      have hd : ∀ x', x' < (D 1 8).toNat → D 60 x' = D 4 x' := fun x' hx' => (h.el.2.1 x' hx').2.2.1
      have lv : ∀ (s : Nat → Nat) (x' c : Nat), x' ≤ (D 1 8).toNat → c < (D 1 9).toNat → lvG (D 64) (D 60) s x' c = lvG (D 9) (D 4) s x' c := fun s x' c hx' hc' => by
        unfold lvG
        rw [(h.el.2.2.1 c hc').2.2.2, sm_cong x' (fun j hj => by rw [hd j (by omega)])]
      have cs : ∀ s : Nat → Nat, (∀ x', x' < (D 1 8).toNat → s x' < (D 1 9).toNat) → csG (D 60) (farM D) (D 1 8).toNat s = csG (D 4) (farC D) (D 1 8).toNat s := fun s hs => sm_cong _ (fun j hj => by rw [hd j hj, br_far h.el hj (hs j hj)])
      have hA3 : ArgM ((D 1 9).toNat ^ (D 1 8).toNat) (okRow (D 1 9).toNat (D 1 8).toNat (alC D) (D 9) (D 4)) (csRow (D 1 9).toNat (D 1 8).toNat (D 4) (farC D)) r2 := hA2.cong (fun row _ => ⟨⟨fun ok x' hx' => by
          have o := ok x' hx'
          rw [lv _ _ _ (by omega) o.1, hd x' hx'] at o
          exact ⟨o.1, (br_al h.el h.lk.2.1.2 hx' o.1).mpr o.2.1, o.2.2⟩, fun ok x' hx' => by
          have o := ok x' hx'
          rw [← lv _ _ _ (by omega) o.1, ← hd x' hx'] at o
          exact ⟨o.1, (br_al h.el h.lk.2.1.2 hx' o.1).mp o.2.1, o.2.2⟩⟩, fun ok => cs _ (fun x' hx' => (ok x' hx').1)⟩)
      have er := hA3.uniq hA
      subst er
      have ev : v2 = v := by
        rcases hA.rng with y | ⟨y1, y2, y3⟩
        · rw [hV2.1 y, hV.1 y]
        · have p2 := hV2.2 y1
          have p1 := hV.2 y1
          by_cases s : x < 0
          · rw [p2.1 s, p1.1 s]
            exact cs _ (fun x' hx' => (y3 x' hx').1)
          · rw [p2.2 (by omega), p1.2 (by omega)]
      rw [ev]
      exact k D2 (h.q2 q (fun r hr => f r (by omega)))
theorem o_even {w : Int} (h : IV n D) (hw : InR w) (K : ∀ v D1, Rf g mX7_even [.ref 57, iI w] (n + 1) (iI v) D1 → P (some (iI v)) SH D1) : TM g mX6_even 20 P [.ref 0, iI w] D := by
  have ref : ∀ (D1 : DD) (P' : Option Value → List SC → DD → Prop) (L m : Int), QS D D1 → IsEven D L m → (∀ v, ((w = 0 → v = L) ∧ (w = 1 → v = m)) → ∀ D2, IV (n + 1) D2 → P' (some (iI v)) SH D2) → (0 ≤ w ∧ w ≤ 1) → TM g mX7_even 20 P' [.ref 57, iI w] D1 := by
    intro D1 P' L m q hI k hw01
    have e57 := q.e57
    obtain ⟨-, -, ea, ef⟩ := mlM_of q.l
    have H : (D1 57 1).toNat = (D 1 8).toNat := by rw [e57, h.el.1.1]
    have C : (D1 57 5).toNat = (D 1 9).toNat := by rw [e57, h.el.1.2.1]
    refine r_even (d := 16) (q.mm h) (fun x hx => ?_) hw (fun z => absurd hw01 z) (fun D2 f L2 m2 hE => ?_)
    · rw [H] at hx; rw [q.1 60 (by omega), (h.el.2.1 x hx).2.2.1]; exact (h.el.2.1 x hx).2.2.2
    · rw [H, C, ea, ef, q.1 60 (by omega), q.1 64 (by omega)] at hE
      have hE2 := hE.cong (sup' := D 4) (rm' := D 9) (al' := alC D) (ct' := farC D) (fun x hx => (h.el.2.1 x hx).2.2.1) (fun c hc => (h.el.2.2.1 c hc).2.2.2) (fun x c hx hc => (br_al h.el h.lk.2.1.2 hx hc).symm) (fun x c hx hc => (br_far h.el hx hc).symm)
      obtain ⟨u1, u2⟩ := hE2.uniq (even_c h.lk hI)
      have fin := h.q2 (D2 := D2) q f
      exact ⟨fun z => by rw [u1]; exact k L ⟨fun _ => rfl, fun y => by omega⟩ D2 fin, fun z => by rw [u2]; exact k m ⟨fun y => by omega, fun _ => rfl⟩ D2 fin⟩
  refine c_even (d := 14) h.lk h.cn h.ce hw (fun z => K _ D (fun P' k => ?_)) (fun D1 kp c1 c2 L m hI => ?_)
  · refine r_even (d := 16) h.mm (fun x hx => ?_) hw (fun _ => k D (h.q2 h.qs (fun _ _ => rfl))) (fun D2 f L m hE => ⟨fun y => by omega, fun y => by omega⟩)
    rw [h.el.1.1] at hx; rw [(h.el.2.1 x hx).2.2.1]; exact (h.el.2.1 x hx).2.2.2
  · have q := h.kpe kp c1 c2
    exact ⟨fun z => K L D1 (fun P' k => ref D1 P' L m q hI (fun v hv D2 i => by rw [hv.1 z]; exact k D2 i) (by omega)), fun z => K m D1 (fun P' k => ref D1 P' L m q hI (fun v hv D2 i => by rw [hv.2 z]; exact k D2 i) (by omega))⟩
end

