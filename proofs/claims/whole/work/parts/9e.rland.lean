def ItsM (D : DD) (co : Nat → Int) (m : Nat) : Prop := ∀ t, t < m → ItM D t (kT co t) (xT co t) (yT co t) (nT co t)
def FrX (D D' : DD) : Prop := (∀ r, r ≠ 57 → r ≠ 66 → r ≠ 67 → D' r = D r) ∧ ∀ j, j ≠ 12 → j ≠ 15 → D' 57 j = D 57 j
theorem FrX.rf {D : DD} : FrX D D := ⟨fun _ _ _ _ => rfl, fun _ _ _ => rfl⟩
theorem FrX.r {D D1 D2 : DD} {m : Nat} (h : FrX D D1) (f : FrR D1 D2 m) : FrX D D2 := ⟨fun r a b c => (f.1 r a b c).trans (h.1 r a b c), fun j a b => (f.2.1 j a b).trans (h.2 j a b)⟩
theorem FrX.mk {D D1 : DD} (h : FrX D D1) (hL : MK D) : MK D1 := by
  unfold MK
  rw [h.2 1 (by decide) (by decide), h.2 5 (by decide) (by decide), h.2 11 (by decide) (by decide), h.1 58 (by decide) (by decide) (by decide), h.1 59 (by decide) (by decide) (by decide), h.1 60 (by decide) (by decide) (by decide), h.1 61 (by decide) (by decide) (by decide), h.1 62 (by decide) (by decide) (by decide), h.1 63 (by decide) (by decide) (by decide), h.1 64 (by decide) (by decide) (by decide), h.1 65 (by decide) (by decide) (by decide)]
  exact hL
theorem ItsM.up {D D1 : DD} {co : Nat → Int} {m : Nat} (h : ItsM D co m) (f : FrR D D1 m) (i : ItM D1 m (kT co m) (xT co m) (yT co m) (nT co m)) : ItsM D1 co (m + 1) := fun t ht => by
  by_cases e : t = m
  · subst e; exact i
  · have o := h t (by omega)
    unfold ItM at o ⊢
    rw [f.2.2.1 t e, f.2.2.2 _ (by omega), f.2.2.2 _ (by omega), f.2.2.2 _ (by omega)]
    exact o
theorem ItsM.of {D D1 : DD} {co : Nat → Int} {m : Nat} (h : ItsM D co m) (e1 : D1 66 = D 66) (e2 : D1 67 = D 67) : ItsM D1 co m := fun t ht => by
  have o := h t ht
  unfold ItM at o ⊢
  rw [e1, e2]; exact o
section
variable {g : G0} {d : Nat} {P : Option Value → List SC → DD → Prop} {D : DD} {fr n : Nat} {co : Nat → Int}
theorem r_read (hK : RxK D fr n co) (k1 : ∀ (D' : DD) (m : Nat), FrX D D' → EndT co m → TakenT co n m → m ≤ 11 → D' 57 12 = ((m + 1 : Nat) : Int) → ItsM D' co (m + 1) → P (some (iI (-1))) SH D') (k0 : ∀ (D' : DD) (m : Nat), FrX D D' → EndT co m → ¬ TakenT co n m → m ≤ 11 → psT co m ≤ 80 → P (some (iI (FT co m))) SH D') : TM g mX7_read (d + 3) P [.ref 57, iI fr, iI n] D := by
  obtain ⟨c1, c2, c3, c4, c5⟩ := id hK
  have stop : ∀ (D1 : DD) (m : Nat), FrX D D1 → EndT co m → TakenT co n m → m ≤ 11 → D1 57 12 = ((m + 1 : Nat) : Int) → ItsM D1 co (m + 1) → T g mX7_read (rmd (d + 3) 0 0) 0 0 (Qm g (rmd (d + 3) 0 0) P) 12 [some (.ref 57), some (iI fr), some (iI n), some (iI 0)] [] SH D1 := by
    intro D1 m a1 a2 a3 a4 a5 a6
    refine T_iload_n dX7_read_12 rfl ?_
    refine T_if_eq 64 dX7_read_13 (by decide) (by first | (unfold InR; omega) | (simp [st2, InR]; omega)) (fun hc13 => ?_) (fun hc13 => (by exfalso; omega))
    refine T_iconst dX7_read_64 ?_
    refine T_iret dX7_read_65 rfl ?_
    exact k1 D1 m a1 a2 a3 a4 a5 a6
  have loop : ∀ (q m : Nat) (D1 : DD), q + m = 12 → FrX D D1 → D1 57 15 = psT co m → D1 57 12 = m → (∀ j, j < m → GoT co j) → ItsM D1 co m → T g mX7_read (rmd (d + 3) 0 0) 0 0 (Qm g (rmd (d + 3) 0 0) P) 12 [some (.ref 57), some (iI fr), some (iI n), some (iI 1)] [] SH D1 := by
    intro q
    induction q with
    | zero =>
      intro m D1 hq fx h15 h12 hG hI
      have := (go_le (n := n) c2 c4 hG).1
      omega
    | succ q ih =>
      intro m D1 hq fx h15 h12 hG hI
      have gl := go_le (n := n) c2 c4 hG
      have hK1 : RxK D1 fr n co := hK.of (fx.1 79 (by decide) (by decide) (by decide))
      refine T_iload_n dX7_read_12 rfl ?_
      refine T_if_eq 64 dX7_read_13 (by decide) (by first | (unfold InR; omega) | (simp [st2, InR]; omega)) (fun hc13 => (by exfalso; omega)) (fun hc13 => ?_)
      refine T_aload_n dX7_read_16 rfl ?_
      refine T_iload_n dX7_read_17 rfl ?_
      refine T_iload_n dX7_read_18 rfl ?_
      refine T_cV_2 dX7_read_19 lkX7_155 rfl (Nat.le_of_ble_eq_true rfl) (RO_r (by decide)) (Nat.le_of_ble_eq_true rfl) ?_
      refine r_readsItem hK1 h15 h12 (by omega) gl.2 (fun t ht => (hI t ht).1) (fun hf D2 f2 e15 e12 i2 => ?_) (fun hf D2 f2 e15 => ?_)
      · refine T_if_ne 30 dX7_read_22 (by decide) (by unfold InR; decide) (fun _ => ?_) (fun h => absurd (by decide) h)
        refine T_aload_n dX7_read_30 rfl ?_
        refine T_getI dX7_read_31 flX7_134 rfl rfl ?_
        refine T_iload_n dX7_read_34 rfl ?_
        refine T_icmp_ge 42 dX7_read_35 (by decide) (by unfold InR; have := eT_n c4 hf; omega) (by unfold InR; omega) (fun hc35 => ?_) (fun hc35 => ?_)
        · refine T_iconst dX7_read_42 ?_
          refine T_istore_n dX7_read_43 (by decide) ?_
          refine T_iload_n dX7_read_44 rfl ?_
          refine T_if_eq 12 dX7_read_45 (by decide) (by unfold InR; decide) (fun _ => ?_) (fun h => absurd (by decide) h)
          first
          | (exfalso; omega)
          | (refine stop D2 m (fx.r f2) ⟨hG, fun z => ?_⟩ ⟨hf, by have := eT_n c4 hf; omega⟩ (by omega) e12 (hI.up f2 i2)
             have z2 := z.2
             rw [c4 (eT co m) (by omega)] at z2
             omega)
          | (refine ih (m + 1) D3 (by omega) ((fx.r f2).r (m := m) f3.r) e3 (by rw [f3.2 12 (by decide)]; exact e12) (fun j hj => ?_) ((hI.up f2 i2).of (f3.1 66 (by decide)) (f3.1 67 (by decide)))
             by_cases e : j = m
             · subst e; exact ⟨hf, o1⟩
             · exact hG j (by omega))
        · refine T_iconst dX7_read_38 ?_
          refine T_goto (tgt := 43) dX7_read_39 (by decide) ?_
          refine T_istore_n dX7_read_43 (by decide) ?_
          refine T_iload_n dX7_read_44 rfl ?_
          refine T_if_eq 12 dX7_read_45 (by decide) (by unfold InR; decide) (fun h => absurd h (by decide)) (fun _ => ?_)
          refine T_aload_n dX7_read_48 rfl ?_
          refine T_bipush dX7_read_49 (by decide) ?_
          refine T_iload_n dX7_read_51 rfl ?_
          refine T_iload_n dX7_read_52 rfl ?_
          refine T_cV_3 dX7_read_53 lkX7_151 rfl (Nat.le_of_ble_eq_true rfl) (RO_r (by decide)) (Nat.le_of_ble_eq_true rfl) ?_
          refine r_readsSign (hK1.of (f2.1 79 (by decide) (by decide) (by decide))) e15 (by have := eT_n c4 hf; omega) (by omega) (fun o1 D3 f3 e3 => ?_) (fun o1 D3 f3 e3 => ?_)
          · refine T_if_ne 12 dX7_read_56 (by decide) (by unfold InR; decide) (fun _ => ?_) (fun h => absurd (by decide) h)
            first
            | (exfalso; omega)
            | (refine stop D2 m (fx.r f2) ⟨hG, fun z => ?_⟩ ⟨hf, by have := eT_n c4 hf; omega⟩ (by omega) e12 (hI.up f2 i2)
               have z2 := z.2
               rw [c4 (eT co m) (by omega)] at z2
               omega)
            | (refine ih (m + 1) D3 (by omega) ((fx.r f2).r (m := m) f3.r) e3 (by rw [f3.2 12 (by decide)]; exact e12) (fun j hj => ?_) ((hI.up f2 i2).of (f3.1 66 (by decide)) (f3.1 67 (by decide)))
               by_cases e : j = m
               · subst e; exact ⟨hf, o1⟩
               · exact hG j (by omega))
          · refine T_if_ne 12 dX7_read_56 (by decide) (by unfold InR; decide) (fun h => absurd h (by decide)) (fun _ => ?_)
            refine T_aload_n dX7_read_59 rfl ?_
            refine T_getI dX7_read_60 flX7_134 rfl rfl ?_
            refine T_iret dX7_read_63 rfl ?_
            first
            | (rw [e15]
               have ft : FT co m = fT co m := by unfold FT; rw [if_neg hf]
               rw [← ft]
               exact k0 D2 m (fx.r f2) ⟨hG, fun z => hf z.1⟩ (fun z => hf z.1) (by omega) gl.2)
            | (rw [e3]
               have ft : FT co m = (eT co m : Int) := by unfold FT; rw [if_pos hf]
               rw [← ft]
               exact k0 D3 m ((fx.r f2).r (m := m) f3.r) ⟨hG, fun z => o1 z.2⟩ (fun z => by have := z.2; omega) (by omega) gl.2)
      · refine T_if_ne 30 dX7_read_22 (by decide) (by unfold InR; decide) (fun h => absurd h (by decide)) (fun _ => ?_)
        refine T_aload_n dX7_read_25 rfl ?_
        refine T_getI dX7_read_26 flX7_134 rfl rfl ?_
        refine T_iret dX7_read_29 rfl ?_
        first
        | (rw [e15]
           have ft : FT co m = fT co m := by unfold FT; rw [if_neg hf]
           rw [← ft]
           exact k0 D2 m (fx.r f2) ⟨hG, fun z => hf z.1⟩ (fun z => hf z.1) (by omega) gl.2)
        | (rw [e3]
           have ft : FT co m = (eT co m : Int) := by unfold FT; rw [if_pos hf]
           rw [← ft]
           exact k0 D3 m ((fx.r f2).r (m := m) f3.r) ⟨hG, fun z => o1 z.2⟩ (fun z => by have := z.2; omega) (by omega) gl.2)
  refine T_aload_n dX7_read_0 rfl ?_
  refine T_iconst dX7_read_1 ?_
  refine T_putI dX7_read_2 flX7_134 rfl rfl ?_
  refine T_aload_n dX7_read_5 rfl ?_
  refine T_iconst dX7_read_6 ?_
  refine T_putI dX7_read_7 flX7_144 rfl rfl ?_
  refine T_iconst dX7_read_10 ?_
  refine T_istore_n dX7_read_11 (by decide) ?_
  refine loop 12 0 _ (by omega) ⟨fun r a _ _ => by rw [st2_row a, st2_row a], fun j a b => by rw [st2_ne a, st2_ne b]⟩ (by rw [st2_ne (by decide), st2_at]; rfl) (by rw [st2_at]; rfl) (fun j hj => by omega) (fun t ht => by omega)
end
def addHM (D : DD) (x y n : Int) : DD := st2 (st2 (st2 (st2 D 58 (D 57 1).toNat x) 59 (D 57 1).toNat y) 60 (D 57 1).toNat n) 57 1 (D 57 1 + 1)
def addCM (D : DD) (k x y n : Int) : DD := st2 (st2 (st2 (st2 (st2 D 61 (D 57 5).toNat k) 62 (D 57 5).toNat x) 63 (D 57 5).toNat y) 64 (D 57 5).toNat n) 57 5 (D 57 5 + 1)
section
variable {D : DD} {k x y n : Int}
theorem addHM_r : (∀ r, (r < 57 ∨ 60 < r) → addHM D x y n r = D r) ∧ addHM D x y n 58 = up1 (D 58) (D 57 1).toNat x ∧ addHM D x y n 59 = up1 (D 59) (D 57 1).toNat y ∧ addHM D x y n 60 = up1 (D 60) (D 57 1).toNat n ∧ addHM D x y n 57 1 = D 57 1 + 1 ∧ ∀ j, j ≠ 1 → addHM D x y n 57 j = D 57 j := by
  unfold addHM
  refine ⟨fun r hr => ?_, ?_, ?_, ?_, ?_, fun j hj => ?_⟩
  · rw [st2_row (by omega), st2_row (by omega), st2_row (by omega), st2_row (by omega)]
  · rw [st2_row (by decide), st2_row (by decide), st2_row (by decide), st2_up]
  · rw [st2_row (by decide), st2_row (by decide), st2_up, st2_row (by decide)]
  · rw [st2_row (by decide), st2_up, st2_row (by decide), st2_row (by decide)]
  · rw [st2_at]
  · rw [st2_ne hj, st2_row (by decide), st2_row (by decide), st2_row (by decide)]
theorem addCM_r : (∀ r, (r < 57 ∨ (57 < r ∧ r < 61) ∨ 64 < r) → addCM D k x y n r = D r) ∧ addCM D k x y n 61 = up1 (D 61) (D 57 5).toNat k ∧ addCM D k x y n 62 = up1 (D 62) (D 57 5).toNat x ∧ addCM D k x y n 63 = up1 (D 63) (D 57 5).toNat y ∧ addCM D k x y n 64 = up1 (D 64) (D 57 5).toNat n ∧ addCM D k x y n 57 5 = D 57 5 + 1 ∧ ∀ j, j ≠ 5 → addCM D k x y n 57 j = D 57 j := by
  unfold addCM
  refine ⟨fun r hr => ?_, ?_, ?_, ?_, ?_, ?_, fun j hj => ?_⟩
  · rw [st2_row (by omega), st2_row (by omega), st2_row (by omega), st2_row (by omega), st2_row (by omega)]
  · rw [st2_row (by decide), st2_row (by decide), st2_row (by decide), st2_row (by decide), st2_up]
  · rw [st2_row (by decide), st2_row (by decide), st2_row (by decide), st2_up, st2_row (by decide)]
  · rw [st2_row (by decide), st2_row (by decide), st2_up, st2_row (by decide), st2_row (by decide)]
  · rw [st2_row (by decide), st2_up, st2_row (by decide), st2_row (by decide), st2_row (by decide)]
  · rw [st2_at]
  · rw [st2_ne hj, st2_row (by decide), st2_row (by decide), st2_row (by decide), st2_row (by decide)]
theorem addHM_MK (hL : MK D) (h1 : D 57 1 < 10) (hx : 0 ≤ x ∧ x ≤ 60) (hy : 0 ≤ y ∧ y ≤ 60) (hn : 0 ≤ n ∧ n ≤ 5) : MK (addHM D x y n) := by
  obtain ⟨a1, a2, a3, a4, a5, a6, a7, a8, a9, a10, a11⟩ := hL
  obtain ⟨b0, b2, b3, b4, b5, b6⟩ := addHM_r (D := D) (x := x) (y := y) (n := n)
  unfold MK
  rw [b0 61 (by omega), b0 62 (by omega), b0 63 (by omega), b0 64 (by omega), b0 65 (by omega), b2, b3, b4, b5, b6 5 (by decide), b6 11 (by decide)]
  exact ⟨by omega, a2, a3, up1_rg a4 hx, up1_rg a5 hy, up1_rg a6 hn, a7, a8, a9, a10, a11⟩
theorem addCM_MK (hL : MK D) (h1 : D 57 5 < 5) (hk : 0 ≤ k ∧ k ≤ 2) (hx : 0 ≤ x ∧ x ≤ 60) (hy : 0 ≤ y ∧ y ≤ 60) (hn : 0 ≤ n ∧ n ≤ 50) : MK (addCM D k x y n) := by
  obtain ⟨a1, a2, a3, a4, a5, a6, a7, a8, a9, a10, a11⟩ := hL
  obtain ⟨b0, b2, b3, b4, b5, b6, b7⟩ := addCM_r (D := D) (k := k) (x := x) (y := y) (n := n)
  unfold MK
  rw [b0 58 (by omega), b0 59 (by omega), b0 60 (by omega), b0 65 (by omega), b2, b3, b4, b5, b6, b7 1 (by decide), b7 11 (by decide)]
  exact ⟨a1, by omega, a3, a4, a5, a6, up1_rg a7 hk, up1_rg a8 hx, up1_rg a9 hy, up1_rg a10 hn, a11⟩
end
/-- t items of the text have been laid out in the reference -/
def LoM (D D1 : DD) (co : Nat → Int) (t : Nat) : Prop := (∀ r, (r < 57 ∨ 65 < r) → D1 r = D r) ∧ MK D1 ∧ D1 57 1 = hcT co t ∧ D1 57 5 = ((t - hcT co t : Nat) : Int) ∧ (∀ j, j ≠ 1 → j ≠ 5 → D1 57 j = D 57 j) ∧ Laid co t (D1 58) (D1 59) (D1 60) (D1 61) (D1 62) (D1 63) (D1 64) ∧ (∀ h, h < hcT co t → 1 ≤ D1 60 h) ∧ ∀ j, j < 50 → D1 65 j = 0
section
variable {g : G0} {d : Nat} {P : Option Value → List SC → DD → Prop} {D : DD}
theorem r_land {k l i n : Int} (hL : MK D) (hR : RK D) (hk : InR k) (hl : InR l) (hi : InR i) (hn : InR n) (kU : ¬ (0 ≤ k ∧ k ≤ 3) → P (some (iI (-1))) SH (st2 D 57 0 0)) (kR : 0 ≤ k → k ≤ 3 → (rwM D k l i n).1 ≠ 0 → P (some (iI (rwM D k l i n).1)) SH (st2 D 57 0 (rwM D k l i n).2)) (kF : 0 ≤ k → k ≤ 3 → (rwM D k l i n).1 = 0 → ∀ (D' : DD) (m : Nat), FrX D D' → EndT (coS (D 79) (80 * k.toNat + i.toNat) n.toNat) m → ¬ TakenT (coS (D 79) (80 * k.toNat + i.toNat) n.toNat) n.toNat m → P (some (iI (-100 - FT (coS (D 79) (80 * k.toNat + i.toNat) n.toNat) m))) SH (st2 D' 57 0 0)) (kk : 0 ≤ k → k ≤ 3 → (rwM D k l i n).1 = 0 → ∀ (D1 D' : DD) (m : Nat), FrX D D1 → LoM D1 D' (coS (D 79) (80 * k.toNat + i.toNat) n.toNat) (m + 1) → EndT (coS (D 79) (80 * k.toNat + i.toNat) n.toNat) m → TakenT (coS (D 79) (80 * k.toNat + i.toNat) n.toNat) n.toNat m → P (some (iI ((m + 1 : Nat) : Int))) SH (st2 D' 57 0 0)) : TM g mX7_land (d + 4) P [.ref 57, iI k, iI l, iI i, iI n] D := by
  have rneg : (rwM D k l i n).1 ≤ 0 ∧ -14 ≤ (rwM D k l i n).1 := by unfold rwM rowR; (repeat' split) <;> decide
  have lay : ∀ (co : Nat → Int) (m : Nat) (D1 : DD) (v5 v6 : Int), m ≤ 12 → ItsM D1 co m → D1 57 12 = m → (∀ t, t < m → fT co t = -1) → (∀ D' : DD, LoM D1 D' co m → P (some (iI m)) SH (st2 D' 57 0 0)) → ∀ (q t : Nat) (D2 : DD), q + t = m → LoM D1 D2 co t → T g mX7_land (rmd (d + 4) 0 0) 0 0 (Qm g (rmd (d + 4) 0 0) P) 99 [some (.ref 57), some (iI k), some (iI l), some (iI i), some (iI n), some (iI v5), some (iI v6), some (iI t)] [] SH D2 := by
    intro co m D1 v5 v6 hm hI h12 hf K q
    induction q with
    | zero =>
      intro t D2 hq hLo
      obtain rfl : t = m := by omega
      have e12 : D2 57 12 = t := (hLo.2.2.2.2.1 12 (by decide) (by decide)).trans h12
      refine T_iload dX7_land_99 rfl ?_
      refine T_aload_n dX7_land_101 rfl ?_
      refine T_getI dX7_land_102 flX7_144 rfl rfl ?_
      refine T_icmp_ge 205 dX7_land_105 (by decide) (by first | (unfold InR; omega) | (simp [st2, InR]; omega)) (by first | (unfold InR; omega) | (simp [st2, InR]; omega)) (fun hc105 => ?_) (fun hc105 => (by exfalso; omega))
      refine T_aload_n dX7_land_205 rfl ?_
      refine T_aload_n dX7_land_206 rfl ?_
      refine T_getI dX7_land_207 flX7_144 rfl rfl ?_
      rw [e12]
      refine T_cV_1 dX7_land_210 lkX7_101 rfl (Nat.le_of_ble_eq_true rfl) (RO_r (by decide)) (Nat.le_of_ble_eq_true rfl) ?_
      refine r_refused ?_
      refine T_iret dX7_land_213 rfl ?_
      exact K D2 hLo
    | succ q ih =>
      intro t D2 hq hLo
      obtain ⟨a1, a2, a3, a4, a5, a6, a7, a8⟩ := hLo
      have e12 : D2 57 12 = m := (a5 12 (by decide) (by decide)).trans h12
      have et : (t : Int).toNat = t := Int.toNat_natCast t
      have et0 : (3 * (t : Int)).toNat = 3 * t := by omega
      have et1 : (3 * (t : Int) + 1).toNat = 3 * t + 1 := by omega
      have et2 : (3 * (t : Int) + 2).toNat = 3 * t + 2 := by omega
      obtain ⟨i1, i2, i3, i4⟩ := hI t (by omega)
      obtain ⟨r1, r2, r3, r4⟩ := item_rg (hf t (by omega))
      have hcb := hcT_bd (co := co) (t + 1) (fun j hj => hf j (by omega))
      have hll := hcT_le co t
      have e66 : D2 66 (t : Int).toNat = kT co t := by rw [et, a1 66 (by omega)]; exact i1
      have e67 : D2 67 (3 * (t : Int)).toNat = xT co t := by rw [et0, a1 67 (by omega)]; exact i2
      have e67b : D2 67 (3 * (t : Int) + 1).toNat = yT co t := by rw [et1, a1 67 (by omega)]; exact i3
      have e67c : D2 67 (3 * (t : Int) + 2).toNat = nT co t := by rw [et2, a1 67 (by omega)]; exact i4
      have n8 : (D2 57 1).toNat = hcT co t := by omega
      have n9 : (D2 57 5).toNat = t - hcT co t := by omega
      have kb : -1 ≤ kT co t ∧ kT co t ≤ 3 := kdR_bd _
      simp only [hcT] at hcb
      refine T_iload dX7_land_99 rfl ?_
      refine T_aload_n dX7_land_101 rfl ?_
      refine T_getI dX7_land_102 flX7_144 rfl rfl ?_
      refine T_icmp_ge 205 dX7_land_105 (by decide) (by first | (unfold InR; omega) | (simp [st2, InR]; omega)) (by first | (unfold InR; omega) | (simp [st2, InR]; omega)) (fun hc105 => (by exfalso; omega)) (fun hc105 => ?_)
      refine T_aload_n dX7_land_108 rfl ?_
      refine T_getR dX7_land_109 flX7_35 rfl rfl ?_
      refine T_iload dX7_land_112 rfl ?_
      refine T_iald dX7_land_114 rfl (by first | decide | omega) (by first | omega | (simp [st2]; omega)) (by first | omega | (simp [st2]; omega)) ?_
      refine T_iconst dX7_land_115 ?_
      refine T_icmp_ne 157 dX7_land_116 (by decide) (by rw [e66]; unfold InR; omega) (by first | (unfold InR; omega) | (simp [st2, InR]; omega)) (fun hc116 => ?_) (fun hc116 => ?_)
      · rw [e66] at hc116
        have k3 : kT co t ≠ 3 := hc116
        rw [if_neg k3] at hcb
        refine T_aload_n dX7_land_157 rfl ?_
        refine T_aload_n dX7_land_158 rfl ?_
        refine T_getR dX7_land_159 flX7_35 rfl rfl ?_
        refine T_iload dX7_land_162 rfl ?_
        refine T_iald dX7_land_164 rfl (by first | decide | omega) (by first | omega | (simp [st2]; omega)) (by first | omega | (simp [st2]; omega)) ?_
        refine T_aload_n dX7_land_165 rfl ?_
        refine T_getR dX7_land_166 flX7_38 rfl rfl ?_
        refine T_iconst dX7_land_169 ?_
        refine T_iload dX7_land_170 rfl ?_
        refine T_imul dX7_land_172 ?_
        refine T_iald dX7_land_173 rfl (by first | decide | omega) (by first | omega | (simp [st2]; omega)) (by first | omega | (simp [st2]; omega)) ?_
        refine T_aload_n dX7_land_174 rfl ?_
        refine T_getR dX7_land_175 flX7_38 rfl rfl ?_
        refine T_iconst dX7_land_178 ?_
        refine T_iload dX7_land_179 rfl ?_
        refine T_imul dX7_land_181 ?_
        refine T_iconst dX7_land_182 ?_
        refine T_iadd dX7_land_183 ?_
        refine T_iald dX7_land_184 rfl (by first | decide | omega) (by first | omega | (simp [st2]; omega)) (by first | omega | (simp [st2]; omega)) ?_
        refine T_aload_n dX7_land_185 rfl ?_
        refine T_getR dX7_land_186 flX7_38 rfl rfl ?_
        refine T_iconst dX7_land_189 ?_
        refine T_iload dX7_land_190 rfl ?_
        refine T_imul dX7_land_192 ?_
        refine T_iconst dX7_land_193 ?_
        refine T_iadd dX7_land_194 ?_
        refine T_iald dX7_land_195 rfl (by first | decide | omega) (by first | omega | (simp [st2]; omega)) (by first | omega | (simp [st2]; omega)) ?_
        refine T_cV_4 dX7_land_196 lkX7_130 rfl (Nat.le_of_ble_eq_true rfl) (RO_r (by decide)) (Nat.le_of_ble_eq_true rfl) ?_
        refine r_addChurch (by omega) ?_
        refine T_iinc dX7_land_199 rfl (by decide) ?_
        refine T_goto (tgt := 99) dX7_land_202 (by decide) ?_
        first
        | (rw [e66, e67, e67b, e67c]
           show T _ _ _ _ _ _ _ _ _ _ (addCM D2 (kT co t) (xT co t) (yT co t) (nT co t))
           obtain ⟨b0, b2, b3, b4, b5, b6, b7⟩ := addCM_r (D := D2) (k := kT co t) (x := xT co t) (y := yT co t) (n := nT co t)
           refine ih (t + 1) _ (by omega) ⟨fun r hr => by rw [b0 r (by omega)]; exact a1 r hr, addCM_MK a2 (by omega) (r4 k3).1 r1 r2 (r4 k3).2, ?_, ?_, fun j z1 z5 => by rw [b7 j z5]; exact a5 j z1 z5, ?_, fun h hh => ?_, fun j hj => by rw [b0 65 (by omega)]; exact a8 j hj⟩
           · rw [b7 1 (by decide), a3]; simp only [hcT]; rw [if_neg k3]; rfl
           · rw [b6, a4]; simp only [hcT]; rw [if_neg k3]; omega
           · rw [b0 58 (by omega), b0 59 (by omega), b0 60 (by omega), b2, b3, b4, b5, n9]; exact a6.church k3
           · rw [b0 60 (by omega)]; simp only [hcT] at hh; rw [if_neg k3] at hh; exact a7 h hh)
        | (rw [e67, e67b, e67c]
           show T _ _ _ _ _ _ _ _ _ _ (addHM D2 (xT co t) (yT co t) (nT co t))
           obtain ⟨b0, b2, b3, b4, b5, b6⟩ := addHM_r (D := D2) (x := xT co t) (y := yT co t) (n := nT co t)
           refine ih (t + 1) _ (by omega) ⟨fun r hr => by rw [b0 r (by omega)]; exact a1 r hr, addHM_MK a2 (by omega) r1 r2 (by have := r3 k3; omega), ?_, ?_, fun j z1 z5 => by rw [b6 j z1]; exact a5 j z1 z5, ?_, fun h hh => ?_, fun j hj => by rw [b0 65 (by omega)]; exact a8 j hj⟩
           · rw [b5, a3]; simp only [hcT]; rw [if_pos k3]; omega
           · rw [b6 5 (by decide), a4]; simp only [hcT]; rw [if_pos k3]; omega
           · rw [b0 61 (by omega), b0 62 (by omega), b0 63 (by omega), b0 64 (by omega), b2, b3, b4, n8]; exact a6.home k3
           · rw [b4, n8]
             simp only [hcT] at hh
             rw [if_pos k3] at hh
             by_cases e : h = hcT co t
             · subst e; rw [up1_at]; exact (r3 k3).1
             · rw [up1_ne e]; exact a7 h (by omega))
      · rw [e66] at hc116
        have k3 : kT co t = 3 := by omega
        rw [if_pos k3] at hcb
        refine T_aload_n dX7_land_119 rfl ?_
        refine T_aload_n dX7_land_120 rfl ?_
        refine T_getR dX7_land_121 flX7_38 rfl rfl ?_
        refine T_iconst dX7_land_124 ?_
        refine T_iload dX7_land_125 rfl ?_
        refine T_imul dX7_land_127 ?_
        refine T_iald dX7_land_128 rfl (by first | decide | omega) (by first | omega | (simp [st2]; omega)) (by first | omega | (simp [st2]; omega)) ?_
        refine T_aload_n dX7_land_129 rfl ?_
        refine T_getR dX7_land_130 flX7_38 rfl rfl ?_
        refine T_iconst dX7_land_133 ?_
        refine T_iload dX7_land_134 rfl ?_
        refine T_imul dX7_land_136 ?_
        refine T_iconst dX7_land_137 ?_
        refine T_iadd dX7_land_138 ?_
        refine T_iald dX7_land_139 rfl (by first | decide | omega) (by first | omega | (simp [st2]; omega)) (by first | omega | (simp [st2]; omega)) ?_
        refine T_aload_n dX7_land_140 rfl ?_
        refine T_getR dX7_land_141 flX7_38 rfl rfl ?_
        refine T_iconst dX7_land_144 ?_
        refine T_iload dX7_land_145 rfl ?_
        refine T_imul dX7_land_147 ?_
        refine T_iconst dX7_land_148 ?_
        refine T_iadd dX7_land_149 ?_
        refine T_iald dX7_land_150 rfl (by first | decide | omega) (by first | omega | (simp [st2]; omega)) (by first | omega | (simp [st2]; omega)) ?_
        refine T_cV_3 dX7_land_151 lkX7_124 rfl (Nat.le_of_ble_eq_true rfl) (RO_r (by decide)) (Nat.le_of_ble_eq_true rfl) ?_
        refine r_addHome (by omega) ?_
        refine T_goto (tgt := 199) dX7_land_154 (by decide) ?_
        refine T_iinc dX7_land_199 rfl (by decide) ?_
        refine T_goto (tgt := 99) dX7_land_202 (by decide) ?_
        first
        | (rw [e66, e67, e67b, e67c]
           show T _ _ _ _ _ _ _ _ _ _ (addCM D2 (kT co t) (xT co t) (yT co t) (nT co t))
           obtain ⟨b0, b2, b3, b4, b5, b6, b7⟩ := addCM_r (D := D2) (k := kT co t) (x := xT co t) (y := yT co t) (n := nT co t)
           refine ih (t + 1) _ (by omega) ⟨fun r hr => by rw [b0 r (by omega)]; exact a1 r hr, addCM_MK a2 (by omega) (r4 k3).1 r1 r2 (r4 k3).2, ?_, ?_, fun j z1 z5 => by rw [b7 j z5]; exact a5 j z1 z5, ?_, fun h hh => ?_, fun j hj => by rw [b0 65 (by omega)]; exact a8 j hj⟩
           · rw [b7 1 (by decide), a3]; simp only [hcT]; rw [if_neg k3]; rfl
           · rw [b6, a4]; simp only [hcT]; rw [if_neg k3]; omega
           · rw [b0 58 (by omega), b0 59 (by omega), b0 60 (by omega), b2, b3, b4, b5, n9]; exact a6.church k3
           · rw [b0 60 (by omega)]; simp only [hcT] at hh; rw [if_neg k3] at hh; exact a7 h hh)
        | (rw [e67, e67b, e67c]
           show T _ _ _ _ _ _ _ _ _ _ (addHM D2 (xT co t) (yT co t) (nT co t))
           obtain ⟨b0, b2, b3, b4, b5, b6⟩ := addHM_r (D := D2) (x := xT co t) (y := yT co t) (n := nT co t)
           refine ih (t + 1) _ (by omega) ⟨fun r hr => by rw [b0 r (by omega)]; exact a1 r hr, addHM_MK a2 (by omega) r1 r2 (by have := r3 k3; omega), ?_, ?_, fun j z1 z5 => by rw [b6 j z1]; exact a5 j z1 z5, ?_, fun h hh => ?_, fun j hj => by rw [b0 65 (by omega)]; exact a8 j hj⟩
           · rw [b5, a3]; simp only [hcT]; rw [if_pos k3]; omega
           · rw [b6 5 (by decide), a4]; simp only [hcT]; rw [if_pos k3]; omega
           · rw [b0 61 (by omega), b0 62 (by omega), b0 63 (by omega), b0 64 (by omega), b2, b3, b4, n8]; exact a6.home k3
           · rw [b4, n8]
             simp only [hcT] at hh
             rw [if_pos k3] at hh
             by_cases e : h = hcT co t
             · subst e; rw [up1_at]; exact (r3 k3).1
             · rw [up1_ne e]; exact a7 h (by omega))
  have bars : ∀ (co : Nat → Int) (m : Nat) (D1 : DD) (v5 v6 : Int), MK D1 → m ≤ 12 → ItsM D1 co m → D1 57 12 = m → (∀ t, t < m → fT co t = -1) → (∀ D' : DD, LoM D1 D' co m → P (some (iI m)) SH (st2 D' 57 0 0)) → ∀ (q j : Nat) (D2 : DD), q + j = 50 → (∀ r, r ≠ 57 → r ≠ 65 → D2 r = D1 r) → D2 57 1 = 0 → D2 57 5 = 0 → (∀ j, j ≠ 1 → j ≠ 5 → D2 57 j = D1 57 j) → (∀ t, t < j → D2 65 t = 0) → (∀ t, 0 ≤ D2 65 t ∧ D2 65 t ≤ 1) → T g mX7_land (rmd (d + 4) 0 0) 0 0 (Qm g (rmd (d + 4) 0 0) P) 75 [some (.ref 57), some (iI k), some (iI l), some (iI i), some (iI n), some (iI v5), some (iI v6), some (iI j)] [] SH D2 := by
    intro co m D1 v5 v6 hMK hm hI h12 hf K q
    induction q with
    | zero =>
      intro j D2 hq r1 r2 r3 r4 r5 r6
      refine T_iload dX7_land_75 rfl ?_
      refine T_bipush dX7_land_77 (by decide) ?_
      refine T_icmp_ge 96 dX7_land_79 (by decide) (by first | (unfold InR; omega) | (simp [st2, InR]; omega)) (by first | (unfold InR; omega) | (simp [st2, InR]; omega)) (fun hc79 => ?_) (fun hc79 => (by exfalso; omega))
      refine T_iconst dX7_land_96 ?_
      refine T_istore dX7_land_97 (by decide) ?_
      refine lay co m D1 v5 v6 hm hI h12 hf K m 0 D2 (by omega) ⟨fun r hr => r1 r (by omega) (by omega), ?_, r2, r3, r4, fun t ht => by omega, fun h hh => by simp [hcT] at hh, fun t ht => r5 t (by omega)⟩
      obtain ⟨a1, a2, a3, a4, a5, a6, a7, a8, a9, a10, a11⟩ := hMK
      unfold MK
      rw [r2, r3, r4 11 (by decide) (by decide), r1 58 (by decide) (by decide), r1 59 (by decide) (by decide), r1 60 (by decide) (by decide), r1 61 (by decide) (by decide), r1 62 (by decide) (by decide), r1 63 (by decide) (by decide), r1 64 (by decide) (by decide)]
      exact ⟨by omega, by omega, a3, a4, a5, a6, a7, a8, a9, a10, r6⟩
    | succ q ih =>
      intro j D2 hq r1 r2 r3 r4 r5 r6
      have ej : (j : Int).toNat = j := Int.toNat_natCast j
      refine T_iload dX7_land_75 rfl ?_
      refine T_bipush dX7_land_77 (by decide) ?_
      refine T_icmp_ge 96 dX7_land_79 (by decide) (by first | (unfold InR; omega) | (simp [st2, InR]; omega)) (by first | (unfold InR; omega) | (simp [st2, InR]; omega)) (fun hc79 => (by exfalso; omega)) (fun hc79 => ?_)
      refine T_aload_n dX7_land_82 rfl ?_
      refine T_getR dX7_land_83 flX7_31 rfl rfl ?_
      refine T_iload dX7_land_86 rfl ?_
      refine T_iconst dX7_land_88 ?_
      refine T_zast dX7_land_89 rfl (by first | decide | omega) (by first | omega | (simp [st2]; omega)) (by first | omega | (simp [st2]; omega)) (by decide) ?_
      refine T_iinc dX7_land_90 rfl (by decide) ?_
      refine T_goto (tgt := 75) dX7_land_93 (by decide) ?_
      rw [ej]
      refine ih (j + 1) _ (by omega) (fun r a b => by rw [st2_row b]; exact r1 r a b) (by rw [st2_row (by decide)]; exact r2) (by rw [st2_row (by decide)]; exact r3) (fun t a b => by rw [st2_row (by decide)]; exact r4 t a b) (fun t ht => ?_) (fun t => ?_)
      · by_cases e : t = j
        · subst e; exact st2_at
        · rw [st2_ne e]; exact r5 t (by omega)
      · by_cases e : t = j
        · subst e; rw [st2_at]; decide
        · rw [st2_ne e]; exact r6 t
  refine T_iload_n dX7_land_0 rfl ?_
  refine T_cS_1 dX7_land_1 lkX7_158 (Nat.le_of_ble_eq_true rfl) (RO_r (by decide)) (Nat.le_of_ble_eq_true rfl) ?_
  refine r_noSheet hk (fun h1 h2 => ?_) (fun h1 => ?_)
  · refine T_if_eq 13 dX7_land_4 (by decide) (by unfold InR; decide) (fun _ => ?_) (fun h => absurd (by decide) h)
    refine T_aload_n dX7_land_13 rfl ?_
    refine T_iload_n dX7_land_14 rfl ?_
    refine T_iload_n dX7_land_15 rfl ?_
    refine T_iload_n dX7_land_16 rfl ?_
    refine T_iload dX7_land_17 rfl ?_
    refine T_i2l dX7_land_19 hn ?_
    refine T_cV_4 dX7_land_20 lkX7_162 rfl (Nat.le_of_ble_eq_true rfl) (RO_r (by decide)) (Nat.le_of_ble_eq_true rfl) ?_
    refine r_refusal hR ⟨h1, h2⟩ hl hi hn ?_
    refine T_istore dX7_land_23 (by decide) ?_
    refine T_iload dX7_land_25 rfl ?_
    refine T_if_ge 33 dX7_land_27 (by decide) (show InR (rwM D k l i n).1 by unfold InR; have := rneg; omega) (fun hc27 => ?_) (fun hc27 => ?_)
    · have hc0 : (rwM D k l i n).1 = 0 := by have := rneg; have hc27 : 0 ≤ (rwM D k l i n).1 := hc27; omega
      rw [if_pos hc0]
      have kF := kF h1 h2 hc0
      have kk := kk h1 h2 hc0
      have hin := (rowR_ok hc0).2
      obtain ⟨s1, s2⟩ := hR.1 k.toNat (by omega)
      obtain ⟨i, rfl⟩ : ∃ a : Nat, i = a := ⟨i.toNat, by omega⟩
      obtain ⟨n, rfl⟩ : ∃ a : Nat, n = a := ⟨n.toNat, by omega⟩
      rw [Int.toNat_natCast, Int.toNat_natCast] at kF kk
      have hRx : RxK D (80 * k.toNat + i) n (coS (D 79) (80 * k.toNat + i) n) := ⟨by omega, by omega, fun p hp => by unfold coS; rw [if_pos hp], fun p hp => by unfold coS; rw [if_neg (by omega)], fun p => by
        unfold coS
        by_cases e : p < n
        · rw [if_pos e]; exact hR.2 _
        · rw [if_neg e]; unfold InR; omega⟩
      generalize coS (D 79) (80 * k.toNat + i) n = co at kF kk hRx
      refine T_aload_n dX7_land_33 rfl ?_
      refine T_bipush dX7_land_34 (by decide) ?_
      refine T_iload_n dX7_land_36 rfl ?_
      refine T_imul dX7_land_37 ?_
      refine T_iload_n dX7_land_38 rfl ?_
      refine T_iadd dX7_land_39 ?_
      refine T_iload dX7_land_40 rfl ?_
      rw [show 80 * k + (i : Int) = ((80 * k.toNat + i : Nat) : Int) by omega]
      refine T_cV_2 dX7_land_42 lkX7_166 rfl (Nat.le_of_ble_eq_true rfl) (RO_r (by decide)) (Nat.le_of_ble_eq_true rfl) ?_
      refine r_read hRx (fun D1 m fx hE hT hm e12 hI => ?_) (fun D1 m fx hE hT hm hps => ?_)
      · refine T_istore dX7_land_45 (by decide) ?_
        refine T_iload dX7_land_47 rfl ?_
        refine T_if_lt 62 dX7_land_49 (by decide) (by unfold InR; decide) (fun _ => ?_) (fun h => absurd (by decide) h)
        refine T_aload_n dX7_land_62 rfl ?_
        refine T_iconst dX7_land_63 ?_
        refine T_putI dX7_land_64 flX7_112 rfl rfl ?_
        refine T_aload_n dX7_land_67 rfl ?_
        refine T_iconst dX7_land_68 ?_
        refine T_putI dX7_land_69 flX7_115 rfl rfl ?_
        refine T_iconst dX7_land_72 ?_
        refine T_istore dX7_land_73 (by decide) ?_
        first
        | (exfalso; have := FT_bd hps; omega)
        | (refine bars co (m + 1) D1 _ _ (fx.mk hL) (by omega) hI e12 (fun t ht => ?_) (fun D' lo => kk D1 D' m fx lo hE hT) 50 0 (st2 (st2 D1 57 1 0) 57 5 0) (by omega) (fun r a b => by rw [st2_row a, st2_row a]) (by rw [st2_ne (by decide), st2_at]) st2_at (fun j a b => by rw [st2_ne b, st2_ne a]) (fun t ht => by omega) (fun t => ?_)
           · by_cases e : t = m
             · subst e; exact hT.1
             · exact (hE.1 t (by omega)).1
           · rw [st2_row (by decide), st2_row (by decide), fx.1 65 (by decide) (by decide) (by decide)]; exact hL.2.2.2.2.2.2.2.2.2.2 t)
      · refine T_istore dX7_land_45 (by decide) ?_
        refine T_iload dX7_land_47 rfl ?_
        refine T_if_lt 62 dX7_land_49 (by decide) (by first | (unfold InR; omega) | (have := FT_bd hps; unfold InR; omega)) (fun hc49 => ?_) (fun hc49 => ?_)
        · refine T_aload_n dX7_land_62 rfl ?_
          refine T_iconst dX7_land_63 ?_
          refine T_putI dX7_land_64 flX7_112 rfl rfl ?_
          refine T_aload_n dX7_land_67 rfl ?_
          refine T_iconst dX7_land_68 ?_
          refine T_putI dX7_land_69 flX7_115 rfl rfl ?_
          refine T_iconst dX7_land_72 ?_
          refine T_istore dX7_land_73 (by decide) ?_
          first
          | (exfalso; have := FT_bd hps; omega)
          | (refine bars co (m + 1) D1 _ _ (fx.mk hL) (by omega) hI e12 (fun t ht => ?_) (fun D' lo => kk D1 D' m fx lo hE hT) 50 0 (st2 (st2 D1 57 1 0) 57 5 0) (by omega) (fun r a b => by rw [st2_row a, st2_row a]) (by rw [st2_ne (by decide), st2_at]) st2_at (fun j a b => by rw [st2_ne b, st2_ne a]) (fun t ht => by omega) (fun t => ?_)
             · by_cases e : t = m
               · subst e; exact hT.1
               · exact (hE.1 t (by omega)).1
             · rw [st2_row (by decide), st2_row (by decide), fx.1 65 (by decide) (by decide) (by decide)]; exact hL.2.2.2.2.2.2.2.2.2.2 t)
        · refine T_aload_n dX7_land_52 rfl ?_
          refine T_bipush dX7_land_53 (by decide) ?_
          refine T_iload dX7_land_55 rfl ?_
          refine T_isub dX7_land_57 ?_
          refine T_cV_1 dX7_land_58 lkX7_101 rfl (Nat.le_of_ble_eq_true rfl) (RO_r (by decide)) (Nat.le_of_ble_eq_true rfl) ?_
          refine r_refused ?_
          refine T_iret dX7_land_61 rfl ?_
          first
          | exact kU (by omega)
          | (have hc1 : ¬ (rwM D k l i n).1 = 0 := fun q => hc27 (by show 0 ≤ (rwM D k l i n).1; omega)
             rw [if_neg hc1]; exact kR h1 h2 hc1)
          | (exfalso; omega)
          | exact kF D1 m fx hE hT
    · refine T_iload dX7_land_30 rfl ?_
      refine T_iret dX7_land_32 rfl ?_
      first
      | exact kU (by omega)
      | (have hc1 : ¬ (rwM D k l i n).1 = 0 := fun q => hc27 (by show 0 ≤ (rwM D k l i n).1; omega)
         rw [if_neg hc1]; exact kR h1 h2 hc1)
      | (exfalso; omega)
      | exact kF D1 m fx hE hT
  · refine T_if_eq 13 dX7_land_4 (by decide) (by unfold InR; decide) (fun h => absurd h (by decide)) (fun _ => ?_)
    refine T_aload_n dX7_land_7 rfl ?_
    refine T_iconst dX7_land_8 ?_
    refine T_cV_1 dX7_land_9 lkX7_101 rfl (Nat.le_of_ble_eq_true rfl) (RO_r (by decide)) (Nat.le_of_ble_eq_true rfl) ?_
    refine r_refused ?_
    refine T_iret dX7_land_12 rfl ?_
    first
    | exact kU (by omega)
    | (have hc1 : ¬ (rwM D k l i n).1 = 0 := fun q => hc27 (by show 0 ≤ (rwM D k l i n).1; omega)
       rw [if_neg hc1]; exact kR h1 h2 hc1)
    | (exfalso; omega)
    | exact kF D1 m fx hE hT
end

