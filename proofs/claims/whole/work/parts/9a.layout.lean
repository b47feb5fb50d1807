theorem up1_rg {f : Nat → Int} {a b v : Int} {k : Nat} (h : ∀ j, a ≤ f j ∧ f j ≤ b) (hv : a ≤ v ∧ v ≤ b) : ∀ j, a ≤ up1 f k v j ∧ up1 f k v j ≤ b := by
  intro j
  by_cases e : j = k
  · subst e; rw [up1_at]; exact hv
  · rw [up1_ne e]; exact h j
/-- a home more, a church more -/
def addH (D : DD) (x y n : Int) : DD := st2 (st2 (st2 (st2 (st2 (st2 D 2 (D 1 8).toNat x) 3 (D 1 8).toNat y) 4 (D 1 8).toNat n) 5 (D 1 8).toNat 0) 1 8 (D 1 8 + 1)) 1 11 (D 1 11 + 1)
def addC (D : DD) (k x y n : Int) : DD := st2 (st2 (st2 (st2 (st2 (st2 D 6 (D 1 9).toNat k) 7 (D 1 9).toNat x) 8 (D 1 9).toNat y) 9 (D 1 9).toNat n) 1 9 (D 1 9 + 1)) 1 11 (D 1 11 + 1)
section
variable {D : DD} {k x y n : Int}
theorem addH_r : (∀ r, (r = 0 ∨ 5 < r) → addH D x y n r = D r) ∧ addH D x y n 2 = up1 (D 2) (D 1 8).toNat x ∧ addH D x y n 3 = up1 (D 3) (D 1 8).toNat y ∧ addH D x y n 4 = up1 (D 4) (D 1 8).toNat n ∧ addH D x y n 5 = up1 (D 5) (D 1 8).toNat 0 ∧ addH D x y n 1 8 = D 1 8 + 1 ∧ addH D x y n 1 9 = D 1 9 ∧ addH D x y n 1 10 = D 1 10 ∧ addH D x y n 1 11 = D 1 11 + 1 := by
  unfold addH
  refine ⟨fun r hr => ?_, ?_, ?_, ?_, ?_, ?_, ?_, ?_, ?_⟩
  · rw [st2_row (by omega), st2_row (by omega), st2_row (by omega), st2_row (by omega), st2_row (by omega), st2_row (by omega)]
  · rw [st2_row (by decide), st2_row (by decide), st2_row (by decide), st2_row (by decide), st2_row (by decide), st2_up]
  · rw [st2_row (by decide), st2_row (by decide), st2_row (by decide), st2_row (by decide), st2_up, st2_row (by decide)]
  · rw [st2_row (by decide), st2_row (by decide), st2_row (by decide), st2_up, st2_row (by decide), st2_row (by decide)]
  · rw [st2_row (by decide), st2_row (by decide), st2_up, st2_row (by decide), st2_row (by decide), st2_row (by decide)]
  · rw [st2_ne (by decide), st2_at]
  · rw [st2_ne (by decide), st2_ne (by decide), st2_row (by decide), st2_row (by decide), st2_row (by decide), st2_row (by decide)]
  · rw [st2_ne (by decide), st2_ne (by decide), st2_row (by decide), st2_row (by decide), st2_row (by decide), st2_row (by decide)]
  · rw [st2_at]
theorem addC_r : (∀ r, (r = 0 ∨ (1 < r ∧ r < 6) ∨ 9 < r) → addC D k x y n r = D r) ∧ addC D k x y n 6 = up1 (D 6) (D 1 9).toNat k ∧ addC D k x y n 7 = up1 (D 7) (D 1 9).toNat x ∧ addC D k x y n 8 = up1 (D 8) (D 1 9).toNat y ∧ addC D k x y n 9 = up1 (D 9) (D 1 9).toNat n ∧ addC D k x y n 1 8 = D 1 8 ∧ addC D k x y n 1 9 = D 1 9 + 1 ∧ addC D k x y n 1 10 = D 1 10 ∧ addC D k x y n 1 11 = D 1 11 + 1 := by
  unfold addC
  refine ⟨fun r hr => ?_, ?_, ?_, ?_, ?_, ?_, ?_, ?_, ?_⟩
  · rw [st2_row (by omega), st2_row (by omega), st2_row (by omega), st2_row (by omega), st2_row (by omega), st2_row (by omega)]
  · rw [st2_row (by decide), st2_row (by decide), st2_row (by decide), st2_row (by decide), st2_row (by decide), st2_up]
  · rw [st2_row (by decide), st2_row (by decide), st2_row (by decide), st2_row (by decide), st2_up, st2_row (by decide)]
  · rw [st2_row (by decide), st2_row (by decide), st2_row (by decide), st2_up, st2_row (by decide), st2_row (by decide)]
  · rw [st2_row (by decide), st2_row (by decide), st2_up, st2_row (by decide), st2_row (by decide), st2_row (by decide)]
  · rw [st2_ne (by decide), st2_ne (by decide), st2_row (by decide), st2_row (by decide), st2_row (by decide), st2_row (by decide)]
  · rw [st2_ne (by decide), st2_at]
  · rw [st2_ne (by decide), st2_ne (by decide), st2_row (by decide), st2_row (by decide), st2_row (by decide), st2_row (by decide)]
  · rw [st2_at]
theorem addH_LK (hL : LK D) (h1 : D 1 8 < 10) (h2 : D 1 11 < 1000000) (hx : 0 ≤ x ∧ x ≤ 60) (hy : 0 ≤ y ∧ y ≤ 60) (hn : 0 ≤ n ∧ n ≤ 5) : LK (addH D x y n) := by
  obtain ⟨a1, a2, a3, a4, a5, a6, a7, a8, a9, a10, a11, a12⟩ := hL
  obtain ⟨b0, b2, b3, b4, b5, b8, b9, b10, b11⟩ := addH_r (D := D) (x := x) (y := y) (n := n)
  unfold LK
  rw [b0 6 (by omega), b0 7 (by omega), b0 8 (by omega), b0 9 (by omega), b2, b3, b4, b5, b8, b9, b10, b11]
  exact ⟨by omega, a2, a3, by omega, up1_rg a5 hx, up1_rg a6 hy, up1_rg a7 hn, up1_rg a8 (by omega), a9, a10, a11, a12⟩
theorem addC_LK (hL : LK D) (h1 : D 1 9 < 5) (h2 : D 1 11 < 1000000) (hk : 0 ≤ k ∧ k ≤ 2) (hx : 0 ≤ x ∧ x ≤ 60) (hy : 0 ≤ y ∧ y ≤ 60) (hn : 0 ≤ n ∧ n ≤ 50) : LK (addC D k x y n) := by
  obtain ⟨a1, a2, a3, a4, a5, a6, a7, a8, a9, a10, a11, a12⟩ := hL
  obtain ⟨b0, b2, b3, b4, b5, b8, b9, b10, b11⟩ := addC_r (D := D) (k := k) (x := x) (y := y) (n := n)
  unfold LK
  rw [b0 2 (by omega), b0 3 (by omega), b0 4 (by omega), b0 5 (by omega), b2, b3, b4, b5, b8, b9, b10, b11]
  exact ⟨a1, by omega, a3, by omega, a5, a6, a7, a8, up1_rg a9 hk, up1_rg a10 hx, up1_rg a11 hy, up1_rg a12 hn⟩
end
/-- what an item may hold -/
theorem item_rg {co : Nat → Int} {t : Nat} (h : fT co t = -1) : (0 ≤ xT co t ∧ xT co t ≤ 60) ∧ (0 ≤ yT co t ∧ yT co t ≤ 60) ∧ (kT co t = 3 → 1 ≤ nT co t ∧ nT co t ≤ 5) ∧ (kT co t ≠ 3 → (0 ≤ kT co t ∧ kT co t ≤ 2) ∧ 0 ≤ nT co t ∧ nT co t ≤ 50) := by
  obtain ⟨a, b, c, e⟩ := itF_ok h
  refine ⟨⟨b.2.1, b.2.2⟩, ⟨c.2.1, c.2.2⟩, fun k => ?_, fun k => ?_⟩
  · have k' : kdR (co (psT co t)) = 3 := k
    unfold loT hiT at e
    rw [if_pos k', if_pos k'] at e
    exact ⟨e.2.1, e.2.2⟩
  · have k' : ¬ kdR (co (psT co t)) = 3 := k
    unfold loT hiT at e
    rw [if_neg k', if_neg k'] at e
    unfold kOk at a
    exact ⟨by unfold kT; omega, e.2.1, e.2.2⟩
section
variable {co : Nat → Int} {t : Nat} {hx hy hd kd cx cy se : Nat → Int}
theorem Laid.home (h : Laid co t hx hy hd kd cx cy se) (hk : kT co t = 3) : Laid co (t + 1) (up1 hx (hcT co t) (xT co t)) (up1 hy (hcT co t) (yT co t)) (up1 hd (hcT co t) (nT co t)) kd cx cy se := by
  intro s hs
  by_cases e : s = t
  · subst e
    exact ⟨fun _ => ⟨up1_at, up1_at, up1_at⟩, fun z => absurd hk z⟩
  · have o := h s (by omega)
    refine ⟨fun z => ?_, o.2⟩
    have lt : hcT co s < hcT co t := by
      have m : ∀ a b, a ≤ b → hcT co a ≤ hcT co b := by
        intro a b hab
        induction b with
        | zero => obtain rfl : a = 0 := by omega
                  exact Nat.le_refl _
        | succ b ih =>
          by_cases q : a = b + 1
          · subst q; exact Nat.le_refl _
          · have := ih (by omega); simp only [hcT]; omega
      have := m (s + 1) t (by omega)
      simp only [hcT] at this
      rw [if_pos z] at this
      omega
    rw [up1_ne (by omega), up1_ne (by omega), up1_ne (by omega)]
    exact o.1 z
theorem Laid.church (h : Laid co t hx hy hd kd cx cy se) (hk : kT co t ≠ 3) : Laid co (t + 1) hx hy hd (up1 kd (t - hcT co t) (kT co t)) (up1 cx (t - hcT co t) (xT co t)) (up1 cy (t - hcT co t) (yT co t)) (up1 se (t - hcT co t) (nT co t)) := by
  intro s hs
  by_cases e : s = t
  · subst e
    exact ⟨fun z => absurd z hk, fun _ => ⟨up1_at, up1_at, up1_at, up1_at⟩⟩
  · have o := h s (by omega)
    refine ⟨o.1, fun z => ?_⟩
    have lt : s - hcT co s < t - hcT co t := by
      have m : ∀ b a, a ≤ b → a - hcT co a ≤ b - hcT co b := by
        intro b
        induction b with
        | zero => intro a hab; obtain rfl : a = 0 := by omega
                  exact Nat.le_refl _
        | succ b ih =>
          intro a hab
          by_cases q : a = b + 1
          · subst q; exact Nat.le_refl _
          · have i := ih a (by omega)
            have l := hcT_le co b
            simp only [hcT]
            split <;> omega
      have := m t (s + 1) (by omega)
      have l := hcT_le co s
      simp only [hcT] at this
      rw [if_neg z] at this
      omega
    rw [up1_ne (by omega), up1_ne (by omega), up1_ne (by omega), up1_ne (by omega)]
    exact o.2 z
end
/-- t items of the text have been laid out -/
def LoC (D D1 : DD) (co : Nat → Int) (t : Nat) : Prop := (∀ r, (r = 0 ∨ 9 < r) → D1 r = D r) ∧ LK D1 ∧ D1 1 8 = hcT co t ∧ D1 1 9 = ((t - hcT co t : Nat) : Int) ∧ D1 1 10 = D 1 10 ∧ D1 1 11 = D 1 11 + 1 + t ∧ Laid co t (D1 2) (D1 3) (D1 4) (D1 6) (D1 7) (D1 8) (D1 9) ∧ ∀ h, h < hcT co t → D1 5 h = 0 ∧ 1 ≤ D1 4 h
section
variable {g : G0} {d : Nat} {P : Option Value → List SC → DD → Prop} {D : DD} {co : Nat → Int}
theorem c_layOut {m : Nat} (hm : m ≤ 12) (hL : LK D) (hch : D 1 11 ≤ 999000) (hf : ∀ t, t < m → fT co t = -1) (hI : ItsC D co m) (hk : ∀ D' : DD, LoC D D' co m → P none SH D') : TM g mX2_layOut (d + 1) P [.ref 10, .ref 1, iI m] D := by
  have loop : ∀ (q t : Nat) (D1 : DD), q + t = m → LoC D D1 co t → T g mX2_layOut (rmd (d + 1) 0 0) 0 0 (Qm g (rmd (d + 1) 0 0) P) 6 [some (.ref 10), some (.ref 1), some (iI m), some (iI t)] [] SH D1 := by
    intro q
    induction q with
    | zero =>
      intro t D1 hq hI1
      obtain rfl : t = m := by omega
      refine T_iload_n dX2_layOut_6 rfl ?_
      refine T_iload_n dX2_layOut_7 rfl ?_
      refine T_icmp_ge 88 dX2_layOut_8 (by decide) (by first | (unfold InR; omega) | (simp [st2, InR]; omega)) (by first | (unfold InR; omega) | (simp [st2, InR]; omega)) (fun hc8 => ?_) (fun hc8 => (by exfalso; omega))
      refine T_vret dX2_layOut_88 rfl ?_
      exact hk D1 hI1
    | succ q ih =>
      intro t D1 hq hI1
      obtain ⟨a1, a2, a3, a4, a5, a6, a7, a8⟩ := hI1
      have et : (t : Int).toNat = t := Int.toNat_natCast t
      obtain ⟨i1, i2, i3, i4⟩ := hI t (by omega)
      obtain ⟨r1, r2, r3, r4⟩ := item_rg (hf t (by omega))
      have hcb := hcT_bd (co := co) (t + 1) (fun j hj => hf j (by omega))
      have hl := hcT_le co t
      obtain ⟨c1, c2, c3, c4, c5⟩ := kC_eq (co (psT co t))
      have e11 : D1 11 (t : Int).toNat = kC (co (psT co t)) := by rw [et, a1 11 (by omega)]; exact i1
      have e12 : D1 12 (t : Int).toNat = xT co t := by rw [et, a1 12 (by omega)]; exact i2
      have e13 : D1 13 (t : Int).toNat = yT co t := by rw [et, a1 13 (by omega)]; exact i3
      have e14 : D1 14 (t : Int).toNat = nT co t := by rw [et, a1 14 (by omega)]; exact i4
      have n8 : (D1 1 8).toNat = hcT co t := by omega
      have n9 : (D1 1 9).toNat = t - hcT co t := by omega
      simp only [hcT] at hcb
      refine T_iload_n dX2_layOut_6 rfl ?_
      refine T_iload_n dX2_layOut_7 rfl ?_
      refine T_icmp_ge 88 dX2_layOut_8 (by decide) (by first | (unfold InR; omega) | (simp [st2, InR]; omega)) (by first | (unfold InR; omega) | (simp [st2, InR]; omega)) (fun hc8 => (by exfalso; omega)) (fun hc8 => ?_)
      refine T_iload_n dX2_layOut_11 rfl ?_
      refine T_bipush dX2_layOut_12 (by decide) ?_
      refine T_icmp_ge 88 dX2_layOut_14 (by decide) (by first | (unfold InR; omega) | (simp [st2, InR]; omega)) (by first | (unfold InR; omega) | (simp [st2, InR]; omega)) (fun hc14 => (by exfalso; omega)) (fun hc14 => ?_)
      refine T_aload_n dX2_layOut_17 rfl ?_
      refine T_getR dX2_layOut_18 flX2_9 rfl rfl ?_
      refine T_iload_n dX2_layOut_21 rfl ?_
      refine T_iald dX2_layOut_22 rfl (by first | decide | omega) (by first | omega | (simp [st2]; omega)) (by first | omega | (simp [st2]; omega)) ?_
      refine T_iconst dX2_layOut_23 ?_
      refine T_icmp_ne 53 dX2_layOut_24 (by decide) (by rw [e11]; unfold InR; omega) (by first | (unfold InR; omega) | (simp [st2, InR]; omega)) (fun hc24 => ?_) (fun hc24 => ?_)
      · rw [e11] at hc24
        have k3 : kT co t ≠ 3 := by unfold kT; omega
        rw [if_neg k3] at hcb
        have ke : kC (co (psT co t)) = kT co t := by have := (r4 k3).1; unfold kT at this ⊢; omega
        refine T_aload_n dX2_layOut_53 rfl ?_
        refine T_aload_n dX2_layOut_54 rfl ?_
        refine T_getR dX2_layOut_55 flX2_9 rfl rfl ?_
        refine T_iload_n dX2_layOut_58 rfl ?_
        refine T_iald dX2_layOut_59 rfl (by first | decide | omega) (by first | omega | (simp [st2]; omega)) (by first | omega | (simp [st2]; omega)) ?_
        refine T_aload_n dX2_layOut_60 rfl ?_
        refine T_getR dX2_layOut_61 flX2_15 rfl rfl ?_
        refine T_iload_n dX2_layOut_64 rfl ?_
        refine T_iald dX2_layOut_65 rfl (by first | decide | omega) (by first | omega | (simp [st2]; omega)) (by first | omega | (simp [st2]; omega)) ?_
        refine T_aload_n dX2_layOut_66 rfl ?_
        refine T_getR dX2_layOut_67 flX2_18 rfl rfl ?_
        refine T_iload_n dX2_layOut_70 rfl ?_
        refine T_iald dX2_layOut_71 rfl (by first | decide | omega) (by first | omega | (simp [st2]; omega)) (by first | omega | (simp [st2]; omega)) ?_
        refine T_aload_n dX2_layOut_72 rfl ?_
        refine T_getR dX2_layOut_73 flX2_21 rfl rfl ?_
        refine T_iload_n dX2_layOut_76 rfl ?_
        refine T_iald dX2_layOut_77 rfl (by first | decide | omega) (by first | omega | (simp [st2]; omega)) (by first | omega | (simp [st2]; omega)) ?_
        refine T_cV_4 dX2_layOut_78 lkX2_73 rfl (Nat.le_of_ble_eq_true rfl) (RO_r (by decide)) (Nat.le_of_ble_eq_true rfl) ?_
        refine c_addChurch (by omega) ?_
        refine T_pop dX2_layOut_81 rfl ?_
        refine T_iinc dX2_layOut_82 rfl (by decide) ?_
        refine T_goto (tgt := 6) dX2_layOut_85 (by decide) ?_
        first
        | (rw [e11, e12, e13, e14, ke]
           show T _ _ _ _ _ _ _ _ _ _ (addC D1 (kT co t) (xT co t) (yT co t) (nT co t))
           obtain ⟨b0, b2, b3, b4, b5, b8, b9, b10, b11⟩ := addC_r (D := D1) (k := kT co t) (x := xT co t) (y := yT co t) (n := nT co t)
           refine ih (t + 1) _ (by omega) ⟨fun r hr => by rw [b0 r (by omega)]; exact a1 r hr, addC_LK a2 (by omega) (by omega) (r4 k3).1 r1 r2 (r4 k3).2, ?_, ?_, by rw [b10]; exact a5, by rw [b11, a6]; omega, ?_, fun h hh => ?_⟩
           · rw [b8, a3]; simp only [hcT]; rw [if_neg k3]; rfl
           · rw [b9, a4]; simp only [hcT]; rw [if_neg k3]; omega
           · rw [b0 2 (by omega), b0 3 (by omega), b0 4 (by omega), b2, b3, b4, b5, n9]; exact a7.church k3
           · rw [b0 4 (by omega), b0 5 (by omega)]; simp only [hcT] at hh; rw [if_neg k3] at hh; exact a8 h hh)
        | (rw [e12, e13, e14]
           show T _ _ _ _ _ _ _ _ _ _ (addH D1 (xT co t) (yT co t) (nT co t))
           obtain ⟨b0, b2, b3, b4, b5, b8, b9, b10, b11⟩ := addH_r (D := D1) (x := xT co t) (y := yT co t) (n := nT co t)
           refine ih (t + 1) _ (by omega) ⟨fun r hr => by rw [b0 r (by omega)]; exact a1 r hr, addH_LK a2 (by omega) (by omega) r1 r2 (by have := r3 k3; omega), ?_, ?_, by rw [b10]; exact a5, by rw [b11, a6]; omega, ?_, fun h hh => ?_⟩
           · rw [b8, a3]; simp only [hcT]; rw [if_pos k3]; omega
           · rw [b9, a4]; simp only [hcT]; rw [if_pos k3]; omega
           · rw [b0 6 (by omega), b0 7 (by omega), b0 8 (by omega), b0 9 (by omega), b2, b3, b4, n8]; exact a7.home k3
           · rw [b4, b5, n8]
             simp only [hcT] at hh
             rw [if_pos k3] at hh
             by_cases e : h = hcT co t
             · subst e; rw [up1_at, up1_at]; exact ⟨rfl, (r3 k3).1⟩
             · rw [up1_ne e, up1_ne e]; exact a8 h (by omega))
      · rw [e11] at hc24
        have k3 : kT co t = 3 := by unfold kT; omega
        rw [if_pos k3] at hcb
        refine T_aload_n dX2_layOut_27 rfl ?_
        refine T_aload_n dX2_layOut_28 rfl ?_
        refine T_getR dX2_layOut_29 flX2_15 rfl rfl ?_
        refine T_iload_n dX2_layOut_32 rfl ?_
        refine T_iald dX2_layOut_33 rfl (by first | decide | omega) (by first | omega | (simp [st2]; omega)) (by first | omega | (simp [st2]; omega)) ?_
        refine T_aload_n dX2_layOut_34 rfl ?_
        refine T_getR dX2_layOut_35 flX2_18 rfl rfl ?_
        refine T_iload_n dX2_layOut_38 rfl ?_
        refine T_iald dX2_layOut_39 rfl (by first | decide | omega) (by first | omega | (simp [st2]; omega)) (by first | omega | (simp [st2]; omega)) ?_
        refine T_aload_n dX2_layOut_40 rfl ?_
        refine T_getR dX2_layOut_41 flX2_21 rfl rfl ?_
        refine T_iload_n dX2_layOut_44 rfl ?_
        refine T_iald dX2_layOut_45 rfl (by first | decide | omega) (by first | omega | (simp [st2]; omega)) (by first | omega | (simp [st2]; omega)) ?_
        refine T_cV_3 dX2_layOut_46 lkX2_69 rfl (Nat.le_of_ble_eq_true rfl) (RO_r (by decide)) (Nat.le_of_ble_eq_true rfl) ?_
        refine c_addHome (by omega) ?_
        refine T_pop dX2_layOut_49 rfl ?_
        refine T_goto (tgt := 82) dX2_layOut_50 (by decide) ?_
        refine T_iinc dX2_layOut_82 rfl (by decide) ?_
        refine T_goto (tgt := 6) dX2_layOut_85 (by decide) ?_
        first
        | (rw [e11, e12, e13, e14, ke]
           show T _ _ _ _ _ _ _ _ _ _ (addC D1 (kT co t) (xT co t) (yT co t) (nT co t))
           obtain ⟨b0, b2, b3, b4, b5, b8, b9, b10, b11⟩ := addC_r (D := D1) (k := kT co t) (x := xT co t) (y := yT co t) (n := nT co t)
           refine ih (t + 1) _ (by omega) ⟨fun r hr => by rw [b0 r (by omega)]; exact a1 r hr, addC_LK a2 (by omega) (by omega) (r4 k3).1 r1 r2 (r4 k3).2, ?_, ?_, by rw [b10]; exact a5, by rw [b11, a6]; omega, ?_, fun h hh => ?_⟩
           · rw [b8, a3]; simp only [hcT]; rw [if_neg k3]; rfl
           · rw [b9, a4]; simp only [hcT]; rw [if_neg k3]; omega
           · rw [b0 2 (by omega), b0 3 (by omega), b0 4 (by omega), b2, b3, b4, b5, n9]; exact a7.church k3
           · rw [b0 4 (by omega), b0 5 (by omega)]; simp only [hcT] at hh; rw [if_neg k3] at hh; exact a8 h hh)
        | (rw [e12, e13, e14]
           show T _ _ _ _ _ _ _ _ _ _ (addH D1 (xT co t) (yT co t) (nT co t))
           obtain ⟨b0, b2, b3, b4, b5, b8, b9, b10, b11⟩ := addH_r (D := D1) (x := xT co t) (y := yT co t) (n := nT co t)
           refine ih (t + 1) _ (by omega) ⟨fun r hr => by rw [b0 r (by omega)]; exact a1 r hr, addH_LK a2 (by omega) (by omega) r1 r2 (by have := r3 k3; omega), ?_, ?_, by rw [b10]; exact a5, by rw [b11, a6]; omega, ?_, fun h hh => ?_⟩
           · rw [b8, a3]; simp only [hcT]; rw [if_pos k3]; omega
           · rw [b9, a4]; simp only [hcT]; rw [if_pos k3]; omega
           · rw [b0 6 (by omega), b0 7 (by omega), b0 8 (by omega), b0 9 (by omega), b2, b3, b4, n8]; exact a7.home k3
           · rw [b4, b5, n8]
             simp only [hcT] at hh
             rw [if_pos k3] at hh
             by_cases e : h = hcT co t
             · subst e; rw [up1_at, up1_at]; exact ⟨rfl, (r3 k3).1⟩
             · rw [up1_ne e, up1_ne e]; exact a8 h (by omega))
  refine T_aload_n dX2_layOut_0 rfl ?_
  refine T_cV_0 dX2_layOut_1 lkX2_64 rfl (Nat.le_of_ble_eq_true rfl) (RO_r (by decide)) (Nat.le_of_ble_eq_true rfl) ?_
  refine c_empty ?_
  refine T_iconst dX2_layOut_4 ?_
  refine T_istore_n dX2_layOut_5 (by decide) ?_
  refine loop m 0 _ (by omega) ⟨fun r hr => by rw [st2_row (by omega), st2_row (by omega), st2_row (by omega)], ?_, ?_, ?_, ?_, ?_, fun t ht => by omega, fun h hh => by simp [hcT] at hh⟩
  · obtain ⟨a1, a2, a3, a4, a5, a6, a7, a8, a9, a10, a11, a12⟩ := hL
    unfold LK
    refine ⟨?_, ?_, ?_, ?_, a5, a6, a7, a8, a9, a10, a11, a12⟩
    · rw [st2_ne (by decide), st2_ne (by decide), st2_at]; omega
    · rw [st2_ne (by decide), st2_at]; omega
    · rw [st2_ne (by decide), st2_ne (by decide), st2_ne (by decide)]; exact a3
    · rw [st2_at]; omega
  · rw [st2_ne (by decide), st2_ne (by decide), st2_at]; rfl
  · rw [st2_ne (by decide), st2_at]; rfl
  · rw [st2_ne (by decide), st2_ne (by decide), st2_ne (by decide)]
  · rw [st2_at]; omega
end

