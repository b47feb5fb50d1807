theorem sm_mono {f : Nat → Int} {k : Nat} : ∀ n : Nat, (∀ j, j < n → 0 ≤ f j) → k ≤ n → sm k f ≤ sm n f
  | 0, _, hk => by rw [Nat.le_zero.mp hk]; exact Int.le_refl _
  | n + 1, h, hk => by
    by_cases e : k = n + 1
    · rw [e]; exact Int.le_refl _
    · have h1 := sm_mono n (fun j hj => h j (by omega)) (show k ≤ n by omega)
      have h2 := h n (by omega)
      simp only [sm]
      omega
def HomeG (C : Nat) (x : Nat → Int) (br : Nat → Prop) (hd : Int) : Prop := (∀ c, c < C → 0 ≤ x c ∧ (0 < x c → ¬ br c)) ∧ sm C x = hd
def NumG (H : Nat) (x : Nat → Int) (se y : Int) : Prop := sm H x ≤ se ∧ 0 ≤ y ∧ y ≤ 1000000000 ∧ (sm H x = se ∨ y = 0)
def LeastG (C : Nat) (x : Nat → Int) (br : Nat → Prop) (fy : Nat → Int) : Prop := ∀ c, c < C → 0 < x c → ¬ br c → ∀ c', c' < C → ¬ br c' → fy c ≤ fy c'
/-- a PROOF holds -/
def PfG (H C : Nat) (hd se : Nat → Int) (br : Nat → Nat → Prop) (far x : Nat → Nat → Int) (y : Nat → Int) : Prop := (∀ h, h < H → HomeG C (x h) (br h) (hd h)) ∧ (∀ c, c < C → NumG H (fun h => x h c) (se c) (y c)) ∧ ∀ h, h < H → LeastG C (x h) (br h) (fun c => far h c + y c)
theorem sq_bd {a : Int} (h0 : 0 ≤ a) (h1 : a ≤ 60) : 0 ≤ a * a ∧ a * a ≤ 3600 := by
  refine ⟨Int.mul_nonneg h0 h0, ?_⟩
  have h2 : a * a ≤ 60 * a := Int.mul_le_mul_of_nonneg_right h1 h0
  omega
theorem ab_bd {x y : Int} (hx : 0 ≤ x ∧ x ≤ 60) (hy : 0 ≤ y ∧ y ≤ 60) : 0 ≤ ab (x - y) ∧ ab (x - y) ≤ 60 := by unfold ab; split <;> omega
theorem farK_bd {kd x y tx ty toll : Int} (hx : 0 ≤ x ∧ x ≤ 60) (hy : 0 ≤ y ∧ y ≤ 60) (htx : 0 ≤ tx ∧ tx ≤ 60) (hty : 0 ≤ ty ∧ ty ≤ 60) (ht : 0 ≤ toll ∧ toll ≤ 999) : 0 ≤ farK kd x y tx ty toll ∧ farK kd x y tx ty toll ≤ 7200 := by
  have h1 := ab_bd hx htx
  have h2 := ab_bd hy hty
  have h3 := sq_bd h1.1 h1.2
  have h4 := sq_bd h2.1 h2.2
  unfold farK
  split
  · omega
  · split <;> omega
def farC (D : DD) (h c : Nat) : Int := farK (D 6 c) (D 2 h) (D 3 h) (D 7 c) (D 8 c) (D 1 10)
theorem farC_bd {D : DD} (hL : LK D) (h c : Nat) : 0 ≤ farC D h c ∧ farC D h c ≤ 7200 := farK_bd (hL.2.2.2.2.1 h) (hL.2.2.2.2.2.1 h) (hL.2.2.2.2.2.2.2.2.2.1 c) (hL.2.2.2.2.2.2.2.2.2.2.1 c) hL.2.2.1
section
variable {g : G0} {d : Nat} {P : Option Value → List SC → DD → Prop} {D : DD}
theorem c_allOfHomeGo {b h : Nat} {row : Int} (hL : LK D) (hb : SH[b]? = some (1, 80, [])) (hI : ∀ j, InR (D b j)) (hh : h < 10) (hr : 0 ≤ row ∧ row + D 1 9 ≤ 80) (k1 : HomeG (D 1 9).toNat (fun c => D b (row + c).toNat) (fun c => bit (D 5 h) c) (D 4 h) → P (some (iI 1)) SH D) (k0 : ¬ HomeG (D 1 9).toNat (fun c => D b (row + c).toNat) (fun c => bit (D 5 h) c) (D 4 h) → P (some (iI 0)) SH D) : TM g mX1_allOfHomeGo (d + 1) P [.ref 1, iI h, .ref b, iI row] D := by
  have hM := hL.2.1
  have hhd := hL.2.2.2.2.2.2.1 h
  have loop : ∀ (q c : Nat) (m : Option Value), q + c = (D 1 9).toNat → 0 ≤ D 4 h - sm c (fun c => D b (row + c).toNat) → sm c (fun c => D b (row + c).toNat) ≥ 0 → (∀ j, j < c → 0 ≤ D b (row + j).toNat ∧ (0 < D b (row + j).toNat → ¬ bit (D 5 h) j)) → T g mX1_allOfHomeGo (rmd (d + 1) 0 0) 0 0 (Qm g (rmd (d + 1) 0 0) P) 11 [some (.ref 1), some (iI h), some (.ref b), some (iI row), some (iI (D 4 h - sm c (fun c => D b (row + c).toNat))), some (iI c), m] [] SH D := by
    intro q
    induction q with
    | zero =>
      intro c m hq h1 h2 h3
      obtain rfl : c = (D 1 9).toNat := by omega
      refine T_iload dX1_allOfHomeGo_11 rfl ?_
      refine T_aload_n dX1_allOfHomeGo_13 rfl ?_
      refine T_getI dX1_allOfHomeGo_14 flX1_43 rfl rfl ?_
      refine T_icmp_ge 70 dX1_allOfHomeGo_17 (by decide) (by first | (unfold InR; omega) | (simp [st2, InR]; omega)) (by first | (unfold InR; omega) | (simp [st2, InR]; omega)) (fun hc17 => ?_) (fun hc17 => (by exfalso; omega))
      refine T_iload dX1_allOfHomeGo_70 rfl ?_
      refine T_if_ne 79 dX1_allOfHomeGo_72 (by decide) (by first | (unfold InR; omega) | (simp [st2, InR]; omega)) (fun hc72 => ?_) (fun hc72 => ?_)
      · refine T_iconst dX1_allOfHomeGo_79 ?_
        refine T_zret dX1_allOfHomeGo_80 rfl (by decide) ?_
        first | exact k1 ⟨h3, by omega⟩ | exact k0 (fun q => by have := q.2; omega)
      · refine T_iconst dX1_allOfHomeGo_75 ?_
        refine T_goto (tgt := 80) dX1_allOfHomeGo_76 (by decide) ?_
        refine T_zret dX1_allOfHomeGo_80 rfl (by decide) ?_
        first | exact k1 ⟨h3, by omega⟩ | exact k0 (fun q => by have := q.2; omega)
    | succ q ih =>
      intro c m hq h1 h2 h3
      have hgo := hI (row + c).toNat
      unfold InR at hgo
      have es : sm (c + 1) (fun c => D b (row + c).toNat) = sm c (fun c => D b (row + c).toNat) + D b (row + c).toNat := rfl
      have bad : ¬ (0 ≤ D b (row + c).toNat ∧ D b (row + c).toNat ≤ D 4 h - sm c (fun c => D b (row + c).toNat) ∧ (0 < D b (row + c).toNat → ¬ bit (D 5 h) c)) → ¬ HomeG (D 1 9).toNat (fun c => D b (row + c).toNat) (fun c => bit (D 5 h) c) (D 4 h) := by
        intro a q
        have g1 := q.1 c (by omega)
        have g2 := sm_mono (k := c + 1) (D 1 9).toNat (fun j hj => (q.1 j hj).1) (by omega)
        rw [q.2, es] at g2
        exact a ⟨g1.1, by omega, g1.2⟩
      refine T_iload dX1_allOfHomeGo_11 rfl ?_
      refine T_aload_n dX1_allOfHomeGo_13 rfl ?_
      refine T_getI dX1_allOfHomeGo_14 flX1_43 rfl rfl ?_
      refine T_icmp_ge 70 dX1_allOfHomeGo_17 (by decide) (by first | (unfold InR; omega) | (simp [st2, InR]; omega)) (by first | (unfold InR; omega) | (simp [st2, InR]; omega)) (fun hc17 => (by exfalso; omega)) (fun hc17 => ?_)
      refine T_aload_n dX1_allOfHomeGo_20 rfl ?_
      refine T_iload_n dX1_allOfHomeGo_21 rfl ?_
      refine T_iload dX1_allOfHomeGo_22 rfl ?_
      refine T_iadd dX1_allOfHomeGo_24 ?_
      refine T_iald dX1_allOfHomeGo_25 hb (by first | decide | omega) (by first | omega | (simp [st2]; omega)) (by first | omega | (simp [st2]; omega)) ?_
      refine T_istore dX1_allOfHomeGo_26 (by decide) ?_
      refine T_iload dX1_allOfHomeGo_28 rfl ?_
      refine T_if_lt 55 dX1_allOfHomeGo_30 (by decide) (by first | (unfold InR; omega) | (simp [st2, InR]; omega)) (fun hc30 => ?_) (fun hc30 => ?_)
      · refine T_iconst dX1_allOfHomeGo_55 ?_
        refine T_zret dX1_allOfHomeGo_56 rfl (by decide) ?_
        first | exact k0 (bad (fun q => by omega)) | exact k0 (bad (fun q => q.2.2 (by omega) h4))
      · refine T_iload dX1_allOfHomeGo_33 rfl ?_
        refine T_iload dX1_allOfHomeGo_35 rfl ?_
        refine T_icmp_gt 55 dX1_allOfHomeGo_37 (by decide) (by first | (unfold InR; omega) | (simp [st2, InR]; omega)) (by first | (unfold InR; omega) | (simp [st2, InR]; omega)) (fun hc37 => ?_) (fun hc37 => ?_)
        · refine T_iconst dX1_allOfHomeGo_55 ?_
          refine T_zret dX1_allOfHomeGo_56 rfl (by decide) ?_
          first | exact k0 (bad (fun q => by omega)) | exact k0 (bad (fun q => q.2.2 (by omega) h4))
        · refine T_iload dX1_allOfHomeGo_40 rfl ?_
          refine T_if_le 57 dX1_allOfHomeGo_42 (by decide) (by first | (unfold InR; omega) | (simp [st2, InR]; omega)) (fun hc42 => ?_) (fun hc42 => ?_)
          · refine T_iload dX1_allOfHomeGo_57 rfl ?_
            refine T_iload dX1_allOfHomeGo_59 rfl ?_
            refine T_isub dX1_allOfHomeGo_61 ?_
            refine T_istore dX1_allOfHomeGo_62 (by decide) ?_
            refine T_iinc dX1_allOfHomeGo_64 rfl (by decide) ?_
            refine T_goto (tgt := 11) dX1_allOfHomeGo_67 (by decide) ?_
            have ih := ih (c + 1) (some (iI (D b (row + c).toNat))) (by omega) (by rw [es]; omega) (by rw [es]; omega) (fun j hj => by
              by_cases hjc : j = c
              · subst hjc; exact ⟨by omega, fun q => by first | exact h4 | (exfalso; omega)⟩
              · exact h3 j (by omega))
            rw [es, ← Int.sub_sub] at ih
            exact ih
          · refine T_aload_n dX1_allOfHomeGo_45 rfl ?_
            refine T_iload_n dX1_allOfHomeGo_46 rfl ?_
            refine T_iload dX1_allOfHomeGo_47 rfl ?_
            refine T_cV_2 dX1_allOfHomeGo_49 lkX1_70 rfl (Nat.le_of_ble_eq_true rfl) (RO_r (by decide)) (Nat.le_of_ble_eq_true rfl) ?_
            have e0 : (↑h : Int).toNat = h := Int.toNat_natCast h
            refine c_isBarred ⟨by omega, by omega⟩ (fun h4 => ?_) (fun h4 => ?_) <;> rw [e0] at h4
            · refine T_if_eq 57 dX1_allOfHomeGo_52 (by decide) (by unfold InR; decide) (fun h => absurd h (by decide)) (fun _ => ?_)
              refine T_iconst dX1_allOfHomeGo_55 ?_
              refine T_zret dX1_allOfHomeGo_56 rfl (by decide) ?_
              first | exact k0 (bad (fun q => by omega)) | exact k0 (bad (fun q => q.2.2 (by omega) h4))
            · refine T_if_eq 57 dX1_allOfHomeGo_52 (by decide) (by unfold InR; decide) (fun _ => ?_) (fun h => absurd (by decide) h)
              refine T_iload dX1_allOfHomeGo_57 rfl ?_
              refine T_iload dX1_allOfHomeGo_59 rfl ?_
              refine T_isub dX1_allOfHomeGo_61 ?_
              refine T_istore dX1_allOfHomeGo_62 (by decide) ?_
              refine T_iinc dX1_allOfHomeGo_64 rfl (by decide) ?_
              refine T_goto (tgt := 11) dX1_allOfHomeGo_67 (by decide) ?_
              have ih := ih (c + 1) (some (iI (D b (row + c).toNat))) (by omega) (by rw [es]; omega) (by rw [es]; omega) (fun j hj => by
                by_cases hjc : j = c
                · subst hjc; exact ⟨by omega, fun q => by first | exact h4 | (exfalso; omega)⟩
                · exact h3 j (by omega))
              rw [es, ← Int.sub_sub] at ih
              exact ih
  refine T_aload_n dX1_allOfHomeGo_0 rfl ?_
  refine T_getR dX1_allOfHomeGo_1 flX1_18 rfl rfl ?_
  refine T_iload_n dX1_allOfHomeGo_4 rfl ?_
  refine T_iald dX1_allOfHomeGo_5 rfl (by first | decide | omega) (by first | omega | (simp [st2]; omega)) (by first | omega | (simp [st2]; omega)) ?_
  refine T_istore dX1_allOfHomeGo_6 (by decide) ?_
  refine T_iconst dX1_allOfHomeGo_8 ?_
  refine T_istore dX1_allOfHomeGo_9 (by decide) ?_
  have l := loop (D 1 9).toNat 0 none (by omega) (by simp only [sm]; omega) (by simp only [sm]; omega) (fun j hj => by omega)
  rw [show D 4 h - sm 0 (fun c => D b (row + c).toNat) = D 4 (h : Int).toNat by rw [Int.toNat_natCast]; simp [sm]] at l
  exact l
theorem c_numberFits {b c : Nat} {i n : Int} (hL : LK D) (hb : SH[b]? = some (1, 80, [])) (hc : c < (D 1 9).toNat) (hi : 0 ≤ i ∧ i + D 1 8 * D 1 9 ≤ 80) (hn : InR n) (hx : ∀ h, h < (D 1 8).toNat → 0 ≤ D b (i + h * D 1 9 + c).toNat ∧ D b (i + h * D 1 9 + c).toNat ≤ 5) (k1 : NumG (D 1 8).toNat (fun h => D b (i + h * D 1 9 + c).toNat) (D 9 c) n → P (some (iI 1)) SH D) (k0 : ¬ NumG (D 1 8).toNat (fun h => D b (i + h * D 1 9 + c).toNat) (D 9 c) n → P (some (iI 0)) SH D) : TM g mX1_numberFits d P [.ref 1, iI c, .ref b, iI i, iI n] D := by
  have hN := hL.1
  have hM := hL.2.1
  have hse := hL.2.2.2.2.2.2.2.2.2.2.2 c
  unfold InR at hn
  have hmul : ∀ h : Nat, h < (D 1 8).toNat → 0 ≤ (h : Int) * D 1 9 ∧ (h : Int) * D 1 9 + D 1 9 ≤ D 1 8 * D 1 9 := by
    intro h hh
    refine ⟨Int.mul_nonneg (by omega) hM.1, ?_⟩
    have := Int.mul_le_mul_of_nonneg_right (show (h : Int) + 1 ≤ D 1 8 by omega) hM.1
    rw [Int.add_mul, Int.one_mul] at this
    exact this
  have loop : ∀ (q h : Nat), q + h = (D 1 8).toNat → T g mX1_numberFits (rmd d 0 0) 0 0 (Qm g (rmd d 0 0) P) 11 [some (.ref 1), some (iI c), some (.ref b), some (iI i), some (iI n), some (iI (D 9 c - sm h (fun h => D b (i + h * D 1 9 + c).toNat))), some (iI h)] [] SH D := by
    intro q
    induction q with
    | zero =>
      intro h hq
      obtain rfl : h = (D 1 8).toNat := by omega
      have hs := sm_bd (f := fun h => D b (i + (h : Int) * D 1 9 + c).toNat) (a := 0) (b := 5) (D 1 8).toNat hx
      refine T_iload dX1_numberFits_11 rfl ?_
      refine T_aload_n dX1_numberFits_13 rfl ?_
      refine T_getI dX1_numberFits_14 flX1_40 rfl rfl ?_
      refine T_icmp_ge 44 dX1_numberFits_17 (by decide) (by first | (unfold InR; omega) | (simp [st2, InR]; omega)) (by first | (unfold InR; omega) | (simp [st2, InR]; omega)) (fun hc17 => ?_) (fun hc17 => (by exfalso; omega))
      refine T_iload dX1_numberFits_44 rfl ?_
      refine T_if_lt 61 dX1_numberFits_46 (by decide) (by first | (unfold InR; omega) | (simp [st2, InR]; omega)) (fun hc46 => ?_) (fun hc46 => ?_)
      · refine T_iconst dX1_numberFits_61 ?_
        refine T_zret dX1_numberFits_62 rfl (by decide) ?_
        first | exact k1 (by unfold NumG; omega) | exact k0 (by unfold NumG; omega)
      · refine T_iload dX1_numberFits_49 rfl ?_
        refine T_if_lt 61 dX1_numberFits_51 (by decide) (by first | (unfold InR; omega) | (simp [st2, InR]; omega)) (fun hc51 => ?_) (fun hc51 => ?_)
        · refine T_iconst dX1_numberFits_61 ?_
          refine T_zret dX1_numberFits_62 rfl (by decide) ?_
          first | exact k1 (by unfold NumG; omega) | exact k0 (by unfold NumG; omega)
        · refine T_iload dX1_numberFits_54 rfl ?_
          refine T_ldc (n := 1000000000) dX1_numberFits_56 tk_561 ?_
          refine T_icmp_le 63 dX1_numberFits_58 (by decide) (by first | (unfold InR; omega) | (simp [st2, InR]; omega)) (by first | (unfold InR; omega) | (simp [st2, InR]; omega)) (fun hc58 => ?_) (fun hc58 => ?_)
          · refine T_iload dX1_numberFits_63 rfl ?_
            refine T_if_eq 73 dX1_numberFits_65 (by decide) (by first | (unfold InR; omega) | (simp [st2, InR]; omega)) (fun hc65 => ?_) (fun hc65 => ?_)
            · refine T_iconst dX1_numberFits_73 ?_
              refine T_goto (tgt := 78) dX1_numberFits_74 (by decide) ?_
              refine T_zret dX1_numberFits_78 rfl (by decide) ?_
              first | exact k1 (by unfold NumG; omega) | exact k0 (by unfold NumG; omega)
            · refine T_iload dX1_numberFits_68 rfl ?_
              refine T_if_ne 77 dX1_numberFits_70 (by decide) (by first | (unfold InR; omega) | (simp [st2, InR]; omega)) (fun hc70 => ?_) (fun hc70 => ?_)
              · refine T_iconst dX1_numberFits_77 ?_
                refine T_zret dX1_numberFits_78 rfl (by decide) ?_
                first | exact k1 (by unfold NumG; omega) | exact k0 (by unfold NumG; omega)
              · refine T_iconst dX1_numberFits_73 ?_
                refine T_goto (tgt := 78) dX1_numberFits_74 (by decide) ?_
                refine T_zret dX1_numberFits_78 rfl (by decide) ?_
                first | exact k1 (by unfold NumG; omega) | exact k0 (by unfold NumG; omega)
          · refine T_iconst dX1_numberFits_61 ?_
            refine T_zret dX1_numberFits_62 rfl (by decide) ?_
            first | exact k1 (by unfold NumG; omega) | exact k0 (by unfold NumG; omega)
    | succ q ih =>
      intro h hq
      have hm := hmul h (by omega)
      have es : sm (h + 1) (fun h => D b (i + (h : Int) * D 1 9 + c).toNat) = sm h (fun h => D b (i + (h : Int) * D 1 9 + c).toNat) + D b (i + (h : Int) * D 1 9 + c).toNat := rfl
      refine T_iload dX1_numberFits_11 rfl ?_
      refine T_aload_n dX1_numberFits_13 rfl ?_
      refine T_getI dX1_numberFits_14 flX1_40 rfl rfl ?_
      refine T_icmp_ge 44 dX1_numberFits_17 (by decide) (by first | (unfold InR; omega) | (simp [st2, InR]; omega)) (by first | (unfold InR; omega) | (simp [st2, InR]; omega)) (fun hc17 => (by exfalso; omega)) (fun hc17 => ?_)
      refine T_iload dX1_numberFits_20 rfl ?_
      refine T_aload_n dX1_numberFits_22 rfl ?_
      refine T_iload_n dX1_numberFits_23 rfl ?_
      refine T_iload dX1_numberFits_24 rfl ?_
      refine T_aload_n dX1_numberFits_26 rfl ?_
      refine T_getI dX1_numberFits_27 flX1_43 rfl rfl ?_
      refine T_imul dX1_numberFits_30 ?_
      refine T_iadd dX1_numberFits_31 ?_
      refine T_iload_n dX1_numberFits_32 rfl ?_
      refine T_iadd dX1_numberFits_33 ?_
      refine T_iald dX1_numberFits_34 hb (by first | decide | omega) (by first | omega | (simp [st2]; omega)) (by first | omega | (simp [st2]; omega)) ?_
      refine T_isub dX1_numberFits_35 ?_
      refine T_istore dX1_numberFits_36 (by decide) ?_
      refine T_iinc dX1_numberFits_38 rfl (by decide) ?_
      refine T_goto (tgt := 11) dX1_numberFits_41 (by decide) ?_
      have ih := ih (h + 1) (by omega)
      rw [es, ← Int.sub_sub] at ih
      exact ih
  refine T_aload_n dX1_numberFits_0 rfl ?_
  refine T_getR dX1_numberFits_1 flX1_33 rfl rfl ?_
  refine T_iload_n dX1_numberFits_4 rfl ?_
  refine T_iald dX1_numberFits_5 rfl (by first | decide | omega) (by first | omega | (simp [st2]; omega)) (by first | omega | (simp [st2]; omega)) ?_
  refine T_istore dX1_numberFits_6 (by decide) ?_
  refine T_iconst dX1_numberFits_8 ?_
  refine T_istore dX1_numberFits_9 (by decide) ?_
  have l := loop (D 1 8).toNat 0 (by omega)
  rw [show D 9 c - sm 0 (fun h => D b (i + (h : Int) * D 1 9 + c).toNat) = D 9 (c : Int).toNat by rw [Int.toNat_natCast]; simp [sm]] at l
  exact l
end

