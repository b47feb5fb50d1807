def minK (K : Int) (c : Nat) (br : Nat → Prop) (fy : Nat → Int) (m : Int) : Prop := (∀ j, j < c → ¬ br j → m ≤ fy j) ∧ (m = K ∨ ∃ j, j < c ∧ ¬ br j ∧ m = fy j)
theorem minK_skip {K : Int} {c : Nat} {br : Nat → Prop} {fy : Nat → Int} {m : Int} (h : minK K c br fy m) (hb : br c ∨ m ≤ fy c) : minK K (c + 1) br fy m := by
  refine ⟨fun j hj hn => ?_, ?_⟩
  · by_cases e : j = c
    · subst e; rcases hb with hb | hb
      · exact absurd hb hn
      · exact hb
    · exact h.1 j (by omega) hn
  · rcases h.2 with h2 | ⟨j, a, b⟩
    · exact Or.inl h2
    · exact Or.inr ⟨j, by omega, b⟩
theorem minK_in {K : Int} {c : Nat} {br : Nat → Prop} {fy : Nat → Int} {m : Int} (h : minK K c br fy m) (hb : ¬ br c) (hf : fy c < m) : minK K (c + 1) br fy (fy c) := by
  refine ⟨fun j hj hn => ?_, Or.inr ⟨c, by omega, hb, rfl⟩⟩
  by_cases e : j = c
  · subst e; exact Int.le_refl _
  · have := h.1 j (by omega) hn
    omega
def okF (c : Nat) (x : Nat → Int) (br : Nat → Prop) (fy : Nat → Int) (m : Int) : Prop := ∀ j, j < c → 0 ≤ x j ∧ (x j = 0 ∨ (¬ br j ∧ fy j = m))
theorem okF_iff {C : Nat} {x : Nat → Int} {br : Nat → Prop} {fy : Nat → Int} {m : Int} {hd : Int} (h : minK 10000000000 C br fy m) (hf : ∀ j, j < C → fy j ≤ 1000007200) : (okF C x br fy m ∧ sm C x = hd) ↔ (HomeG C x br hd ∧ LeastG C x br fy) := by
  constructor
  · rintro ⟨h1, h2⟩
    refine ⟨⟨fun c hc => ⟨(h1 c hc).1, fun hx => ?_⟩, h2⟩, fun c hc hx hb c' hc' hb' => ?_⟩
    · rcases (h1 c hc).2 with a | a
      · omega
      · exact a.1
    · rcases (h1 c hc).2 with a | a
      · omega
      · have := h.1 c' hc' hb'; omega
  · rintro ⟨⟨h1, h2⟩, h3⟩
    refine ⟨fun c hc => ⟨(h1 c hc).1, ?_⟩, h2⟩
    by_cases hx : 0 < x c
    · refine Or.inr ⟨(h1 c hc).2 hx, ?_⟩
      have a := h.1 c hc ((h1 c hc).2 hx)
      rcases h.2 with b | ⟨j, b1, b2, b3⟩
      · have := hf c hc; omega
      · have := h3 c hc hx ((h1 c hc).2 hx) j b1 b2; omega
    · exact Or.inl (by have := (h1 c hc).1; omega)
def farM (D : DD) (h c : Nat) : Int := farK (D 61 c) (D 58 h) (D 59 h) (D 62 c) (D 63 c) (D 57 11)
theorem farM_bd {D : DD} (hL : MK D) (h c : Nat) : 0 ≤ farM D h c ∧ farM D h c ≤ 7200 := farK_bd (hL.2.2.2.1 h) (hL.2.2.2.2.1 h) (hL.2.2.2.2.2.2.2.1 c) (hL.2.2.2.2.2.2.2.2.1 c) hL.2.2.1
section
variable {g : G0} {d : Nat} {P : Option Value → List SC → DD → Prop} {D : DD}
theorem r_holdsIn {c : Nat} {fr num : Int} (hL : MK D) (hI : ∀ j, InR (D 79 j)) (hc : c < (D 57 5).toNat) (hf : 0 ≤ fr ∧ fr + D 57 1 * D 57 5 + D 57 5 ≤ 320) (hn : num = fr + D 57 1 * D 57 5) (k1 : NumG (D 57 1).toNat (fun h => D 79 (fr + D 57 5 * h + c).toNat) (D 64 c) (D 79 (num + c).toNat) → P (some (iI 1)) SH D) (k0 : ¬ NumG (D 57 1).toNat (fun h => D 79 (fr + D 57 5 * h + c).toNat) (D 64 c) (D 79 (num + c).toNat) → P (some (iI 0)) SH D) : TM g mX7_holdsIn (d + 1) P [.ref 57, iI c, iI fr, iI num] D := by
  have hN := hL.1
  have hM := hL.2.1
  have hse := hL.2.2.2.2.2.2.2.2.2.1 c
  have hnn : 0 ≤ D 57 1 * D 57 5 := Int.mul_nonneg hN.1 hM.1
  have hmul : ∀ h : Nat, h < (D 57 1).toNat → 0 ≤ D 57 5 * (h : Int) ∧ D 57 5 * (h : Int) + D 57 5 ≤ D 57 1 * D 57 5 := by
    intro h hh
    refine ⟨Int.mul_nonneg hM.1 (by omega), ?_⟩
    have := Int.mul_le_mul_of_nonneg_right (show (h : Int) + 1 ≤ D 57 1 by omega) hM.1
    rw [Int.add_mul, Int.one_mul, Int.mul_comm] at this
    exact this
  have hse2 : ∀ j, InR (D 64 j) := fun j => by have := hL.2.2.2.2.2.2.2.2.2.1 j; unfold InR; omega
  have loop : ∀ (q h : Nat), q + h = (D 57 1).toNat → T g mX7_holdsIn (rmd (d + 1) 0 0) 0 0 (Qm g (rmd (d + 1) 0 0) P) 6 [some (.ref 57), some (iI c), some (iI fr), some (iI num), some (lI (sm h (fun h => D 79 (fr + D 57 5 * h + c).toNat))), none, some (iI h)] [] SH D := by
    intro q
    induction q with
    | zero =>
      intro h hq
      obtain rfl : h = (D 57 1).toNat := by omega
      have hs := sm_bd (f := fun h => D 79 (fr + D 57 5 * (h : Int) + c).toNat) (a := -2147483648) (b := 2147483647) (D 57 1).toNat (fun j _ => by have := hI (fr + D 57 5 * (j : Int) + c).toNat; unfold InR at this; omega)
      have hy := hI (num + c).toNat
      have hy2 := hy
      unfold InR at hy2
      have ec : (c : Int).toNat = c := Int.toNat_natCast c
      have e64 : D 64 (c : Int).toNat = D 64 c := by rw [ec]
      refine T_iload dX7_holdsIn_6 rfl ?_
      refine T_aload_n dX7_holdsIn_8 rfl ?_
      refine T_getI dX7_holdsIn_9 flX7_112 rfl rfl ?_
      refine T_icmp_ge 43 dX7_holdsIn_12 (by decide) (by first | (unfold InR; omega) | (simp [st2, InR]; omega)) (by first | (unfold InR; omega) | (simp [st2, InR]; omega)) (fun hc12 => ?_) (fun hc12 => (by exfalso; omega))
      skip
      refine T_aload_n dX7_holdsIn_43 rfl ?_
      refine T_getR dX7_holdsIn_44 flX7_74 rfl rfl ?_
      refine T_iload_n dX7_holdsIn_47 rfl ?_
      refine T_iload_n dX7_holdsIn_48 rfl ?_
      refine T_iadd dX7_holdsIn_49 ?_
      refine T_iald dX7_holdsIn_50 rfl (by first | decide | omega) (by first | omega | (simp [st2]; omega)) (by first | omega | (simp [st2]; omega)) ?_
      refine T_istore dX7_holdsIn_51 (by decide) ?_
      refine T_lload dX7_holdsIn_53 rfl ?_
      refine T_aload_n dX7_holdsIn_55 rfl ?_
      refine T_getR dX7_holdsIn_56 flX7_28 rfl rfl ?_
      refine T_iload_n dX7_holdsIn_59 rfl ?_
      refine T_iald dX7_holdsIn_60 rfl (by first | decide | omega) (by first | omega | (simp [st2]; omega)) (by first | omega | (simp [st2]; omega)) ?_
      refine T_i2l dX7_holdsIn_61 (hse2 _) ?_
      refine T_lcmp dX7_holdsIn_62 (by unfold In64; omega) (in64_of (hse2 _)) ?_
      refine T_if_gt 101 dX7_holdsIn_63 (by decide) (inR_lc _ _) (fun hc63 => ?_) (fun hc63 => ?_)
      · rw [lc_gt, e64] at hc63
        refine T_iconst dX7_holdsIn_101 ?_
        refine T_zret dX7_holdsIn_102 rfl (by decide) ?_
        first | exact k1 (by unfold NumG; omega) | exact k0 (by unfold NumG; omega)
      · rw [lc_gt, e64] at hc63
        refine T_iload dX7_holdsIn_66 rfl ?_
        refine T_i2l dX7_holdsIn_68 hy ?_
        refine T_lconst (a := 0) dX7_holdsIn_69 (by decide) ?_
        refine T_ldc2 (n := 1000000000) dX7_holdsIn_70 tk_1043 ?_
        refine T_cS_3 dX7_holdsIn_73 lkX7_88 (Nat.le_of_ble_eq_true rfl) (RO_r (by decide)) (Nat.le_of_ble_eq_true rfl) ?_
        refine r_in (in64_of hy) (by first | (unfold In64; omega) | (simp [st2, In64]; omega)) (by first | (unfold In64; omega) | (simp [st2, In64]; omega)) (fun h5 h6 => ?_) (fun h5 => ?_)
        · refine T_if_eq 101 dX7_holdsIn_76 (by decide) (by unfold InR; decide) (fun h => absurd h (by decide)) (fun _ => ?_)
          refine T_iload dX7_holdsIn_79 rfl ?_
          refine T_if_eq 97 dX7_holdsIn_81 (by decide) hy (fun hc81 => ?_) (fun hc81 => ?_)
          · refine T_iconst dX7_holdsIn_97 ?_
            refine T_goto (tgt := 102) dX7_holdsIn_98 (by decide) ?_
            refine T_zret dX7_holdsIn_102 rfl (by decide) ?_
            first | exact k1 (by unfold NumG; omega) | exact k0 (by unfold NumG; omega)
          · refine T_lload dX7_holdsIn_84 rfl ?_
            refine T_aload_n dX7_holdsIn_86 rfl ?_
            refine T_getR dX7_holdsIn_87 flX7_28 rfl rfl ?_
            refine T_iload_n dX7_holdsIn_90 rfl ?_
            refine T_iald dX7_holdsIn_91 rfl (by first | decide | omega) (by first | omega | (simp [st2]; omega)) (by first | omega | (simp [st2]; omega)) ?_
            refine T_i2l dX7_holdsIn_92 (hse2 _) ?_
            refine T_lcmp dX7_holdsIn_93 (by unfold In64; omega) (in64_of (hse2 _)) ?_
            refine T_if_ne 101 dX7_holdsIn_94 (by decide) (inR_lc _ _) (fun hc94 => ?_) (fun hc94 => ?_)
            · rw [Ne, lc_eq, e64] at hc94
              refine T_iconst dX7_holdsIn_101 ?_
              refine T_zret dX7_holdsIn_102 rfl (by decide) ?_
              first | exact k1 (by unfold NumG; omega) | exact k0 (by unfold NumG; omega)
            · rw [Ne, lc_eq, e64] at hc94
              refine T_iconst dX7_holdsIn_97 ?_
              refine T_goto (tgt := 102) dX7_holdsIn_98 (by decide) ?_
              refine T_zret dX7_holdsIn_102 rfl (by decide) ?_
              first | exact k1 (by unfold NumG; omega) | exact k0 (by unfold NumG; omega)
        · refine T_if_eq 101 dX7_holdsIn_76 (by decide) (by unfold InR; decide) (fun _ => ?_) (fun h => absurd (by decide) h)
          refine T_iconst dX7_holdsIn_101 ?_
          refine T_zret dX7_holdsIn_102 rfl (by decide) ?_
          first | exact k1 (by unfold NumG; omega) | exact k0 (by unfold NumG; omega)
    | succ q ih =>
      intro h hq
      have hm := hmul h (by omega)
      refine T_iload dX7_holdsIn_6 rfl ?_
      refine T_aload_n dX7_holdsIn_8 rfl ?_
      refine T_getI dX7_holdsIn_9 flX7_112 rfl rfl ?_
      refine T_icmp_ge 43 dX7_holdsIn_12 (by decide) (by first | (unfold InR; omega) | (simp [st2, InR]; omega)) (by first | (unfold InR; omega) | (simp [st2, InR]; omega)) (fun hc12 => (by exfalso; omega)) (fun hc12 => ?_)
      refine T_lload dX7_holdsIn_15 rfl ?_
      refine T_aload_n dX7_holdsIn_17 rfl ?_
      refine T_getR dX7_holdsIn_18 flX7_74 rfl rfl ?_
      refine T_iload_n dX7_holdsIn_21 rfl ?_
      refine T_aload_n dX7_holdsIn_22 rfl ?_
      refine T_getI dX7_holdsIn_23 flX7_115 rfl rfl ?_
      refine T_iload dX7_holdsIn_26 rfl ?_
      refine T_imul dX7_holdsIn_28 ?_
      refine T_iadd dX7_holdsIn_29 ?_
      refine T_iload_n dX7_holdsIn_30 rfl ?_
      refine T_iadd dX7_holdsIn_31 ?_
      refine T_iald dX7_holdsIn_32 rfl (by first | decide | omega) (by first | omega | (simp [st2]; omega)) (by first | omega | (simp [st2]; omega)) ?_
      refine T_i2l dX7_holdsIn_33 (hI _) ?_
      refine T_ladd dX7_holdsIn_34 ?_
      refine T_lstore dX7_holdsIn_35 (by decide) ?_
      refine T_iinc dX7_holdsIn_37 rfl (by decide) ?_
      refine T_goto (tgt := 6) dX7_holdsIn_40 (by decide) ?_
      exact ih (h + 1) (by omega)
  refine T_lconst (a := 0) dX7_holdsIn_0 (by decide) ?_
  refine T_lstore dX7_holdsIn_1 (by decide) ?_
  refine T_iconst dX7_holdsIn_3 ?_
  refine T_istore dX7_holdsIn_4 (by decide) ?_
  exact loop (D 57 1).toNat 0 (by omega)
theorem r_holdsFor {h : Nat} {fr num : Int} (hL : MK D) (hI : ∀ j, InR (D 79 j)) (hh : h < (D 57 1).toNat) (hf : 0 ≤ fr ∧ fr + D 57 1 * D 57 5 + D 57 5 ≤ 320) (hn : num = fr + D 57 1 * D 57 5) (hy : ∀ c, c < (D 57 5).toNat → 0 ≤ D 79 (num + c).toNat ∧ D 79 (num + c).toNat ≤ 1000000000) (k1 : HomeG (D 57 5).toNat (fun c => D 79 (fr + D 57 5 * h + c).toNat) (brM D h) (D 60 h) ∧ LeastG (D 57 5).toNat (fun c => D 79 (fr + D 57 5 * h + c).toNat) (brM D h) (fun c => farM D h c + D 79 (num + c).toNat) → P (some (iI 1)) SH D) (k0 : ¬ (HomeG (D 57 5).toNat (fun c => D 79 (fr + D 57 5 * h + c).toNat) (brM D h) (D 60 h) ∧ LeastG (D 57 5).toNat (fun c => D 79 (fr + D 57 5 * h + c).toNat) (brM D h) (fun c => farM D h c + D 79 (num + c).toNat)) → P (some (iI 0)) SH D) : TM g mX7_holdsFor (d + 2) P [.ref 57, iI h, iI fr, iI num] D := by
  have hN := hL.1
  have hM := hL.2.1
  have hnn : 0 ≤ D 57 1 * D 57 5 := Int.mul_nonneg hN.1 hM.1
  have hm : 0 ≤ D 57 5 * (h : Int) ∧ D 57 5 * (h : Int) + D 57 5 ≤ D 57 1 * D 57 5 := by
    refine ⟨Int.mul_nonneg hM.1 (by omega), ?_⟩
    have := Int.mul_le_mul_of_nonneg_right (show (h : Int) + 1 ≤ D 57 1 by omega) hM.1
    rw [Int.add_mul, Int.one_mul, Int.mul_comm] at this
    exact this
  have e0 : (↑h : Int).toNat = h := Int.toNat_natCast h
  have hbb : ∀ j, 0 ≤ D 65 j ∧ D 65 j ≤ 1 := hL.2.2.2.2.2.2.2.2.2.2
  have hhd := hL.2.2.2.2.2.1 h
  have e60 : D 60 (h : Int).toNat = D 60 h := by rw [e0]
  have ec : ∀ c : Nat, farK (D 61 (c : Int).toNat) (D 58 (h : Int).toNat) (D 59 (h : Int).toNat) (D 62 (c : Int).toNat) (D 63 (c : Int).toNat) (D 57 11) = farM D h c := fun c => by rw [Int.toNat_natCast, e0]; rfl
  have ix : ∀ c : Nat, (5 * (h : Int) + (c : Int)).toNat = 5 * h + c := fun c => by omega
  have loop2 : ∀ (m : Int), minK 10000000000 (D 57 5).toNat (brM D h) (fun c => farM D h c + D 79 (num + c).toNat) m → 0 ≤ m ∧ m ≤ 10000000000 → ∀ (q c : Nat) (v : Int) (m10 m11 : Option Value), q + c = (D 57 5).toNat → ((v = 1 ∧ okF c (fun c => D 79 (fr + D 57 5 * h + c).toNat) (brM D h) (fun c => farM D h c + D 79 (num + c).toNat) m) ∨ (v = 0 ∧ ¬ okF c (fun c => D 79 (fr + D 57 5 * h + c).toNat) (brM D h) (fun c => farM D h c + D 79 (num + c).toNat) m)) → T g mX7_holdsFor (rmd (d + 2) 0 0) 0 0 (Qm g (rmd (d + 2) 0 0) P) 95 [some (.ref 57), some (iI h), some (iI fr), some (iI num), some (lI m), none, some (lI (sm c (fun c => D 79 (fr + D 57 5 * h + c).toNat))), none, some (iI v), some (iI c), m10, m11, none] [] SH D := by
    intro m hmin hmb q
    induction q with
    | zero =>
      intro c v m10 m11 hq hv
      obtain rfl : c = (D 57 5).toNat := by omega
      have hv01 : v = 0 ∨ v = 1 := by rcases hv with ⟨a, _⟩ | ⟨a, _⟩ <;> omega
      have hs := sm_bd (f := fun c => D 79 (fr + D 57 5 * h + (c : Int)).toNat) (a := -2147483648) (b := 2147483647) (D 57 5).toNat (fun j _ => by have := hI (fr + D 57 5 * h + (j : Int)).toNat; unfold InR at this; omega)
      have li := okF_iff (x := fun c => D 79 (fr + D 57 5 * h + (c : Int)).toNat) (hd := D 60 h) hmin (fun j hj => by have := farM_bd hL h j; have := hy j hj; omega)
      refine T_iload dX7_holdsFor_95 rfl ?_
      refine T_aload_n dX7_holdsFor_97 rfl ?_
      refine T_getI dX7_holdsFor_98 flX7_115 rfl rfl ?_
      refine T_icmp_ge 212 dX7_holdsFor_101 (by decide) (by first | (unfold InR; omega) | (simp [st2, InR]; omega)) (by first | (unfold InR; omega) | (simp [st2, InR]; omega)) (fun hc101 => ?_) (fun hc101 => (by exfalso; omega))
      refine T_iload dX7_holdsFor_212 rfl ?_
      refine T_if_eq 234 dX7_holdsFor_214 (by decide) (by first | (unfold InR; omega) | (simp [st2, InR]; omega)) (fun hc214 => ?_) (fun hc214 => ?_)
      · refine T_iconst dX7_holdsFor_234 ?_
        refine T_zret dX7_holdsFor_235 rfl (by decide) ?_
        rcases hv with ⟨v1, v2⟩ | ⟨v1, v2⟩ <;> first | (exfalso; omega) | exact k1 (li.mp ⟨v2, by omega⟩) | exact k0 (fun q => v2 (li.mpr q).1) | exact k0 (fun q => by have := (li.mpr q).2; omega)
      · refine T_lload dX7_holdsFor_217 rfl ?_
        refine T_aload_n dX7_holdsFor_219 rfl ?_
        refine T_getR dX7_holdsFor_220 flX7_16 rfl rfl ?_
        refine T_iload_n dX7_holdsFor_223 rfl ?_
        refine T_iald dX7_holdsFor_224 rfl (by first | decide | omega) (by first | omega | (simp [st2]; omega)) (by first | omega | (simp [st2]; omega)) ?_
        refine T_i2l dX7_holdsFor_225 (by rw [e60]; unfold InR; omega) ?_
        refine T_lcmp dX7_holdsFor_226 (by unfold In64; omega) (by rw [e60]; unfold In64; omega) ?_
        refine T_if_ne 234 dX7_holdsFor_227 (by decide) (inR_lc _ _) (fun hc227 => ?_) (fun hc227 => ?_)
        · rw [Ne, lc_eq, e60] at hc227
          refine T_iconst dX7_holdsFor_234 ?_
          refine T_zret dX7_holdsFor_235 rfl (by decide) ?_
          rcases hv with ⟨v1, v2⟩ | ⟨v1, v2⟩ <;> first | (exfalso; omega) | exact k1 (li.mp ⟨v2, by omega⟩) | exact k0 (fun q => v2 (li.mpr q).1) | exact k0 (fun q => by have := (li.mpr q).2; omega)
        · rw [Ne, lc_eq, e60] at hc227
          refine T_iconst dX7_holdsFor_230 ?_
          refine T_goto (tgt := 235) dX7_holdsFor_231 (by decide) ?_
          refine T_zret dX7_holdsFor_235 rfl (by decide) ?_
          rcases hv with ⟨v1, v2⟩ | ⟨v1, v2⟩ <;> first | (exfalso; omega) | exact k1 (li.mp ⟨v2, by omega⟩) | exact k0 (fun q => v2 (li.mpr q).1) | exact k0 (fun q => by have := (li.mpr q).2; omega)
    | succ q ih =>
      intro c v m10 m11 hq hv
      have hv01 : v = 0 ∨ v = 1 := by rcases hv with ⟨a, _⟩ | ⟨a, _⟩ <;> omega
      have hfc := farM_bd hL h c
      have hyc := hy c (by omega)
      have hxc := hI (fr + D 57 5 * h + c).toNat
      have hxc2 := hxc
      unfold InR at hxc2
      have hb5 := hbb (5 * h + c)
      have up : ∀ v' : Int, ((v' = 1 ∧ v = 1 ∧ 0 ≤ D 79 (fr + D 57 5 * h + c).toNat ∧ (D 79 (fr + D 57 5 * h + c).toNat = 0 ∨ (¬ brM D h c ∧ farM D h c + D 79 (num + c).toNat = m))) ∨ (v' = 0 ∧ ¬ (v = 1 ∧ 0 ≤ D 79 (fr + D 57 5 * h + c).toNat ∧ (D 79 (fr + D 57 5 * h + c).toNat = 0 ∨ (¬ brM D h c ∧ farM D h c + D 79 (num + c).toNat = m))))) → ((v' = 1 ∧ okF (c + 1) (fun c => D 79 (fr + D 57 5 * h + c).toNat) (brM D h) (fun c => farM D h c + D 79 (num + c).toNat) m) ∨ (v' = 0 ∧ ¬ okF (c + 1) (fun c => D 79 (fr + D 57 5 * h + c).toNat) (brM D h) (fun c => farM D h c + D 79 (num + c).toNat) m)) := by
        intro v' hv'
        rcases hv' with ⟨a, b, b2, b3⟩ | ⟨a, b⟩
        · rcases hv with ⟨_, h2⟩ | ⟨h1, _⟩
          · refine Or.inl ⟨a, fun j hj => ?_⟩
            by_cases e : j = c
            · subst e; exact ⟨b2, b3⟩
            · exact h2 j (by omega)
          · omega
        · refine Or.inr ⟨a, fun q => b ?_⟩
          rcases hv with ⟨h1, _⟩ | ⟨_, h2⟩
          · exact ⟨h1, q c (by omega)⟩
          · exact absurd (fun j hj => q j (by omega)) h2
      refine T_iload dX7_holdsFor_95 rfl ?_
      refine T_aload_n dX7_holdsFor_97 rfl ?_
      refine T_getI dX7_holdsFor_98 flX7_115 rfl rfl ?_
      refine T_icmp_ge 212 dX7_holdsFor_101 (by decide) (by first | (unfold InR; omega) | (simp [st2, InR]; omega)) (by first | (unfold InR; omega) | (simp [st2, InR]; omega)) (fun hc101 => (by exfalso; omega)) (fun hc101 => ?_)
      refine T_aload_n dX7_holdsFor_104 rfl ?_
      refine T_getR dX7_holdsFor_105 flX7_74 rfl rfl ?_
      refine T_iload_n dX7_holdsFor_108 rfl ?_
      refine T_aload_n dX7_holdsFor_109 rfl ?_
      refine T_getI dX7_holdsFor_110 flX7_115 rfl rfl ?_
      refine T_iload_n dX7_holdsFor_113 rfl ?_
      refine T_imul dX7_holdsFor_114 ?_
      refine T_iadd dX7_holdsFor_115 ?_
      refine T_iload dX7_holdsFor_116 rfl ?_
      refine T_iadd dX7_holdsFor_118 ?_
      refine T_iald dX7_holdsFor_119 rfl (by first | decide | omega) (by first | omega | (simp [st2]; omega)) (by first | omega | (simp [st2]; omega)) ?_
      refine T_istore dX7_holdsFor_120 (by decide) ?_
      refine T_aload_n dX7_holdsFor_122 rfl ?_
      refine T_aload_n dX7_holdsFor_123 rfl ?_
      refine T_getR dX7_holdsFor_124 flX7_7 rfl rfl ?_
      refine T_iload_n dX7_holdsFor_127 rfl ?_
      refine T_iald dX7_holdsFor_128 rfl (by first | decide | omega) (by first | omega | (simp [st2]; omega)) (by first | omega | (simp [st2]; omega)) ?_
      refine T_aload_n dX7_holdsFor_129 rfl ?_
      refine T_getR dX7_holdsFor_130 flX7_13 rfl rfl ?_
      refine T_iload_n dX7_holdsFor_133 rfl ?_
      refine T_iald dX7_holdsFor_134 rfl (by first | decide | omega) (by first | omega | (simp [st2]; omega)) (by first | omega | (simp [st2]; omega)) ?_
      refine T_iload dX7_holdsFor_135 rfl ?_
      refine T_cV_3 dX7_holdsFor_137 lkX7_181 rfl (Nat.le_of_ble_eq_true rfl) (RO_r (by decide)) (Nat.le_of_ble_eq_true rfl) ?_
      refine r_farOf hL ⟨by omega, by omega⟩ (hL.2.2.2.1 _) (hL.2.2.2.2.1 _) ?_
      rw [ec]
      refine T_i2l dX7_holdsFor_140 (by first | (unfold InR; omega) | (simp [st2, InR]; omega)) ?_
      refine T_aload_n dX7_holdsFor_141 rfl ?_
      refine T_getR dX7_holdsFor_142 flX7_74 rfl rfl ?_
      refine T_iload_n dX7_holdsFor_145 rfl ?_
      refine T_iload dX7_holdsFor_146 rfl ?_
      refine T_iadd dX7_holdsFor_148 ?_
      refine T_iald dX7_holdsFor_149 rfl (by first | decide | omega) (by first | omega | (simp [st2]; omega)) (by first | omega | (simp [st2]; omega)) ?_
      refine T_i2l dX7_holdsFor_150 (hI _) ?_
      refine T_ladd dX7_holdsFor_151 ?_
      refine T_lstore dX7_holdsFor_152 (by decide) ?_
      refine T_iload dX7_holdsFor_154 rfl ?_
      refine T_if_eq 195 dX7_holdsFor_156 (by decide) (by first | (unfold InR; omega) | (simp [st2, InR]; omega)) (fun hc156 => ?_) (fun hc156 => ?_)
      · refine T_iconst dX7_holdsFor_195 ?_
        refine T_istore dX7_holdsFor_196 (by decide) ?_
        refine T_lload dX7_holdsFor_198 rfl ?_
        refine T_iload dX7_holdsFor_200 rfl ?_
        refine T_i2l dX7_holdsFor_202 hxc ?_
        refine T_ladd dX7_holdsFor_203 ?_
        refine T_lstore dX7_holdsFor_204 (by decide) ?_
        refine T_iinc dX7_holdsFor_206 rfl (by decide) ?_
        refine T_goto (tgt := 95) dX7_holdsFor_209 (by decide) ?_
        exact ih (c + 1) _ _ _ (by omega) (up _ (by
          clear up ih hv hmin k1 k0
          first | exact Or.inl ⟨rfl, by omega, by omega, Or.inl (by omega)⟩ | exact Or.inl ⟨rfl, by omega, by omega, Or.inr ⟨by omega, by omega⟩⟩ | exact Or.inr ⟨rfl, by omega⟩))
      · refine T_iload dX7_holdsFor_159 rfl ?_
        refine T_if_lt 195 dX7_holdsFor_161 (by decide) (by first | (unfold InR; omega) | (simp [st2, InR]; omega)) (fun hc161 => ?_) (fun hc161 => ?_)
        · refine T_iconst dX7_holdsFor_195 ?_
          refine T_istore dX7_holdsFor_196 (by decide) ?_
          refine T_lload dX7_holdsFor_198 rfl ?_
          refine T_iload dX7_holdsFor_200 rfl ?_
          refine T_i2l dX7_holdsFor_202 hxc ?_
          refine T_ladd dX7_holdsFor_203 ?_
          refine T_lstore dX7_holdsFor_204 (by decide) ?_
          refine T_iinc dX7_holdsFor_206 rfl (by decide) ?_
          refine T_goto (tgt := 95) dX7_holdsFor_209 (by decide) ?_
          exact ih (c + 1) _ _ _ (by omega) (up _ (by
            clear up ih hv hmin k1 k0
            first | exact Or.inl ⟨rfl, by omega, by omega, Or.inl (by omega)⟩ | exact Or.inl ⟨rfl, by omega, by omega, Or.inr ⟨by omega, by omega⟩⟩ | exact Or.inr ⟨rfl, by omega⟩))
        · refine T_iload dX7_holdsFor_164 rfl ?_
          refine T_if_eq 191 dX7_holdsFor_166 (by decide) (by first | (unfold InR; omega) | (simp [st2, InR]; omega)) (fun hc166 => ?_) (fun hc166 => ?_)
          · refine T_iconst dX7_holdsFor_191 ?_
            refine T_goto (tgt := 196) dX7_holdsFor_192 (by decide) ?_
            refine T_istore dX7_holdsFor_196 (by decide) ?_
            refine T_lload dX7_holdsFor_198 rfl ?_
            refine T_iload dX7_holdsFor_200 rfl ?_
            refine T_i2l dX7_holdsFor_202 hxc ?_
            refine T_ladd dX7_holdsFor_203 ?_
            refine T_lstore dX7_holdsFor_204 (by decide) ?_
            refine T_iinc dX7_holdsFor_206 rfl (by decide) ?_
            refine T_goto (tgt := 95) dX7_holdsFor_209 (by decide) ?_
            exact ih (c + 1) _ _ _ (by omega) (up _ (by
              clear up ih hv hmin k1 k0
              first | exact Or.inl ⟨rfl, by omega, by omega, Or.inl (by omega)⟩ | exact Or.inl ⟨rfl, by omega, by omega, Or.inr ⟨by omega, by omega⟩⟩ | exact Or.inr ⟨rfl, by omega⟩))
          · refine T_aload_n dX7_holdsFor_169 rfl ?_
            refine T_getR dX7_holdsFor_170 flX7_31 rfl rfl ?_
            refine T_iconst dX7_holdsFor_173 ?_
            refine T_iload_n dX7_holdsFor_174 rfl ?_
            refine T_imul dX7_holdsFor_175 ?_
            refine T_iload dX7_holdsFor_176 rfl ?_
            refine T_iadd dX7_holdsFor_178 ?_
            refine T_zald dX7_holdsFor_179 rfl (by first | decide | omega) (by first | omega | (simp [st2]; omega)) (by first | omega | (simp [st2]; omega)) ?_
            refine T_if_ne 195 dX7_holdsFor_180 (by decide) (by rw [ix]; unfold InR; omega) (fun hc180 => ?_) (fun hc180 => ?_)
            · rw [ix] at hc180
              refine T_iconst dX7_holdsFor_195 ?_
              refine T_istore dX7_holdsFor_196 (by decide) ?_
              refine T_lload dX7_holdsFor_198 rfl ?_
              refine T_iload dX7_holdsFor_200 rfl ?_
              refine T_i2l dX7_holdsFor_202 hxc ?_
              refine T_ladd dX7_holdsFor_203 ?_
              refine T_lstore dX7_holdsFor_204 (by decide) ?_
              refine T_iinc dX7_holdsFor_206 rfl (by decide) ?_
              refine T_goto (tgt := 95) dX7_holdsFor_209 (by decide) ?_
              exact ih (c + 1) _ _ _ (by omega) (up _ (by
                clear up ih hv hmin k1 k0
                first | exact Or.inl ⟨rfl, by omega, by omega, Or.inl (by omega)⟩ | exact Or.inl ⟨rfl, by omega, by omega, Or.inr ⟨by omega, by omega⟩⟩ | exact Or.inr ⟨rfl, by omega⟩))
            · rw [ix] at hc180
              refine T_lload dX7_holdsFor_183 rfl ?_
              refine T_lload dX7_holdsFor_185 rfl ?_
              refine T_lcmp dX7_holdsFor_187 (by first | (unfold In64; omega) | (simp [st2, In64]; omega)) (by first | (unfold In64; omega) | (simp [st2, In64]; omega)) ?_
              refine T_if_ne 195 dX7_holdsFor_188 (by decide) (inR_lc _ _) (fun hc188 => ?_) (fun hc188 => ?_)
              · rw [Ne, lc_eq] at hc188
                refine T_iconst dX7_holdsFor_195 ?_
                refine T_istore dX7_holdsFor_196 (by decide) ?_
                refine T_lload dX7_holdsFor_198 rfl ?_
                refine T_iload dX7_holdsFor_200 rfl ?_
                refine T_i2l dX7_holdsFor_202 hxc ?_
                refine T_ladd dX7_holdsFor_203 ?_
                refine T_lstore dX7_holdsFor_204 (by decide) ?_
                refine T_iinc dX7_holdsFor_206 rfl (by decide) ?_
                refine T_goto (tgt := 95) dX7_holdsFor_209 (by decide) ?_
                exact ih (c + 1) _ _ _ (by omega) (up _ (by
                  clear up ih hv hmin k1 k0
                  first | exact Or.inl ⟨rfl, by omega, by omega, Or.inl (by omega)⟩ | exact Or.inl ⟨rfl, by omega, by omega, Or.inr ⟨by omega, by omega⟩⟩ | exact Or.inr ⟨rfl, by omega⟩))
              · rw [Ne, lc_eq] at hc188
                refine T_iconst dX7_holdsFor_191 ?_
                refine T_goto (tgt := 196) dX7_holdsFor_192 (by decide) ?_
                refine T_istore dX7_holdsFor_196 (by decide) ?_
                refine T_lload dX7_holdsFor_198 rfl ?_
                refine T_iload dX7_holdsFor_200 rfl ?_
                refine T_i2l dX7_holdsFor_202 hxc ?_
                refine T_ladd dX7_holdsFor_203 ?_
                refine T_lstore dX7_holdsFor_204 (by decide) ?_
                refine T_iinc dX7_holdsFor_206 rfl (by decide) ?_
                refine T_goto (tgt := 95) dX7_holdsFor_209 (by decide) ?_
                exact ih (c + 1) _ _ _ (by omega) (up _ (by
                  clear up ih hv hmin k1 k0
                  first | exact Or.inl ⟨rfl, by omega, by omega, Or.inl (by omega)⟩ | exact Or.inl ⟨rfl, by omega, by omega, Or.inr ⟨by omega, by omega⟩⟩ | exact Or.inr ⟨rfl, by omega⟩))
  have loop1 : ∀ (q c : Nat) (m : Int) (m7 : Option Value), q + c = (D 57 5).toNat → minK 10000000000 c (brM D h) (fun c => farM D h c + D 79 (num + c).toNat) m → 0 ≤ m ∧ m ≤ 10000000000 → T g mX7_holdsFor (rmd (d + 2) 0 0) 0 0 (Qm g (rmd (d + 2) 0 0) P) 8 [some (.ref 57), some (iI h), some (iI fr), some (iI num), some (lI m), none, some (iI c), m7, none, none, none, none, none] [] SH D := by
    intro q
    induction q with
    | zero =>
      intro c m m7 hq hmin hmb
      obtain rfl : c = (D 57 5).toNat := by omega
      refine T_iload dX7_holdsFor_8 rfl ?_
      refine T_aload_n dX7_holdsFor_10 rfl ?_
      refine T_getI dX7_holdsFor_11 flX7_115 rfl rfl ?_
      refine T_icmp_ge 86 dX7_holdsFor_14 (by decide) (by first | (unfold InR; omega) | (simp [st2, InR]; omega)) (by first | (unfold InR; omega) | (simp [st2, InR]; omega)) (fun hc14 => ?_) (fun hc14 => (by exfalso; omega))
      refine T_lconst (a := 0) dX7_holdsFor_86 (by decide) ?_
      refine T_lstore dX7_holdsFor_87 (by decide) ?_
      refine T_iconst dX7_holdsFor_89 ?_
      refine T_istore dX7_holdsFor_90 (by decide) ?_
      refine T_iconst dX7_holdsFor_92 ?_
      refine T_istore dX7_holdsFor_93 (by decide) ?_
      exact loop2 m hmin hmb (D 57 5).toNat 0 1 none none (by omega) (Or.inl ⟨rfl, fun j hj => by omega⟩)
    | succ q ih =>
      intro c m m7 hq hmin hmb
      have hfc := farM_bd hL h c
      have hyc := hy c (by omega)
      have hb5 := hbb (5 * h + c)
      refine T_iload dX7_holdsFor_8 rfl ?_
      refine T_aload_n dX7_holdsFor_10 rfl ?_
      refine T_getI dX7_holdsFor_11 flX7_115 rfl rfl ?_
      refine T_icmp_ge 86 dX7_holdsFor_14 (by decide) (by first | (unfold InR; omega) | (simp [st2, InR]; omega)) (by first | (unfold InR; omega) | (simp [st2, InR]; omega)) (fun hc14 => (by exfalso; omega)) (fun hc14 => ?_)
      refine T_aload_n dX7_holdsFor_17 rfl ?_
      refine T_aload_n dX7_holdsFor_18 rfl ?_
      refine T_getR dX7_holdsFor_19 flX7_7 rfl rfl ?_
      refine T_iload_n dX7_holdsFor_22 rfl ?_
      refine T_iald dX7_holdsFor_23 rfl (by first | decide | omega) (by first | omega | (simp [st2]; omega)) (by first | omega | (simp [st2]; omega)) ?_
      refine T_aload_n dX7_holdsFor_24 rfl ?_
      refine T_getR dX7_holdsFor_25 flX7_13 rfl rfl ?_
      refine T_iload_n dX7_holdsFor_28 rfl ?_
      refine T_iald dX7_holdsFor_29 rfl (by first | decide | omega) (by first | omega | (simp [st2]; omega)) (by first | omega | (simp [st2]; omega)) ?_
      refine T_iload dX7_holdsFor_30 rfl ?_
      refine T_cV_3 dX7_holdsFor_32 lkX7_181 rfl (Nat.le_of_ble_eq_true rfl) (RO_r (by decide)) (Nat.le_of_ble_eq_true rfl) ?_
      refine r_farOf hL ⟨by omega, by omega⟩ (hL.2.2.2.1 _) (hL.2.2.2.2.1 _) ?_
      rw [ec]
      refine T_i2l dX7_holdsFor_35 (by first | (unfold InR; omega) | (simp [st2, InR]; omega)) ?_
      refine T_aload_n dX7_holdsFor_36 rfl ?_
      refine T_getR dX7_holdsFor_37 flX7_74 rfl rfl ?_
      refine T_iload_n dX7_holdsFor_40 rfl ?_
      refine T_iload dX7_holdsFor_41 rfl ?_
      refine T_iadd dX7_holdsFor_43 ?_
      refine T_iald dX7_holdsFor_44 rfl (by first | decide | omega) (by first | omega | (simp [st2]; omega)) (by first | omega | (simp [st2]; omega)) ?_
      refine T_i2l dX7_holdsFor_45 (hI _) ?_
      refine T_ladd dX7_holdsFor_46 ?_
      refine T_lstore dX7_holdsFor_47 (by decide) ?_
      refine T_aload_n dX7_holdsFor_49 rfl ?_
      refine T_getR dX7_holdsFor_50 flX7_31 rfl rfl ?_
      refine T_iconst dX7_holdsFor_53 ?_
      refine T_iload_n dX7_holdsFor_54 rfl ?_
      refine T_imul dX7_holdsFor_55 ?_
      refine T_iload dX7_holdsFor_56 rfl ?_
      refine T_iadd dX7_holdsFor_58 ?_
      refine T_zald dX7_holdsFor_59 rfl (by first | decide | omega) (by first | omega | (simp [st2]; omega)) (by first | omega | (simp [st2]; omega)) ?_
      refine T_if_ne 76 dX7_holdsFor_60 (by decide) (by rw [ix]; unfold InR; omega) (fun hc60 => ?_) (fun hc60 => ?_)
      · rw [ix] at hc60
        refine T_lload dX7_holdsFor_76 rfl ?_
        refine T_lstore dX7_holdsFor_78 (by decide) ?_
        refine T_iinc dX7_holdsFor_80 rfl (by decide) ?_
        refine T_goto (tgt := 8) dX7_holdsFor_83 (by decide) ?_
        first | exact ih (c + 1) _ _ (by omega) (minK_skip hmin (Or.inl (show brM D h c by unfold brM; omega))) hmb | exact ih (c + 1) _ _ (by omega) (minK_skip hmin (Or.inr (by omega))) hmb | exact ih (c + 1) _ _ (by omega) (minK_in hmin (show ¬ brM D h c by unfold brM; omega) (by omega)) (by omega)
      · rw [ix] at hc60
        refine T_lload dX7_holdsFor_63 rfl ?_
        refine T_lload dX7_holdsFor_65 rfl ?_
        refine T_lcmp dX7_holdsFor_67 (by first | (unfold In64; omega) | (simp [st2, In64]; omega)) (by first | (unfold In64; omega) | (simp [st2, In64]; omega)) ?_
        refine T_if_ge 76 dX7_holdsFor_68 (by decide) (inR_lc _ _) (fun hc68 => ?_) (fun hc68 => ?_)
        · rw [lc_ge] at hc68
          refine T_lload dX7_holdsFor_76 rfl ?_
          refine T_lstore dX7_holdsFor_78 (by decide) ?_
          refine T_iinc dX7_holdsFor_80 rfl (by decide) ?_
          refine T_goto (tgt := 8) dX7_holdsFor_83 (by decide) ?_
          first | exact ih (c + 1) _ _ (by omega) (minK_skip hmin (Or.inl (show brM D h c by unfold brM; omega))) hmb | exact ih (c + 1) _ _ (by omega) (minK_skip hmin (Or.inr (by omega))) hmb | exact ih (c + 1) _ _ (by omega) (minK_in hmin (show ¬ brM D h c by unfold brM; omega) (by omega)) (by omega)
        · rw [lc_ge] at hc68
          refine T_lload dX7_holdsFor_71 rfl ?_
          refine T_goto (tgt := 78) dX7_holdsFor_73 (by decide) ?_
          refine T_lstore dX7_holdsFor_78 (by decide) ?_
          refine T_iinc dX7_holdsFor_80 rfl (by decide) ?_
          refine T_goto (tgt := 8) dX7_holdsFor_83 (by decide) ?_
          first | exact ih (c + 1) _ _ (by omega) (minK_skip hmin (Or.inl (show brM D h c by unfold brM; omega))) hmb | exact ih (c + 1) _ _ (by omega) (minK_skip hmin (Or.inr (by omega))) hmb | exact ih (c + 1) _ _ (by omega) (minK_in hmin (show ¬ brM D h c by unfold brM; omega) (by omega)) (by omega)
  refine T_ldc2 (n := 10000000000) dX7_holdsFor_0 tk_1048 ?_
  refine T_lstore dX7_holdsFor_3 (by decide) ?_
  refine T_iconst dX7_holdsFor_5 ?_
  refine T_istore dX7_holdsFor_6 (by decide) ?_
  exact loop1 (D 57 5).toNat 0 _ none (by omega) ⟨fun j hj => by omega, Or.inl rfl⟩ ⟨by decide, by decide⟩
end

