def minI (c : Nat) (br : Nat → Prop) (fy : Nat → Int) (m : Int) : Prop := (∀ j, j < c → ¬ br j → m ≤ fy j) ∧ (m = 1500000000 ∨ ∃ j, j < c ∧ ¬ br j ∧ m = fy j)
def maxI (c : Nat) (br : Nat → Prop) (x fy : Nat → Int) (m : Int) : Prop := (∀ j, j < c → ¬ br j → 0 < x j → fy j ≤ m) ∧ (m = 0 ∨ ∃ j, j < c ∧ ¬ br j ∧ 0 < x j ∧ m = fy j)
theorem minI_skip {c : Nat} {br : Nat → Prop} {fy : Nat → Int} {m : Int} (h : minI c br fy m) (hb : br c) : minI (c + 1) br fy m := by
  refine ⟨fun j hj hn => ?_, ?_⟩
  · by_cases e : j = c
    · subst e; exact absurd hb hn
    · exact h.1 j (by omega) hn
  · rcases h.2 with h2 | ⟨j, a, b⟩
    · exact Or.inl h2
    · exact Or.inr ⟨j, by omega, b⟩
theorem minI_in {c : Nat} {br : Nat → Prop} {fy : Nat → Int} {m : Int} (h : minI c br fy m) (hb : ¬ br c) : minI (c + 1) br fy (if fy c < m then fy c else m) := by
  refine ⟨fun j hj hn => ?_, ?_⟩
  · by_cases e : j = c
    · subst e; split <;> omega
    · have := h.1 j (by omega) hn
      split <;> omega
  · by_cases q : fy c < m
    · rw [if_pos q]; exact Or.inr ⟨c, by omega, hb, rfl⟩
    · rw [if_neg q]
      rcases h.2 with h2 | ⟨j, a, b⟩
      · exact Or.inl h2
      · exact Or.inr ⟨j, by omega, b⟩
theorem maxI_skip {c : Nat} {br : Nat → Prop} {x fy : Nat → Int} {m : Int} (h : maxI c br x fy m) (hb : br c ∨ ¬ 0 < x c) : maxI (c + 1) br x fy m := by
  refine ⟨fun j hj hn hx => ?_, ?_⟩
  · by_cases e : j = c
    · subst e; rcases hb with hb | hb
      · exact absurd hb hn
      · exact absurd hx hb
    · exact h.1 j (by omega) hn hx
  · rcases h.2 with h2 | ⟨j, a, b⟩
    · exact Or.inl h2
    · exact Or.inr ⟨j, by omega, b⟩
theorem maxI_in {c : Nat} {br : Nat → Prop} {x fy : Nat → Int} {m : Int} (h : maxI c br x fy m) (hb : ¬ br c) (hx : 0 < x c) : maxI (c + 1) br x fy (if m < fy c then fy c else m) := by
  refine ⟨fun j hj hn hx2 => ?_, ?_⟩
  · by_cases e : j = c
    · subst e; split <;> omega
    · have := h.1 j (by omega) hn hx2
      split <;> omega
  · by_cases q : m < fy c
    · rw [if_pos q]; exact Or.inr ⟨c, by omega, hb, hx, rfl⟩
    · rw [if_neg q]
      rcases h.2 with h2 | ⟨j, a, b⟩
      · exact Or.inl h2
      · exact Or.inr ⟨j, by omega, b⟩
theorem least_iff {C : Nat} {br : Nat → Prop} {x fy : Nat → Int} {m M : Int} (h1 : minI C br fy m) (h2 : maxI C br x fy M) (hf : ∀ j, j < C → 0 ≤ fy j ∧ fy j ≤ 1000007200) : M ≤ m ↔ LeastG C x br fy := by
  constructor
  · intro h c hc hx hb c' hc' hb'
    have a := h2.1 c hc hb hx
    have b := h1.1 c' hc' hb'
    omega
  · intro h
    rcases h2.2 with a | ⟨c, a1, a2, a3, a4⟩ <;> rcases h1.2 with b | ⟨c', b1, b2, b3⟩
    · omega
    · have := hf c' b1; omega
    · have := hf c a1; omega
    · have := h c a1 a3 a2 c' b1 b2; omega
section
variable {g : G0} {d : Nat} {P : Option Value → List SC → DD → Prop} {D : DD}
theorem c_goesToLeast {b h : Nat} {row num : Int} (hL : LK D) (hb : SH[b]? = some (1, 80, [])) (hI : ∀ j, InR (D b j)) (hh : h < (D 1 8).toNat) (hr : 0 ≤ row ∧ row + D 1 9 ≤ 80) (hn : 0 ≤ num ∧ num + D 1 9 ≤ 80) (hy : ∀ c, c < (D 1 9).toNat → 0 ≤ D b (num + c).toNat ∧ D b (num + c).toNat ≤ 1000000000) (k1 : LeastG (D 1 9).toNat (fun c => D b (row + c).toNat) (fun c => bit (D 5 h) c) (fun c => farC D h c + D b (num + c).toNat) → P (some (iI 1)) SH D) (k0 : ¬ LeastG (D 1 9).toNat (fun c => D b (row + c).toNat) (fun c => bit (D 5 h) c) (fun c => farC D h c + D b (num + c).toNat) → P (some (iI 0)) SH D) : TM g mX1_goesToLeast (d + 2) P [.ref 1, iI h, .ref b, iI row, iI num] D := by
  have hN := hL.1
  have hM := hL.2.1
  have e0 : (↑h : Int).toNat = h := Int.toNat_natCast h
  have loop : ∀ (q c : Nat) (m M : Int) (m8 : Option Value), q + c = (D 1 9).toNat → 0 ≤ m ∧ m ≤ 1500000000 → 0 ≤ M ∧ M ≤ 1000007200 → minI c (fun c => bit (D 5 h) c) (fun c => farC D h c + D b (num + c).toNat) m → maxI c (fun c => bit (D 5 h) c) (fun c => D b (row + c).toNat) (fun c => farC D h c + D b (num + c).toNat) M → T g mX1_goesToLeast (rmd (d + 2) 0 0) 0 0 (Qm g (rmd (d + 2) 0 0) P) 10 [some (.ref 1), some (iI h), some (.ref b), some (iI row), some (iI num), some (iI m), some (iI M), some (iI c), m8] [] SH D := by
    intro q
    induction q with
    | zero =>
      intro c m M m8 hq hm hM2 h1 h2
      obtain rfl : c = (D 1 9).toNat := by omega
      have li := least_iff h1 h2 (fun j hj => by have := farC_bd hL h j; have := hy j hj; omega)
      refine T_iload dX1_goesToLeast_10 rfl ?_
      refine T_aload_n dX1_goesToLeast_12 rfl ?_
      refine T_getI dX1_goesToLeast_13 flX1_43 rfl rfl ?_
      refine T_icmp_ge 90 dX1_goesToLeast_16 (by decide) (by first | (unfold InR; omega) | (simp [st2, InR]; omega)) (by first | (unfold InR; omega) | (simp [st2, InR]; omega)) (fun hc16 => ?_) (fun hc16 => (by exfalso; omega))
      refine T_iload dX1_goesToLeast_90 rfl ?_
      refine T_iload dX1_goesToLeast_92 rfl ?_
      refine T_icmp_gt 101 dX1_goesToLeast_94 (by decide) (by first | (unfold InR; omega) | (simp [st2, InR]; omega)) (by first | (unfold InR; omega) | (simp [st2, InR]; omega)) (fun hc94 => ?_) (fun hc94 => ?_)
      · refine T_iconst dX1_goesToLeast_101 ?_
        refine T_zret dX1_goesToLeast_102 rfl (by decide) ?_
        first | exact k1 (li.mp (by omega)) | exact k0 (fun q => by have := li.mpr q; omega)
      · refine T_iconst dX1_goesToLeast_97 ?_
        refine T_goto (tgt := 102) dX1_goesToLeast_98 (by decide) ?_
        refine T_zret dX1_goesToLeast_102 rfl (by decide) ?_
        first | exact k1 (li.mp (by omega)) | exact k0 (fun q => by have := li.mpr q; omega)
    | succ q ih =>
      intro c m M m8 hq hm hM2 h1 h2
      have hfc := farC_bd hL h c
      have hyc := hy c (by omega)
      have hxc := hI (row + c).toNat
      have ec : farK (D 6 (c : Int).toNat) (D 2 (h : Int).toNat) (D 3 (h : Int).toNat) (D 7 (c : Int).toNat) (D 8 (c : Int).toNat) (D 1 10) = farC D h c := by rw [Int.toNat_natCast, e0]; rfl
      refine T_iload dX1_goesToLeast_10 rfl ?_
      refine T_aload_n dX1_goesToLeast_12 rfl ?_
      refine T_getI dX1_goesToLeast_13 flX1_43 rfl rfl ?_
      refine T_icmp_ge 90 dX1_goesToLeast_16 (by decide) (by first | (unfold InR; omega) | (simp [st2, InR]; omega)) (by first | (unfold InR; omega) | (simp [st2, InR]; omega)) (fun hc16 => (by exfalso; omega)) (fun hc16 => ?_)
      refine T_aload_n dX1_goesToLeast_19 rfl ?_
      refine T_iload_n dX1_goesToLeast_20 rfl ?_
      refine T_iload dX1_goesToLeast_21 rfl ?_
      refine T_cV_2 dX1_goesToLeast_23 lkX1_70 rfl (Nat.le_of_ble_eq_true rfl) (RO_r (by decide)) (Nat.le_of_ble_eq_true rfl) ?_
      refine c_isBarred ⟨by omega, by omega⟩ (fun h4 => ?_) (fun h4 => ?_) <;> rw [e0] at h4
      · refine T_if_ne 84 dX1_goesToLeast_26 (by decide) (by unfold InR; decide) (fun _ => ?_) (fun h => absurd (by decide) h)
        refine T_iinc dX1_goesToLeast_84 rfl (by decide) ?_
        refine T_goto (tgt := 10) dX1_goesToLeast_87 (by decide) ?_
        first | exact ih (c + 1) _ _ _ (by omega) hm hM2 (minI_skip h1 h4) (maxI_skip h2 (Or.inl h4)) | exact ih (c + 1) _ _ _ (by omega) b1 hM2 h1' h2' | exact ih (c + 1) _ _ _ (by omega) b1 b2 h1' h2'
      · refine T_if_ne 84 dX1_goesToLeast_26 (by decide) (by unfold InR; decide) (fun h => absurd h (by decide)) (fun _ => ?_)
        refine T_aload_n dX1_goesToLeast_29 rfl ?_
        refine T_iload dX1_goesToLeast_30 rfl ?_
        refine T_aload_n dX1_goesToLeast_32 rfl ?_
        refine T_getR dX1_goesToLeast_33 flX1_9 rfl rfl ?_
        refine T_iload_n dX1_goesToLeast_36 rfl ?_
        refine T_iald dX1_goesToLeast_37 rfl (by first | decide | omega) (by first | omega | (simp [st2]; omega)) (by first | omega | (simp [st2]; omega)) ?_
        refine T_aload_n dX1_goesToLeast_38 rfl ?_
        refine T_getR dX1_goesToLeast_39 flX1_15 rfl rfl ?_
        refine T_iload_n dX1_goesToLeast_42 rfl ?_
        refine T_iald dX1_goesToLeast_43 rfl (by first | decide | omega) (by first | omega | (simp [st2]; omega)) (by first | omega | (simp [st2]; omega)) ?_
        refine T_cV_3 dX1_goesToLeast_44 lkX1_76 rfl (Nat.le_of_ble_eq_true rfl) (RO_r (by decide)) (Nat.le_of_ble_eq_true rfl) ?_
        refine c_farTo hL ⟨by omega, by omega⟩ (hL.2.2.2.2.1 _) (hL.2.2.2.2.2.1 _) ?_
        rw [ec]
        refine T_aload_n dX1_goesToLeast_47 rfl ?_
        refine T_iload dX1_goesToLeast_48 rfl ?_
        refine T_iload dX1_goesToLeast_50 rfl ?_
        refine T_iadd dX1_goesToLeast_52 ?_
        refine T_iald dX1_goesToLeast_53 hb (by first | decide | omega) (by first | omega | (simp [st2]; omega)) (by first | omega | (simp [st2]; omega)) ?_
        refine T_iadd dX1_goesToLeast_54 ?_
        refine T_istore dX1_goesToLeast_55 (by decide) ?_
        refine T_iload dX1_goesToLeast_57 rfl ?_
        refine T_iload dX1_goesToLeast_59 rfl ?_
        refine T_min dX1_goesToLeast_61 lkX1_80 (by first | (unfold InR; omega) | (simp [st2, InR]; omega)) (by first | (unfold InR; omega) | (simp [st2, InR]; omega)) (Nat.le_of_ble_eq_true rfl) ⟨by show _ ≤ _; first | decide | (simp only [rmd]; omega) | omega, by show _ ≤ _; first | decide | (simp only [rmd]; omega) | omega⟩ ?_
        refine T_istore dX1_goesToLeast_64 (by decide) ?_
        have b1 : 0 ≤ (if farC D h c + D b (num + c).toNat < m then farC D h c + D b (num + c).toNat else m) ∧ (if farC D h c + D b (num + c).toNat < m then farC D h c + D b (num + c).toNat else m) ≤ 1500000000 := by split <;> omega
        have h1' := minI_in h1 h4
        refine T_aload_n dX1_goesToLeast_66 rfl ?_
        refine T_iload_n dX1_goesToLeast_67 rfl ?_
        refine T_iload dX1_goesToLeast_68 rfl ?_
        refine T_iadd dX1_goesToLeast_70 ?_
        refine T_iald dX1_goesToLeast_71 hb (by first | decide | omega) (by first | omega | (simp [st2]; omega)) (by first | omega | (simp [st2]; omega)) ?_
        refine T_if_le 84 dX1_goesToLeast_72 (by decide) hxc (fun hc72 => ?_) (fun hc72 => ?_)
        · have h2' := maxI_skip h2 (Or.inr (show ¬ 0 < D b (row + c).toNat by omega))
          refine T_iinc dX1_goesToLeast_84 rfl (by decide) ?_
          refine T_goto (tgt := 10) dX1_goesToLeast_87 (by decide) ?_
          first | exact ih (c + 1) _ _ _ (by omega) hm hM2 (minI_skip h1 h4) (maxI_skip h2 (Or.inl h4)) | exact ih (c + 1) _ _ _ (by omega) b1 hM2 h1' h2' | exact ih (c + 1) _ _ _ (by omega) b1 b2 h1' h2'
        · have h2' := maxI_in h2 h4 (show 0 < D b (row + c).toNat by omega)
          have b2 : 0 ≤ (if M < farC D h c + D b (num + c).toNat then farC D h c + D b (num + c).toNat else M) ∧ (if M < farC D h c + D b (num + c).toNat then farC D h c + D b (num + c).toNat else M) ≤ 1000007200 := by split <;> omega
          refine T_iload dX1_goesToLeast_75 rfl ?_
          refine T_iload dX1_goesToLeast_77 rfl ?_
          refine T_max dX1_goesToLeast_79 lkX1_84 (by first | (unfold InR; omega) | (simp [st2, InR]; omega)) (by first | (unfold InR; omega) | (simp [st2, InR]; omega)) (Nat.le_of_ble_eq_true rfl) ⟨by show _ ≤ _; first | decide | (simp only [rmd]; omega) | omega, by show _ ≤ _; first | decide | (simp only [rmd]; omega) | omega⟩ ?_
          refine T_istore dX1_goesToLeast_82 (by decide) ?_
          refine T_iinc dX1_goesToLeast_84 rfl (by decide) ?_
          refine T_goto (tgt := 10) dX1_goesToLeast_87 (by decide) ?_
          first | exact ih (c + 1) _ _ _ (by omega) hm hM2 (minI_skip h1 h4) (maxI_skip h2 (Or.inl h4)) | exact ih (c + 1) _ _ _ (by omega) b1 hM2 h1' h2' | exact ih (c + 1) _ _ _ (by omega) b1 b2 h1' h2'
  refine T_ldc (n := 1500000000) dX1_goesToLeast_0 tk_566 ?_
  refine T_istore dX1_goesToLeast_2 (by decide) ?_
  refine T_iconst dX1_goesToLeast_4 ?_
  refine T_istore dX1_goesToLeast_5 (by decide) ?_
  refine T_iconst dX1_goesToLeast_7 ?_
  refine T_istore dX1_goesToLeast_8 (by decide) ?_
  exact loop (D 1 9).toNat 0 _ _ none (by omega) ⟨by decide, by decide⟩ ⟨by decide, by decide⟩ ⟨fun j hj => by omega, Or.inl rfl⟩ ⟨fun j hj => by omega, Or.inl rfl⟩
/-- the cells of a proof, from i on in the cells b -/
abbrev pX (D : DD) (b : Nat) (i : Int) (h c : Nat) : Int := D b (i + h * D 1 9 + c).toNat
abbrev pY (D : DD) (b : Nat) (i : Int) (c : Nat) : Int := D b (i + D 1 8 * D 1 9 + c).toNat
abbrev PfC (D : DD) (b : Nat) (i : Int) : Prop := PfG (D 1 8).toNat (D 1 9).toNat (D 4) (D 9) (fun h c => bit (D 5 h) c) (farC D) (pX D b i) (pY D b i)
theorem c_proofHolds {b : Nat} {i : Int} (hL : LK D) (hb : SH[b]? = some (1, 80, [])) (hI : ∀ j, InR (D b j)) (hi : 0 ≤ i ∧ i + D 1 8 * D 1 9 + D 1 9 ≤ 80) (k1 : PfC D b i → P (some (iI 1)) SH D) (k0 : ¬ PfC D b i → P (some (iI 0)) SH D) : TM g mX1_proofHolds (d + 3) P [.ref 1, .ref b, iI i] D := by
  have hN := hL.1
  have hM := hL.2.1
  have hmul : ∀ h : Nat, h < (D 1 8).toNat → 0 ≤ (h : Int) * D 1 9 ∧ (h : Int) * D 1 9 + D 1 9 ≤ D 1 8 * D 1 9 := by
    intro h hh
    refine ⟨Int.mul_nonneg (by omega) hM.1, ?_⟩
    have := Int.mul_le_mul_of_nonneg_right (show (h : Int) + 1 ≤ D 1 8 by omega) hM.1
    rw [Int.add_mul, Int.one_mul] at this
    exact this
  have hnn : 0 ≤ D 1 8 * D 1 9 := Int.mul_nonneg hN.1 hM.1
  have loop3 : (∀ h, h < (D 1 8).toNat → HomeG (D 1 9).toNat (pX D b i h) (fun c => bit (D 5 h) c) (D 4 h)) → (∀ c, c < (D 1 9).toNat → NumG (D 1 8).toNat (fun h => pX D b i h c) (D 9 c) (pY D b i c)) → ∀ (q h : Nat), q + h = (D 1 8).toNat → (∀ j, j < h → LeastG (D 1 9).toNat (pX D b i j) (fun c => bit (D 5 j) c) (fun c => farC D j c + pY D b i c)) → T g mX1_proofHolds (rmd (d + 3) 0 0) 0 0 (Qm g (rmd (d + 3) 0 0) P) 91 [some (.ref 1), some (.ref b), some (iI i), some (iI (i + D 1 8 * D 1 9)), some (iI h)] [] SH D := by
    intro g1 g2 q
    induction q with
    | zero =>
      intro h hq g3
      refine T_iload dX1_proofHolds_91 rfl ?_
      refine T_aload_n dX1_proofHolds_93 rfl ?_
      refine T_getI dX1_proofHolds_94 flX1_40 rfl rfl ?_
      refine T_icmp_ge 128 dX1_proofHolds_97 (by decide) (by first | (unfold InR; omega) | (simp [st2, InR]; omega)) (by first | (unfold InR; omega) | (simp [st2, InR]; omega)) (fun hc97 => ?_) (fun hc97 => (by exfalso; omega))
      refine T_iconst dX1_proofHolds_128 ?_
      refine T_zret dX1_proofHolds_129 rfl (by decide) ?_
      exact k1 ⟨g1, g2, fun j hj => g3 j (by omega)⟩
    | succ q ih =>
      intro h hq g3
      have hm := hmul h (by omega)
      refine T_iload dX1_proofHolds_91 rfl ?_
      refine T_aload_n dX1_proofHolds_93 rfl ?_
      refine T_getI dX1_proofHolds_94 flX1_40 rfl rfl ?_
      refine T_icmp_ge 128 dX1_proofHolds_97 (by decide) (by first | (unfold InR; omega) | (simp [st2, InR]; omega)) (by first | (unfold InR; omega) | (simp [st2, InR]; omega)) (fun hc97 => (by exfalso; omega)) (fun hc97 => ?_)
      refine T_aload_n dX1_proofHolds_100 rfl ?_
      refine T_iload dX1_proofHolds_101 rfl ?_
      refine T_aload_n dX1_proofHolds_103 rfl ?_
      refine T_iload_n dX1_proofHolds_104 rfl ?_
      refine T_iload dX1_proofHolds_105 rfl ?_
      refine T_aload_n dX1_proofHolds_107 rfl ?_
      refine T_getI dX1_proofHolds_108 flX1_43 rfl rfl ?_
      refine T_imul dX1_proofHolds_111 ?_
      refine T_iadd dX1_proofHolds_112 ?_
      refine T_iload_n dX1_proofHolds_113 rfl ?_
      refine T_cV_4 dX1_proofHolds_114 lkX1_67 rfl (Nat.le_of_ble_eq_true rfl) (RO_r (by decide)) (Nat.le_of_ble_eq_true rfl) ?_
      refine c_goesToLeast hL hb hI (by omega) (by omega) (by omega) (fun c hc => ⟨(g2 c hc).2.1, (g2 c hc).2.2.1⟩) (fun g4 => ?_) (fun g4 => ?_)
      · refine T_if_ne 122 dX1_proofHolds_117 (by decide) (by unfold InR; decide) (fun _ => ?_) (fun h => absurd (by decide) h)
        refine T_iinc dX1_proofHolds_122 rfl (by decide) ?_
        refine T_goto (tgt := 91) dX1_proofHolds_125 (by decide) ?_
        exact ih (h + 1) (by omega) (fun j hj => by
          by_cases e : j = h
          · subst e; exact g4
          · exact g3 j (by omega))
      · refine T_if_ne 122 dX1_proofHolds_117 (by decide) (by unfold InR; decide) (fun h => absurd h (by decide)) (fun _ => ?_)
        refine T_iconst dX1_proofHolds_120 ?_
        refine T_zret dX1_proofHolds_121 rfl (by decide) ?_
        exact k0 (fun q => g4 (q.2.2 h (by omega)))
  have loop2 : (∀ h, h < (D 1 8).toNat → HomeG (D 1 9).toNat (pX D b i h) (fun c => bit (D 5 h) c) (D 4 h)) → ∀ (q c : Nat), q + c = (D 1 9).toNat → (∀ j, j < c → NumG (D 1 8).toNat (fun h => pX D b i h j) (D 9 j) (pY D b i j)) → T g mX1_proofHolds (rmd (d + 3) 0 0) 0 0 (Qm g (rmd (d + 3) 0 0) P) 54 [some (.ref 1), some (.ref b), some (iI i), some (iI (i + D 1 8 * D 1 9)), some (iI c)] [] SH D := by
    intro g1 q
    induction q with
    | zero =>
      intro c hq g3
      refine T_iload dX1_proofHolds_54 rfl ?_
      refine T_aload_n dX1_proofHolds_56 rfl ?_
      refine T_getI dX1_proofHolds_57 flX1_43 rfl rfl ?_
      refine T_icmp_ge 88 dX1_proofHolds_60 (by decide) (by first | (unfold InR; omega) | (simp [st2, InR]; omega)) (by first | (unfold InR; omega) | (simp [st2, InR]; omega)) (fun hc60 => ?_) (fun hc60 => (by exfalso; omega))
      refine T_iconst dX1_proofHolds_88 ?_
      refine T_istore dX1_proofHolds_89 (by decide) ?_
      exact loop3 g1 (fun j hj => g3 j (by omega)) (D 1 8).toNat 0 (by omega) (fun j hj => by omega)
    | succ q ih =>
      intro c hq g3
      refine T_iload dX1_proofHolds_54 rfl ?_
      refine T_aload_n dX1_proofHolds_56 rfl ?_
      refine T_getI dX1_proofHolds_57 flX1_43 rfl rfl ?_
      refine T_icmp_ge 88 dX1_proofHolds_60 (by decide) (by first | (unfold InR; omega) | (simp [st2, InR]; omega)) (by first | (unfold InR; omega) | (simp [st2, InR]; omega)) (fun hc60 => (by exfalso; omega)) (fun hc60 => ?_)
      refine T_aload_n dX1_proofHolds_63 rfl ?_
      refine T_iload dX1_proofHolds_64 rfl ?_
      refine T_aload_n dX1_proofHolds_66 rfl ?_
      refine T_iload_n dX1_proofHolds_67 rfl ?_
      refine T_aload_n dX1_proofHolds_68 rfl ?_
      refine T_iload_n dX1_proofHolds_69 rfl ?_
      refine T_iload dX1_proofHolds_70 rfl ?_
      refine T_iadd dX1_proofHolds_72 ?_
      refine T_iald dX1_proofHolds_73 hb (by first | decide | omega) (by first | omega | (simp [st2]; omega)) (by first | omega | (simp [st2]; omega)) ?_
      refine T_cV_4 dX1_proofHolds_74 lkX1_63 rfl (Nat.le_of_ble_eq_true rfl) (RO_r (by decide)) (Nat.le_of_ble_eq_true rfl) ?_
      refine c_numberFits hL hb (by omega) (by omega) (hI _) (fun h hh => ?_) (fun g4 => ?_) (fun g4 => ?_)
      · have g5 := g1 h hh
        have g6 := sm_mono (f := pX D b i h) (k := c + 1) (D 1 9).toNat (fun j hj => (g5.1 j hj).1) (by omega)
        have g7 := sm_mono (f := pX D b i h) (k := 0) c (fun j hj => (g5.1 j (by omega)).1) (by omega)
        have g8 := (g5.1 c (by omega)).1
        have g9 := hL.2.2.2.2.2.2.1 h
        rw [g5.2] at g6
        simp only [sm] at g6 g7
        refine ⟨g8, ?_⟩
        show pX D b i h c ≤ 5
        omega
      · refine T_if_ne 82 dX1_proofHolds_77 (by decide) (by unfold InR; decide) (fun _ => ?_) (fun h => absurd (by decide) h)
        refine T_iinc dX1_proofHolds_82 rfl (by decide) ?_
        refine T_goto (tgt := 54) dX1_proofHolds_85 (by decide) ?_
        exact ih (c + 1) (by omega) (fun j hj => by
          by_cases e : j = c
          · subst e; exact g4
          · exact g3 j (by omega))
      · refine T_if_ne 82 dX1_proofHolds_77 (by decide) (by unfold InR; decide) (fun h => absurd h (by decide)) (fun _ => ?_)
        refine T_iconst dX1_proofHolds_80 ?_
        refine T_zret dX1_proofHolds_81 rfl (by decide) ?_
        exact k0 (fun q => g4 (q.2.1 c (by omega)))
  have loop1 : ∀ (q h : Nat), q + h = (D 1 8).toNat → (∀ j, j < h → HomeG (D 1 9).toNat (pX D b i j) (fun c => bit (D 5 j) c) (D 4 j)) → T g mX1_proofHolds (rmd (d + 3) 0 0) 0 0 (Qm g (rmd (d + 3) 0 0) P) 15 [some (.ref 1), some (.ref b), some (iI i), some (iI (i + D 1 8 * D 1 9)), some (iI h)] [] SH D := by
    intro q
    induction q with
    | zero =>
      intro h hq g3
      refine T_iload dX1_proofHolds_15 rfl ?_
      refine T_aload_n dX1_proofHolds_17 rfl ?_
      refine T_getI dX1_proofHolds_18 flX1_40 rfl rfl ?_
      refine T_icmp_ge 51 dX1_proofHolds_21 (by decide) (by first | (unfold InR; omega) | (simp [st2, InR]; omega)) (by first | (unfold InR; omega) | (simp [st2, InR]; omega)) (fun hc21 => ?_) (fun hc21 => (by exfalso; omega))
      refine T_iconst dX1_proofHolds_51 ?_
      refine T_istore dX1_proofHolds_52 (by decide) ?_
      exact loop2 (fun j hj => g3 j (by omega)) (D 1 9).toNat 0 (by omega) (fun j hj => by omega)
    | succ q ih =>
      intro h hq g3
      have hm := hmul h (by omega)
      refine T_iload dX1_proofHolds_15 rfl ?_
      refine T_aload_n dX1_proofHolds_17 rfl ?_
      refine T_getI dX1_proofHolds_18 flX1_40 rfl rfl ?_
      refine T_icmp_ge 51 dX1_proofHolds_21 (by decide) (by first | (unfold InR; omega) | (simp [st2, InR]; omega)) (by first | (unfold InR; omega) | (simp [st2, InR]; omega)) (fun hc21 => (by exfalso; omega)) (fun hc21 => ?_)
      refine T_aload_n dX1_proofHolds_24 rfl ?_
      refine T_iload dX1_proofHolds_25 rfl ?_
      refine T_aload_n dX1_proofHolds_27 rfl ?_
      refine T_iload_n dX1_proofHolds_28 rfl ?_
      refine T_iload dX1_proofHolds_29 rfl ?_
      refine T_aload_n dX1_proofHolds_31 rfl ?_
      refine T_getI dX1_proofHolds_32 flX1_43 rfl rfl ?_
      refine T_imul dX1_proofHolds_35 ?_
      refine T_iadd dX1_proofHolds_36 ?_
      refine T_cV_3 dX1_proofHolds_37 lkX1_59 rfl (Nat.le_of_ble_eq_true rfl) (RO_r (by decide)) (Nat.le_of_ble_eq_true rfl) ?_
      refine c_allOfHomeGo hL hb hI (by omega) (by omega) (fun g4 => ?_) (fun g4 => ?_)
      · refine T_if_ne 45 dX1_proofHolds_40 (by decide) (by unfold InR; decide) (fun _ => ?_) (fun h => absurd (by decide) h)
        refine T_iinc dX1_proofHolds_45 rfl (by decide) ?_
        refine T_goto (tgt := 15) dX1_proofHolds_48 (by decide) ?_
        exact ih (h + 1) (by omega) (fun j hj => by
          by_cases e : j = h
          · subst e; exact g4
          · exact g3 j (by omega))
      · refine T_if_ne 45 dX1_proofHolds_40 (by decide) (by unfold InR; decide) (fun h => absurd h (by decide)) (fun _ => ?_)
        refine T_iconst dX1_proofHolds_43 ?_
        refine T_zret dX1_proofHolds_44 rfl (by decide) ?_
        exact k0 (fun q => g4 (q.1 h (by omega)))
  refine T_iload_n dX1_proofHolds_0 rfl ?_
  refine T_aload_n dX1_proofHolds_1 rfl ?_
  refine T_getI dX1_proofHolds_2 flX1_40 rfl rfl ?_
  refine T_aload_n dX1_proofHolds_5 rfl ?_
  refine T_getI dX1_proofHolds_6 flX1_43 rfl rfl ?_
  refine T_imul dX1_proofHolds_9 ?_
  refine T_iadd dX1_proofHolds_10 ?_
  refine T_istore_n dX1_proofHolds_11 (by decide) ?_
  refine T_iconst dX1_proofHolds_12 ?_
  refine T_istore dX1_proofHolds_13 (by decide) ?_
  exact loop1 (D 1 8).toNat 0 (by omega) (fun j hj => by omega)
/-- check: refused, of another length, or whether the proof holds -/
theorem c_check {k l i n : Int} (hL : LK D) (hS : SK D) (hk : InR k) (hl : InR l) (hi : InR i) (hn : InR n) (kU : ¬ (0 ≤ k ∧ k ≤ 3) → P (some (iI (-1))) SH (st2 D 0 10 0)) (kR : 0 ≤ k → k ≤ 3 → (rowR (D (49 + 2 * k.toNat) 1) (D (49 + 2 * k.toNat) 2) (D (49 + 2 * k.toNat) 3) l i n).1 ≠ 0 → P (some (iI (rowR (D (49 + 2 * k.toNat) 1) (D (49 + 2 * k.toNat) 2) (D (49 + 2 * k.toNat) 3) l i n).1)) SH (st2 D 0 10 (rowR (D (49 + 2 * k.toNat) 1) (D (49 + 2 * k.toNat) 2) (D (49 + 2 * k.toNat) 3) l i n).2)) (kO : 0 ≤ k → k ≤ 3 → (rowR (D (49 + 2 * k.toNat) 1) (D (49 + 2 * k.toNat) 2) (D (49 + 2 * k.toNat) 3) l i n).1 = 0 → n ≠ D 1 8 * D 1 9 + D 1 9 → P (some (iI (-2))) SH (st2 D 0 10 0))
    (k1 : 0 ≤ k → k ≤ 3 → (rowR (D (49 + 2 * k.toNat) 1) (D (49 + 2 * k.toNat) 2) (D (49 + 2 * k.toNat) 3) l i n).1 = 0 → n = D 1 8 * D 1 9 + D 1 9 → PfC D (49 + 2 * k.toNat + 1) i → P (some (iI 1)) SH (st2 D 0 10 0)) (k0 : 0 ≤ k → k ≤ 3 → (rowR (D (49 + 2 * k.toNat) 1) (D (49 + 2 * k.toNat) 2) (D (49 + 2 * k.toNat) 3) l i n).1 = 0 → n = D 1 8 * D 1 9 + D 1 9 → ¬ PfC D (49 + 2 * k.toNat + 1) i → P (some (iI 0)) SH (st2 D 0 10 0)) : TM g mX6_check (d + 4) P [.ref 0, iI k, iI l, iI i, iI n] D := by
  have hn2 := hn
  unfold InR at hn2
  have hN := hL.1
  have hM := hL.2.1
  have hnn : 0 ≤ D 1 8 * D 1 9 := Int.mul_nonneg hN.1 hM.1
  have hn5 : D 1 8 * D 1 9 ≤ 10 * D 1 9 := Int.mul_le_mul_of_nonneg_right hN.2 hM.1
  refine T_aload_n dX6_check_0 rfl ?_
  refine T_iload_n dX6_check_1 rfl ?_
  refine T_iload_n dX6_check_2 rfl ?_
  refine T_iload_n dX6_check_3 rfl ?_
  refine T_iload dX6_check_4 rfl ?_
  refine T_cV_4 dX6_check_6 lkX6_95 rfl (Nat.le_of_ble_eq_true rfl) (RO_r (by decide)) (Nat.le_of_ble_eq_true rfl) ?_
  refine c_refusalOfRow hS hk hl hi hn (fun h1 => ?_) (fun h1 h2 => ?_)
  · skip
    refine T_istore dX6_check_9 (by decide) ?_
    skip
    refine T_iload dX6_check_11 rfl ?_
    refine T_if_eq 19 dX6_check_13 (by decide) (by unfold InR; decide) (fun h => absurd h (by decide)) (fun _ => ?_)
    refine T_iload dX6_check_16 rfl ?_
    refine T_iret dX6_check_18 rfl ?_
    first | exact kU (by omega) | exact kR h1 h2 hc13
  · skip
    refine T_istore dX6_check_9 (by decide) ?_
    skip
    refine T_iload dX6_check_11 rfl ?_
    refine T_if_eq 19 dX6_check_13 (by decide) (by unfold InR; unfold rowR; (repeat' split) <;> decide) (fun hc13 => ?_) (fun hc13 => ?_)
    · have hf : (rowR (D (49 + 2 * k.toNat) 1) (D (49 + 2 * k.toNat) 2) (D (49 + 2 * k.toNat) 3) l i n).2 = 0 ∧ (0 ≤ i ∧ i ≤ D (49 + 2 * k.toNat) 3 ∧ n ≤ D (49 + 2 * k.toNat) 3 - i) := by
        revert hc13
        unfold rowR
        (repeat' split) <;> first | (intro q; exact absurd q (by decide)) | (intro _; refine ⟨rfl, ?_⟩; assumption)
      have kO := kO h1 h2 hc13
      have k1 := k1 h1 h2 hc13
      have k0 := k0 h1 h2 hc13
      rw [hf.1]
      have hsh := shAt_k (n := k.toNat) (by omega)
      obtain ⟨s1, s2, s3, s4⟩ := hS k.toNat (by omega)
      have hL' : LK (st2 D 0 10 0) := hL
      have e5 : st2 D 0 10 0 (49 + 2 * k.toNat + 1) = D (49 + 2 * k.toNat + 1) := st2_row (by omega)
      have hP : PfC (st2 D 0 10 0) (49 + 2 * k.toNat + 1) i = PfC D (49 + 2 * k.toNat + 1) i := by unfold PfC pX pY; rw [e5]; rfl
      have hI' : ∀ j, InR (st2 D 0 10 0 (49 + 2 * k.toNat + 1) j) := fun j => by rw [e5]; exact s4 j
      generalize hD1 : st2 D 0 10 0 = D1 at hL' e5 hP hI' kO k1 k0 ⊢
      have q8 : D1 1 8 = D 1 8 := by rw [← hD1]; rfl
      have q9 : D1 1 9 = D 1 9 := by rw [← hD1]; rfl
      rw [← q8, ← q9] at kO k1 k0
      rw [← q8, ← q9] at hnn hn5
      have hM1 := hL'.2.1
      refine T_iload dX6_check_19 rfl ?_
      refine T_aload_n dX6_check_21 rfl ?_
      refine T_getR dX6_check_22 flX6_12 rfl rfl ?_
      refine T_getI dX6_check_25 flX6_81 rfl rfl ?_
      refine T_aload_n dX6_check_28 rfl ?_
      refine T_getR dX6_check_29 flX6_12 rfl rfl ?_
      refine T_getI dX6_check_32 flX6_88 rfl rfl ?_
      refine T_imul dX6_check_35 ?_
      refine T_aload_n dX6_check_36 rfl ?_
      refine T_getR dX6_check_37 flX6_12 rfl rfl ?_
      refine T_getI dX6_check_40 flX6_88 rfl rfl ?_
      refine T_iadd dX6_check_43 ?_
      refine T_icmp_eq 50 dX6_check_44 (by decide) (by first | (unfold InR; omega) | (simp [st2, InR]; omega)) (by first | (unfold InR; omega) | (simp [st2, InR]; omega)) (fun hc44 => ?_) (fun hc44 => ?_)
      · refine T_aload_n dX6_check_50 rfl ?_
        refine T_getR dX6_check_51 flX6_12 rfl rfl ?_
        refine T_aload_n dX6_check_54 rfl ?_
        refine T_getR dX6_check_55 flX6_51 rfl rfl ?_
        refine T_iload_n dX6_check_58 rfl ?_
        refine T_aald dX6_check_59 rfl (by decide) (by first | omega | (simp [st2]; omega)) (by first | omega | (simp [st2]; omega)) (sheet_at h1 h2) ?_
        refine T_getR dX6_check_60 flX6_98 hsh.1 rfl ?_
        refine T_iload_n dX6_check_63 rfl ?_
        refine T_cV_2 dX6_check_64 lkX6_171 rfl (Nat.le_of_ble_eq_true rfl) (RO_r (by decide)) (Nat.le_of_ble_eq_true rfl) ?_
        refine c_proofHolds hL' hsh.2 hI' (by omega) (fun g4 => ?_) (fun g4 => ?_)
        · refine T_if_eq 74 dX6_check_67 (by decide) (by unfold InR; decide) (fun h => absurd h (by decide)) (fun _ => ?_)
          refine T_iconst dX6_check_70 ?_
          refine T_goto (tgt := 75) dX6_check_71 (by decide) ?_
          refine T_iret dX6_check_75 rfl ?_
          first | exact k1 (by omega) (hP ▸ g4) | exact k0 (by omega) (fun q => g4 (hP ▸ q))
        · refine T_if_eq 74 dX6_check_67 (by decide) (by unfold InR; decide) (fun _ => ?_) (fun h => absurd (by decide) h)
          refine T_iconst dX6_check_74 ?_
          refine T_iret dX6_check_75 rfl ?_
          first | exact k1 (by omega) (hP ▸ g4) | exact k0 (by omega) (fun q => g4 (hP ▸ q))
      · refine T_bipush dX6_check_47 (by decide) ?_
        refine T_iret dX6_check_49 rfl ?_
        exact kO (by omega)
    · refine T_iload dX6_check_16 rfl ?_
      refine T_iret dX6_check_18 rfl ?_
      first | exact kU (by omega) | exact kR h1 h2 hc13
end

