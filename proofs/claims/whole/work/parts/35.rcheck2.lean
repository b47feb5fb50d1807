section
variable {g : G0} {d : Nat} {P : Option Value → List SC → DD → Prop} {D : DD}
abbrev qX (D : DD) (fr : Int) (h c : Nat) : Int := D 79 (fr + D 57 5 * h + c).toNat
abbrev qY (D : DD) (fr : Int) (c : Nat) : Int := D 79 (fr + D 57 1 * D 57 5 + c).toNat
abbrev PfM (D : DD) (fr : Int) : Prop := PfG (D 57 1).toNat (D 57 5).toNat (D 60) (D 64) (brM D) (farM D) (qX D fr) (qY D fr)
def nums (D : DD) (fr : Int) (c : Nat) : Prop := ∀ j, j < c → NumG (D 57 1).toNat (fun h => qX D fr h j) (D 64 j) (qY D fr j)
def hmsR (D : DD) (fr : Int) (h : Nat) : Prop := ∀ j, j < h → HomeG (D 57 5).toNat (qX D fr j) (brM D j) (D 60 j) ∧ LeastG (D 57 5).toNat (qX D fr j) (brM D j) (fun c => farM D j c + qY D fr c)
abbrev rwM (D : DD) (k l i n : Int) : Int × Int := rowR (if D 77 k.toNat < 0 then 0 else 1) (D 78 k.toNat) (D 77 k.toNat) l i n
theorem r_check {k l i n : Int} (hL : MK D) (hR : RK D) (hk : InR k) (hl : InR l) (hi : InR i) (hn : InR n) (kU : ¬ (0 ≤ k ∧ k ≤ 3) → P (some (iI (-1))) SH (st2 D 57 0 0)) (kR : 0 ≤ k → k ≤ 3 → (rwM D k l i n).1 ≠ 0 → P (some (iI (rwM D k l i n).1)) SH (st2 D 57 0 (rwM D k l i n).2)) (kO : 0 ≤ k → k ≤ 3 → (rwM D k l i n).1 = 0 → n ≠ D 57 1 * D 57 5 + D 57 5 → P (some (iI (-2))) SH (st2 D 57 0 0))
    (k1 : 0 ≤ k → k ≤ 3 → (rwM D k l i n).1 = 0 → n = D 57 1 * D 57 5 + D 57 5 → PfM D (80 * k + i) → P (some (iI 1)) SH (st2 D 57 0 0)) (k0 : 0 ≤ k → k ≤ 3 → (rwM D k l i n).1 = 0 → n = D 57 1 * D 57 5 + D 57 5 → ¬ PfM D (80 * k + i) → P (some (iI 0)) SH (st2 D 57 0 0)) : TM g mX7_check (d + 3) P [.ref 57, iI k, iI l, iI i, iI n] D := by
  have hn2 := hn
  have hi2 := hi
  unfold InR at hn2 hi2
  have hN := hL.1
  have hM := hL.2.1
  have hnn : 0 ≤ D 57 1 * D 57 5 := Int.mul_nonneg hN.1 hM.1
  have hn5 : D 57 1 * D 57 5 ≤ 10 * D 57 5 := Int.mul_le_mul_of_nonneg_right hN.2 hM.1
  have loopB : 0 ≤ k → k ≤ 3 → (rwM D k l i n).1 = 0 → n = D 57 1 * D 57 5 + D 57 5 → (0 ≤ i ∧ i ≤ D 77 k.toNat ∧ n ≤ D 77 k.toNat - i) → D 77 k.toNat ≤ 80 → ∀ (q h : Nat) (v : Int), q + h = (D 57 1).toNat → ((v = 1 ∧ nums D (80 * k + i) (D 57 5).toNat ∧ hmsR D (80 * k + i) h) ∨ (v = 0 ∧ ¬ (nums D (80 * k + i) (D 57 5).toNat ∧ hmsR D (80 * k + i) h))) → T g mX7_check (rmd (d + 3) 0 0) 0 0 (Qm g (rmd (d + 3) 0 0) P) 130 [some (.ref 57), some (iI k), some (iI l), some (iI i), some (iI n), some (iI 0), some (iI (80 * k + i)), some (iI (80 * k + i + D 57 1 * D 57 5)), some (iI v), some (iI h)] [] SH D := by
    intro h1 h2 h3 h4 h5 h6 q
    induction q with
    | zero =>
      intro h v hq hv
      have hv01 : v = 0 ∨ v = 1 := by rcases hv with ⟨a, _⟩ | ⟨a, _⟩ <;> omega
      have pf : (nums D (80 * k + i) (D 57 5).toNat ∧ hmsR D (80 * k + i) h) ↔ PfM D (80 * k + i) := by
        obtain rfl : h = (D 57 1).toNat := by omega
        constructor
        · rintro ⟨a, b⟩; exact ⟨fun j hj => (b j hj).1, a, fun j hj => (b j hj).2⟩
        · rintro ⟨a, b, c⟩; exact ⟨b, fun j hj => ⟨a j hj, c j hj⟩⟩
      refine T_iload dX7_check_130 rfl ?_
      refine T_aload_n dX7_check_132 rfl ?_
      refine T_getI dX7_check_133 flX7_112 rfl rfl ?_
      refine T_icmp_ge 170 dX7_check_136 (by decide) (by first | (unfold InR; omega) | (simp [st2, InR]; omega)) (by first | (unfold InR; omega) | (simp [st2, InR]; omega)) (fun hc136 => ?_) (fun hc136 => (by exfalso; omega))
      refine T_aload_n dX7_check_170 rfl ?_
      refine T_iload dX7_check_171 rfl ?_
      refine T_if_eq 180 dX7_check_173 (by decide) (by first | (unfold InR; omega) | (simp [st2, InR]; omega)) (fun hc173 => ?_) (fun hc173 => ?_)
      · refine T_iconst dX7_check_180 ?_
        refine T_cV_1 dX7_check_181 lkX7_101 rfl (Nat.le_of_ble_eq_true rfl) (RO_r (by decide)) (Nat.le_of_ble_eq_true rfl) ?_
        refine r_refused ?_
        refine T_iret dX7_check_184 rfl ?_
        rcases hv with ⟨v1, v2⟩ | ⟨v1, v2⟩ <;> first | (exfalso; omega) | exact k1 h1 h2 h3 h4 (pf.mp v2) | exact k0 h1 h2 h3 h4 (fun q => v2 (pf.mpr q))
      · refine T_iconst dX7_check_176 ?_
        refine T_goto (tgt := 181) dX7_check_177 (by decide) ?_
        refine T_cV_1 dX7_check_181 lkX7_101 rfl (Nat.le_of_ble_eq_true rfl) (RO_r (by decide)) (Nat.le_of_ble_eq_true rfl) ?_
        refine r_refused ?_
        refine T_iret dX7_check_184 rfl ?_
        rcases hv with ⟨v1, v2⟩ | ⟨v1, v2⟩ <;> first | (exfalso; omega) | exact k1 h1 h2 h3 h4 (pf.mp v2) | exact k0 h1 h2 h3 h4 (fun q => v2 (pf.mpr q))
    | succ q ih =>
      intro h v hq hv
      have hv01 : v = 0 ∨ v = 1 := by rcases hv with ⟨a, _⟩ | ⟨a, _⟩ <;> omega
      have hstep : ∀ v' : Int, ((v' = 1 ∧ v = 1 ∧ (HomeG (D 57 5).toNat (qX D (80 * k + i) h) (brM D h) (D 60 h) ∧ LeastG (D 57 5).toNat (qX D (80 * k + i) h) (brM D h) (fun c => farM D h c + qY D (80 * k + i) c))) ∨ (v' = 0 ∧ ¬ (v = 1 ∧ (HomeG (D 57 5).toNat (qX D (80 * k + i) h) (brM D h) (D 60 h) ∧ LeastG (D 57 5).toNat (qX D (80 * k + i) h) (brM D h) (fun c => farM D h c + qY D (80 * k + i) c))))) → ((v' = 1 ∧ nums D (80 * k + i) (D 57 5).toNat ∧ hmsR D (80 * k + i) (h + 1)) ∨ (v' = 0 ∧ ¬ (nums D (80 * k + i) (D 57 5).toNat ∧ hmsR D (80 * k + i) (h + 1)))) := by
        intro v' hv'
        rcases hv' with ⟨a, b, b2⟩ | ⟨a, b⟩
        · rcases hv with ⟨_, g1, g2⟩ | ⟨g1, _⟩
          · refine Or.inl ⟨a, g1, fun j hj => ?_⟩
            by_cases e : j = h
            · subst e; exact b2
            · exact g2 j (by omega)
          · omega
        · refine Or.inr ⟨a, fun q => b ?_⟩
          rcases hv with ⟨g1, _⟩ | ⟨_, g2⟩
          · exact ⟨g1, q.2 h (by omega)⟩
          · exact absurd ⟨q.1, fun j hj => q.2 j (by omega)⟩ g2
      refine T_iload dX7_check_130 rfl ?_
      refine T_aload_n dX7_check_132 rfl ?_
      refine T_getI dX7_check_133 flX7_112 rfl rfl ?_
      refine T_icmp_ge 170 dX7_check_136 (by decide) (by first | (unfold InR; omega) | (simp [st2, InR]; omega)) (by first | (unfold InR; omega) | (simp [st2, InR]; omega)) (fun hc136 => (by exfalso; omega)) (fun hc136 => ?_)
      refine T_iload dX7_check_139 rfl ?_
      refine T_if_eq 161 dX7_check_141 (by decide) (by first | (unfold InR; omega) | (simp [st2, InR]; omega)) (fun hc141 => ?_) (fun hc141 => ?_)
      · refine T_iconst dX7_check_161 ?_
        refine T_istore dX7_check_162 (by decide) ?_
        refine T_iinc dX7_check_164 rfl (by decide) ?_
        refine T_goto (tgt := 130) dX7_check_167 (by decide) ?_
        first | exact ih (h + 1) _ (by omega) (hstep _ (Or.inl ⟨rfl, by omega, g4⟩)) | exact ih (h + 1) _ (by omega) (hstep _ (Or.inr ⟨rfl, fun q => g4 q.2⟩)) | exact ih (h + 1) _ (by omega) (hstep _ (Or.inr ⟨rfl, fun q => by have := q.1; omega⟩))
      · refine T_aload_n dX7_check_144 rfl ?_
        refine T_iload dX7_check_145 rfl ?_
        refine T_iload dX7_check_147 rfl ?_
        refine T_iload dX7_check_149 rfl ?_
        refine T_cV_3 dX7_check_151 lkX7_224 rfl (Nat.le_of_ble_eq_true rfl) (RO_r (by decide)) (Nat.le_of_ble_eq_true rfl) ?_
        have hnm : nums D (80 * k + i) (D 57 5).toNat := by
          rcases hv with ⟨_, g1, _⟩ | ⟨g1, _⟩
          · exact g1
          · exfalso; omega
        refine r_holdsFor hL hR.2 (by omega) (by omega) rfl (fun c hc => ⟨(hnm c hc).2.1, (hnm c hc).2.2.1⟩) (fun g4 => ?_) (fun g4 => ?_)
        · refine T_if_eq 161 dX7_check_154 (by decide) (by unfold InR; decide) (fun h => absurd h (by decide)) (fun _ => ?_)
          refine T_iconst dX7_check_157 ?_
          refine T_goto (tgt := 162) dX7_check_158 (by decide) ?_
          refine T_istore dX7_check_162 (by decide) ?_
          refine T_iinc dX7_check_164 rfl (by decide) ?_
          refine T_goto (tgt := 130) dX7_check_167 (by decide) ?_
          first | exact ih (h + 1) _ (by omega) (hstep _ (Or.inl ⟨rfl, by omega, g4⟩)) | exact ih (h + 1) _ (by omega) (hstep _ (Or.inr ⟨rfl, fun q => g4 q.2⟩)) | exact ih (h + 1) _ (by omega) (hstep _ (Or.inr ⟨rfl, fun q => by have := q.1; omega⟩))
        · refine T_if_eq 161 dX7_check_154 (by decide) (by unfold InR; decide) (fun _ => ?_) (fun h => absurd (by decide) h)
          refine T_iconst dX7_check_161 ?_
          refine T_istore dX7_check_162 (by decide) ?_
          refine T_iinc dX7_check_164 rfl (by decide) ?_
          refine T_goto (tgt := 130) dX7_check_167 (by decide) ?_
          first | exact ih (h + 1) _ (by omega) (hstep _ (Or.inl ⟨rfl, by omega, g4⟩)) | exact ih (h + 1) _ (by omega) (hstep _ (Or.inr ⟨rfl, fun q => g4 q.2⟩)) | exact ih (h + 1) _ (by omega) (hstep _ (Or.inr ⟨rfl, fun q => by have := q.1; omega⟩))
  have loopA : 0 ≤ k → k ≤ 3 → (rwM D k l i n).1 = 0 → n = D 57 1 * D 57 5 + D 57 5 → (0 ≤ i ∧ i ≤ D 77 k.toNat ∧ n ≤ D 77 k.toNat - i) → D 77 k.toNat ≤ 80 → ∀ (q c : Nat) (v : Int), q + c = (D 57 5).toNat → ((v = 1 ∧ nums D (80 * k + i) c) ∨ (v = 0 ∧ ¬ nums D (80 * k + i) c)) → T g mX7_check (rmd (d + 3) 0 0) 0 0 (Qm g (rmd (d + 3) 0 0) P) 87 [some (.ref 57), some (iI k), some (iI l), some (iI i), some (iI n), some (iI 0), some (iI (80 * k + i)), some (iI (80 * k + i + D 57 1 * D 57 5)), some (iI v), some (iI c)] [] SH D := by
    intro h1 h2 h3 h4 h5 h6 q
    induction q with
    | zero =>
      intro c v hq hv
      obtain rfl : c = (D 57 5).toNat := by omega
      refine T_iload dX7_check_87 rfl ?_
      refine T_aload_n dX7_check_89 rfl ?_
      refine T_getI dX7_check_90 flX7_115 rfl rfl ?_
      refine T_icmp_ge 127 dX7_check_93 (by decide) (by first | (unfold InR; omega) | (simp [st2, InR]; omega)) (by first | (unfold InR; omega) | (simp [st2, InR]; omega)) (fun hc93 => ?_) (fun hc93 => (by exfalso; omega))
      refine T_iconst dX7_check_127 ?_
      refine T_istore dX7_check_128 (by decide) ?_
      refine loopB h1 h2 h3 h4 h5 h6 (D 57 1).toNat 0 v (by omega) ?_
      rcases hv with ⟨a, b⟩ | ⟨a, b⟩
      · exact Or.inl ⟨a, b, fun j hj => by omega⟩
      · exact Or.inr ⟨a, fun q => b q.1⟩
    | succ q ih =>
      intro c v hq hv
      have hv01 : v = 0 ∨ v = 1 := by rcases hv with ⟨a, _⟩ | ⟨a, _⟩ <;> omega
      have hstep : ∀ v' : Int, ((v' = 1 ∧ v = 1 ∧ NumG (D 57 1).toNat (fun h => qX D (80 * k + i) h c) (D 64 c) (qY D (80 * k + i) c)) ∨ (v' = 0 ∧ ¬ (v = 1 ∧ NumG (D 57 1).toNat (fun h => qX D (80 * k + i) h c) (D 64 c) (qY D (80 * k + i) c)))) → ((v' = 1 ∧ nums D (80 * k + i) (c + 1)) ∨ (v' = 0 ∧ ¬ nums D (80 * k + i) (c + 1))) := by
        intro v' hv'
        rcases hv' with ⟨a, b, b2⟩ | ⟨a, b⟩
        · rcases hv with ⟨_, g2⟩ | ⟨g1, _⟩
          · refine Or.inl ⟨a, fun j hj => ?_⟩
            by_cases e : j = c
            · subst e; exact b2
            · exact g2 j (by omega)
          · omega
        · refine Or.inr ⟨a, fun q => b ?_⟩
          rcases hv with ⟨g1, _⟩ | ⟨_, g2⟩
          · exact ⟨g1, q c (by omega)⟩
          · exact absurd (fun j hj => q j (by omega)) g2
      refine T_iload dX7_check_87 rfl ?_
      refine T_aload_n dX7_check_89 rfl ?_
      refine T_getI dX7_check_90 flX7_115 rfl rfl ?_
      refine T_icmp_ge 127 dX7_check_93 (by decide) (by first | (unfold InR; omega) | (simp [st2, InR]; omega)) (by first | (unfold InR; omega) | (simp [st2, InR]; omega)) (fun hc93 => (by exfalso; omega)) (fun hc93 => ?_)
      refine T_iload dX7_check_96 rfl ?_
      refine T_if_eq 118 dX7_check_98 (by decide) (by first | (unfold InR; omega) | (simp [st2, InR]; omega)) (fun hc98 => ?_) (fun hc98 => ?_)
      · refine T_iconst dX7_check_118 ?_
        refine T_istore dX7_check_119 (by decide) ?_
        refine T_iinc dX7_check_121 rfl (by decide) ?_
        refine T_goto (tgt := 87) dX7_check_124 (by decide) ?_
        first | exact ih (c + 1) _ (by omega) (hstep _ (Or.inl ⟨rfl, by omega, g4⟩)) | exact ih (c + 1) _ (by omega) (hstep _ (Or.inr ⟨rfl, fun q => g4 q.2⟩)) | exact ih (c + 1) _ (by omega) (hstep _ (Or.inr ⟨rfl, fun q => by have := q.1; omega⟩))
      · refine T_aload_n dX7_check_101 rfl ?_
        refine T_iload dX7_check_102 rfl ?_
        refine T_iload dX7_check_104 rfl ?_
        refine T_iload dX7_check_106 rfl ?_
        refine T_cV_3 dX7_check_108 lkX7_221 rfl (Nat.le_of_ble_eq_true rfl) (RO_r (by decide)) (Nat.le_of_ble_eq_true rfl) ?_
        refine r_holdsIn hL hR.2 (by omega) (by omega) rfl (fun g4 => ?_) (fun g4 => ?_)
        · refine T_if_eq 118 dX7_check_111 (by decide) (by unfold InR; decide) (fun h => absurd h (by decide)) (fun _ => ?_)
          refine T_iconst dX7_check_114 ?_
          refine T_goto (tgt := 119) dX7_check_115 (by decide) ?_
          refine T_istore dX7_check_119 (by decide) ?_
          refine T_iinc dX7_check_121 rfl (by decide) ?_
          refine T_goto (tgt := 87) dX7_check_124 (by decide) ?_
          first | exact ih (c + 1) _ (by omega) (hstep _ (Or.inl ⟨rfl, by omega, g4⟩)) | exact ih (c + 1) _ (by omega) (hstep _ (Or.inr ⟨rfl, fun q => g4 q.2⟩)) | exact ih (c + 1) _ (by omega) (hstep _ (Or.inr ⟨rfl, fun q => by have := q.1; omega⟩))
        · refine T_if_eq 118 dX7_check_111 (by decide) (by unfold InR; decide) (fun _ => ?_) (fun h => absurd (by decide) h)
          refine T_iconst dX7_check_118 ?_
          refine T_istore dX7_check_119 (by decide) ?_
          refine T_iinc dX7_check_121 rfl (by decide) ?_
          refine T_goto (tgt := 87) dX7_check_124 (by decide) ?_
          first | exact ih (c + 1) _ (by omega) (hstep _ (Or.inl ⟨rfl, by omega, g4⟩)) | exact ih (c + 1) _ (by omega) (hstep _ (Or.inr ⟨rfl, fun q => g4 q.2⟩)) | exact ih (c + 1) _ (by omega) (hstep _ (Or.inr ⟨rfl, fun q => by have := q.1; omega⟩))
  have rneg : (rwM D k l i n).1 ≤ 0 ∧ -14 ≤ (rwM D k l i n).1 := by unfold rwM rowR; (repeat' split) <;> decide
  refine T_iload_n dX7_check_0 rfl ?_
  refine T_cS_1 dX7_check_1 lkX7_158 (Nat.le_of_ble_eq_true rfl) (RO_r (by decide)) (Nat.le_of_ble_eq_true rfl) ?_
  refine r_noSheet hk (fun h1 h2 => ?_) (fun h1 => ?_)
  · refine T_if_eq 13 dX7_check_4 (by decide) (by unfold InR; decide) (fun _ => ?_) (fun h => absurd (by decide) h)
    refine T_aload_n dX7_check_13 rfl ?_
    refine T_iload_n dX7_check_14 rfl ?_
    refine T_iload_n dX7_check_15 rfl ?_
    refine T_iload_n dX7_check_16 rfl ?_
    refine T_iload dX7_check_17 rfl ?_
    refine T_i2l dX7_check_19 hn ?_
    refine T_cV_4 dX7_check_20 lkX7_162 rfl (Nat.le_of_ble_eq_true rfl) (RO_r (by decide)) (Nat.le_of_ble_eq_true rfl) ?_
    refine r_refusal hR ⟨h1, h2⟩ hl hi hn ?_
    refine T_istore dX7_check_23 (by decide) ?_
    refine T_iload dX7_check_25 rfl ?_
    refine T_if_ge 33 dX7_check_27 (by decide) (show InR (rwM D k l i n).1 by unfold InR; have := rneg; omega) (fun hc27 => ?_) (fun hc27 => ?_)
    · have hc0 : (rwM D k l i n).1 = 0 := by have := rneg; have hc27 : 0 ≤ (rwM D k l i n).1 := hc27; omega
      rw [if_pos hc0]
      have hin : (0 ≤ i ∧ i ≤ D 77 k.toNat ∧ n ≤ D 77 k.toNat - i) := by
        revert hc0
        unfold rwM rowR
        (repeat' split) <;> first | (intro q; exact absurd q (by decide)) | (intro _; assumption)
      obtain ⟨s1, s2⟩ := hR.1 k.toNat (by omega)
      refine T_iload dX7_check_33 rfl ?_
      refine T_aload_n dX7_check_35 rfl ?_
      refine T_getI dX7_check_36 flX7_112 rfl rfl ?_
      refine T_aload_n dX7_check_39 rfl ?_
      refine T_getI dX7_check_40 flX7_115 rfl rfl ?_
      refine T_imul dX7_check_43 ?_
      refine T_aload_n dX7_check_44 rfl ?_
      refine T_getI dX7_check_45 flX7_115 rfl rfl ?_
      refine T_iadd dX7_check_48 ?_
      refine T_icmp_eq 59 dX7_check_49 (by decide) (by first | (unfold InR; omega) | (simp [st2, InR]; omega)) (by first | (unfold InR; omega) | (simp [st2, InR]; omega)) (fun hc49 => ?_) (fun hc49 => ?_)
      · skip
        refine T_bipush dX7_check_59 (by decide) ?_
        refine T_iload_n dX7_check_61 rfl ?_
        refine T_imul dX7_check_62 ?_
        refine T_iload_n dX7_check_63 rfl ?_
        refine T_iadd dX7_check_64 ?_
        refine T_istore dX7_check_65 (by decide) ?_
        refine T_iload dX7_check_67 rfl ?_
        refine T_aload_n dX7_check_69 rfl ?_
        refine T_getI dX7_check_70 flX7_112 rfl rfl ?_
        refine T_aload_n dX7_check_73 rfl ?_
        refine T_getI dX7_check_74 flX7_115 rfl rfl ?_
        refine T_imul dX7_check_77 ?_
        refine T_iadd dX7_check_78 ?_
        refine T_istore dX7_check_79 (by decide) ?_
        refine T_iconst dX7_check_81 ?_
        refine T_istore dX7_check_82 (by decide) ?_
        refine T_iconst dX7_check_84 ?_
        refine T_istore dX7_check_85 (by decide) ?_
        rw [show iI (rowR (if D 77 k.toNat < 0 then 0 else 1) (D 78 k.toNat) (D 77 k.toNat) l i n).1 = iI 0 from congrArg iI hc0]
        exact loopA h1 h2 hc0 (by omega) hin s1.2 (D 57 5).toNat 0 1 (by omega) (Or.inl ⟨rfl, fun j hj => by omega⟩)
      · refine T_aload_n dX7_check_52 rfl ?_
        refine T_bipush dX7_check_53 (by decide) ?_
        refine T_cV_1 dX7_check_55 lkX7_101 rfl (Nat.le_of_ble_eq_true rfl) (RO_r (by decide)) (Nat.le_of_ble_eq_true rfl) ?_
        refine r_refused ?_
        refine T_iret dX7_check_58 rfl ?_
        exact kO h1 h2 hc0 (by omega)
    · refine T_iload dX7_check_30 rfl ?_
      refine T_iret dX7_check_32 rfl ?_
      have hc1 : ¬ (rwM D k l i n).1 = 0 := fun q => hc27 (by show 0 ≤ (rwM D k l i n).1; omega)
      rw [if_neg hc1]; exact kR h1 h2 hc1
  · refine T_if_eq 13 dX7_check_4 (by decide) (by unfold InR; decide) (fun h => absurd h (by decide)) (fun _ => ?_)
    refine T_aload_n dX7_check_7 rfl ?_
    refine T_iconst dX7_check_8 ?_
    refine T_cV_1 dX7_check_9 lkX7_101 rfl (Nat.le_of_ble_eq_true rfl) (RO_r (by decide)) (Nat.le_of_ble_eq_true rfl) ?_
    refine r_refused ?_
    refine T_iret dX7_check_12 rfl ?_
    exact kU (by omega)
end

