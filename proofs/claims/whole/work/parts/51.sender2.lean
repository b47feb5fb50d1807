theorem st2_up (D : DD) (i j : Nat) (v : Int) : st2 D i j v i = up1 (D i) j v := by funext b; unfold st2 up1; by_cases h : b = j <;> simp [h]
/-- the cheapest steps found so far (of those that Q names) -/
def StI (H C : Nat) (f x : Nat → Nat → Int) (Q : Nat → Nat → Nat → Prop) (st sh : Nat → Int) : Prop := (∀ a, a < C → ∀ b, b < C → st (a * 5 + b) ≤ 500000000 ∧ (st (a * 5 + b) < 500000000 → 0 ≤ sh (a * 5 + b) ∧ (sh (a * 5 + b)).toNat < H ∧ 0 < x (sh (a * 5 + b)).toNat a ∧ f (sh (a * 5 + b)).toNat b < 500000000 ∧ st (a * 5 + b) = f (sh (a * 5 + b)).toNat b - f (sh (a * 5 + b)).toNat a)) ∧ ∀ a, a < C → ∀ b, b < C → ∀ g, g < H → Q g a b → 0 < x g a → f g b < 500000000 → st (a * 5 + b) ≤ f g b - f g a
theorem StI.weaken {H C : Nat} {f x : Nat → Nat → Int} {Q Q' : Nat → Nat → Nat → Prop} {st sh : Nat → Int} (h : StI H C f x Q st sh) (hq : ∀ g a b, g < H → a < C → b < C → 0 < x g a → f g b < 500000000 → Q' g a b → Q g a b ∨ st (a * 5 + b) ≤ f g b - f g a) : StI H C f x Q' st sh := by
  refine ⟨h.1, fun a ha b hb g hg q hx hf => ?_⟩
  rcases hq g a b hg ha hb hx hf q with z | z
  · exact h.2 a ha b hb g hg z hx hf
  · exact z
theorem StI.hit {H C : Nat} {f x : Nat → Nat → Int} {Q : Nat → Nat → Nat → Prop} {st sh : Nat → Int} (h : StI H C f x Q st sh) (hC : C ≤ 5) {g a b : Nat} (hg : g < H) (ha : a < C) (hb : b < C) (hx : 0 < x g a) (hf : f g b < 500000000) (hv : f g b - f g a < st (a * 5 + b)) : StI H C f x (fun g' a' b' => Q g' a' b' ∨ (g' = g ∧ a' = a ∧ b' = b)) (up1 st (a * 5 + b) (f g b - f g a)) (up1 sh (a * 5 + b) g) := by
  refine ⟨fun a' ha' b' hb' => ?_, fun a' ha' b' hb' g' hg' q hx' hf' => ?_⟩
  · by_cases e : a' * 5 + b' = a * 5 + b
    · obtain rfl : a' = a := by omega
      obtain rfl : b' = b := by omega
      rw [up1_at, up1_at]
      have := (h.1 a' ha' b' hb').1
      exact ⟨by omega, fun _ => ⟨by omega, by rw [Int.toNat_natCast]; exact hg, by rw [Int.toNat_natCast]; exact hx, by rw [Int.toNat_natCast]; exact hf, by rw [Int.toNat_natCast]⟩⟩
    · rw [up1_ne e, up1_ne e]
      exact h.1 a' ha' b' hb'
  · by_cases e : a' * 5 + b' = a * 5 + b
    · obtain rfl : a' = a := by omega
      obtain rfl : b' = b := by omega
      rw [up1_at]
      rcases q with q | ⟨rfl, -, -⟩
      · have := h.2 a' ha' b' hb' g' hg' q hx' hf'; omega
      · exact Int.le_refl _
    · rw [up1_ne e]
      rcases q with q | ⟨-, rfl, rfl⟩
      · exact h.2 a' ha' b' hb' g' hg' q hx' hf'
      · exact absurd rfl e
/-- what a sender holds is in range -/
def SnK (D : DD) (o : Nat) : Prop := (0 ≤ D o 10 ∧ D o 10 ≤ 10) ∧ (0 ≤ D o 11 ∧ D o 11 ≤ 5) ∧ (∀ h c, h < (D o 10).toNat → c < (D o 11).toNat → (0 ≤ D (o + 1) (h * 5 + c) ∧ D (o + 1) (h * 5 + c) ≤ 7200) ∨ D (o + 1) (h * 5 + c) = 500000000) ∧ (∀ h, h < (D o 10).toNat → 0 ≤ D (o + 3) h ∧ D (o + 3) h ≤ 5) ∧ ∀ c, c < (D o 11).toNat → 0 ≤ D (o + 4) c ∧ D (o + 4) c ≤ 50
theorem SnK_of {D D1 : DD} {o : Nat} (h : SnK D o) (e0 : D1 o = D o) (e1 : D1 (o + 1) = D (o + 1)) (e3 : D1 (o + 3) = D (o + 3)) (e4 : D1 (o + 4) = D (o + 4)) : SnK D1 o := by unfold SnK; rw [e0, e1, e3, e4]; exact h
/-- heads sit, and only where they may -/
def SitI (D : DD) (o : Nat) : Prop := ∀ h c, h < (D o 10).toNat → c < (D o 11).toNat → 0 ≤ D (o + 2) (h * 5 + c) ∧ D (o + 2) (h * 5 + c) ≤ 5 ∧ (0 < D (o + 2) (h * 5 + c) → D (o + 1) (h * 5 + c) < 500000000)
abbrev fO (D : DD) (o h c : Nat) : Int := D (o + 1) (h * 5 + c)
abbrev xO (D : DD) (o h c : Nat) : Int := D (o + 2) (h * 5 + c)
section
variable {g : G0} {d : Nat} {P : Option Value → List SC → DD → Prop} {D : DD}
theorem c_findStepsOf {o h a : Nat} {Q : Nat → Nat → Nat → Prop} (hs : SnAt o) (hK : SnK D o) (hI : SitI D o) (hh : h < (D o 10).toNat) (ha : a < (D o 11).toNat) (hx : 0 < xO D o h a) (hst : StI (D o 10).toNat (D o 11).toNat (fO D o) (xO D o) Q (D (o + 6)) (D (o + 7))) (hk : ∀ D' : DD, (∀ r, r ≠ o + 6 → r ≠ o + 7 → D' r = D r) → StI (D o 10).toNat (D o 11).toNat (fO D o) (xO D o) (fun g' a' b' => Q g' a' b' ∨ (g' = h ∧ a' = a)) (D' (o + 6)) (D' (o + 7)) → P none SH D') : TM g mX3_findStepsOf d P [.ref o, iI h, iI a] D := by
  obtain ⟨hS, hA0, hA1, hA2, hA3, hA4, hA5, hA6, hA7, hA8, hA9, ho16⟩ := hs
  have hN := hK.1
  have hM := hK.2.1
  have fa := (hI h a hh ha).2.2 hx
  have fa2 := hK.2.2.1 h a hh ha
  have loop : ∀ (q b : Nat) (D1 : DD) (m5 : Option Value), q + b = (D o 11).toNat → (∀ r, r ≠ o + 6 → r ≠ o + 7 → D1 r = D r) → StI (D o 10).toNat (D o 11).toNat (fO D o) (xO D o) (fun g' a' b' => Q g' a' b' ∨ (g' = h ∧ a' = a ∧ b' < b)) (D1 (o + 6)) (D1 (o + 7)) → T g mX3_findStepsOf (rmd d 0 0) 0 0 (Qm g (rmd d 0 0) P) 14 [some (.ref o), some (iI h), some (iI a), some (iI (fO D o h a)), some (iI b), m5] [] SH D1 := by
    intro q
    induction q with
    | zero =>
      intro b D1 m5 hq r1 r2
      have z1 : D1 o = D o := r1 o (by omega) (by omega)
      have z2 : D1 o 11 = D o 11 := by rw [z1]
      refine T_iload dX3_findStepsOf_14 rfl ?_
      refine T_aload_n dX3_findStepsOf_16 rfl ?_
      refine T_getI dX3_findStepsOf_17 flX3_52 hS rfl ?_
      refine T_icmp_ge 94 dX3_findStepsOf_20 (by decide) (by first | (unfold InR; omega) | (simp [st2, InR]; omega)) (by first | (unfold InR; omega) | (simp [st2, InR]; omega)) (fun hc20 => ?_) (fun hc20 => (by exfalso; omega))
      refine T_vret dX3_findStepsOf_94 rfl ?_
      exact hk D1 r1 (r2.weaken (fun g' a' b' hg' ha' hb' _ _ z => Or.inl (by
        rcases z with z | ⟨z1, z2⟩
        · exact Or.inl z
        · exact Or.inr ⟨z1, z2, by omega⟩)))
    | succ q ih =>
      intro b D1 m5 hq r1 r2
      have z1 : D1 o = D o := r1 o (by omega) (by omega)
      have z2 : D1 o 11 = D o 11 := by rw [z1]
      have y1 : D1 (o + 1) = D (o + 1) := r1 (o + 1) (by omega) (by omega)
      have fb := hK.2.2.1 h b hh (by omega)
      have ib : ((h : Int) * 5 + b).toNat = h * 5 + b := by omega
      have ia : ((a : Int) * 5 + b).toNat = a * 5 + b := by omega
      have efb : D1 (o + 1) ((h : Int) * 5 + b).toNat = fO D o h b := by rw [y1, ib]
      have est : D1 (o + 6) ((a : Int) * 5 + b).toNat = D1 (o + 6) (a * 5 + b) := by rw [ia]
      have bs := r2.1 a ha b (by omega)
      have bs2 : -7200 ≤ D1 (o + 6) (a * 5 + b) := by
        by_cases z : D1 (o + 6) (a * 5 + b) < 500000000
        · obtain ⟨w1, w2, w3, w4, w5⟩ := bs.2 z
          have u1 := hK.2.2.1 _ b w2 (by omega)
          have u2 := hK.2.2.1 _ a w2 ha
          have u3 := (hI _ a w2 ha).2.2 w3
          simp only [fO] at w4 w5
          omega
        · omega
      have skip : (500000000 ≤ fO D o h b ∨ D1 (o + 6) (a * 5 + b) ≤ fO D o h b - fO D o h a) → StI (D o 10).toNat (D o 11).toNat (fO D o) (xO D o) (fun g' a' b' => Q g' a' b' ∨ (g' = h ∧ a' = a ∧ b' < b + 1)) (D1 (o + 6)) (D1 (o + 7)) := fun z => r2.weaken (fun g' a' b' hg' ha' hb' hx' hf' q => by
        rcases q with q | ⟨q1, q2, q3⟩
        · exact Or.inl (Or.inl q)
        · by_cases e : b' = b
          · subst q1; subst q2; subst e
            rcases z with z | z
            · omega
            · exact Or.inr z
          · exact Or.inl (Or.inr ⟨q1, q2, by omega⟩))
      refine T_iload dX3_findStepsOf_14 rfl ?_
      refine T_aload_n dX3_findStepsOf_16 rfl ?_
      refine T_getI dX3_findStepsOf_17 flX3_52 hS rfl ?_
      refine T_icmp_ge 94 dX3_findStepsOf_20 (by decide) (by first | (unfold InR; omega) | (simp [st2, InR]; omega)) (by first | (unfold InR; omega) | (simp [st2, InR]; omega)) (fun hc20 => (by exfalso; omega)) (fun hc20 => ?_)
      refine T_aload_n dX3_findStepsOf_23 rfl ?_
      refine T_getR dX3_findStepsOf_24 flX3_9 hS rfl ?_
      refine T_iload_n dX3_findStepsOf_27 rfl ?_
      refine T_iconst dX3_findStepsOf_28 ?_
      refine T_imul dX3_findStepsOf_29 ?_
      refine T_iload dX3_findStepsOf_30 rfl ?_
      refine T_iadd dX3_findStepsOf_32 ?_
      refine T_iald dX3_findStepsOf_33 hA0 (by first | decide | omega) (by first | omega | (simp [st2]; omega)) (by first | omega | (simp [st2]; omega)) ?_
      refine T_istore dX3_findStepsOf_34 (by decide) ?_
      refine T_iload dX3_findStepsOf_36 rfl ?_
      refine T_ldc (n := 500000000) dX3_findStepsOf_38 tk_469 ?_
      refine T_icmp_ge 88 dX3_findStepsOf_40 (by decide) (by rw [efb]; unfold InR; simp only [fO]; omega) (by first | (unfold InR; omega) | (simp [st2, InR]; omega)) (fun hc40 => ?_) (fun hc40 => ?_)
      · rw [efb] at hc40
        skip
        refine T_iinc dX3_findStepsOf_88 rfl (by decide) ?_
        refine T_goto (tgt := 14) dX3_findStepsOf_91 (by decide) ?_
        first
        | exact ih (b + 1) D1 _ (by omega) r1 (skip (by omega))
        | (refine ih (b + 1) _ _ (by omega) (fun r e6 e7 => by rw [st2_row e7, st2_row e6]; exact r1 r e6 e7) ?_
           rw [st2_row (show o + 6 ≠ o + 7 by omega), st2_up, st2_up, st2_row (show o + 7 ≠ o + 6 by omega), efb, ia]
           exact hh2.weaken (fun g' a' b' hg' ha' hb' _ _ q => Or.inl (by
             rcases q with q | ⟨q1, q2, q3⟩
             · exact Or.inl (Or.inl q)
             · by_cases e : b' = b
               · exact Or.inr ⟨q1, q2, e⟩
               · exact Or.inl (Or.inr ⟨q1, q2, by omega⟩))))
      · rw [efb] at hc40
        refine T_iload dX3_findStepsOf_43 rfl ?_
        refine T_iload_n dX3_findStepsOf_45 rfl ?_
        refine T_isub dX3_findStepsOf_46 ?_
        refine T_aload_n dX3_findStepsOf_47 rfl ?_
        refine T_getR dX3_findStepsOf_48 flX3_27 hS rfl ?_
        refine T_iload_n dX3_findStepsOf_51 rfl ?_
        refine T_iconst dX3_findStepsOf_52 ?_
        refine T_imul dX3_findStepsOf_53 ?_
        refine T_iload dX3_findStepsOf_54 rfl ?_
        refine T_iadd dX3_findStepsOf_56 ?_
        refine T_iald dX3_findStepsOf_57 hA5 (by first | decide | omega) (by first | omega | (simp [st2]; omega)) (by first | omega | (simp [st2]; omega)) ?_
        refine T_icmp_ge 88 dX3_findStepsOf_58 (by decide) (by rw [efb]; unfold InR; simp only [fO]; omega) (by rw [est]; unfold InR; omega) (fun hc58 => ?_) (fun hc58 => ?_)
        · rw [efb, est] at hc58
          skip
          refine T_iinc dX3_findStepsOf_88 rfl (by decide) ?_
          refine T_goto (tgt := 14) dX3_findStepsOf_91 (by decide) ?_
          first
          | exact ih (b + 1) D1 _ (by omega) r1 (skip (by omega))
          | (refine ih (b + 1) _ _ (by omega) (fun r e6 e7 => by rw [st2_row e7, st2_row e6]; exact r1 r e6 e7) ?_
             rw [st2_row (show o + 6 ≠ o + 7 by omega), st2_up, st2_up, st2_row (show o + 7 ≠ o + 6 by omega), efb, ia]
             exact hh2.weaken (fun g' a' b' hg' ha' hb' _ _ q => Or.inl (by
               rcases q with q | ⟨q1, q2, q3⟩
               · exact Or.inl (Or.inl q)
               · by_cases e : b' = b
                 · exact Or.inr ⟨q1, q2, e⟩
                 · exact Or.inl (Or.inr ⟨q1, q2, by omega⟩))))
        · rw [efb, est] at hc58
          have hh2 := r2.hit (by omega) hh ha (show b < (D o 11).toNat by omega) hx (by omega) (by omega)
          refine T_aload_n dX3_findStepsOf_61 rfl ?_
          refine T_getR dX3_findStepsOf_62 flX3_27 hS rfl ?_
          refine T_iload_n dX3_findStepsOf_65 rfl ?_
          refine T_iconst dX3_findStepsOf_66 ?_
          refine T_imul dX3_findStepsOf_67 ?_
          refine T_iload dX3_findStepsOf_68 rfl ?_
          refine T_iadd dX3_findStepsOf_70 ?_
          refine T_iload dX3_findStepsOf_71 rfl ?_
          refine T_iload_n dX3_findStepsOf_73 rfl ?_
          refine T_isub dX3_findStepsOf_74 ?_
          refine T_iast dX3_findStepsOf_75 hA5 (by first | decide | omega) (by first | omega | (simp [st2]; omega)) (by first | omega | (simp [st2]; omega)) ?_
          refine T_aload_n dX3_findStepsOf_76 rfl ?_
          refine T_getR dX3_findStepsOf_77 flX3_30 hS rfl ?_
          refine T_iload_n dX3_findStepsOf_80 rfl ?_
          refine T_iconst dX3_findStepsOf_81 ?_
          refine T_imul dX3_findStepsOf_82 ?_
          refine T_iload dX3_findStepsOf_83 rfl ?_
          refine T_iadd dX3_findStepsOf_85 ?_
          refine T_iload_n dX3_findStepsOf_86 rfl ?_
          refine T_iast dX3_findStepsOf_87 hA6 (by first | decide | omega) (by first | omega | (simp [st2]; omega)) (by first | omega | (simp [st2]; omega)) ?_
          skip
          refine T_iinc dX3_findStepsOf_88 rfl (by decide) ?_
          refine T_goto (tgt := 14) dX3_findStepsOf_91 (by decide) ?_
          first
          | exact ih (b + 1) D1 _ (by omega) r1 (skip (by omega))
          | (refine ih (b + 1) _ _ (by omega) (fun r e6 e7 => by rw [st2_row e7, st2_row e6]; exact r1 r e6 e7) ?_
             rw [st2_row (show o + 6 ≠ o + 7 by omega), st2_up, st2_up, st2_row (show o + 7 ≠ o + 6 by omega), efb, ia]
             exact hh2.weaken (fun g' a' b' hg' ha' hb' _ _ q => Or.inl (by
               rcases q with q | ⟨q1, q2, q3⟩
               · exact Or.inl (Or.inl q)
               · by_cases e : b' = b
                 · exact Or.inr ⟨q1, q2, e⟩
                 · exact Or.inl (Or.inr ⟨q1, q2, by omega⟩))))
  have i0 : ((h : Int) * 5 + a).toNat = h * 5 + a := by omega
  refine T_aload_n dX3_findStepsOf_0 rfl ?_
  refine T_getR dX3_findStepsOf_1 flX3_9 hS rfl ?_
  refine T_iload_n dX3_findStepsOf_4 rfl ?_
  refine T_iconst dX3_findStepsOf_5 ?_
  refine T_imul dX3_findStepsOf_6 ?_
  refine T_iload_n dX3_findStepsOf_7 rfl ?_
  refine T_iadd dX3_findStepsOf_8 ?_
  refine T_iald dX3_findStepsOf_9 hA0 (by first | decide | omega) (by first | omega | (simp [st2]; omega)) (by first | omega | (simp [st2]; omega)) ?_
  refine T_istore_n dX3_findStepsOf_10 (by decide) ?_
  refine T_iconst dX3_findStepsOf_11 ?_
  refine T_istore dX3_findStepsOf_12 (by decide) ?_
  rw [i0]
  exact loop (D o 11).toNat 0 D none (by omega) (fun r _ _ => rfl) (hst.weaken (fun g' a' b' _ _ _ _ _ z => Or.inl (by
    rcases z with z | ⟨_, _, z⟩
    · exact z
    · omega)))
end

