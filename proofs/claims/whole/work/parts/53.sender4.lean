theorem d_rng {C : Nat} {ex : Nat → Nat → Prop} {w : Nat → Nat → Int} {p : Nat → Int} {Sr : Nat → Int → Prop} {B : Int} {t : Nat} {τ : Nat → Nat} {d pr : Nat → Int} (h : BfI C ex w p Sr B t τ d pr) (hB : 0 ≤ B ∧ B ≤ 500000000) (ht : t ≤ 1000) {c : Nat} (hc : c < C) : -7207200 ≤ d c ∧ d c ≤ 500000000 := by
  by_cases q : d c < B
  · have := h.2.2.2.2 c hc q; omega
  · have := h.2.2.1 c hc q; omega
section
variable {g : G0} {d : Nat} {P : Option Value → List SC → DD → Prop} {D : DD}
theorem c_spreadFrom {o a t : Nat} {p : Nat → Int} {Sr : Nat → Int → Prop} {τ : Nat → Nat} (hs : SnAt o) (hM : 0 ≤ D o 11 ∧ D o 11 ≤ 5) (hst : ∀ a, a < (D o 11).toNat → ∀ b, b < (D o 11).toNat → D (o + 6) (a * 5 + b) ≤ 500000000) (hP : PW (D o 11).toNat (exO D o) (wO D o) p) (ht : t ≤ 900) (hB : BfI (D o 11).toNat (exO D o) (wO D o) p Sr 500000000 t τ (D (o + 8)) (D (o + 9))) (ha : a < (D o 11).toNat) (hda : D (o + 8) a < 500000000)
    (hk : ∀ (D' : DD) (v : Int) (τ' : Nat → Nat), (∀ r, r ≠ o + 8 → r ≠ o + 9 → D' r = D r) → BfI (D o 11).toNat (exO D o) (wO D o) p Sr 500000000 (t + (D o 11).toNat) τ' (D' (o + 8)) (D' (o + 9)) → (∀ k a0, Rnd (D o 11).toNat (exO D o) (wO D o) p 500000000 (D (o + 8)) k a0 → Rnd (D o 11).toNat (exO D o) (wO D o) p 500000000 (D' (o + 8)) k a0) → Rlx (D o 11).toNat (exO D o) (wO D o) 500000000 (D' (o + 8)) a → (v = 1 ∨ (v = 0 ∧ D' = D)) → P (some (iI v)) SH D') : TM g mX3_spreadFrom d P [.ref o, iI a] D := by
  obtain ⟨hS, hA0, hA1, hA2, hA3, hA4, hA5, hA6, hA7, hA8, hA9, ho16⟩ := hs
  have loop : ∀ (q b : Nat) (D1 : DD) (v : Int) (τ1 : Nat → Nat) (m4 : Option Value), q + b = (D o 11).toNat → (∀ r, r ≠ o + 8 → r ≠ o + 9 → D1 r = D r) → BfI (D o 11).toNat (exO D o) (wO D o) p Sr 500000000 (t + b) τ1 (D1 (o + 8)) (D1 (o + 9)) → (∀ k a0, Rnd (D o 11).toNat (exO D o) (wO D o) p 500000000 (D (o + 8)) k a0 → Rnd (D o 11).toNat (exO D o) (wO D o) p 500000000 (D1 (o + 8)) k a0) → D1 (o + 8) a = D (o + 8) a → (∀ b', b' < b → exO D o a b' → D1 (o + 8) b' ≤ D1 (o + 8) a + wO D o a b') → (v = 1 ∨ (v = 0 ∧ D1 = D)) → T g mX3_spreadFrom (rmd d 0 0) 0 0 (Qm g (rmd d 0 0) P) 4 [some (.ref o), some (iI a), some (iI v), some (iI b), m4] [] SH D1 := by
    intro q
    induction q with
    | zero =>
      intro b D1 v τ1 m4 hq r1 r2 r3 r4 r5 r6
      have z2 : D1 o 11 = D o 11 := by rw [r1 o (by omega) (by omega)]
      refine T_iload_n dX3_spreadFrom_4 rfl ?_
      refine T_aload_n dX3_spreadFrom_5 rfl ?_
      refine T_getI dX3_spreadFrom_6 flX3_52 hS rfl ?_
      refine T_icmp_ge 79 dX3_spreadFrom_9 (by decide) (by first | (unfold InR; omega) | (simp [st2, InR]; omega)) (by first | (unfold InR; omega) | (simp [st2, InR]; omega)) (fun hc9 => ?_) (fun hc9 => (by exfalso; omega))
      refine T_iload_n dX3_spreadFrom_79 rfl ?_
      refine T_zret dX3_spreadFrom_80 rfl (by rcases r6 with z | z <;> omega) ?_
      exact hk D1 v τ1 r1 (by rw [show (D o 11).toNat = b by omega]; rw [show (D o 11).toNat = b by omega] at r2; exact r2) r3 (fun b' hb' he _ => r5 b' (by omega) he) r6
    | succ q ih =>
      intro b D1 v τ1 m4 hq r1 r2 r3 r4 r5 r6
      have hb : b < (D o 11).toNat := by omega
      have z2 : D1 o 11 = D o 11 := by rw [r1 o (by omega) (by omega)]
      have y6 : D1 (o + 6) = D (o + 6) := r1 (o + 6) (by omega) (by omega)
      have ia : ((a : Int) * 5 + b).toNat = a * 5 + b := by omega
      have ea : (a : Int).toNat = a := Int.toNat_natCast a
      have eb : (b : Int).toNat = b := Int.toNat_natCast b
      have ew : D1 (o + 6) ((a : Int) * 5 + b).toNat = wO D o a b := by rw [y6, ia]
      have hw1 := hst a ha b hb
      have hw2 : -7200 ≤ wO D o a b := by
        by_cases z : exO D o a b
        · exact (hP a ha b hb z).2.1
        · simp only [exO, wO] at *; omega
      have ra := d_rng r2 (by omega) (by omega) ha
      have rb := d_rng r2 (by omega) (by omega) hb
      have da := r2.2.2.2.2 a ha (by omega)
      have e8a : D1 (o + 8) (a : Int).toNat = D1 (o + 8) a := by rw [ea]
      have e8b : D1 (o + 8) (b : Int).toNat = D1 (o + 8) b := by rw [eb]
      have noup : ¬ (exO D o a b ∧ D1 (o + 8) a + wO D o a b < D1 (o + 8) b) → ∀ m4, T g mX3_spreadFrom (rmd d 0 0) 0 0 (Qm g (rmd d 0 0) P) 4 [some (.ref o), some (iI a), some (iI v), some (iI ((b + 1 : Nat) : Int)), m4] [] SH D1 := by
        intro z m4
        refine ih (b + 1) D1 v τ1 m4 (by omega) r1 r2.later r3 r4 (fun b' hb' he => ?_) r6
        by_cases e : b' = b
        · subst e; exact Int.not_lt.mp (fun q => z ⟨he, q⟩)
        · exact r5 b' (by omega) he
      refine T_iload_n dX3_spreadFrom_4 rfl ?_
      refine T_aload_n dX3_spreadFrom_5 rfl ?_
      refine T_getI dX3_spreadFrom_6 flX3_52 hS rfl ?_
      refine T_icmp_ge 79 dX3_spreadFrom_9 (by decide) (by first | (unfold InR; omega) | (simp [st2, InR]; omega)) (by first | (unfold InR; omega) | (simp [st2, InR]; omega)) (fun hc9 => (by exfalso; omega)) (fun hc9 => ?_)
      refine T_aload_n dX3_spreadFrom_12 rfl ?_
      refine T_getR dX3_spreadFrom_13 flX3_27 hS rfl ?_
      refine T_iload_n dX3_spreadFrom_16 rfl ?_
      refine T_iconst dX3_spreadFrom_17 ?_
      refine T_imul dX3_spreadFrom_18 ?_
      refine T_iload_n dX3_spreadFrom_19 rfl ?_
      refine T_iadd dX3_spreadFrom_20 ?_
      refine T_iald dX3_spreadFrom_21 hA5 (by first | decide | omega) (by first | omega | (simp [st2]; omega)) (by first | omega | (simp [st2]; omega)) ?_
      refine T_istore dX3_spreadFrom_22 (by decide) ?_
      refine T_iload dX3_spreadFrom_24 rfl ?_
      refine T_ldc (n := 500000000) dX3_spreadFrom_26 tk_469 ?_
      refine T_icmp_ge 73 dX3_spreadFrom_28 (by decide) (by rw [ew]; unfold InR; simp only [wO] at *; omega) (by first | (unfold InR; omega) | (simp [st2, InR]; omega)) (fun hc28 => ?_) (fun hc28 => ?_)
      · rw [ew] at hc28
        refine T_iinc dX3_spreadFrom_73 rfl (by decide) ?_
        refine T_goto (tgt := 4) dX3_spreadFrom_76 (by decide) ?_
        first
        | exact noup (fun z => by simp only [exO, wO] at *; omega) _
        | (refine ih (b + 1) _ 1 (upN τ1 b (t + b + 1)) _ (by omega) (fun r e8 e9 => by rw [st2_row e9, st2_row e8]; exact r1 r e8 e9) ?_ ?_ ?_ ?_ (Or.inl rfl) <;> rw [st2_row (show o + 8 ≠ o + 9 by omega), eb, e8a, ew, st2_up]
           · rw [st2_up, st2_row (show o + 9 ≠ o + 8 by omega)]
             exact r2.relax hP (by omega) ha hb he (by omega) (by omega)
           · exact fun k a0 z => (r3 k a0 z).relax hP ha hb he (by omega) (by omega)
           · rw [up1_ne hab]; exact r4
           · intro b' hb' he'
             rw [up1_ne hab]
             by_cases e : b' = b
             · subst e; rw [up1_at]; exact Int.le_refl _
             · rw [up1_ne e]; exact r5 b' (by omega) he')
      · rw [ew] at hc28
        refine T_aload_n dX3_spreadFrom_31 rfl ?_
        refine T_getR dX3_spreadFrom_32 flX3_33 hS rfl ?_
        refine T_iload_n dX3_spreadFrom_35 rfl ?_
        refine T_iald dX3_spreadFrom_36 hA7 (by first | decide | omega) (by first | omega | (simp [st2]; omega)) (by first | omega | (simp [st2]; omega)) ?_
        refine T_iload dX3_spreadFrom_37 rfl ?_
        refine T_iadd dX3_spreadFrom_39 ?_
        refine T_aload_n dX3_spreadFrom_40 rfl ?_
        refine T_getR dX3_spreadFrom_41 flX3_33 hS rfl ?_
        refine T_iload_n dX3_spreadFrom_44 rfl ?_
        refine T_iald dX3_spreadFrom_45 hA7 (by first | decide | omega) (by first | omega | (simp [st2]; omega)) (by first | omega | (simp [st2]; omega)) ?_
        refine T_icmp_ge 73 dX3_spreadFrom_46 (by decide) (by rw [e8a, ew]; unfold InR; simp only [wO] at *; omega) (by rw [e8b]; unfold InR; omega) (fun hc46 => ?_) (fun hc46 => ?_)
        · rw [e8a, e8b, ew] at hc46
          refine T_iinc dX3_spreadFrom_73 rfl (by decide) ?_
          refine T_goto (tgt := 4) dX3_spreadFrom_76 (by decide) ?_
          first
          | exact noup (fun z => by simp only [exO, wO] at *; omega) _
          | (refine ih (b + 1) _ 1 (upN τ1 b (t + b + 1)) _ (by omega) (fun r e8 e9 => by rw [st2_row e9, st2_row e8]; exact r1 r e8 e9) ?_ ?_ ?_ ?_ (Or.inl rfl) <;> rw [st2_row (show o + 8 ≠ o + 9 by omega), eb, e8a, ew, st2_up]
             · rw [st2_up, st2_row (show o + 9 ≠ o + 8 by omega)]
               exact r2.relax hP (by omega) ha hb he (by omega) (by omega)
             · exact fun k a0 z => (r3 k a0 z).relax hP ha hb he (by omega) (by omega)
             · rw [up1_ne hab]; exact r4
             · intro b' hb' he'
               rw [up1_ne hab]
               by_cases e : b' = b
               · subst e; rw [up1_at]; exact Int.le_refl _
               · rw [up1_ne e]; exact r5 b' (by omega) he')
        · rw [e8a, e8b, ew] at hc46
          have he : exO D o a b := by simp only [exO, wO] at *; omega
          have hab : a ≠ b := fun e => by
            subst e
            have := (hP a ha a ha he).1
            omega
          refine T_aload_n dX3_spreadFrom_49 rfl ?_
          refine T_getR dX3_spreadFrom_50 flX3_33 hS rfl ?_
          refine T_iload_n dX3_spreadFrom_53 rfl ?_
          refine T_aload_n dX3_spreadFrom_54 rfl ?_
          refine T_getR dX3_spreadFrom_55 flX3_33 hS rfl ?_
          refine T_iload_n dX3_spreadFrom_58 rfl ?_
          refine T_iald dX3_spreadFrom_59 hA7 (by first | decide | omega) (by first | omega | (simp [st2]; omega)) (by first | omega | (simp [st2]; omega)) ?_
          refine T_iload dX3_spreadFrom_60 rfl ?_
          refine T_iadd dX3_spreadFrom_62 ?_
          refine T_iast dX3_spreadFrom_63 hA7 (by first | decide | omega) (by first | omega | (simp [st2]; omega)) (by first | omega | (simp [st2]; omega)) ?_
          refine T_aload_n dX3_spreadFrom_64 rfl ?_
          refine T_getR dX3_spreadFrom_65 flX3_36 hS rfl ?_
          refine T_iload_n dX3_spreadFrom_68 rfl ?_
          refine T_iload_n dX3_spreadFrom_69 rfl ?_
          refine T_iast dX3_spreadFrom_70 hA8 (by first | decide | omega) (by first | omega | (simp [st2]; omega)) (by first | omega | (simp [st2]; omega)) ?_
          refine T_iconst dX3_spreadFrom_71 ?_
          refine T_istore_n dX3_spreadFrom_72 (by decide) ?_
          refine T_iinc dX3_spreadFrom_73 rfl (by decide) ?_
          refine T_goto (tgt := 4) dX3_spreadFrom_76 (by decide) ?_
          first
          | exact noup (fun z => by simp only [exO, wO] at *; omega) _
          | (refine ih (b + 1) _ 1 (upN τ1 b (t + b + 1)) _ (by omega) (fun r e8 e9 => by rw [st2_row e9, st2_row e8]; exact r1 r e8 e9) ?_ ?_ ?_ ?_ (Or.inl rfl) <;> rw [st2_row (show o + 8 ≠ o + 9 by omega), eb, e8a, ew, st2_up]
             · rw [st2_up, st2_row (show o + 9 ≠ o + 8 by omega)]
               exact r2.relax hP (by omega) ha hb he (by omega) (by omega)
             · exact fun k a0 z => (r3 k a0 z).relax hP ha hb he (by omega) (by omega)
             · rw [up1_ne hab]; exact r4
             · intro b' hb' he'
               rw [up1_ne hab]
               by_cases e : b' = b
               · subst e; rw [up1_at]; exact Int.le_refl _
               · rw [up1_ne e]; exact r5 b' (by omega) he')
  refine T_iconst dX3_spreadFrom_0 ?_
  refine T_istore_n dX3_spreadFrom_1 (by decide) ?_
  refine T_iconst dX3_spreadFrom_2 ?_
  refine T_istore_n dX3_spreadFrom_3 (by decide) ?_
  exact loop (D o 11).toNat 0 D 0 τ none (by omega) (fun r _ _ => rfl) hB (fun k a0 z => z) rfl (fun b' hb' => by omega) (Or.inr ⟨rfl, rfl⟩)
theorem c_spread {o t : Nat} {p : Nat → Int} {Sr : Nat → Int → Prop} {τ : Nat → Nat} (hs : SnAt o) (hM : 0 ≤ D o 11 ∧ D o 11 ≤ 5) (hst : ∀ a, a < (D o 11).toNat → ∀ b, b < (D o 11).toNat → D (o + 6) (a * 5 + b) ≤ 500000000) (hP : PW (D o 11).toNat (exO D o) (wO D o) p) (ht : t = 0) (hB : BfI (D o 11).toNat (exO D o) (wO D o) p Sr 500000000 t τ (D (o + 8)) (D (o + 9)))
    (hk : ∀ (D' : DD) (t' : Nat) (τ' : Nat → Nat), t' ≤ 200 → (∀ r, r ≠ o + 8 → r ≠ o + 9 → D' r = D r) → BfI (D o 11).toNat (exO D o) (wO D o) p Sr 500000000 t' τ' (D' (o + 8)) (D' (o + 9)) → AllR (D o 11).toNat (exO D o) (wO D o) 500000000 (D' (o + 8)) → P none SH D') : TM g mX3_spread (d + 1) P [.ref o] D := by
  have hs2 := hs
  obtain ⟨hS, hA0, hA1, hA2, hA3, hA4, hA5, hA6, hA7, hA8, hA9, ho16⟩ := hs
  have inner : ∀ (r : Nat) (D0 : DD), r < (D o 11).toNat → (∀ (D1 : DD) (v : Int) (τ1 : Nat → Nat) (m3 : Option Value), (v = 0 ∨ v = 1) → (∀ r, r ≠ o + 8 → r ≠ o + 9 → D1 r = D r) → BfI (D o 11).toNat (exO D o) (wO D o) p Sr 500000000 (25 * (r + 1)) τ1 (D1 (o + 8)) (D1 (o + 9)) → Setl (D o 11).toNat (exO D o) (wO D o) p 500000000 (D1 (o + 8)) (r + 1) → (v = 0 → AllR (D o 11).toNat (exO D o) (wO D o) 500000000 (D1 (o + 8))) → T g mX3_spread (rmd (d + 1) 0 0) 0 0 (Qm g (rmd (d + 1) 0 0) P) 4 [some (.ref o), some (iI v), some (iI ((r + 1 : Nat) : Int)), m3] [] SH D1) → ∀ (q a : Nat) (D1 : DD) (v : Int) (τ1 : Nat → Nat), q + a = (D o 11).toNat → (v = 0 ∨ v = 1) → (∀ r, r ≠ o + 8 → r ≠ o + 9 → D1 r = D r) → BfI (D o 11).toNat (exO D o) (wO D o) p Sr 500000000 (25 * r + 5 * a) τ1 (D1 (o + 8)) (D1 (o + 9)) → Rnd (D o 11).toNat (exO D o) (wO D o) p 500000000 (D1 (o + 8)) r a → (v = 0 → ∀ a', a' < a → Rlx (D o 11).toNat (exO D o) (wO D o) 500000000 (D1 (o + 8)) a') → T g mX3_spread (rmd (d + 1) 0 0) 0 0 (Qm g (rmd (d + 1) 0 0) P) 20 [some (.ref o), some (iI v), some (iI r), some (iI a)] [] SH D1 := by
    intro r D0 hr K q
    have lift : ∀ (j : Nat) {t1 : Nat} {τ1 : Nat → Nat} {d1 pr1 : Nat → Int}, BfI (D o 11).toNat (exO D o) (wO D o) p Sr 500000000 t1 τ1 d1 pr1 → BfI (D o 11).toNat (exO D o) (wO D o) p Sr 500000000 (t1 + j) τ1 d1 pr1 := by
      intro j
      induction j with
      | zero => intro t1 τ1 d1 pr1 h; exact h
      | succ j ih => intro t1 τ1 d1 pr1 h; exact (ih h).later
    induction q with
    | zero =>
      intro a D1 v τ1 hq hv r1 r2 r3 r4
      have z2 : D1 o 11 = D o 11 := by rw [r1 o (by omega) (by omega)]
      obtain rfl : a = (D o 11).toNat := by omega
      have r2' := lift (25 - 5 * (D o 11).toNat) r2
      rw [show 25 * r + 5 * (D o 11).toNat + (25 - 5 * (D o 11).toNat) = 25 * (r + 1) by omega] at r2'
      refine T_iload_n dX3_spread_20 rfl ?_
      refine T_aload_n dX3_spread_21 rfl ?_
      refine T_getI dX3_spread_22 flX3_52 hS rfl ?_
      refine T_icmp_ge 55 dX3_spread_25 (by decide) (by first | (unfold InR; omega) | (simp [st2, InR]; omega)) (by first | (unfold InR; omega) | (simp [st2, InR]; omega)) (fun hc25 => ?_) (fun hc25 => (by exfalso; omega))
      refine T_iinc dX3_spread_55 rfl (by decide) ?_
      refine T_goto (tgt := 4) dX3_spread_58 (by decide) ?_
      exact K D1 v τ1 _ hv r1 r2' r3.stop (fun z => r4 z)
    | succ q ih =>
      intro a D1 v τ1 hq hv r1 r2 r3 r4
      have ha : a < (D o 11).toNat := by omega
      have z0 : D1 o = D o := r1 o (by omega) (by omega)
      have z2 : D1 o 11 = D o 11 := by rw [z0]
      have y6 : D1 (o + 6) = D (o + 6) := r1 (o + 6) (by omega) (by omega)
      have ea : (a : Int).toNat = a := Int.toNat_natCast a
      have e8a : D1 (o + 8) (a : Int).toNat = D1 (o + 8) a := by rw [ea]
      have ra := d_rng r2 (by omega) (by omega) ha
      have x1 : exO D1 o = exO D o := by unfold exO; rw [y6]
      have x2 : wO D1 o = wO D o := by unfold wO; rw [y6]
      refine T_iload_n dX3_spread_20 rfl ?_
      refine T_aload_n dX3_spread_21 rfl ?_
      refine T_getI dX3_spread_22 flX3_52 hS rfl ?_
      refine T_icmp_ge 55 dX3_spread_25 (by decide) (by first | (unfold InR; omega) | (simp [st2, InR]; omega)) (by first | (unfold InR; omega) | (simp [st2, InR]; omega)) (fun hc25 => (by exfalso; omega)) (fun hc25 => ?_)
      refine T_aload_n dX3_spread_28 rfl ?_
      refine T_getR dX3_spread_29 flX3_33 hS rfl ?_
      refine T_iload_n dX3_spread_32 rfl ?_
      refine T_iald dX3_spread_33 hA7 (by first | decide | omega) (by first | omega | (simp [st2]; omega)) (by first | omega | (simp [st2]; omega)) ?_
      refine T_ldc (n := 500000000) dX3_spread_34 tk_469 ?_
      refine T_icmp_ge 49 dX3_spread_36 (by decide) (by rw [e8a]; unfold InR; omega) (by first | (unfold InR; omega) | (simp [st2, InR]; omega)) (fun hc36 => ?_) (fun hc36 => ?_)
      · rw [e8a] at hc36
        have rl : Rlx (D o 11).toNat (exO D o) (wO D o) 500000000 (D1 (o + 8)) a := fun b _ _ z => by omega
        refine T_iinc dX3_spread_49 rfl (by decide) ?_
        refine T_goto (tgt := 20) dX3_spread_52 (by decide) ?_
        first
        | exact ih (a + 1) D1 v τ1 (by omega) hv r1 (lift 5 r2) (r3.next rl) (fun z a' ha' => by
            by_cases e : a' = a
            · subst e; exact rl
            · exact r4 z a' (by omega))
        | exact ih (a + 1) D' 1 τ' (by omega) (Or.inr rfl) s1' s2' s3' (fun z => absurd z (by decide))
        | (exfalso; clear ih K; omega)
        | exact ih (a + 1) D' v τ' (by omega) hv s1' s2' s3' (fun z a' ha' => by
            by_cases e : a' = a
            · subst e; exact s4
            · rw [s6]; exact r4 z a' (by omega))
      · rw [e8a] at hc36
        refine T_aload_n dX3_spread_39 rfl ?_
        refine T_iload_n dX3_spread_40 rfl ?_
        refine T_cV_1 dX3_spread_41 lkX3_114 hS (Nat.le_of_ble_eq_true rfl) (RO_r (by decide)) (Nat.le_of_ble_eq_true rfl) ?_
        refine c_spreadFrom (o := o) (a := a) (t := 25 * r + 5 * a) (p := p) (Sr := Sr) hs2 (by rw [z0]; exact hM) (by rw [z0, y6]; exact hst) (by rw [z0, x1, x2]; exact hP) (by omega) (by rw [z0, x1, x2]; exact r2) (by rw [z0]; exact ha) (by omega) (fun D' v' τ' s1 s2 s3 s4 s5 => ?_)
        rw [z0, x1, x2] at s2 s3 s4
        have s2' := lift (5 - (D o 11).toNat) s2
        rw [show 25 * r + 5 * a + (D o 11).toNat + (5 - (D o 11).toNat) = 25 * r + 5 * (a + 1) by omega] at s2'
        have s1' : ∀ r, r ≠ o + 8 → r ≠ o + 9 → D' r = D r := fun r e8 e9 => by rw [s1 r e8 e9]; exact r1 r e8 e9
        have s3' := (s3 r a r3).next s4
        rcases s5 with rfl | ⟨rfl, s6⟩
        · refine T_if_eq 49 dX3_spread_44 (by decide) (by first | (unfold InR; omega) | (simp [st2, InR]; omega)) (fun hc44 => ?_) (fun hc44 => ?_)
          · refine T_iinc dX3_spread_49 rfl (by decide) ?_
            refine T_goto (tgt := 20) dX3_spread_52 (by decide) ?_
            first
            | exact ih (a + 1) D1 v τ1 (by omega) hv r1 (lift 5 r2) (r3.next rl) (fun z a' ha' => by
                by_cases e : a' = a
                · subst e; exact rl
                · exact r4 z a' (by omega))
            | exact ih (a + 1) D' 1 τ' (by omega) (Or.inr rfl) s1' s2' s3' (fun z => absurd z (by decide))
            | (exfalso; clear ih K; omega)
            | exact ih (a + 1) D' v τ' (by omega) hv s1' s2' s3' (fun z a' ha' => by
                by_cases e : a' = a
                · subst e; exact s4
                · rw [s6]; exact r4 z a' (by omega))
          · refine T_iconst dX3_spread_47 ?_
            refine T_istore_n dX3_spread_48 (by decide) ?_
            refine T_iinc dX3_spread_49 rfl (by decide) ?_
            refine T_goto (tgt := 20) dX3_spread_52 (by decide) ?_
            first
            | exact ih (a + 1) D1 v τ1 (by omega) hv r1 (lift 5 r2) (r3.next rl) (fun z a' ha' => by
                by_cases e : a' = a
                · subst e; exact rl
                · exact r4 z a' (by omega))
            | exact ih (a + 1) D' 1 τ' (by omega) (Or.inr rfl) s1' s2' s3' (fun z => absurd z (by decide))
            | (exfalso; clear ih K; omega)
            | exact ih (a + 1) D' v τ' (by omega) hv s1' s2' s3' (fun z a' ha' => by
                by_cases e : a' = a
                · subst e; exact s4
                · rw [s6]; exact r4 z a' (by omega))
        · refine T_if_eq 49 dX3_spread_44 (by decide) (by first | (unfold InR; omega) | (simp [st2, InR]; omega)) (fun hc44 => ?_) (fun hc44 => ?_)
          · refine T_iinc dX3_spread_49 rfl (by decide) ?_
            refine T_goto (tgt := 20) dX3_spread_52 (by decide) ?_
            first
            | exact ih (a + 1) D1 v τ1 (by omega) hv r1 (lift 5 r2) (r3.next rl) (fun z a' ha' => by
                by_cases e : a' = a
                · subst e; exact rl
                · exact r4 z a' (by omega))
            | exact ih (a + 1) D' 1 τ' (by omega) (Or.inr rfl) s1' s2' s3' (fun z => absurd z (by decide))
            | (exfalso; clear ih K; omega)
            | exact ih (a + 1) D' v τ' (by omega) hv s1' s2' s3' (fun z a' ha' => by
                by_cases e : a' = a
                · subst e; exact s4
                · rw [s6]; exact r4 z a' (by omega))
          · refine T_iconst dX3_spread_47 ?_
            refine T_istore_n dX3_spread_48 (by decide) ?_
            refine T_iinc dX3_spread_49 rfl (by decide) ?_
            refine T_goto (tgt := 20) dX3_spread_52 (by decide) ?_
            first
            | exact ih (a + 1) D1 v τ1 (by omega) hv r1 (lift 5 r2) (r3.next rl) (fun z a' ha' => by
                by_cases e : a' = a
                · subst e; exact rl
                · exact r4 z a' (by omega))
            | exact ih (a + 1) D' 1 τ' (by omega) (Or.inr rfl) s1' s2' s3' (fun z => absurd z (by decide))
            | (exfalso; clear ih K; omega)
            | exact ih (a + 1) D' v τ' (by omega) hv s1' s2' s3' (fun z a' ha' => by
                by_cases e : a' = a
                · subst e; exact s4
                · rw [s6]; exact r4 z a' (by omega))
  have outer : ∀ (q r : Nat) (D1 : DD) (v : Int) (τ1 : Nat → Nat) (m3 : Option Value), q + r = (D o 11).toNat → (v = 0 ∨ v = 1) → (∀ r, r ≠ o + 8 → r ≠ o + 9 → D1 r = D r) → BfI (D o 11).toNat (exO D o) (wO D o) p Sr 500000000 (25 * r) τ1 (D1 (o + 8)) (D1 (o + 9)) → Setl (D o 11).toNat (exO D o) (wO D o) p 500000000 (D1 (o + 8)) r → (v = 0 → AllR (D o 11).toNat (exO D o) (wO D o) 500000000 (D1 (o + 8))) → T g mX3_spread (rmd (d + 1) 0 0) 0 0 (Qm g (rmd (d + 1) 0 0) P) 4 [some (.ref o), some (iI v), some (iI r), m3] [] SH D1 := by
    intro q
    induction q with
    | zero =>
      intro r D1 v τ1 m3 hq hv r1 r2 r3 r4
      have z2 : D1 o 11 = D o 11 := by rw [r1 o (by omega) (by omega)]
      obtain rfl : r = (D o 11).toNat := by omega
      refine T_iload_n dX3_spread_4 rfl ?_
      refine T_aload_n dX3_spread_5 rfl ?_
      refine T_getI dX3_spread_6 flX3_52 hS rfl ?_
      refine T_icmp_ge 61 dX3_spread_9 (by decide) (by first | (unfold InR; omega) | (simp [st2, InR]; omega)) (by first | (unfold InR; omega) | (simp [st2, InR]; omega)) (fun hc9 => ?_) (fun hc9 => (by exfalso; omega))
      refine T_vret dX3_spread_61 rfl ?_
      exact hk D1 _ τ1 (by omega) r1 r2 r3.all
    | succ q ih =>
      intro r D1 v τ1 m3 hq hv r1 r2 r3 r4
      have z2 : D1 o 11 = D o 11 := by rw [r1 o (by omega) (by omega)]
      refine T_iload_n dX3_spread_4 rfl ?_
      refine T_aload_n dX3_spread_5 rfl ?_
      refine T_getI dX3_spread_6 flX3_52 hS rfl ?_
      refine T_icmp_ge 61 dX3_spread_9 (by decide) (by first | (unfold InR; omega) | (simp [st2, InR]; omega)) (by first | (unfold InR; omega) | (simp [st2, InR]; omega)) (fun hc9 => (by exfalso; omega)) (fun hc9 => ?_)
      refine T_iload_n dX3_spread_12 rfl ?_
      refine T_if_eq 61 dX3_spread_13 (by decide) (by first | (unfold InR; omega) | (simp [st2, InR]; omega)) (fun hc13 => ?_) (fun hc13 => ?_)
      · refine T_vret dX3_spread_61 rfl ?_
        exact hk D1 _ τ1 (by omega) r1 r2 (r4 (by omega))
      · refine T_iconst dX3_spread_16 ?_
        refine T_istore_n dX3_spread_17 (by decide) ?_
        refine T_iconst dX3_spread_18 ?_
        refine T_istore_n dX3_spread_19 (by decide) ?_
        exact inner r D1 (by omega) (fun D2 v2 τ2 m3 w1 w2 w3 w4 w5 => ih (r + 1) D2 v2 τ2 m3 (by omega) w1 w2 w3 w4 w5) (D o 11).toNat 0 D1 0 τ1 (by omega) (Or.inl rfl) r1 r2 r3.start (fun _ a' ha' => by omega)
  refine T_iconst dX3_spread_0 ?_
  refine T_istore_n dX3_spread_1 (by decide) ?_
  refine T_iconst dX3_spread_2 ?_
  refine T_istore_n dX3_spread_3 (by decide) ?_
  subst ht
  exact outer (D o 11).toNat 0 D 1 τ none (by omega) (Or.inr rfl) (fun r _ _ => rfl) hB Setl.zero (fun z => absurd z (by decide))
end

