/-- the churches at which far and weight come to the least, as bits -/
noncomputable def lnL (ok : Nat → Prop) (v : Nat → Int) (B : Int) : Nat → Int
  | 0 => B
  | n + 1 => cif (ok n ∧ v n < lnL ok v B n) (v n) (lnL ok v B n)
noncomputable def lnS (ok : Nat → Prop) (v : Nat → Int) (B : Int) : Nat → Int
  | 0 => 0
  | n + 1 => cif (ok n ∧ v n < lnL ok v B n) (ishl 1 n) (cif (ok n ∧ v n = lnL ok v B n) (ior (lnS ok v B n) (ishl 1 n)) (lnS ok v B n))
theorem lnL_le {ok : Nat → Prop} {v : Nat → Int} {B : Int} (n : Nat) : lnL ok v B n ≤ B := by
  induction n with
  | zero => exact Int.le_refl _
  | succ n ih =>
    simp only [lnL]
    by_cases h : ok n ∧ v n < lnL ok v B n
    · rw [cif_pos h]; have := h.2; omega
    · rw [cif_neg h]; exact ih
theorem lnL_ge {ok : Nat → Prop} {v : Nat → Int} {B : Int} (n : Nat) (hv : ∀ c, c < n → 0 ≤ v c) (hB : 0 ≤ B) : 0 ≤ lnL ok v B n := by
  induction n with
  | zero => exact hB
  | succ n ih =>
    have i := ih (fun c hc => hv c (by omega))
    have := hv n (by omega)
    simp only [lnL]
    by_cases h : ok n ∧ v n < lnL ok v B n
    · rw [cif_pos h]; exact this
    · rw [cif_neg h]; exact i
theorem ln_B {ok ok' : Nat → Prop} {v v' : Nat → Int} {B B' : Int} (n : Nat) (h : ∀ c, c < n → (ok c ↔ ok' c) ∧ (ok c → v c = v' c ∧ v c < B ∧ v c < B')) : lnS ok v B n = lnS ok' v' B' n ∧ (lnL ok v B n = lnL ok' v' B' n ∨ (lnL ok v B n = B ∧ lnL ok' v' B' n = B')) := by
  induction n with
  | zero => exact ⟨rfl, Or.inr ⟨rfl, rfl⟩⟩
  | succ n ih =>
    obtain ⟨i1, i2⟩ := ih (fun c hc => h c (by omega))
    obtain ⟨h1, h2⟩ := h n (by omega)
    simp only [lnL, lnS]
    by_cases k : ok n
    · obtain ⟨e1, e2, e3⟩ := h2 k
      have k' := h1.mp k
      by_cases a : v n < lnL ok v B n
      · have A : ok n ∧ v n < lnL ok v B n := ⟨k, a⟩
        have A' : ok' n ∧ v' n < lnL ok' v' B' n := ⟨k', by omega⟩
        simp only [cif_pos A, cif_pos A']
        exact ⟨trivial, Or.inl e1⟩
      · have A : ¬ (ok n ∧ v n < lnL ok v B n) := fun z => a z.2
        have A' : ¬ (ok' n ∧ v' n < lnL ok' v' B' n) := fun z => by have := z.2; omega
        simp only [cif_neg A, cif_neg A']
        refine ⟨?_, i2⟩
        by_cases b : v n = lnL ok v B n
        · have b' : v' n = lnL ok' v' B' n := by omega
          rw [cif_pos ⟨k, b⟩, cif_pos ⟨k', b'⟩, i1]
        · have b1 : ¬ (ok n ∧ v n = lnL ok v B n) := fun z => b z.2
          have b2 : ¬ (ok' n ∧ v' n = lnL ok' v' B' n) := fun z => by have := z.2; omega
          rw [cif_neg b1, cif_neg b2, i1]
    · have k' : ¬ ok' n := fun z => k (h1.mpr z)
      have A : ¬ (ok n ∧ v n < lnL ok v B n) := fun z => k z.1
      have A' : ¬ (ok' n ∧ v' n < lnL ok' v' B' n) := fun z => k' z.1
      have b1 : ¬ (ok n ∧ v n = lnL ok v B n) := fun z => k z.1
      have b2 : ¬ (ok' n ∧ v' n = lnL ok' v' B' n) := fun z => k' z.1
      simp only [cif_neg A, cif_neg A', cif_neg b1, cif_neg b2]
      exact ⟨i1, i2⟩
/-- the longest way on which heads go -/
def IsLong (D : DD) (o n : Nat) (r : Int) : Prop := (r = 0 ∨ ∃ j, j < n ∧ 0 < D (o + 2) j ∧ r = D (o + 1) j) ∧ 0 ≤ r ∧ ∀ j, j < n → 0 < D (o + 2) j → D (o + 1) j ≤ r
section
variable {g : G0} {d : Nat} {P : Option Value → List SC → DD → Prop} {D : DD}
theorem c_shutAllBut {o : Nat} {s : Int} (hs : SnAt o) (hM : 0 ≤ D o 11 ∧ D o 11 ≤ 5) (hk : ∀ D' : DD, (∀ r, r ≠ o + 4 → D' r = D r) → (∀ c, c < (D o 11).toNat → D' (o + 4) c = cif (bit s c) (D (o + 4) c) 0) → P none SH D') : TM g mX3_shutAllBut d P [.ref o, iI s] D := by
  obtain ⟨hS, hA0, hA1, hA2, hA3, hA4, hA5, hA6, hA7, hA8, hA9, ho16⟩ := hs
  have loop : ∀ (q c : Nat) (D1 : DD), q + c = (D o 11).toNat → (∀ r, r ≠ o + 4 → D1 r = D r) → (∀ j, j < c → D1 (o + 4) j = cif (bit s j) (D (o + 4) j) 0) → (∀ j, c ≤ j → D1 (o + 4) j = D (o + 4) j) → T g mX3_shutAllBut (rmd d 0 0) 0 0 (Qm g (rmd d 0 0) P) 2 [some (.ref o), some (iI s), some (iI c)] [] SH D1 := by
    intro q
    induction q with
    | zero =>
      intro c D1 hq r1 r2 r3
      have z2 : D1 o 11 = D o 11 := by rw [r1 o (by omega)]
      refine T_iload_n dX3_shutAllBut_2 rfl ?_
      refine T_aload_n dX3_shutAllBut_3 rfl ?_
      refine T_getI dX3_shutAllBut_4 flX3_52 hS rfl ?_
      refine T_icmp_ge 31 dX3_shutAllBut_7 (by decide) (by first | (unfold InR; omega) | (simp [st2, InR]; omega)) (by first | (unfold InR; omega) | (simp [st2, InR]; omega)) (fun hc7 => ?_) (fun hc7 => (by exfalso; omega))
      refine T_vret dX3_shutAllBut_31 rfl ?_
      exact hk D1 r1 (fun j hj => r2 j (by omega))
    | succ q ih =>
      intro c D1 hq r1 r2 r3
      have z2 : D1 o 11 = D o 11 := by rw [r1 o (by omega)]
      have ec : (c : Int).toNat = c := Int.toNat_natCast c
      refine T_iload_n dX3_shutAllBut_2 rfl ?_
      refine T_aload_n dX3_shutAllBut_3 rfl ?_
      refine T_getI dX3_shutAllBut_4 flX3_52 hS rfl ?_
      refine T_icmp_ge 31 dX3_shutAllBut_7 (by decide) (by first | (unfold InR; omega) | (simp [st2, InR]; omega)) (by first | (unfold InR; omega) | (simp [st2, InR]; omega)) (fun hc7 => (by exfalso; omega)) (fun hc7 => ?_)
      refine T_iload_n dX3_shutAllBut_10 rfl ?_
      refine T_iload_n dX3_shutAllBut_11 rfl ?_
      refine T_ishr dX3_shutAllBut_12 ?_
      refine T_iconst dX3_shutAllBut_13 ?_
      refine T_iand dX3_shutAllBut_14 ?_
      refine T_if_ne 25 dX3_shutAllBut_15 (by decide) (inR_iand _ _) (fun hc15 => ?_) (fun hc15 => ?_)
      · have hb : bit s c := Classical.byContradiction fun z => hc15 ((bit0 (by omega)).mpr z)
        refine T_iinc dX3_shutAllBut_25 rfl (by decide) ?_
        refine T_goto (tgt := 2) dX3_shutAllBut_28 (by decide) ?_
        first
        | exact ih (c + 1) D1 (by omega) r1 (fun j hj => by
            by_cases e : j = c
            · subst e; rw [cif_pos hb]; exact r3 j (by omega)
            · exact r2 j (by omega)) (fun j hj => r3 j (by omega))
        | exact ih (c + 1) _ (by omega) (fun r e => by rw [st2_row e]; exact r1 r e) (fun j hj => by
            rw [ec]
            by_cases e : j = c
            · subst e; rw [cif_neg hb, st2_at]
            · rw [st2_ne e]; exact r2 j (by omega)) (fun j hj => by rw [ec, st2_ne (by omega)]; exact r3 j (by omega))
      · have hb : ¬ bit s c := (bit0 (by omega)).mp (Classical.not_not.mp hc15)
        refine T_aload_n dX3_shutAllBut_18 rfl ?_
        refine T_getR dX3_shutAllBut_19 flX3_21 hS rfl ?_
        refine T_iload_n dX3_shutAllBut_22 rfl ?_
        refine T_iconst dX3_shutAllBut_23 ?_
        refine T_iast dX3_shutAllBut_24 hA3 (by first | decide | omega) (by first | omega | (simp [st2]; omega)) (by first | omega | (simp [st2]; omega)) ?_
        refine T_iinc dX3_shutAllBut_25 rfl (by decide) ?_
        refine T_goto (tgt := 2) dX3_shutAllBut_28 (by decide) ?_
        first
        | exact ih (c + 1) D1 (by omega) r1 (fun j hj => by
            by_cases e : j = c
            · subst e; rw [cif_pos hb]; exact r3 j (by omega)
            · exact r2 j (by omega)) (fun j hj => r3 j (by omega))
        | exact ih (c + 1) _ (by omega) (fun r e => by rw [st2_row e]; exact r1 r e) (fun j hj => by
            rw [ec]
            by_cases e : j = c
            · subst e; rw [cif_neg hb, st2_at]
            · rw [st2_ne e]; exact r2 j (by omega)) (fun j hj => by rw [ec, st2_ne (by omega)]; exact r3 j (by omega))
  refine T_iconst dX3_shutAllBut_0 ?_
  refine T_istore_n dX3_shutAllBut_1 (by decide) ?_
  exact loop (D o 11).toNat 0 D (by omega) (fun r _ => rfl) (fun j hj => by omega) (fun j _ => rfl)
theorem c_longest {o : Nat} (hs : SnAt o) (h1 : ∀ j, j < 50 → 0 ≤ D (o + 2) j ∧ D (o + 2) j ≤ 5) (h2 : ∀ j, j < 50 → 0 < D (o + 2) j → 0 ≤ D (o + 1) j ∧ D (o + 1) j ≤ 500000000) (hk : ∀ r, IsLong D o 50 r → P (some (iI r)) SH D) : TM g mX3_longest d P [.ref o] D := by
  obtain ⟨hS, hA0, hA1, hA2, hA3, hA4, hA5, hA6, hA7, hA8, hA9, ho16⟩ := hs
  have loop : ∀ (q i : Nat) (r : Int), q + i = 50 → IsLong D o i r → r ≤ 500000000 → T g mX3_longest (rmd d 0 0) 0 0 (Qm g (rmd d 0 0) P) 4 [some (.ref o), some (iI r), some (iI i)] [] SH D := by
    intro q
    induction q with
    | zero =>
      intro i r hq hL hr
      refine T_iload_n dX3_longest_4 rfl ?_
      refine T_aload_n dX3_longest_5 rfl ?_
      refine T_getR dX3_longest_6 flX3_15 hS rfl ?_
      refine T_alen dX3_longest_9 hA1 ?_
      refine T_icmp_ge 39 dX3_longest_10 (by decide) (by first | (unfold InR; omega) | (simp [st2, InR]; omega)) (by first | (unfold InR; omega) | (simp [st2, InR]; omega)) (fun hc10 => ?_) (fun hc10 => (by exfalso; omega))
      refine T_iload_n dX3_longest_39 rfl ?_
      refine T_iret dX3_longest_40 rfl ?_
      exact hk r (by rw [show 50 = i by omega]; exact hL)
    | succ q ih =>
      intro i r hq hL hr
      have ei : (i : Int).toNat = i := Int.toNat_natCast i
      have e1 : D (o + 1) (i : Int).toNat = D (o + 1) i := by rw [ei]
      have e2 : D (o + 2) (i : Int).toNat = D (o + 2) i := by rw [ei]
      have b1 := h1 i (by omega)
      have b2 := h2 i (by omega)
      obtain ⟨l1, l2, l3⟩ := hL
      have old : (r = 0 ∨ ∃ j, j < i + 1 ∧ 0 < D (o + 2) j ∧ r = D (o + 1) j) := by
        rcases l1 with l1 | ⟨j, a, b, c⟩
        · exact Or.inl l1
        · exact Or.inr ⟨j, by omega, b, c⟩
      refine T_iload_n dX3_longest_4 rfl ?_
      refine T_aload_n dX3_longest_5 rfl ?_
      refine T_getR dX3_longest_6 flX3_15 hS rfl ?_
      refine T_alen dX3_longest_9 hA1 ?_
      refine T_icmp_ge 39 dX3_longest_10 (by decide) (by first | (unfold InR; omega) | (simp [st2, InR]; omega)) (by first | (unfold InR; omega) | (simp [st2, InR]; omega)) (fun hc10 => (by exfalso; omega)) (fun hc10 => ?_)
      refine T_aload_n dX3_longest_13 rfl ?_
      refine T_getR dX3_longest_14 flX3_15 hS rfl ?_
      refine T_iload_n dX3_longest_17 rfl ?_
      refine T_iald dX3_longest_18 hA1 (by first | decide | omega) (by first | omega | (simp [st2]; omega)) (by first | omega | (simp [st2]; omega)) ?_
      refine T_if_le 33 dX3_longest_19 (by decide) (by rw [e2]; unfold InR; omega) (fun hc19 => ?_) (fun hc19 => ?_)
      · rw [e2] at hc19
        refine T_iinc dX3_longest_33 rfl (by decide) ?_
        refine T_goto (tgt := 4) dX3_longest_36 (by decide) ?_
        first
        | exact ih (i + 1) r (by omega) ⟨old, l2, fun j hj hp => by
            by_cases e : j = i
            · subst e; omega
            · exact l3 j (by omega) hp⟩ hr
        | (rw [e1]
           by_cases z : r < D (o + 1) i
           · rw [if_pos z]
             exact ih (i + 1) _ (by omega) ⟨Or.inr ⟨i, by omega, by omega, rfl⟩, by omega, fun j hj hp => by
               by_cases e : j = i
               · subst e; omega
               · have := l3 j (by omega) hp; omega⟩ (by omega)
           · rw [if_neg z]
             exact ih (i + 1) _ (by omega) ⟨old, l2, fun j hj hp => by
               by_cases e : j = i
               · subst e; omega
               · exact l3 j (by omega) hp⟩ hr)
      · rw [e2] at hc19
        have b3 := b2 (by omega)
        refine T_iload_n dX3_longest_22 rfl ?_
        refine T_aload_n dX3_longest_23 rfl ?_
        refine T_getR dX3_longest_24 flX3_9 hS rfl ?_
        refine T_iload_n dX3_longest_27 rfl ?_
        refine T_iald dX3_longest_28 hA0 (by first | decide | omega) (by first | omega | (simp [st2]; omega)) (by first | omega | (simp [st2]; omega)) ?_
        refine T_max dX3_longest_29 lkX3_127 (by unfold InR; omega) (by rw [e1]; unfold InR; omega) (Nat.le_of_ble_eq_true rfl) ⟨by show _ ≤ _; first | decide | (simp only [rmd]; omega) | omega, by show _ ≤ _; first | decide | (simp only [rmd]; omega) | omega⟩ ?_
        refine T_istore_n dX3_longest_32 (by decide) ?_
        refine T_iinc dX3_longest_33 rfl (by decide) ?_
        refine T_goto (tgt := 4) dX3_longest_36 (by decide) ?_
        first
        | exact ih (i + 1) r (by omega) ⟨old, l2, fun j hj hp => by
            by_cases e : j = i
            · subst e; omega
            · exact l3 j (by omega) hp⟩ hr
        | (rw [e1]
           by_cases z : r < D (o + 1) i
           · rw [if_pos z]
             exact ih (i + 1) _ (by omega) ⟨Or.inr ⟨i, by omega, by omega, rfl⟩, by omega, fun j hj hp => by
               by_cases e : j = i
               · subst e; omega
               · have := l3 j (by omega) hp; omega⟩ (by omega)
           · rw [if_neg z]
             exact ih (i + 1) _ (by omega) ⟨old, l2, fun j hj hp => by
               by_cases e : j = i
               · subst e; omega
               · exact l3 j (by omega) hp⟩ hr)
  refine T_iconst dX3_longest_0 ?_
  refine T_istore_n dX3_longest_1 (by decide) ?_
  refine T_iconst dX3_longest_2 ?_
  refine T_istore_n dX3_longest_3 (by decide) ?_
  exact loop 50 0 0 (by omega) ⟨Or.inl rfl, by omega, fun j hj => by omega⟩ (by omega)
end

