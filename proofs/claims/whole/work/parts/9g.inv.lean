section
variable {g : G0} {d : Nat} {P : Option Value → List SC → DD → Prop} {D : DD}
theorem c_renew2 {o : Nat} (hs : shAt o) {l n : Int} (hk : ∀ D' : DD, (∀ j, j < 80 → D' (o + 1) j = 0) → (∀ j, 80 ≤ j → D' (o + 1) j = D (o + 1) j) → (∀ a, a ≠ o → a ≠ o + 1 → D' a = D a) → D' o 1 = 1 → D' o 2 = l → D' o 3 = n → P none SH D') : TM g mX4_renew d P [.ref o, iI l, iI n] D := by
  have loop : ∀ (q : Nat) (i : Nat) (D1 : DD), q + i = 80 → (∀ j, j < i → D1 (o + 1) j = 0) → (∀ j, i ≤ j → D1 (o + 1) j = D (o + 1) j) → (∀ a, a ≠ o + 1 → D1 a = D a) → T g mX4_renew (rmd d 0 0) 0 0 (Qm g (rmd d 0 0) P) 2 [some (.ref o), some (iI l), some (iI n), some (iI i)] [] SH D1 := by
    intro q
    induction q with
    | zero =>
      intro i D1 hq h1 h0 h2
      refine T_iload_n dX4_renew_2 rfl ?_
      refine T_aload_n dX4_renew_3 rfl ?_
      refine T_getR dX4_renew_4 flX4_9 hs.1 rfl ?_
      refine T_alen dX4_renew_7 hs.2 ?_
      refine T_icmp_ge 24 dX4_renew_8 (by decide) (by first | (unfold InR; omega) | (simp [st2, InR]; omega)) (by first | (unfold InR; omega) | (simp [st2, InR]; omega)) (fun hc8 => ?_) (fun hc8 => (by exfalso; omega))
      refine T_aload_n dX4_renew_24 rfl ?_
      refine T_iconst dX4_renew_25 ?_
      refine T_putZ dX4_renew_26 flX4_15 hs.1 rfl (by decide) ?_
      refine T_aload_n dX4_renew_29 rfl ?_
      refine T_iload_n dX4_renew_30 rfl ?_
      refine T_putI dX4_renew_31 flX4_19 hs.1 rfl ?_
      refine T_aload_n dX4_renew_34 rfl ?_
      refine T_iload_n dX4_renew_35 rfl ?_
      refine T_putI dX4_renew_36 flX4_23 hs.1 rfl ?_
      refine T_vret dX4_renew_39 rfl ?_
      exact hk _ (fun j hj => by rw [st2_row (by omega), st2_row (by omega), st2_row (by omega)]; exact h1 j (by omega)) (fun j hj => by rw [st2_row (by omega), st2_row (by omega), st2_row (by omega)]; exact h0 j (by omega)) (fun a h3 h4 => by rw [st2_row h3, st2_row h3, st2_row h3]; exact h2 a h4) (by simp [st2]) (by simp [st2]) (by simp [st2])
    | succ q ih =>
      intro i D1 hq h1 h0 h2
      refine T_iload_n dX4_renew_2 rfl ?_
      refine T_aload_n dX4_renew_3 rfl ?_
      refine T_getR dX4_renew_4 flX4_9 hs.1 rfl ?_
      refine T_alen dX4_renew_7 hs.2 ?_
      refine T_icmp_ge 24 dX4_renew_8 (by decide) (by first | (unfold InR; omega) | (simp [st2, InR]; omega)) (by first | (unfold InR; omega) | (simp [st2, InR]; omega)) (fun hc8 => (by exfalso; omega)) (fun hc8 => ?_)
      refine T_aload_n dX4_renew_11 rfl ?_
      refine T_getR dX4_renew_12 flX4_9 hs.1 rfl ?_
      refine T_iload_n dX4_renew_15 rfl ?_
      refine T_iconst dX4_renew_16 ?_
      refine T_iast dX4_renew_17 hs.2 (by first | decide | omega) (by first | omega | (simp [st2]; omega)) (by first | omega | (simp [st2]; omega)) ?_
      refine T_iinc dX4_renew_18 rfl (by decide) ?_
      refine T_goto (tgt := 2) dX4_renew_21 (by decide) ?_
      exact ih (i + 1) _ (by omega) (fun j hj => by
        by_cases h3 : j = i
        · subst h3; exact st2_at
        · rw [st2_ne (by omega)]; exact h1 j (by omega)) (fun j hj => by rw [st2_ne (by omega)]; exact h0 j (by omega)) (fun a h3 => by rw [st2_row h3]; exact h2 a h3)
  refine T_iconst dX4_renew_0 ?_
  refine T_istore_n dX4_renew_1 (by decide) ?_
  exact loop 80 0 D rfl (fun j hj => by omega) (fun j _ => rfl) (fun a _ => rfl)
theorem c_sheet2 {k l n : Int} (hk : InR k) (hl : InR l) (hn : InR n) (kU : ¬ (0 ≤ k ∧ k ≤ 3) → P (some (iI (-1))) SH (st2 D 0 10 0)) (kO : 0 ≤ k → k ≤ 3 → ¬ (0 ≤ l ∧ l ≤ 2 ∧ n ≤ 80) → P (some (iI (-2))) SH (st2 D 0 10 0)) (kZ : 0 ≤ k → k ≤ 3 → (0 ≤ l ∧ l ≤ 2 ∧ n ≤ 80) → n < 0 → P (some (iI (-14))) SH (st2 D 0 10 4))
    (kk : 0 ≤ k → k ≤ 3 → (0 ≤ l ∧ l ≤ 2 ∧ n ≤ 80) → 0 ≤ n → ∀ D' : DD, (∀ j, j < 80 → D' (49 + 2 * k.toNat + 1) j = 0) → (∀ j, 80 ≤ j → D' (49 + 2 * k.toNat + 1) j = D (49 + 2 * k.toNat + 1) j) → (∀ a, a ≠ 49 + 2 * k.toNat → a ≠ 49 + 2 * k.toNat + 1 → D' a = st2 D 0 10 0 a) → D' (49 + 2 * k.toNat) 1 = 1 → D' (49 + 2 * k.toNat) 2 = l → D' (49 + 2 * k.toNat) 3 = n → P (some (iI 1)) SH D') : TM g mX6_sheet (d + 2) P [.ref 0, iI k, iI l, iI n] D := by
  have hn2 := hn
  unfold InR at hn2
  rw [← st2_st2 D 0 10 0 4] at kZ
  refine T_aload_n dX6_sheet_0 rfl ?_
  refine T_iconst dX6_sheet_1 ?_
  refine T_putI dX6_sheet_2 flX6_224 rfl rfl ?_
  refine T_iload_n dX6_sheet_5 rfl ?_
  refine T_cS_1 dX6_sheet_6 lkX6_227 (Nat.le_of_ble_eq_true rfl) (RO_r (by decide)) (Nat.le_of_ble_eq_true rfl) ?_
  refine c_isSheet hk (fun h1 h2 => ?_) (fun h1 => ?_)
  · refine T_if_ne 14 dX6_sheet_9 (by decide) (by unfold InR; decide) (fun _ => ?_) (fun h => absurd (by decide) h)
    refine T_iload_n dX6_sheet_14 rfl ?_
    refine T_cS_1 dX6_sheet_15 lkX6_230 (Nat.le_of_ble_eq_true rfl) (RO_r (by decide)) (Nat.le_of_ble_eq_true rfl) ?_
    refine c_isLane hl (fun h3 h4 => ?_) (fun h3 => ?_)
    · refine T_if_eq 27 dX6_sheet_18 (by decide) (by unfold InR; decide) (fun h => absurd h (by decide)) (fun _ => ?_)
      refine T_iload_n dX6_sheet_21 rfl ?_
      refine T_bipush dX6_sheet_22 (by decide) ?_
      refine T_icmp_le 30 dX6_sheet_24 (by decide) (by first | (unfold InR; omega) | (simp [st2, InR]; omega)) (by first | (unfold InR; omega) | (simp [st2, InR]; omega)) (fun hc24 => ?_) (fun hc24 => ?_)
      · refine T_iload_n dX6_sheet_30 rfl ?_
        refine T_if_ge 40 dX6_sheet_31 (by decide) (by first | (unfold InR; omega) | (simp [st2, InR]; omega)) (fun hc31 => ?_) (fun hc31 => ?_)
        · have hsh := shAt_k (n := k.toNat) (by omega)
          refine T_aload_n dX6_sheet_40 rfl ?_
          refine T_getR dX6_sheet_41 flX6_51 rfl rfl ?_
          refine T_iload_n dX6_sheet_44 rfl ?_
          refine T_aald dX6_sheet_45 rfl (by decide) (by first | omega | (simp [st2]; omega)) (by first | omega | (simp [st2]; omega)) (sheet_at h1 h2) ?_
          refine T_iload_n dX6_sheet_46 rfl ?_
          refine T_iload_n dX6_sheet_47 rfl ?_
          refine T_cV_2 dX6_sheet_48 lkX6_236 hsh.1 (Nat.le_of_ble_eq_true rfl) (RO_r (by decide)) (Nat.le_of_ble_eq_true rfl) ?_
          refine c_renew2 hsh (fun D' q1 q0 q2 q3 q4 q5 => ?_)
          refine T_iconst dX6_sheet_51 ?_
          refine T_iret dX6_sheet_52 rfl ?_
          exact kk h1 h2 (by omega) (by omega) D' q1 (fun j hj => (q0 j hj).trans (by rw [st2_row (by omega)])) q2 q3 q4 q5
        · refine T_aload_n dX6_sheet_34 rfl ?_
          refine T_iconst dX6_sheet_35 ?_
          refine T_cV_1 dX6_sheet_36 lkX6_233 rfl (Nat.le_of_ble_eq_true rfl) (RO_r (by decide)) (Nat.le_of_ble_eq_true rfl) ?_
          refine c_faulty ?_
          refine T_iret dX6_sheet_39 rfl ?_
          exact kZ h1 h2 (by omega) (by omega)
      · refine T_bipush dX6_sheet_27 (by decide) ?_
        refine T_iret dX6_sheet_29 rfl ?_
        exact kO h1 h2 (by omega)
    · refine T_if_eq 27 dX6_sheet_18 (by decide) (by unfold InR; decide) (fun _ => ?_) (fun h => absurd (by decide) h)
      refine T_bipush dX6_sheet_27 (by decide) ?_
      refine T_iret dX6_sheet_29 rfl ?_
      exact kO h1 h2 (by omega)
  · refine T_if_ne 14 dX6_sheet_9 (by decide) (by unfold InR; decide) (fun h => absurd h (by decide)) (fun _ => ?_)
    refine T_iconst dX6_sheet_12 ?_
    refine T_iret dX6_sheet_13 rfl ?_
    exact kU (by omega)
end
/-! class and reference side by side -/
def EqL (D : DD) : Prop := (D 57 1 = D 1 8 ∧ D 57 5 = D 1 9 ∧ D 57 11 = D 1 10) ∧ (∀ h, h < (D 1 8).toNat → D 58 h = D 2 h ∧ D 59 h = D 3 h ∧ D 60 h = D 4 h ∧ 1 ≤ D 4 h) ∧ (∀ c, c < (D 1 9).toNat → D 61 c = D 6 c ∧ D 62 c = D 7 c ∧ D 63 c = D 8 c ∧ D 64 c = D 9 c) ∧ (∀ h c, h < (D 1 8).toNat → c < 5 → (D 65 (5 * h + c) = 1 ↔ bit (D 5 h) c) ∧ ((D 1 9).toNat ≤ c → ¬ bit (D 5 h) c)) ∧ ∀ h c, (D 1 8).toNat ≤ h → h < 10 → c < 5 → D 65 (5 * h + c) = 0
def EqS (D : DD) : Prop := ∀ k : Nat, k < 4 → (D (49 + 2 * k) 1 = 1 ↔ 0 ≤ D 77 k) ∧ (0 ≤ D 77 k → D (49 + 2 * k) 2 = D 78 k ∧ D (49 + 2 * k) 3 = D 77 k ∧ ∀ j, j < (D 77 k).toNat → D (49 + 2 * k + 1) j = D 79 (80 * k + j))
def EqP (D : DD) : Prop := D 57 23 = D 0 9 ∧ ∀ p, p < (D 0 9).toNat → D 75 p = D 47 p ∧ D 76 p = D 48 p
def IV (n : Nat) (D : DD) : Prop := LK D ∧ MK D ∧ EqL D ∧ SK D ∧ RK D ∧ EqS D ∧ PlK D ∧ PlM D ∧ EqP D ∧ (D 57 0 = D 0 10) ∧ (D 57 30 = D 45 0) ∧ CacheN D ∧ CacheE D ∧ CacheF D ∧ (D 1 11 ≤ 20 * n)
theorem IV.lk {n : Nat} {D : DD} (h : IV n D) : LK D := h.1
theorem IV.mm {n : Nat} {D : DD} (h : IV n D) : MK D := h.2.1
theorem IV.el {n : Nat} {D : DD} (h : IV n D) : EqL D := h.2.2.1
theorem IV.sk {n : Nat} {D : DD} (h : IV n D) : SK D := h.2.2.2.1
theorem IV.rk {n : Nat} {D : DD} (h : IV n D) : RK D := h.2.2.2.2.1
theorem IV.es {n : Nat} {D : DD} (h : IV n D) : EqS D := h.2.2.2.2.2.1
theorem IV.pk {n : Nat} {D : DD} (h : IV n D) : PlK D := h.2.2.2.2.2.2.1
theorem IV.pm {n : Nat} {D : DD} (h : IV n D) : PlM D := h.2.2.2.2.2.2.2.1
theorem IV.ep {n : Nat} {D : DD} (h : IV n D) : EqP D := h.2.2.2.2.2.2.2.2.1
theorem IV.ft {n : Nat} {D : DD} (h : IV n D) : D 57 0 = D 0 10 := h.2.2.2.2.2.2.2.2.2.1
theorem IV.tr {n : Nat} {D : DD} (h : IV n D) : D 57 30 = D 45 0 := h.2.2.2.2.2.2.2.2.2.2.1
theorem IV.cn {n : Nat} {D : DD} (h : IV n D) : CacheN D := h.2.2.2.2.2.2.2.2.2.2.2.1
theorem IV.ce {n : Nat} {D : DD} (h : IV n D) : CacheE D := h.2.2.2.2.2.2.2.2.2.2.2.2.1
theorem IV.cf {n : Nat} {D : DD} (h : IV n D) : CacheF D := h.2.2.2.2.2.2.2.2.2.2.2.2.2.1
theorem IV.ch {n : Nat} {D : DD} (h : IV n D) : D 1 11 ≤ 20 * n := h.2.2.2.2.2.2.2.2.2.2.2.2.2.2
section
variable {D D' : DD} {n : Nat}
theorem CacheN.of (h : CacheN D) (h1 : ∀ r, (1 ≤ r ∧ r ≤ 9) ∨ (16 ≤ r ∧ r ≤ 26) → D' r = D r) (h2 : D' 0 11 = D 0 11) (h3 : D' 0 14 = D 0 14) : CacheN D' := by
  unfold CacheN
  rw [h2, h1 1 (by omega)]
  exact ⟨h.1, h.2.1, fun e => (h.2.2 e).of (fun a a1 a2 a3 => h1 a (by omega)) h3⟩
theorem CacheE.of (h : CacheE D) (h1 : ∀ r, 1 ≤ r → r ≤ 9 → D' r = D r) (h2 : D' 0 12 = D 0 12) (h3 : D' 0 15 = D 0 15) (h4 : D' 0 16 = D 0 16) : CacheE D' := by
  unfold CacheE
  rw [h2, h3, h4, h1 1 (by decide) (by decide), (even_of h1).2.2]
  exact h
theorem CacheF.of (h : CacheF D) (h1 : ∀ r, 1 ≤ r → r ≤ 9 → D' r = D r) (h2 : D' 0 13 = D 0 13) (h3 : D' 38 8 = D 38 8) (h4 : D' 44 = D 44) : CacheF D' := by
  unfold CacheF
  rw [h2, h1 1 (by decide) (by decide)]
  exact ⟨h.1, h.2.1, fun e => ⟨(h.2.2 e).1, (h.2.2 e).2.of h1 h3 h4⟩⟩
theorem stale (hN : CacheN D) (hE : CacheE D) (hF : CacheF D) (h : D 1 11 < D' 1 11) (h1 : D' 0 11 = D 0 11) (h2 : D' 0 12 = D 0 12) (h3 : D' 0 13 = D 0 13) : CacheN D' ∧ CacheE D' ∧ CacheF D' := by
  unfold CacheN at hN
  unfold CacheE at hE
  unfold CacheF at hF
  have a := hN.1; have b := hN.2.1; have c := hE.1; have e := hE.2.1; have f := hF.1; have k := hF.2.1
  exact ⟨⟨by omega, by omega, fun z => by omega⟩, ⟨by omega, by omega, fun z => by omega⟩, ⟨by omega, by omega, fun z => by omega⟩⟩
/-- the land, the sheets, the places are as they were -/
theorem IV.quiet (h : IV n D) (h1 : ∀ r, (1 ≤ r ∧ r ≤ 9) ∨ (46 ≤ r ∧ r ≤ 56) ∨ (58 ≤ r ∧ r ≤ 65) ∨ (75 ≤ r ∧ r ≤ 79) → D' r = D r) (h9 : D' 0 9 = D 0 9) (h57 : ∀ j, j ≠ 0 → j ≠ 12 → j ≠ 15 → j ≠ 30 → D' 57 j = D 57 j) (hf : D' 57 0 = D' 0 10) (ht : D' 57 30 = D' 45 0) (cN : CacheN D') (cE : CacheE D') (cF : CacheF D') : IV (n + 1) D' := by
  have r : ∀ k, (1 ≤ k ∧ k ≤ 9) ∨ (46 ≤ k ∧ k ≤ 56) ∨ (58 ≤ k ∧ k ≤ 65) ∨ (75 ≤ k ∧ k ≤ 79) → D' k = D k := h1
  have i1 := h57 1 (by decide) (by decide) (by decide) (by decide)
  have i5 := h57 5 (by decide) (by decide) (by decide) (by decide)
  have i11 := h57 11 (by decide) (by decide) (by decide) (by decide)
  have i23 := h57 23 (by decide) (by decide) (by decide) (by decide)
  refine ⟨LK_fr (fun a a1 a2 => h1 a (by omega)) h.lk, ?_, ?_, ?_, ?_, ?_, ?_, ?_, ?_, hf, ht, cN, cE, cF, by rw [h1 1 (by omega)]; have := h.ch; omega⟩
  · have z := h.mm
    unfold MK at z ⊢
    rw [i1, i5, i11, r 58 (by omega), r 59 (by omega), r 60 (by omega), r 61 (by omega), r 62 (by omega), r 63 (by omega), r 64 (by omega), r 65 (by omega)]
    exact z
  · have z := h.el
    unfold EqL at z ⊢
    rw [i1, i5, i11, r 1 (by omega), r 2 (by omega), r 3 (by omega), r 4 (by omega), r 5 (by omega), r 6 (by omega), r 7 (by omega), r 8 (by omega), r 9 (by omega), r 58 (by omega), r 59 (by omega), r 60 (by omega), r 61 (by omega), r 62 (by omega), r 63 (by omega), r 64 (by omega), r 65 (by omega)]
    exact z
  · intro k hk
    rw [h1 (49 + 2 * k) (by omega), h1 (49 + 2 * k + 1) (by omega)]
    exact h.sk k hk
  · have z := h.rk
    unfold RK at z ⊢
    rw [r 77 (by omega), r 78 (by omega), r 79 (by omega)]
    exact z
  · intro k hk
    rw [h1 (49 + 2 * k) (by omega), h1 (49 + 2 * k + 1) (by omega), h1 77 (by omega), h1 78 (by omega), h1 79 (by omega)]
    exact h.es k hk
  · have z := h.pk
    unfold PlK at z ⊢
    rw [h9, r 47 (by omega), r 48 (by omega)]
    exact z
  · have z := h.pm
    unfold PlM at z ⊢
    rw [i23, r 75 (by omega), r 76 (by omega)]
    exact z
  · have z := h.ep
    unfold EqP at z ⊢
    rw [i23, h9, r 47 (by omega), r 48 (by omega), r 75 (by omega), r 76 (by omega)]
    exact z
theorem br_far (e : EqL D) {h c : Nat} (hh : h < (D 1 8).toNat) (hc : c < (D 1 9).toNat) : farC D h c = farM D h c := by
  obtain ⟨⟨-, -, a⟩, b, f, -, -⟩ := e
  unfold farC farM
  rw [a, (b h hh).1, (b h hh).2.1, (f c hc).1, (f c hc).2.1, (f c hc).2.2.1]
theorem br_al (e : EqL D) (hM : D 1 9 ≤ 5) {h c : Nat} (hh : h < (D 1 8).toNat) (hc : c < (D 1 9).toNat) : alC D h c ↔ alM D h c := by
  have := (e.2.2.2.1 h c hh (by omega)).1
  unfold alC alM brM
  exact not_congr this.symm
theorem br_ml (h : IV n D) : mlM D = mlC D := by
  have e := h.el
  unfold mlM mlC
  rw [e.1.1, e.1.2.1]
  exact milesF_cong (fun x hx => (e.2.1 x hx).2.2.1) (fun c hc => (e.2.2.1 c hc).2.2.2) (fun x c hx hc => (br_al e h.lk.2.1.2 hx hc).symm) (fun x c hx hc _ => (br_far e hx hc).symm)
theorem br_mp (h : IV n D) {c : Nat} (hc : c < (D 1 9).toNat) : mpM D c = mpC D c := by
  have e := h.el
  unfold mpM mpC
  rw [e.1.1, e.1.2.1]
  refine milesF_cong (fun x hx => (e.2.1 x hx).2.2.1) (fun c' hc' => ?_) (fun x c hx hc => (br_al e h.lk.2.1.2 hx hc).symm) (fun x c hx hc _ => (br_far e hx hc).symm)
  show (if c' = c then D 64 c + 1 else D 64 c') = (if c' = c then D 9 c + 1 else D 9 c')
  rw [(e.2.2.1 c hc).2.2.2, (e.2.2.1 c' hc').2.2.2]
theorem br_mo (h : IV n D) (s : Int) : moM D s = moC D s := by
  have e := h.el
  unfold moM moC
  rw [e.1.1, e.1.2.1]
  refine milesF_cong (fun x hx => (e.2.1 x hx).2.2.1) (fun c' hc' => ?_) (fun x c hx hc => (br_al e h.lk.2.1.2 hx hc).symm) (fun x c hx hc _ => (br_far e hx hc).symm)
  show cif (bit s c') (D 64 c') 0 = cif (bit s c') (D 9 c') 0
  rw [(e.2.2.1 c' hc').2.2.2]
theorem br_mv (h : IV n D) {c : Nat} (hc : c < (D 1 9).toNat) (x y : Int) : mvM D c x y = mvC D c x y := by
  have e := h.el
  unfold mvM mvC mlM
  have e57 : mvD D c x y 57 = D 57 := by unfold mvD; rw [st2_row (by decide), st2_row (by decide)]
  have e60 : mvD D c x y 60 = D 60 := by unfold mvD; rw [st2_row (by decide), st2_row (by decide)]
  have e64 : mvD D c x y 64 = D 64 := by unfold mvD; rw [st2_row (by decide), st2_row (by decide)]
  have e65 : mvD D c x y 65 = D 65 := by unfold mvD; rw [st2_row (by decide), st2_row (by decide)]
  rw [e57, e60, e64, e.1.1, e.1.2.1]
  refine milesF_cong (fun x hx => (e.2.1 x hx).2.2.1) (fun c' hc' => (e.2.2.1 c' hc').2.2.2) (fun x' c' hx hc' => ?_) (fun h' c' hh hc' _ => ?_)
  · unfold alM brM
    rw [e65]
    exact (br_al e h.lk.2.1.2 hx hc').symm
  · obtain ⟨⟨-, -, a⟩, b, f, -, -⟩ := e
    unfold farM farP
    have e61 : mvD D c x y 61 = D 61 := by unfold mvD; rw [st2_row (by decide), st2_row (by decide)]
    have e58 : mvD D c x y 58 = D 58 := by unfold mvD; rw [st2_row (by decide), st2_row (by decide)]
    have e59 : mvD D c x y 59 = D 59 := by unfold mvD; rw [st2_row (by decide), st2_row (by decide)]
    rw [e61, e58, e59, e57, a, (b h' hh).1, (b h' hh).2.1, (f c' hc').1]
    unfold mvD
    by_cases z : c' = c
    · subst z
      rw [if_pos rfl, st2_row (show (62 : Nat) ≠ 63 by decide), st2_at, st2_at]
    · rw [if_neg z, st2_row (show (62 : Nat) ≠ 63 by decide), st2_ne z, st2_ne z, st2_row (show (63 : Nat) ≠ 62 by decide), (f c' hc').2.1, (f c' hc').2.2.1]
      rfl
end

