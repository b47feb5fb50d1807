noncomputable def moM (D : DD) (s : Int) : Int := milesF (D 57 1).toNat (D 57 5).toNat (D 60) (fun c => cif (bit s c) (D 64 c) 0) (alM D) (farM D)
theorem moM_of {D D1 : DD} (h : ∀ a, 57 ≤ a → a ≤ 65 → D1 a = D a) : moM D1 = moM D := by
  obtain ⟨-, -, e1, e2⟩ := mlM_of h
  funext s; unfold moM; rw [e1, e2, h 57 (by decide) (by decide), h 60 (by decide) (by decide), h 64 (by decide) (by decide)]
theorem lshl_small : ∀ n : Fin 6, lshl 1 (n.val : Int) = ((2 ^ n.val : Nat) : Int) := by decide +kernel
theorem lshl_pw {n : Int} (h0 : 0 ≤ n) (h1 : n ≤ 5) : lshl 1 n = ((2 ^ n.toNat : Nat) : Int) := by
  have := lshl_small ⟨n.toNat, by omega⟩
  simp only at this
  rw [← this]
  congr 1
  omega
def okBM (D : DD) (k : Int) (s : Nat) : Prop := popc s = k ∧ moM D s ≠ -9
section
variable {g : G0} {d : Nat} {P : Option Value → List SC → DD → Prop} {D : DD}
theorem r_openMiles {s : Int} (hL : MK D) (hk : ∀ D' : DD, FrV D D' → (moM D s = -9 ∨ (0 ≤ moM D s ∧ moM D s ≤ 360000)) → P (some (iI (moM D s))) SH D') : TM g mX7_openMiles (d + 4) P [.ref 57, iI s] D := by
  have hN := hL.1
  have hM := hL.2.1
  have loop : ∀ (D1 : DD), HoldR D D1 99999999 (D 64) → (∀ a, (a < 68 ∨ 74 < a) → D1 a = D a) → ∀ (q c : Nat) (D2 : DD), q + c = (D 57 5).toNat → (∀ r, r ≠ 68 → D2 r = D1 r) → (∀ c', c' < c → D2 68 c' = cif (bit s c') (D 64 c') 0) → (∀ c', c ≤ c' → D2 68 c' = D1 68 c') → T g mX7_openMiles (rmd (d + 4) 0 0) 0 0 (Qm g (rmd (d + 4) 0 0) P) 8 [some (.ref 57), some (iI s), some (iI c)] [] SH D2 := by
    intro D1 hH fr q
    induction q with
    | zero =>
      intro c D2 hq r1 r2 r3
      have z2 : D2 57 5 = D 57 5 := by rw [r1 57 (by decide), hH.1]
      have hH2 : HoldR D D2 99999999 (fun c => cif (bit s c) (D 64 c) 0) := by
        obtain ⟨q1, q2, q3, q4⟩ := hH
        refine ⟨(r1 57 (by decide)).trans q1, (r1 60 (by decide)).trans q2, fun c' hc' => ⟨r2 c' (by omega), ?_⟩, fun h c' hh hc' => by unfold fR; rw [r1 69 (by decide)]; exact q4 h c' hh hc'⟩
        show 0 ≤ cif (bit s c') (D 64 c') 0 ∧ cif (bit s c') (D 64 c') 0 ≤ 51
        have := hL.2.2.2.2.2.2.2.2.2.1 c'
        by_cases b : bit s c'
        · rw [cif_pos b]; omega
        · rw [cif_neg b]; omega
      refine T_iload_n dX7_openMiles_8 rfl ?_
      refine T_aload_n dX7_openMiles_9 rfl ?_
      refine T_getI dX7_openMiles_10 flX7_115 rfl rfl ?_
      refine T_icmp_ge 46 dX7_openMiles_13 (by decide) (by first | (unfold InR; omega) | (simp [st2, InR]; omega)) (by first | (unfold InR; omega) | (simp [st2, InR]; omega)) (fun hc13 => ?_) (fun hc13 => (by exfalso; omega))
      refine T_aload_n dX7_openMiles_46 rfl ?_
      refine T_cV_0 dX7_openMiles_47 lkX7_203 rfl (Nat.le_of_ble_eq_true rfl) (RO_r (by decide)) (Nat.le_of_ble_eq_true rfl) ?_
      refine r_leastMilesR (hH2.rnk hL) (fun D3 r f3 hm => ?_)
      have hm2 := hH2.all hL hm
      have rr := hm2.rng (by omega) (fun h _ => (hL.2.2.2.2.2.1 h).2) (fun h c _ _ _ => farM_bd hL h c)
      have em : moM D s = r := hm2.eqF
      rw [← em] at rr ⊢
      refine T_iret dX7_openMiles_50 rfl ?_
      exact hk D3 (fun a ha => (f3 a (by omega) (by omega) (by omega) (by omega)).trans ((r1 a (by omega)).trans (fr a ha))) rr
    | succ q ih =>
      intro c D2 hq r1 r2 r3
      have z2 : D2 57 5 = D 57 5 := by rw [r1 57 (by decide), hH.1]
      have ec : (c : Int).toNat = c := Int.toNat_natCast c
      have e68 : D2 68 (c : Int).toNat = D 64 c := by rw [ec, r3 c (by omega)]; exact (hH.2.2.1 c (by omega)).1
      have go : ∀ v, v = cif (bit s c) (D 64 c) 0 → T g mX7_openMiles (rmd (d + 4) 0 0) 0 0 (Qm g (rmd (d + 4) 0 0) P) 8 [some (.ref 57), some (iI s), some (iI ((c + 1 : Nat) : Int))] [] SH (st2 D2 68 (c : Int).toNat v) := fun v hv => by
        rw [ec]
        exact ih (c + 1) _ (by omega) (fun r e => by rw [st2_row e]; exact r1 r e) (fun c' hc' => by
          by_cases e : c' = c
          · subst e; rw [st2_at]; exact hv
          · rw [st2_ne e]; exact r2 c' (by omega)) (fun c' hc' => by rw [st2_ne (by omega)]; exact r3 c' (by omega))
      refine T_iload_n dX7_openMiles_8 rfl ?_
      refine T_aload_n dX7_openMiles_9 rfl ?_
      refine T_getI dX7_openMiles_10 flX7_115 rfl rfl ?_
      refine T_icmp_ge 46 dX7_openMiles_13 (by decide) (by first | (unfold InR; omega) | (simp [st2, InR]; omega)) (by first | (unfold InR; omega) | (simp [st2, InR]; omega)) (fun hc13 => (by exfalso; omega)) (fun hc13 => ?_)
      refine T_aload_n dX7_openMiles_16 rfl ?_
      refine T_getR dX7_openMiles_17 flX7_41 rfl rfl ?_
      refine T_iload_n dX7_openMiles_20 rfl ?_
      refine T_iload_n dX7_openMiles_21 rfl ?_
      refine T_iload_n dX7_openMiles_22 rfl ?_
      refine T_cS_2 dX7_openMiles_23 lkX7_210 (Nat.le_of_ble_eq_true rfl) (RO_r (by decide)) (Nat.le_of_ble_eq_true rfl) ?_
      refine r_hasBit (fun hb => ?_) (fun hb => ?_)
      · refine T_if_eq 38 dX7_openMiles_26 (by decide) (by unfold InR; decide) (fun h => absurd h (by decide)) (fun _ => ?_)
        refine T_aload_n dX7_openMiles_29 rfl ?_
        refine T_getR dX7_openMiles_30 flX7_41 rfl rfl ?_
        refine T_iload_n dX7_openMiles_33 rfl ?_
        refine T_iald dX7_openMiles_34 rfl (by first | decide | omega) (by first | omega | (simp [st2]; omega)) (by first | omega | (simp [st2]; omega)) ?_
        refine T_goto (tgt := 39) dX7_openMiles_35 (by decide) ?_
        refine T_iast dX7_openMiles_39 rfl (by first | decide | omega) (by first | omega | (simp [st2]; omega)) (by first | omega | (simp [st2]; omega)) ?_
        refine T_iinc dX7_openMiles_40 rfl (by decide) ?_
        refine T_goto (tgt := 8) dX7_openMiles_43 (by decide) ?_
        first
        | (rw [e68]; exact go _ (by rw [cif_pos hb]))
        | exact go _ (by rw [cif_neg hb])
      · refine T_if_eq 38 dX7_openMiles_26 (by decide) (by unfold InR; decide) (fun _ => ?_) (fun h => absurd (by decide) h)
        refine T_iconst dX7_openMiles_38 ?_
        refine T_iast dX7_openMiles_39 rfl (by first | decide | omega) (by first | omega | (simp [st2]; omega)) (by first | omega | (simp [st2]; omega)) ?_
        refine T_iinc dX7_openMiles_40 rfl (by decide) ?_
        refine T_goto (tgt := 8) dX7_openMiles_43 (by decide) ?_
        first
        | (rw [e68]; exact go _ (by rw [cif_pos hb]))
        | exact go _ (by rw [cif_neg hb])
  refine T_aload_n dX7_openMiles_0 rfl ?_
  refine T_ldc (n := 99999999) dX7_openMiles_1 tk_990 ?_
  refine T_cV_1 dX7_openMiles_3 lkX7_200 rfl (Nat.le_of_ble_eq_true rfl) (RO_r (by decide)) (Nat.le_of_ble_eq_true rfl) ?_
  refine r_layCosts hL (by first | (unfold InR; omega) | (simp [st2, InR]; omega)) (fun D1 f1 r68 r69 => ?_)
  refine T_iconst dX7_openMiles_6 ?_
  refine T_istore_n dX7_openMiles_7 (by decide) ?_
  exact loop D1 (laid hL f1 r68 r69) (fun a ha => f1 a (by omega) (by omega)) (D 57 5).toNat 0 D1 (by omega) (fun _ _ => rfl) (fun c' hc' => by omega) (fun _ _ => rfl)
theorem r_open {s : Int} (hL : MK D) (hs : InR s) (kO : ¬ (0 ≤ s ∧ s < ((2 ^ (D 57 5).toNat : Nat) : Int)) → P (some (iI (-2))) SH D) (kk : 0 ≤ s → s < ((2 ^ (D 57 5).toNat : Nat) : Int) → ∀ D' : DD, FrV D D' → P (some (iI (moM D s))) SH D') : TM g mX7_open (d + 5) P [.ref 57, iI s] D := by
  have hM := hL.2.1
  have e := lshl_pw (n := D 57 5) hM.1 hM.2
  have e2 := pw_le (n := (D 57 5).toNat) (by omega)
  generalize 2 ^ (D 57 5).toNat = W at *
  refine T_iload_n dX7_open_0 rfl ?_
  refine T_i2l dX7_open_1 hs ?_
  refine T_lconst (a := 0) dX7_open_2 (by decide) ?_
  refine T_lconst (a := 1) dX7_open_3 (by decide) ?_
  refine T_aload_n dX7_open_4 rfl ?_
  refine T_getI dX7_open_5 flX7_115 rfl rfl ?_
  refine T_lshl dX7_open_8 ?_
  refine T_lconst (a := 1) dX7_open_9 (by decide) ?_
  refine T_lsub dX7_open_10 ?_
  rw [e]
  refine T_cS_3 dX7_open_11 lkX7_88 (Nat.le_of_ble_eq_true rfl) (RO_r (by decide)) (Nat.le_of_ble_eq_true rfl) ?_
  refine r_in (in64_of hs) (by first | (unfold In64; omega) | (simp [st2, In64]; omega)) (by unfold In64; omega) (fun h1 h2 => ?_) (fun h1 => ?_)
  · refine T_if_eq 25 dX7_open_14 (by decide) (by unfold InR; decide) (fun h => absurd h (by decide)) (fun _ => ?_)
    refine T_aload_n dX7_open_17 rfl ?_
    refine T_iload_n dX7_open_18 rfl ?_
    refine T_cV_1 dX7_open_19 lkX7_242 rfl (Nat.le_of_ble_eq_true rfl) (RO_r (by decide)) (Nat.le_of_ble_eq_true rfl) ?_
    refine r_openMiles hL (fun D1 fr rr => ?_)
    refine T_goto (tgt := 27) dX7_open_22 (by decide) ?_
    refine T_iret dX7_open_27 rfl ?_
    first | exact kO (by omega) | exact kk (by omega) (by omega) D1 fr
  · refine T_if_eq 25 dX7_open_14 (by decide) (by unfold InR; decide) (fun _ => ?_) (fun h => absurd (by decide) h)
    refine T_bipush dX7_open_25 (by decide) ?_
    refine T_iret dX7_open_27 rfl ?_
    first | exact kO (by omega) | exact kk (by omega) (by omega) D1 fr
theorem r_bits {s : Int} (hk : P (some (iI (popc s))) SH D) : TM g mX7_bits d P [iI s] D := by
  have loop : ∀ (q k : Nat), q + k = 16 → T g mX7_bits (rmd d 0 0) 0 0 (Qm g (rmd d 0 0) P) 4 [some (iI s), some (iI (sm k (fun k => iand (ishr s k) 1))), some (iI k)] [] SH D := by
    intro q
    induction q with
    | zero =>
      intro k hq
      refine T_iload_n dX7_bits_4 rfl ?_
      refine T_bipush dX7_bits_5 (by decide) ?_
      refine T_icmp_ge 24 dX7_bits_7 (by decide) (by first | (unfold InR; omega) | (simp [st2, InR]; omega)) (by first | (unfold InR; omega) | (simp [st2, InR]; omega)) (fun hc7 => ?_) (fun hc7 => (by exfalso; omega))
      refine T_iload_n dX7_bits_24 rfl ?_
      refine T_iret dX7_bits_25 rfl ?_
      rw [show k = 16 by omega]; exact hk
    | succ q ih =>
      intro k hq
      refine T_iload_n dX7_bits_4 rfl ?_
      refine T_bipush dX7_bits_5 (by decide) ?_
      refine T_icmp_ge 24 dX7_bits_7 (by decide) (by first | (unfold InR; omega) | (simp [st2, InR]; omega)) (by first | (unfold InR; omega) | (simp [st2, InR]; omega)) (fun hc7 => (by exfalso; omega)) (fun hc7 => ?_)
      refine T_iload_n dX7_bits_10 rfl ?_
      refine T_iload_n dX7_bits_11 rfl ?_
      refine T_iload_n dX7_bits_12 rfl ?_
      refine T_ishr dX7_bits_13 ?_
      refine T_iconst dX7_bits_14 ?_
      refine T_iand dX7_bits_15 ?_
      refine T_iadd dX7_bits_16 ?_
      refine T_istore_n dX7_bits_17 (by decide) ?_
      refine T_iinc dX7_bits_18 rfl (by decide) ?_
      refine T_goto (tgt := 4) dX7_bits_21 (by decide) ?_
      exact ih (k + 1) (by omega)
  refine T_iconst dX7_bits_0 ?_
  refine T_istore_n dX7_bits_1 (by decide) ?_
  refine T_iconst dX7_bits_2 ?_
  refine T_istore_n dX7_bits_3 (by decide) ?_
  exact loop 16 0 (by omega)
theorem r_best {k : Int} (hL : MK D) (hs : InR k) (kO : ¬ (0 ≤ k ∧ k ≤ D 57 5) → P (some (iI (-2))) SH D) (kk : 0 ≤ k → k ≤ D 57 5 → ∀ (D' : DD) (r : Int), FrV D D' → ArgM (2 ^ (D 57 5).toNat) (okBM D k) (fun s => moM D s) r → P (some (iI r)) SH D') : TM g mX7_best (d + 5) P [.ref 57, iI k] D := by
  have hM := hL.2.1
  have e := ishl_pw (n := D 57 5) hM.1 (by omega)
  have e2 : (2 ^ (D 57 5).toNat : Nat) ≤ 2 ^ 5 := Nat.pow_le_pow_right (by decide) (by omega)
  generalize 2 ^ (D 57 5).toNat = W at *
  have loop : 0 ≤ k → k ≤ D 57 5 → ∀ (q s : Nat) (r l : Int) (D1 : DD) (m5 : Option Value), q + s = W → FrV D D1 → ArgM s (okBM D k) (fun s => moM D s) r → LsI (fun s => moM D s) 0 r l → (-9 ≤ l ∧ l ≤ 360000) → T g mX7_best (rmd (d + 5) 0 0) 0 0 (Qm g (rmd (d + 5) 0 0) P) 25 [some (.ref 57), some (iI k), some (iI r), some (iI l), some (iI s), m5] [] SH D1 := by
    intro hk0 hk1 q
    induction q with
    | zero =>
      intro s r l D1 m5 hq fr hA hl hb
      have a1 : D1 57 = D 57 := fr 57 (by omega)
      have e' : ishl 1 (D1 57 5) = (W : Int) := by rw [a1]; exact e
      refine T_iload dX7_best_25 rfl ?_
      refine T_iconst dX7_best_27 ?_
      refine T_aload_n dX7_best_28 rfl ?_
      refine T_getI dX7_best_29 flX7_115 rfl rfl ?_
      refine T_ishl dX7_best_32 ?_
      refine T_icmp_ge 85 dX7_best_33 (by decide) (by unfold InR; omega) (by rw [e']; unfold InR; omega) (fun hc33 => ?_) (fun hc33 => (by exfalso; rw [e'] at hc33; omega))
      refine T_iload_n dX7_best_85 rfl ?_
      refine T_iret dX7_best_86 rfl ?_
      exact kk hk0 hk1 D1 r fr (by rw [show W = s by omega]; exact hA)
    | succ q ih =>
      intro s r l D1 m5 hq fr hA hl hb
      have a1 : D1 57 = D 57 := fr 57 (by omega)
      have e' : ishl 1 (D1 57 5) = (W : Int) := by rw [a1]; exact e
      have fl : ∀ a, 57 ≤ a → a ≤ 65 → D1 a = D a := fun a h1 h2 => fr a (by omega)
      have hL1 : MK D1 := MK_fr fl hL
      have em : moM D1 = moM D := moM_of fl
      have hpc : 0 ≤ popc s ∧ popc s ≤ 16 := by
        have := sm_bd (f := fun k => iand (ishr (s : Int) k) 1) (a := 0) (b := 1) 16 (fun j hj => by
          show 0 ≤ iand (ishr (s : Int) j) 1 ∧ iand (ishr (s : Int) j) 1 ≤ 1
          rw [iand1 _ j (by omega)]; split <;> omega)
        unfold popc; omega
      have rg := hA.rg
      refine T_iload dX7_best_25 rfl ?_
      refine T_iconst dX7_best_27 ?_
      refine T_aload_n dX7_best_28 rfl ?_
      refine T_getI dX7_best_29 flX7_115 rfl rfl ?_
      refine T_ishl dX7_best_32 ?_
      refine T_icmp_ge 85 dX7_best_33 (by decide) (by unfold InR; omega) (by rw [e']; unfold InR; omega) (fun hc33 => (by exfalso; rw [e'] at hc33; omega)) (fun hc33 => ?_)
      refine T_iload dX7_best_36 rfl ?_
      refine T_cS_1 dX7_best_38 lkX7_245 (Nat.le_of_ble_eq_true rfl) (RO_r (by decide)) (Nat.le_of_ble_eq_true rfl) ?_
      refine r_bits ?_
      refine T_iload_n dX7_best_41 rfl ?_
      refine T_icmp_ne 54 dX7_best_42 (by decide) (by unfold InR; omega) (by unfold InR; omega) (fun hc42 => ?_) (fun hc42 => ?_)
      · refine T_bipush dX7_best_54 (by decide) ?_
        refine T_istore dX7_best_56 (by decide) ?_
        refine T_iload dX7_best_58 rfl ?_
        refine T_if_lt 79 dX7_best_60 (by decide) (by unfold InR; decide) (fun _ => ?_) (fun h => absurd (by decide) h)
        refine T_iinc dX7_best_79 rfl (by decide) ?_
        refine T_goto (tgt := 25) dX7_best_82 (by decide) ?_
        first
        | (exfalso; omega)
        | exact ih (s + 1) r l D1 _ (by omega) fr (hA.geN hl (fun z => absurd z.1 hc42)) hl hb
        | exact ih (s + 1) r l D2 _ (by omega) fr3 (hA.geN hl (fun z => absurd (show moM D s = -9 by omega) z.2)) hl hb
        | exact ih (s + 1) r l D2 _ (by omega) fr3 (hA.geN hl (fun z => ⟨by omega, by show _ ≤ moM D s; omega⟩)) hl hb
        | (have z := hA.ltN hl (⟨Classical.not_not.mp hc42, by omega⟩ : okBM D k s) (show r < 0 ∨ moM D s < l by omega)
           exact ih (s + 1) _ _ D2 _ (by omega) fr3 z.1 z.2 (show -9 ≤ moM D s ∧ moM D s ≤ 360000 by omega))
      · refine T_aload_n dX7_best_45 rfl ?_
        refine T_iload dX7_best_46 rfl ?_
        refine T_cV_1 dX7_best_48 lkX7_242 rfl (Nat.le_of_ble_eq_true rfl) (RO_r (by decide)) (Nat.le_of_ble_eq_true rfl) ?_
        refine r_openMiles hL1 (fun D2 fr2 rr => ?_)
        rw [em] at rr ⊢
        have fr3 : FrV D D2 := fun a ha => (fr2 a ha).trans (fr a ha)
        refine T_goto (tgt := 56) dX7_best_51 (by decide) ?_
        refine T_istore dX7_best_56 (by decide) ?_
        refine T_iload dX7_best_58 rfl ?_
        refine T_if_lt 79 dX7_best_60 (by decide) (by unfold InR; omega) (fun hc60 => ?_) (fun hc60 => ?_)
        · refine T_iinc dX7_best_79 rfl (by decide) ?_
          refine T_goto (tgt := 25) dX7_best_82 (by decide) ?_
          first
          | (exfalso; omega)
          | exact ih (s + 1) r l D1 _ (by omega) fr (hA.geN hl (fun z => absurd z.1 hc42)) hl hb
          | exact ih (s + 1) r l D2 _ (by omega) fr3 (hA.geN hl (fun z => absurd (show moM D s = -9 by omega) z.2)) hl hb
          | exact ih (s + 1) r l D2 _ (by omega) fr3 (hA.geN hl (fun z => ⟨by omega, by show _ ≤ moM D s; omega⟩)) hl hb
          | (have z := hA.ltN hl (⟨Classical.not_not.mp hc42, by omega⟩ : okBM D k s) (show r < 0 ∨ moM D s < l by omega)
             exact ih (s + 1) _ _ D2 _ (by omega) fr3 z.1 z.2 (show -9 ≤ moM D s ∧ moM D s ≤ 360000 by omega))
        · refine T_iload_n dX7_best_63 rfl ?_
          refine T_if_lt 73 dX7_best_64 (by decide) (by unfold InR; omega) (fun hc64 => ?_) (fun hc64 => ?_)
          · refine T_iload dX7_best_73 rfl ?_
            refine T_istore_n dX7_best_75 (by decide) ?_
            refine T_iload dX7_best_76 rfl ?_
            refine T_istore_n dX7_best_78 (by decide) ?_
            refine T_iinc dX7_best_79 rfl (by decide) ?_
            refine T_goto (tgt := 25) dX7_best_82 (by decide) ?_
            first
            | (exfalso; omega)
            | exact ih (s + 1) r l D1 _ (by omega) fr (hA.geN hl (fun z => absurd z.1 hc42)) hl hb
            | exact ih (s + 1) r l D2 _ (by omega) fr3 (hA.geN hl (fun z => absurd (show moM D s = -9 by omega) z.2)) hl hb
            | exact ih (s + 1) r l D2 _ (by omega) fr3 (hA.geN hl (fun z => ⟨by omega, by show _ ≤ moM D s; omega⟩)) hl hb
            | (have z := hA.ltN hl (⟨Classical.not_not.mp hc42, by omega⟩ : okBM D k s) (show r < 0 ∨ moM D s < l by omega)
               exact ih (s + 1) _ _ D2 _ (by omega) fr3 z.1 z.2 (show -9 ≤ moM D s ∧ moM D s ≤ 360000 by omega))
          · refine T_iload dX7_best_67 rfl ?_
            refine T_iload_n dX7_best_69 rfl ?_
            refine T_icmp_ge 79 dX7_best_70 (by decide) (by unfold InR; omega) (by unfold InR; omega) (fun hc70 => ?_) (fun hc70 => ?_)
            · refine T_iinc dX7_best_79 rfl (by decide) ?_
              refine T_goto (tgt := 25) dX7_best_82 (by decide) ?_
              first
              | (exfalso; omega)
              | exact ih (s + 1) r l D1 _ (by omega) fr (hA.geN hl (fun z => absurd z.1 hc42)) hl hb
              | exact ih (s + 1) r l D2 _ (by omega) fr3 (hA.geN hl (fun z => absurd (show moM D s = -9 by omega) z.2)) hl hb
              | exact ih (s + 1) r l D2 _ (by omega) fr3 (hA.geN hl (fun z => ⟨by omega, by show _ ≤ moM D s; omega⟩)) hl hb
              | (have z := hA.ltN hl (⟨Classical.not_not.mp hc42, by omega⟩ : okBM D k s) (show r < 0 ∨ moM D s < l by omega)
                 exact ih (s + 1) _ _ D2 _ (by omega) fr3 z.1 z.2 (show -9 ≤ moM D s ∧ moM D s ≤ 360000 by omega))
            · refine T_iload dX7_best_73 rfl ?_
              refine T_istore_n dX7_best_75 (by decide) ?_
              refine T_iload dX7_best_76 rfl ?_
              refine T_istore_n dX7_best_78 (by decide) ?_
              refine T_iinc dX7_best_79 rfl (by decide) ?_
              refine T_goto (tgt := 25) dX7_best_82 (by decide) ?_
              first
              | (exfalso; omega)
              | exact ih (s + 1) r l D1 _ (by omega) fr (hA.geN hl (fun z => absurd z.1 hc42)) hl hb
              | exact ih (s + 1) r l D2 _ (by omega) fr3 (hA.geN hl (fun z => absurd (show moM D s = -9 by omega) z.2)) hl hb
              | exact ih (s + 1) r l D2 _ (by omega) fr3 (hA.geN hl (fun z => ⟨by omega, by show _ ≤ moM D s; omega⟩)) hl hb
              | (have z := hA.ltN hl (⟨Classical.not_not.mp hc42, by omega⟩ : okBM D k s) (show r < 0 ∨ moM D s < l by omega)
                 exact ih (s + 1) _ _ D2 _ (by omega) fr3 z.1 z.2 (show -9 ≤ moM D s ∧ moM D s ≤ 360000 by omega))
  refine T_iload_n dX7_best_0 rfl ?_
  refine T_i2l dX7_best_1 hs ?_
  refine T_lconst (a := 0) dX7_best_2 (by decide) ?_
  refine T_aload_n dX7_best_3 rfl ?_
  refine T_getI dX7_best_4 flX7_115 rfl rfl ?_
  refine T_i2l dX7_best_7 (by unfold InR; omega) ?_
  refine T_cS_3 dX7_best_8 lkX7_88 (Nat.le_of_ble_eq_true rfl) (RO_r (by decide)) (Nat.le_of_ble_eq_true rfl) ?_
  refine r_in (in64_of hs) (by first | (unfold In64; omega) | (simp [st2, In64]; omega)) (by unfold In64; omega) (fun h1 h2 => ?_) (fun h1 => ?_)
  · refine T_if_ne 17 dX7_best_11 (by decide) (by unfold InR; decide) (fun _ => ?_) (fun h => absurd (by decide) h)
    refine T_bipush dX7_best_17 (by decide) ?_
    refine T_istore_n dX7_best_19 (by decide) ?_
    refine T_iconst dX7_best_20 ?_
    refine T_istore_n dX7_best_21 (by decide) ?_
    refine T_iconst dX7_best_22 ?_
    refine T_istore dX7_best_23 (by decide) ?_
    exact loop h1 h2 W 0 (-9) 0 D none (by omega) (fun _ _ => rfl) ArgM.zero (Or.inl ⟨rfl, rfl⟩) (by omega)
  · refine T_if_ne 17 dX7_best_11 (by decide) (by unfold InR; decide) (fun h => absurd h (by decide)) (fun _ => ?_)
    refine T_bipush dX7_best_14 (by decide) ?_
    refine T_iret dX7_best_16 rfl ?_
    first | exact kO (by omega)
end

