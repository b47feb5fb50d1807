/-- MILES if only the churches of a set stay open; if church c stood elsewhere -/
noncomputable def moC (D : DD) (s : Int) : Int := milesF (D 1 8).toNat (D 1 9).toNat (D 4) (fun c => cif (bit s c) (D 9 c) 0) (alC D) (farC D)
def farP (D : DD) (c : Nat) (x y : Int) (h c' : Nat) : Int := if c' = c then farK (D 6 c) (D 2 h) (D 3 h) x y (D 1 10) else farC D h c'
noncomputable def mvC (D : DD) (c : Nat) (x y : Int) : Int := milesF (D 1 8).toNat (D 1 9).toNat (D 4) (D 9) (alC D) (farP D c x y)
def popc (s : Int) : Int := sm 16 (fun k => iand (ishr s k) 1)
theorem tri_of {D D1 : DD} (h : ∀ a, 1 ≤ a → a ≤ 9 → D1 a = D a) : moC D1 = moC D ∧ mvC D1 = mvC D := by
  obtain ⟨-, -, e1, e2⟩ := mlC_of h
  refine ⟨?_, ?_⟩
  · funext s; unfold moC; rw [e1, e2, h 1 (by decide) (by decide), h 4 (by decide) (by decide), h 9 (by decide) (by decide)]
  · funext c x y
    have e3 : farP D1 c x y = farP D c x y := by funext a b; unfold farP; rw [e2, h 1 (by decide) (by decide), h 2 (by decide) (by decide), h 3 (by decide) (by decide), h 6 (by decide) (by decide)]
    unfold mvC; rw [e1, e3, h 1 (by decide) (by decide), h 4 (by decide) (by decide), h 9 (by decide) (by decide)]
def bc1 (s : Int) : Int := s - iand (iushr s 1) 1431655765
def bc2 (v : Int) : Int := iand v 858993459 + iand (iushr v 2) 858993459
def bc3 (v : Int) : Int := iand (v + iushr v 4) 252645135
def bc4 (v : Int) : Int := v + iushr v 8
def bc5 (v : Int) : Int := v + iushr v 16
def bc (s : Int) : Int := iand (bc5 (bc4 (bc3 (bc2 (bc1 s))))) 63
theorem bc_small : ∀ s : Fin 32, bc (s.val : Int) = popc (s.val : Int) := by decide +kernel
section
variable {g : G0} {d : Nat} {P : Option Value → List SC → DD → Prop} {D : DD}
theorem c_bitCount {s : Nat} (hs : s < 32) (hk : P (some (iI (popc s))) SH D) : TM g mJ6_bitCount_0f7a4 d P [iI s] D := by
  refine T_iload_n dJ6_bitCount_0f7a4_0 rfl ?_
  refine T_iload_n dJ6_bitCount_0f7a4_1 rfl ?_
  refine T_iconst dJ6_bitCount_0f7a4_2 ?_
  refine T_iushr dJ6_bitCount_0f7a4_3 ?_
  refine T_ldcw (n := 1431655765) dJ6_bitCount_0f7a4_4 tk_684 ?_
  refine T_iand dJ6_bitCount_0f7a4_7 ?_
  refine T_isub dJ6_bitCount_0f7a4_8 ?_
  refine T_istore_n dJ6_bitCount_0f7a4_9 (by decide) ?_
  refine T_iload_n dJ6_bitCount_0f7a4_10 rfl ?_
  refine T_ldcw (n := 858993459) dJ6_bitCount_0f7a4_11 tk_685 ?_
  refine T_iand dJ6_bitCount_0f7a4_14 ?_
  refine T_iload_n dJ6_bitCount_0f7a4_15 rfl ?_
  refine T_iconst dJ6_bitCount_0f7a4_16 ?_
  refine T_iushr dJ6_bitCount_0f7a4_17 ?_
  refine T_ldcw (n := 858993459) dJ6_bitCount_0f7a4_18 tk_685 ?_
  refine T_iand dJ6_bitCount_0f7a4_21 ?_
  refine T_iadd dJ6_bitCount_0f7a4_22 ?_
  refine T_istore_n dJ6_bitCount_0f7a4_23 (by decide) ?_
  refine T_iload_n dJ6_bitCount_0f7a4_24 rfl ?_
  refine T_iload_n dJ6_bitCount_0f7a4_25 rfl ?_
  refine T_iconst dJ6_bitCount_0f7a4_26 ?_
  refine T_iushr dJ6_bitCount_0f7a4_27 ?_
  refine T_iadd dJ6_bitCount_0f7a4_28 ?_
  refine T_ldcw (n := 252645135) dJ6_bitCount_0f7a4_29 tk_686 ?_
  refine T_iand dJ6_bitCount_0f7a4_32 ?_
  refine T_istore_n dJ6_bitCount_0f7a4_33 (by decide) ?_
  refine T_iload_n dJ6_bitCount_0f7a4_34 rfl ?_
  refine T_iload_n dJ6_bitCount_0f7a4_35 rfl ?_
  refine T_bipush dJ6_bitCount_0f7a4_36 (by decide) ?_
  refine T_iushr dJ6_bitCount_0f7a4_38 ?_
  refine T_iadd dJ6_bitCount_0f7a4_39 ?_
  refine T_istore_n dJ6_bitCount_0f7a4_40 (by decide) ?_
  refine T_iload_n dJ6_bitCount_0f7a4_41 rfl ?_
  refine T_iload_n dJ6_bitCount_0f7a4_42 rfl ?_
  refine T_bipush dJ6_bitCount_0f7a4_43 (by decide) ?_
  refine T_iushr dJ6_bitCount_0f7a4_45 ?_
  refine T_iadd dJ6_bitCount_0f7a4_46 ?_
  refine T_istore_n dJ6_bitCount_0f7a4_47 (by decide) ?_
  refine T_iload_n dJ6_bitCount_0f7a4_48 rfl ?_
  refine T_bipush dJ6_bitCount_0f7a4_49 (by decide) ?_
  refine T_iand dJ6_bitCount_0f7a4_51 ?_
  refine T_iret dJ6_bitCount_0f7a4_52 rfl ?_
  have e : bc s = popc s := bc_small ⟨s, hs⟩
  rw [← e] at hk
  exact hk
theorem c_milesOfSet {s : Int} (hL : LK D) (hk : ∀ D' : DD, Fr 27 D D' → (moC D s = -9 ∨ (0 ≤ moC D s ∧ moC D s ≤ 360000)) → P (some (iI (moC D s))) SH D') : TM g mX6_milesOfSet (d + 4) P [.ref 0, iI s] D := by
  refine T_aload_n dX6_milesOfSet_0 rfl ?_
  refine T_getR dX6_milesOfSet_1 flX6_32 rfl rfl ?_
  refine T_aload_n dX6_milesOfSet_4 rfl ?_
  refine T_getR dX6_milesOfSet_5 flX6_12 rfl rfl ?_
  refine T_cV_1 dX6_milesOfSet_8 lkX6_277 rfl (Nat.le_of_ble_eq_true rfl) (RO_r (by decide)) (Nat.le_of_ble_eq_true rfl) ?_
  refine c_load SnAt27 hL (fun D1 fr ld => ?_)
  have hH1 := ld.holds hL
  have hM1 := hH1.snk.2.1
  refine T_aload_n dX6_milesOfSet_11 rfl ?_
  refine T_getR dX6_milesOfSet_12 flX6_32 rfl rfl ?_
  refine T_iload_n dX6_milesOfSet_15 rfl ?_
  refine T_cV_1 dX6_milesOfSet_16 lkX6_303 rfl (Nat.le_of_ble_eq_true rfl) (RO_r (by decide)) (Nat.le_of_ble_eq_true rfl) ?_
  refine c_shutAllBut SnAt27 hM1 (fun D2 f2 g2 => ?_)
  have hH2 : Holds D2 27 (D 1 8).toNat (D 1 9).toNat (D 4) (fun c => cif (bit s c) (D 9 c) 0) (alC D) (farC D) := by
    obtain ⟨q1, q2, q3, q4⟩ := hH1
    have z0 : D2 27 = D1 27 := f2 27 (by decide)
    have z1 : D2 (27 + 1) = D1 (27 + 1) := f2 _ (by decide)
    have z3 : D2 (27 + 3) = D1 (27 + 3) := f2 _ (by decide)
    refine ⟨by rw [z0]; exact q1, fun h hh => by rw [z3]; exact q2 h hh, fun c hc => ?_, fun h c hh hc => by unfold fO; rw [z1]; exact q4 h c hh hc⟩
    have e := g2 c (by omega)
    have e2 := q3 c hc
    rw [e]
    show _ = cif (bit s c) (D 9 c) 0 ∧ 0 ≤ cif (bit s c) (D 9 c) 0 ∧ cif (bit s c) (D 9 c) 0 ≤ 50
    by_cases b : bit s c
    · rw [cif_pos b, cif_pos b]; exact e2
    · rw [cif_neg b, cif_neg b]; exact ⟨rfl, by omega, by omega⟩
  refine T_aload_n dX6_milesOfSet_19 rfl ?_
  refine T_getR dX6_milesOfSet_20 flX6_32 rfl rfl ?_
  refine T_cV_0 dX6_milesOfSet_23 lkX6_281 rfl (Nat.le_of_ble_eq_true rfl) (RO_r (by decide)) (Nat.le_of_ble_eq_true rfl) ?_
  refine c_send SnAt27 hH2.snk (fun D3 r kp hm0 hd => ?_)
  have hm := hH2.miles hm0
  have rr := hm.rng (by have := hL.1; omega) (fun h _ => (hL.2.2.2.2.2.2.1 h).2) (fun h c _ _ _ => farC_bd hL h c)
  have em : moC D s = r := hm.eqF
  rw [← em] at rr ⊢
  have f3 : Fr 27 D D3 := fr.tr (Fr.tr (fun a ha => f2 a (by omega)) kp.1)
  refine T_iret dX6_milesOfSet_26 rfl ?_
  exact hk D3 f3 rr
theorem c_open {s : Int} (hL : LK D) (hs : InR s) (kO : ¬ (0 ≤ s ∧ s < ((2 ^ (D 1 9).toNat : Nat) : Int)) → P (some (iI (-2))) SH D) (kk : 0 ≤ s → s < ((2 ^ (D 1 9).toNat : Nat) : Int) → ∀ D' : DD, Fr 27 D D' → P (some (iI (moC D s))) SH D') : TM g mX6_open (d + 5) P [.ref 0, iI s] D := by
  have hM := hL.2.1
  have e := ishl_pw (n := D 1 9) hM.1 (by omega)
  have e2 := pw_le (n := (D 1 9).toNat) (by omega)
  generalize 2 ^ (D 1 9).toNat = W at *
  refine T_iload_n dX6_open_0 rfl ?_
  refine T_iconst dX6_open_1 ?_
  refine T_iconst dX6_open_2 ?_
  refine T_aload_n dX6_open_3 rfl ?_
  refine T_getR dX6_open_4 flX6_12 rfl rfl ?_
  refine T_getI dX6_open_7 flX6_88 rfl rfl ?_
  refine T_ishl dX6_open_10 ?_
  refine T_iconst dX6_open_11 ?_
  refine T_isub dX6_open_12 ?_
  rw [e]
  refine T_cS_3 dX6_open_13 lkX6_77 (Nat.le_of_ble_eq_true rfl) (RO_r (by decide)) (Nat.le_of_ble_eq_true rfl) ?_
  refine c_isWithin hs (by first | (unfold InR; omega) | (simp [st2, InR]; omega)) (by unfold InR; omega) (fun h1 h2 => ?_) (fun h1 => ?_)
  · refine T_if_eq 27 dX6_open_16 (by decide) (by unfold InR; decide) (fun h => absurd h (by decide)) (fun _ => ?_)
    refine T_aload_n dX6_open_19 rfl ?_
    refine T_iload_n dX6_open_20 rfl ?_
    refine T_cV_1 dX6_open_21 lkX6_216 rfl (Nat.le_of_ble_eq_true rfl) (RO_r (by decide)) (Nat.le_of_ble_eq_true rfl) ?_
    refine c_milesOfSet hL (fun D1 fr rr => ?_)
    refine T_goto (tgt := 29) dX6_open_24 (by decide) ?_
    refine T_iret dX6_open_29 rfl ?_
    first | exact kO (by omega) | exact kk (by omega) (by omega) D1 fr
  · refine T_if_eq 27 dX6_open_16 (by decide) (by unfold InR; decide) (fun _ => ?_) (fun h => absurd (by decide) h)
    refine T_bipush dX6_open_27 (by decide) ?_
    refine T_iret dX6_open_29 rfl ?_
    first | exact kO (by omega) | exact kk (by omega) (by omega) D1 fr
def okB (D : DD) (k : Int) (s : Nat) : Prop := popc s = k ∧ moC D s ≠ -9
theorem c_best {k : Int} (hL : LK D) (hs : InR k) (kO : ¬ (0 ≤ k ∧ k ≤ D 1 9) → P (some (iI (-2))) SH D) (kk : 0 ≤ k → k ≤ D 1 9 → ∀ (D' : DD) (r : Int), Fr 27 D D' → ArgM (2 ^ (D 1 9).toNat) (okB D k) (fun s => moC D s) r → P (some (iI r)) SH D') : TM g mX6_best (d + 5) P [.ref 0, iI k] D := by
  have hM := hL.2.1
  have e := ishl_pw (n := D 1 9) hM.1 (by omega)
  have e2 : (2 ^ (D 1 9).toNat : Nat) ≤ 2 ^ 5 := Nat.pow_le_pow_right (by decide) (by omega)
  generalize 2 ^ (D 1 9).toNat = W at *
  have loop : 0 ≤ k → k ≤ D 1 9 → ∀ (q s : Nat) (r l : Int) (D1 : DD) (m5 : Option Value), q + s = W → Fr 27 D D1 → ArgM s (okB D k) (fun s => moC D s) r → LsI (fun s => moC D s) 500000000 r l → l = 500000000 ∨ (-9 ≤ l ∧ l ≤ 360000) → T g mX6_best (rmd (d + 5) 0 0) 0 0 (Qm g (rmd (d + 5) 0 0) P) 27 [some (.ref 0), some (iI k), some (iI r), some (iI l), some (iI s), m5] [] SH D1 := by
    intro hk0 hk1 q
    induction q with
    | zero =>
      intro s r l D1 m5 hq fr hA hl hb
      have a1 : D1 1 = D 1 := fr 1 (by omega)
      have e' : ishl 1 (D1 1 9) = (W : Int) := by rw [a1]; exact e
      refine T_iload dX6_best_27 rfl ?_
      refine T_iconst dX6_best_29 ?_
      refine T_aload_n dX6_best_30 rfl ?_
      refine T_getR dX6_best_31 flX6_12 rfl rfl ?_
      refine T_getI dX6_best_34 flX6_88 rfl rfl ?_
      refine T_ishl dX6_best_37 ?_
      refine T_icmp_ge 83 dX6_best_38 (by decide) (by unfold InR; omega) (by rw [e']; unfold InR; omega) (fun hc38 => ?_) (fun hc38 => (by exfalso; rw [e'] at hc38; omega))
      refine T_iload_n dX6_best_83 rfl ?_
      refine T_iret dX6_best_84 rfl ?_
      exact kk hk0 hk1 D1 r fr (by rw [show W = s by omega]; exact hA)
    | succ q ih =>
      intro s r l D1 m5 hq fr hA hl hb
      have a1 : D1 1 = D 1 := fr 1 (by omega)
      have e' : ishl 1 (D1 1 9) = (W : Int) := by rw [a1]; exact e
      have fl : ∀ a, 1 ≤ a → a ≤ 9 → D1 a = D a := fun a h1 h2 => fr a (by omega)
      have hL1 : LK D1 := LK_fr fl hL
      have em : moC D1 = moC D := (tri_of fl).1
      have hpc : 0 ≤ popc s ∧ popc s ≤ 16 := by
        have := sm_bd (f := fun k => iand (ishr (s : Int) k) 1) (a := 0) (b := 1) 16 (fun j hj => by
          show 0 ≤ iand (ishr (s : Int) j) 1 ∧ iand (ishr (s : Int) j) 1 ≤ 1
          rw [iand1 _ j (by omega)]; split <;> omega)
        unfold popc; omega
      refine T_iload dX6_best_27 rfl ?_
      refine T_iconst dX6_best_29 ?_
      refine T_aload_n dX6_best_30 rfl ?_
      refine T_getR dX6_best_31 flX6_12 rfl rfl ?_
      refine T_getI dX6_best_34 flX6_88 rfl rfl ?_
      refine T_ishl dX6_best_37 ?_
      refine T_icmp_ge 83 dX6_best_38 (by decide) (by unfold InR; omega) (by rw [e']; unfold InR; omega) (fun hc38 => (by exfalso; rw [e'] at hc38; omega)) (fun hc38 => ?_)
      refine T_iload dX6_best_41 rfl ?_
      refine T_cS_1 dX6_best_43 lkX6_219 (Nat.le_of_ble_eq_true rfl) (RO_r (by decide)) (Nat.le_of_ble_eq_true rfl) ?_
      refine c_bitCount (by omega) ?_
      refine T_iload_n dX6_best_46 rfl ?_
      refine T_icmp_ne 77 dX6_best_47 (by decide) (by unfold InR; omega) (by unfold InR; omega) (fun hc47 => ?_) (fun hc47 => ?_)
      · refine T_iinc dX6_best_77 rfl (by decide) ?_
        refine T_goto (tgt := 27) dX6_best_80 (by decide) ?_
        first
        | exact ih (s + 1) r l D1 _ (by omega) fr (hA.ge hl (fun z => absurd z.1 hc47)) hl hb
        | exact ih (s + 1) r l D2 _ (by omega) fr3 (hA.ge hl (fun z => absurd hc62 z.2)) hl hb
        | exact ih (s + 1) r l D2 _ (by omega) fr3 (hA.ge hl (fun z => ⟨by show moC D s < _; omega, by show _ ≤ moC D s; omega⟩)) hl hb
        | (have z := hA.lt hl (⟨Classical.not_not.mp hc47, hc62⟩ : okB D k s) (show moC D s < l by omega)
           exact ih (s + 1) _ _ D2 _ (by omega) fr3 z.1 z.2 (Or.inr (show -9 ≤ moC D s ∧ moC D s ≤ 360000 by omega)))
      · refine T_aload_n dX6_best_50 rfl ?_
        refine T_iload dX6_best_51 rfl ?_
        refine T_cV_1 dX6_best_53 lkX6_216 rfl (Nat.le_of_ble_eq_true rfl) (RO_r (by decide)) (Nat.le_of_ble_eq_true rfl) ?_
        refine c_milesOfSet hL1 (fun D2 fr2 rr => ?_)
        rw [em] at rr ⊢
        have fr3 := fr.tr fr2
        refine T_istore dX6_best_56 (by decide) ?_
        refine T_iload dX6_best_58 rfl ?_
        refine T_bipush dX6_best_60 (by decide) ?_
        refine T_icmp_eq 77 dX6_best_62 (by decide) (by unfold InR; omega) (by first | (unfold InR; omega) | (simp [st2, InR]; omega)) (fun hc62 => ?_) (fun hc62 => ?_)
        · refine T_iinc dX6_best_77 rfl (by decide) ?_
          refine T_goto (tgt := 27) dX6_best_80 (by decide) ?_
          first
          | exact ih (s + 1) r l D1 _ (by omega) fr (hA.ge hl (fun z => absurd z.1 hc47)) hl hb
          | exact ih (s + 1) r l D2 _ (by omega) fr3 (hA.ge hl (fun z => absurd hc62 z.2)) hl hb
          | exact ih (s + 1) r l D2 _ (by omega) fr3 (hA.ge hl (fun z => ⟨by show moC D s < _; omega, by show _ ≤ moC D s; omega⟩)) hl hb
          | (have z := hA.lt hl (⟨Classical.not_not.mp hc47, hc62⟩ : okB D k s) (show moC D s < l by omega)
             exact ih (s + 1) _ _ D2 _ (by omega) fr3 z.1 z.2 (Or.inr (show -9 ≤ moC D s ∧ moC D s ≤ 360000 by omega)))
        · refine T_iload dX6_best_65 rfl ?_
          refine T_iload_n dX6_best_67 rfl ?_
          refine T_icmp_ge 77 dX6_best_68 (by decide) (by unfold InR; omega) (by unfold InR; omega) (fun hc68 => ?_) (fun hc68 => ?_)
          · refine T_iinc dX6_best_77 rfl (by decide) ?_
            refine T_goto (tgt := 27) dX6_best_80 (by decide) ?_
            first
            | exact ih (s + 1) r l D1 _ (by omega) fr (hA.ge hl (fun z => absurd z.1 hc47)) hl hb
            | exact ih (s + 1) r l D2 _ (by omega) fr3 (hA.ge hl (fun z => absurd hc62 z.2)) hl hb
            | exact ih (s + 1) r l D2 _ (by omega) fr3 (hA.ge hl (fun z => ⟨by show moC D s < _; omega, by show _ ≤ moC D s; omega⟩)) hl hb
            | (have z := hA.lt hl (⟨Classical.not_not.mp hc47, hc62⟩ : okB D k s) (show moC D s < l by omega)
               exact ih (s + 1) _ _ D2 _ (by omega) fr3 z.1 z.2 (Or.inr (show -9 ≤ moC D s ∧ moC D s ≤ 360000 by omega)))
          · refine T_iload dX6_best_71 rfl ?_
            refine T_istore_n dX6_best_73 (by decide) ?_
            refine T_iload dX6_best_74 rfl ?_
            refine T_istore_n dX6_best_76 (by decide) ?_
            refine T_iinc dX6_best_77 rfl (by decide) ?_
            refine T_goto (tgt := 27) dX6_best_80 (by decide) ?_
            first
            | exact ih (s + 1) r l D1 _ (by omega) fr (hA.ge hl (fun z => absurd z.1 hc47)) hl hb
            | exact ih (s + 1) r l D2 _ (by omega) fr3 (hA.ge hl (fun z => absurd hc62 z.2)) hl hb
            | exact ih (s + 1) r l D2 _ (by omega) fr3 (hA.ge hl (fun z => ⟨by show moC D s < _; omega, by show _ ≤ moC D s; omega⟩)) hl hb
            | (have z := hA.lt hl (⟨Classical.not_not.mp hc47, hc62⟩ : okB D k s) (show moC D s < l by omega)
               exact ih (s + 1) _ _ D2 _ (by omega) fr3 z.1 z.2 (Or.inr (show -9 ≤ moC D s ∧ moC D s ≤ 360000 by omega)))
  refine T_iload_n dX6_best_0 rfl ?_
  refine T_iconst dX6_best_1 ?_
  refine T_aload_n dX6_best_2 rfl ?_
  refine T_getR dX6_best_3 flX6_12 rfl rfl ?_
  refine T_getI dX6_best_6 flX6_88 rfl rfl ?_
  refine T_cS_3 dX6_best_9 lkX6_77 (Nat.le_of_ble_eq_true rfl) (RO_r (by decide)) (Nat.le_of_ble_eq_true rfl) ?_
  refine c_isWithin hs (by first | (unfold InR; omega) | (simp [st2, InR]; omega)) (by unfold InR; omega) (fun h1 h2 => ?_) (fun h1 => ?_)
  · refine T_if_ne 18 dX6_best_12 (by decide) (by unfold InR; decide) (fun _ => ?_) (fun h => absurd (by decide) h)
    refine T_bipush dX6_best_18 (by decide) ?_
    refine T_istore_n dX6_best_20 (by decide) ?_
    refine T_ldc (n := 500000000) dX6_best_21 tk_598 ?_
    refine T_istore_n dX6_best_23 (by decide) ?_
    refine T_iconst dX6_best_24 ?_
    refine T_istore dX6_best_25 (by decide) ?_
    exact loop h1 h2 W 0 (-9) 500000000 D none (by omega) Fr.rf ArgM.zero (Or.inl ⟨rfl, rfl⟩) (Or.inl rfl)
  · refine T_if_ne 18 dX6_best_12 (by decide) (by unfold InR; decide) (fun h => absurd h (by decide)) (fun _ => ?_)
    refine T_bipush dX6_best_15 (by decide) ?_
    refine T_iret dX6_best_17 rfl ?_
    first | exact kO (by omega)
end

