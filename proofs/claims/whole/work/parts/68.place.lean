/-- what leastMiles and trials change -/
def KpT (D D' : DD) : Prop := (∀ r, r ≠ 0 → (r < 16 ∨ 37 < r) → D' r = D r) ∧ ∀ j, j ≠ 11 → j ≠ 14 → D' 0 j = D 0 j
theorem KpN.t {D D' : DD} (h : KpN D D') : KpT D D' := ⟨fun r h0 h1 => h.1 r h0 (by omega), h.2⟩
theorem KpT.fr {D D1 D2 : DD} (h : KpT D D1) (f : Fr 27 D1 D2) : KpT D D2 := ⟨fun r h0 h1 => (f r (by omega)).trans (h.1 r h0 h1), fun j h1 h2 => by rw [f 0 (by omega)]; exact h.2 j h1 h2⟩
theorem KpT.land {D D' : DD} (h : KpT D D') : ∀ a, 1 ≤ a → a ≤ 9 → D' a = D a := fun a h1 h2 => h.1 a (by omega) (Or.inl (by omega))
theorem NowOK.fr {D1 D2 : DD} (hN : NowOK D1) (f : Fr 27 D1 D2) : NowOK D2 := hN.of (fun a _ h2 _ => f a (by omega)) (by rw [f 0 (by omega)])
/-- places that have been told -/
def PlK (D : DD) : Prop := (0 ≤ D 0 9 ∧ D 0 9 ≤ 8) ∧ ∀ p, (0 ≤ D 47 p ∧ D 47 p ≤ 60) ∧ (0 ≤ D 48 p ∧ D 48 p ≤ 60)
def okP (D : DD) (c p : Nat) : Prop := mvC D c (D 47 p) (D 48 p) ≠ -9 ∧ (mlC D = -9 ∨ mvC D c (D 47 p) (D 48 p) < mlC D)
section
variable {g : G0} {d : Nat} {P : Option Value → List SC → DD → Prop} {D : DD}
theorem c_bestPlace {c : Int} (hL : LK D) (hC : CacheN D) (hP : PlK D) (hc : 0 ≤ c ∧ c < D 1 9) (hk : ∀ (D' : DD) (r : Int), KpT D D' → D' 0 11 = D 1 11 → NowOK D' → ArgM (D 0 9).toNat (okP D c.toNat) (fun p => mvC D c.toNat (D 47 p) (D 48 p)) r → P (some (iI (if r = -9 then -1 else r))) SH D') : TM g mX6_bestPlace (d + 5) P [.ref 0, iI c] D := by
  have hM := hL.2.1
  have hN := hL.1
  obtain ⟨c, rfl⟩ : ∃ k : Nat, c = k := ⟨c.toNat, by omega⟩
  rw [Int.toNat_natCast] at hk
  have loop : ∀ (B : Int), (mlC D = -9 ∧ B = 500000000) ∨ (mlC D ≠ -9 ∧ B = mlC D ∧ 0 ≤ B ∧ B ≤ 360000) → ∀ (q p : Nat) (r l : Int) (D1 : DD) (m5 : Option Value), q + p = (D 0 9).toNat → KpT D D1 → D1 0 11 = D 1 11 → NowOK D1 → ArgM p (okP D c) (fun p => mvC D c (D 47 p) (D 48 p)) r → LsI (fun p => mvC D c (D 47 p) (D 48 p)) B r l → l = B ∨ (-9 ≤ l ∧ l ≤ 360000) → T g mX6_bestPlace (rmd (d + 5) 0 0) 0 0 (Qm g (rmd (d + 5) 0 0) P) 24 [some (.ref 0), some (iI c), some (iI (if r = -9 then -1 else r)), some (iI l), some (iI p), m5] [] SH D1 := by
    intro B hB q
    induction q with
    | zero =>
      intro p r l D1 m5 hq kp e1 hNo hA hl hb
      have a9 : D1 0 9 = D 0 9 := kp.2 9 (by decide) (by decide)
      have hP0 := hP.1
      refine T_iload dX6_bestPlace_24 rfl ?_
      refine T_aload_n dX6_bestPlace_26 rfl ?_
      refine T_getI dX6_bestPlace_27 flX6_206 rfl rfl ?_
      refine T_icmp_ge 104 dX6_bestPlace_30 (by decide) (by first | (unfold InR; omega) | (simp [st2, InR]; omega)) (by first | (unfold InR; omega) | (simp [st2, InR]; omega)) (fun hc30 => ?_) (fun hc30 => (by exfalso; omega))
      refine T_iload_n dX6_bestPlace_104 rfl ?_
      refine T_iret dX6_bestPlace_105 rfl ?_
      exact hk D1 r kp e1 hNo (by rw [show (D 0 9).toNat = p by omega]; exact hA)
    | succ q ih =>
      intro p r l D1 m5 hq kp e1 hNo hA hl hb
      have a9 : D1 0 9 = D 0 9 := kp.2 9 (by decide) (by decide)
      have hP0 := hP.1
      have hL1 : LK D1 := LK_fr kp.land hL
      have ep : (p : Int).toNat = p := Int.toNat_natCast p
      refine T_iload dX6_bestPlace_24 rfl ?_
      refine T_aload_n dX6_bestPlace_26 rfl ?_
      refine T_getI dX6_bestPlace_27 flX6_206 rfl rfl ?_
      refine T_icmp_ge 104 dX6_bestPlace_30 (by decide) (by first | (unfold InR; omega) | (simp [st2, InR]; omega)) (by first | (unfold InR; omega) | (simp [st2, InR]; omega)) (fun hc30 => (by exfalso; omega)) (fun hc30 => ?_)
      refine T_aload_n dX6_bestPlace_33 rfl ?_
      refine T_getR dX6_bestPlace_34 flX6_32 rfl rfl ?_
      refine T_aload_n dX6_bestPlace_37 rfl ?_
      refine T_getR dX6_bestPlace_38 flX6_12 rfl rfl ?_
      refine T_cV_1 dX6_bestPlace_41 lkX6_277 rfl (Nat.le_of_ble_eq_true rfl) (RO_r (by decide)) (Nat.le_of_ble_eq_true rfl) ?_
      refine c_load SnAt27 hL1 (fun D2 fr ld => ?_)
      have hH2 := ld.holds hL1
      have kp2 := kp.fr fr
      have hL2 : LK D2 := LK_fr kp2.land hL
      have x1 : D2 47 (p : Int).toNat = D 47 p := by rw [ep, kp2.1 47 (by decide) (by omega)]
      have x2 : D2 48 (p : Int).toNat = D 48 p := by rw [ep, kp2.1 48 (by decide) (by omega)]
      have l0 : D1 1 = D 1 := kp.land 1 (by decide) (by decide)
      have l1 : D2 1 = D 1 := kp2.land 1 (by decide) (by decide)
      have hP1 := hP.2 p
      refine T_aload_n dX6_bestPlace_44 rfl ?_
      refine T_getR dX6_bestPlace_45 flX6_32 rfl rfl ?_
      refine T_aload_n dX6_bestPlace_48 rfl ?_
      refine T_getR dX6_bestPlace_49 flX6_12 rfl rfl ?_
      refine T_iload_n dX6_bestPlace_52 rfl ?_
      refine T_aload_n dX6_bestPlace_53 rfl ?_
      refine T_getR dX6_bestPlace_54 flX6_55 rfl rfl ?_
      refine T_iload dX6_bestPlace_57 rfl ?_
      refine T_iald dX6_bestPlace_59 rfl (by first | decide | omega) (by first | omega | (simp [st2]; omega)) (by first | omega | (simp [st2]; omega)) ?_
      refine T_aload_n dX6_bestPlace_60 rfl ?_
      refine T_getR dX6_bestPlace_61 flX6_59 rfl rfl ?_
      refine T_iload dX6_bestPlace_64 rfl ?_
      refine T_iald dX6_bestPlace_66 rfl (by first | decide | omega) (by first | omega | (simp [st2]; omega)) (by first | omega | (simp [st2]; omega)) ?_
      rw [x1, x2]
      refine T_cV_4 dX6_bestPlace_67 lkX6_306 rfl (Nat.le_of_ble_eq_true rfl) (RO_r (by decide)) (Nat.le_of_ble_eq_true rfl) ?_
      refine c_putChurch SnAt27 hL2 (by have := ld.1; rw [l1, this, l0]) (by omega) hP1.1 hP1.2 (fun D3 f3 g3 o3 => ?_)
      obtain ⟨-, -, al1, fc1⟩ := mlC_of kp.land
      rw [al1, fc1, l0, kp.land 4 (by decide) (by decide), kp.land 9 (by decide) (by decide)] at hH2
      have hH3 : Holds D3 27 (D 1 8).toNat (D 1 9).toNat (D 4) (D 9) (alC D) (farP D c (D 47 p) (D 48 p)) := by
        obtain ⟨q1, q2, q3, q4⟩ := hH2
        have z0 : D3 27 = D2 27 := f3 27 (by decide)
        have z4 : D3 (27 + 4) = D2 (27 + 4) := f3 _ (by decide)
        have z3 : D3 (27 + 3) = D2 (27 + 3) := f3 _ (by decide)
        refine ⟨by rw [z0]; exact q1, fun h hh => by rw [z3]; exact q2 h hh, fun c' hc' => by rw [z4]; exact q3 c' hc', fun h c' hh hc' => ?_⟩
        unfold farP
        by_cases e : c' = c
        · subst e
          have w := g3 h (by rw [l1]; exact hh)
          unfold farS at w
          rw [kp2.land 5 (by decide) (by decide), kp2.land 6 (by decide) (by decide), kp2.land 2 (by decide) (by decide), kp2.land 3 (by decide) (by decide), l1] at w
          rw [if_pos rfl]
          refine ⟨fun qa => ⟨?_, farK_bd (hL.2.2.2.2.1 h) (hL.2.2.2.2.2.1 h) hP1.1 hP1.2 hL.2.2.1⟩, fun qa => ?_⟩
          · show D3 (27 + 1) (h * 5 + c') = _
            rw [w, cif_neg qa]
          · show D3 (27 + 1) (h * 5 + c') = _
            rw [w, cif_pos (Classical.not_not.mp qa)]
        · rw [if_neg e]
          have w : fO D3 27 h c' = fO D2 27 h c' := o3 (h * 5 + c') (fun h' hh' => by omega)
          rw [w]
          exact q4 h c' hh hc'
      refine T_aload_n dX6_bestPlace_70 rfl ?_
      refine T_getR dX6_bestPlace_71 flX6_32 rfl rfl ?_
      refine T_cV_0 dX6_bestPlace_74 lkX6_281 rfl (Nat.le_of_ble_eq_true rfl) (RO_r (by decide)) (Nat.le_of_ble_eq_true rfl) ?_
      refine c_send SnAt27 hH3.snk (fun D4 v kp4 hm0 hd => ?_)
      have hm := hH3.miles hm0
      have rr := hm.rng (by omega) (fun h _ => (hL.2.2.2.2.2.2.1 h).2) (fun h c' hh hc' qa => by have := (hH3.2.2.2 h c' hh hc').1 qa; omega)
      have em : mvC D c (D 47 p) (D 48 p) = v := hm.eqF
      have f24 : Fr 27 D1 D4 := fr.tr (Fr.tr (fun a ha => f3 a (by omega)) kp4.1)
      have kp5 := kp.fr f24
      have e5 : D4 0 11 = D 1 11 := by rw [f24 0 (by omega)]; exact e1
      have hNo5 := hNo.fr f24
      refine T_istore dX6_bestPlace_77 (by decide) ?_
      refine T_iload dX6_bestPlace_79 rfl ?_
      refine T_bipush dX6_bestPlace_81 (by decide) ?_
      refine T_icmp_eq 98 dX6_bestPlace_83 (by decide) (by unfold InR; omega) (by first | (unfold InR; omega) | (simp [st2, InR]; omega)) (fun hc83 => ?_) (fun hc83 => ?_)
      · refine T_iinc dX6_bestPlace_98 rfl (by decide) ?_
        refine T_goto (tgt := 24) dX6_bestPlace_101 (by decide) ?_
        first
        | exact ih (p + 1) r l D4 _ (by omega) kp5 e5 hNo5 (hA.ge hl (fun z => absurd (em.trans hc83) z.1)) hl hb
        | exact ih (p + 1) r l D4 _ (by omega) kp5 e5 hNo5 (hA.ge hl (fun z => ⟨by have := z.2; show mvC D c (D 47 p) (D 48 p) < _; omega, by show _ ≤ mvC D c (D 47 p) (D 48 p); omega⟩)) hl hb
        | (have hlB : l ≤ B := by
             rcases hl with z | ⟨z1, z2⟩
             · omega
             · rcases hA.rng with y | ⟨y1, y2, y3⟩
               · omega
               · have := y3.2; have := y3.1; simp only at z2; omega
           have z := hA.lt hl (⟨by omega, by omega⟩ : okP D c p) (show mvC D c (D 47 p) (D 48 p) < l by omega)
           have ez : (if (p : Int) = -9 then -1 else (p : Int)) = p := if_neg (by omega)
           have w := ih (p + 1) _ _ D4 (some (iI v)) (by omega) kp5 e5 hNo5 z.1 z.2 (Or.inr (show -9 ≤ mvC D c (D 47 p) (D 48 p) ∧ mvC D c (D 47 p) (D 48 p) ≤ 360000 by omega))
           rw [ez, em] at w
           exact w)
      · refine T_iload dX6_bestPlace_86 rfl ?_
        refine T_iload_n dX6_bestPlace_88 rfl ?_
        refine T_icmp_ge 98 dX6_bestPlace_89 (by decide) (by unfold InR; omega) (by unfold InR; omega) (fun hc89 => ?_) (fun hc89 => ?_)
        · refine T_iinc dX6_bestPlace_98 rfl (by decide) ?_
          refine T_goto (tgt := 24) dX6_bestPlace_101 (by decide) ?_
          first
          | exact ih (p + 1) r l D4 _ (by omega) kp5 e5 hNo5 (hA.ge hl (fun z => absurd (em.trans hc83) z.1)) hl hb
          | exact ih (p + 1) r l D4 _ (by omega) kp5 e5 hNo5 (hA.ge hl (fun z => ⟨by have := z.2; show mvC D c (D 47 p) (D 48 p) < _; omega, by show _ ≤ mvC D c (D 47 p) (D 48 p); omega⟩)) hl hb
          | (have hlB : l ≤ B := by
               rcases hl with z | ⟨z1, z2⟩
               · omega
               · rcases hA.rng with y | ⟨y1, y2, y3⟩
                 · omega
                 · have := y3.2; have := y3.1; simp only at z2; omega
             have z := hA.lt hl (⟨by omega, by omega⟩ : okP D c p) (show mvC D c (D 47 p) (D 48 p) < l by omega)
             have ez : (if (p : Int) = -9 then -1 else (p : Int)) = p := if_neg (by omega)
             have w := ih (p + 1) _ _ D4 (some (iI v)) (by omega) kp5 e5 hNo5 z.1 z.2 (Or.inr (show -9 ≤ mvC D c (D 47 p) (D 48 p) ∧ mvC D c (D 47 p) (D 48 p) ≤ 360000 by omega))
             rw [ez, em] at w
             exact w)
        · refine T_iload dX6_bestPlace_92 rfl ?_
          refine T_istore_n dX6_bestPlace_94 (by decide) ?_
          refine T_iload dX6_bestPlace_95 rfl ?_
          refine T_istore_n dX6_bestPlace_97 (by decide) ?_
          refine T_iinc dX6_bestPlace_98 rfl (by decide) ?_
          refine T_goto (tgt := 24) dX6_bestPlace_101 (by decide) ?_
          first
          | exact ih (p + 1) r l D4 _ (by omega) kp5 e5 hNo5 (hA.ge hl (fun z => absurd (em.trans hc83) z.1)) hl hb
          | exact ih (p + 1) r l D4 _ (by omega) kp5 e5 hNo5 (hA.ge hl (fun z => ⟨by have := z.2; show mvC D c (D 47 p) (D 48 p) < _; omega, by show _ ≤ mvC D c (D 47 p) (D 48 p); omega⟩)) hl hb
          | (have hlB : l ≤ B := by
               rcases hl with z | ⟨z1, z2⟩
               · omega
               · rcases hA.rng with y | ⟨y1, y2, y3⟩
                 · omega
                 · have := y3.2; have := y3.1; simp only at z2; omega
             have z := hA.lt hl (⟨by omega, by omega⟩ : okP D c p) (show mvC D c (D 47 p) (D 48 p) < l by omega)
             have ez : (if (p : Int) = -9 then -1 else (p : Int)) = p := if_neg (by omega)
             have w := ih (p + 1) _ _ D4 (some (iI v)) (by omega) kp5 e5 hNo5 z.1 z.2 (Or.inr (show -9 ≤ mvC D c (D 47 p) (D 48 p) ∧ mvC D c (D 47 p) (D 48 p) ≤ 360000 by omega))
             rw [ez, em] at w
             exact w)
  refine T_iconst dX6_bestPlace_0 ?_
  refine T_istore_n dX6_bestPlace_1 (by decide) ?_
  refine T_aload_n dX6_bestPlace_2 rfl ?_
  refine T_cV_0 dX6_bestPlace_3 lkX6_158 rfl (Nat.le_of_ble_eq_true rfl) (RO_r (by decide)) (Nat.le_of_ble_eq_true rfl) ?_
  refine c_leastMiles hL hC (fun D1 kp e1 hN1 => ?_)
  obtain ⟨rr, f2, f3⟩ := now_facts kp hN1
  refine T_bipush dX6_bestPlace_6 (by decide) ?_
  refine T_icmp_ne 16 dX6_bestPlace_8 (by decide) (by unfold InR; omega) (by first | (unfold InR; omega) | (simp [st2, InR]; omega)) (fun hc8 => ?_) (fun hc8 => ?_)
  · refine T_aload_n dX6_bestPlace_16 rfl ?_
    refine T_getI dX6_bestPlace_17 flX6_284 rfl rfl ?_
    refine T_istore_n dX6_bestPlace_20 (by decide) ?_
    refine T_iconst dX6_bestPlace_21 ?_
    refine T_istore dX6_bestPlace_22 (by decide) ?_
    first
    | exact loop 500000000 (by omega) (D 0 9).toNat 0 (-9) 500000000 D1 none (by omega) kp.t e1 hN1 ArgM.zero (Or.inl ⟨rfl, rfl⟩) (Or.inl rfl)
    | (rw [f2]; exact loop (mlC D) (by omega) (D 0 9).toNat 0 (-9) (mlC D) D1 none (by omega) kp.t e1 hN1 ArgM.zero (Or.inl ⟨rfl, rfl⟩) (Or.inl rfl))
  · refine T_ldc (n := 500000000) dX6_bestPlace_11 tk_598 ?_
    refine T_goto (tgt := 20) dX6_bestPlace_13 (by decide) ?_
    refine T_istore_n dX6_bestPlace_20 (by decide) ?_
    refine T_iconst dX6_bestPlace_21 ?_
    refine T_istore dX6_bestPlace_22 (by decide) ?_
    first
    | exact loop 500000000 (by omega) (D 0 9).toNat 0 (-9) 500000000 D1 none (by omega) kp.t e1 hN1 ArgM.zero (Or.inl ⟨rfl, rfl⟩) (Or.inl rfl)
    | (rw [f2]; exact loop (mlC D) (by omega) (D 0 9).toNat 0 (-9) (mlC D) D1 none (by omega) kp.t e1 hN1 ArgM.zero (Or.inl ⟨rfl, rfl⟩) (Or.inl rfl))
theorem c_move {c : Int} (hL : LK D) (hC : CacheN D) (hP : PlK D) (hc : InR c) (kU : ¬ (0 ≤ c ∧ c < D 1 9) → P (some (iI (-1))) SH D) (kN : 0 ≤ c → c < D 1 9 → ∀ D' : DD, KpT D D' → D' 0 11 = D 1 11 → NowOK D' → ArgM (D 0 9).toNat (okP D c.toNat) (fun p => mvC D c.toNat (D 47 p) (D 48 p)) (-9) → P (some (iI (-9))) SH D') (kk : 0 ≤ c → c < D 1 9 → ∀ (D' : DD) (p : Nat), KpT D D' → D' 0 11 = D 1 11 → p < (D 0 9).toNat → ArgM (D 0 9).toNat (okP D c.toNat) (fun p => mvC D c.toNat (D 47 p) (D 48 p)) p → P (some (iI p)) SH (st2 (st2 (st2 D' 7 c.toNat (D 47 p)) 8 c.toNat (D 48 p)) 1 11 (D 1 11 + 1))) : TM g mX6_move (d + 6) P [.ref 0, iI c] D := by
  have hM := hL.2.1
  have hP0 := hP.1
  refine T_aload_n dX6_move_0 rfl ?_
  refine T_getR dX6_move_1 flX6_12 rfl rfl ?_
  refine T_iload_n dX6_move_4 rfl ?_
  refine T_cV_1 dX6_move_5 lkX6_125 rfl (Nat.le_of_ble_eq_true rfl) (RO_r (by decide)) (Nat.le_of_ble_eq_true rfl) ?_
  refine c_hasChurch hc hM (fun h1 h2 => ?_) (fun h1 => ?_)
  · refine T_if_ne 13 dX6_move_8 (by decide) (by unfold InR; decide) (fun _ => ?_) (fun h => absurd (by decide) h)
    refine T_aload_n dX6_move_13 rfl ?_
    refine T_iload_n dX6_move_14 rfl ?_
    refine T_cV_1 dX6_move_15 lkX6_209 rfl (Nat.le_of_ble_eq_true rfl) (RO_r (by decide)) (Nat.le_of_ble_eq_true rfl) ?_
    refine c_bestPlace hL hC hP ⟨h1, h2⟩ (fun D1 r kp e1 hN1 hA => ?_)
    have hr := hA.rng
    have hr2 : r = -9 ∨ (0 ≤ r ∧ r < (D 0 9).toNat) := hr.imp id (fun z => ⟨z.1, z.2.1⟩)
    refine T_istore_n dX6_move_18 (by decide) ?_
    refine T_iload_n dX6_move_19 rfl ?_
    refine T_if_ge 26 dX6_move_20 (by decide) (by unfold InR; split <;> omega) (fun hc20 => ?_) (fun hc20 => ?_)
    · rw [if_neg (by intro e; rw [if_pos e] at hc20; omega)] at hc20
      rw [if_neg (by omega)]
      obtain ⟨p, rfl⟩ : ∃ k : Nat, r = k := ⟨r.toNat, by omega⟩
      have ep : (p : Int).toNat = p := Int.toNat_natCast p
      have x1 : D1 47 (p : Int).toNat = D 47 p := by rw [ep, kp.1 47 (by decide) (by omega)]
      have x2 : D1 48 (p : Int).toNat = D 48 p := by rw [ep, kp.1 48 (by decide) (by omega)]
      have x3 : D1 1 11 = D 1 11 := by rw [kp.land 1 (by decide) (by decide)]
      refine T_aload_n dX6_move_26 rfl ?_
      refine T_getR dX6_move_27 flX6_12 rfl rfl ?_
      refine T_iload_n dX6_move_30 rfl ?_
      refine T_aload_n dX6_move_31 rfl ?_
      refine T_getR dX6_move_32 flX6_55 rfl rfl ?_
      refine T_iload_n dX6_move_35 rfl ?_
      refine T_iald dX6_move_36 rfl (by first | decide | omega) (by first | omega | (simp [st2]; omega)) (by first | omega | (simp [st2]; omega)) ?_
      refine T_aload_n dX6_move_37 rfl ?_
      refine T_getR dX6_move_38 flX6_59 rfl rfl ?_
      refine T_iload_n dX6_move_41 rfl ?_
      refine T_iald dX6_move_42 rfl (by first | decide | omega) (by first | omega | (simp [st2]; omega)) (by first | omega | (simp [st2]; omega)) ?_
      rw [x1, x2]
      refine T_cV_3 dX6_move_43 lkX6_212 rfl (Nat.le_of_ble_eq_true rfl) (RO_r (by decide)) (Nat.le_of_ble_eq_true rfl) ?_
      refine c_moveChurch ⟨h1, by omega⟩ ?_
      rw [x3]
      refine T_iload_n dX6_move_46 rfl ?_
      refine T_iret dX6_move_47 rfl ?_
      first
      | exact kU (by omega)
      | exact kk h1 h2 D1 p kp e1 (by omega) hA
      | (have e : r = -9 := by
           refine Classical.byContradiction fun z => ?_
           rw [if_neg z] at hc20; omega
         subst e
         exact kN h1 h2 D1 kp e1 hN1 hA)
    · refine T_bipush dX6_move_23 (by decide) ?_
      refine T_iret dX6_move_25 rfl ?_
      first
      | exact kU (by omega)
      | exact kk h1 h2 D1 p kp e1 (by omega) hA
      | (have e : r = -9 := by
           refine Classical.byContradiction fun z => ?_
           rw [if_neg z] at hc20; omega
         subst e
         exact kN h1 h2 D1 kp e1 hN1 hA)
  · refine T_if_ne 13 dX6_move_8 (by decide) (by unfold InR; decide) (fun h => absurd h (by decide)) (fun _ => ?_)
    refine T_iconst dX6_move_11 ?_
    refine T_iret dX6_move_12 rfl ?_
    first
    | exact kU (by omega)
    | exact kk h1 h2 D1 p kp e1 (by omega) hA
    | (have e : r = -9 := by
         refine Classical.byContradiction fun z => ?_
         rw [if_neg z] at hc20; omega
       subst e
       exact kN h1 h2 D1 kp e1 hN1 hA)
end

