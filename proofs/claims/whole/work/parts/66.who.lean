section
variable {n : Nat} {ok : Nat → Prop} {f : Nat → Int} {B r l : Int}
/-- the least so far is kept as l -/
def LsI (f : Nat → Int) (B r l : Int) : Prop := (r = -9 ∧ l = B) ∨ (0 ≤ r ∧ l = f r.toNat)
theorem ArgM.lt (h : ArgM n ok f r) (hl : LsI f B r l) (hk : ok n) (h1 : f n < l) : ArgM (n + 1) ok f n ∧ LsI f B n (f n) := by
  refine ⟨h.take hk (fun i hi e => ?_), Or.inr ⟨by omega, by rw [Int.toNat_natCast]⟩⟩
  rcases hl with ⟨a, -⟩ | ⟨a, b⟩
  · omega
  · subst e; rw [Int.toNat_natCast] at b; omega
theorem ArgM.ge (h : ArgM n ok f r) (hl : LsI f B r l) (hk : ok n → f n < B ∧ l ≤ f n) : ArgM (n + 1) ok f r := by
  refine h.skip (fun q => ?_)
  have k := hk q
  rcases hl with ⟨a, b⟩ | ⟨a, b⟩
  · omega
  · exact ⟨r.toNat, by omega, by omega⟩
theorem LsI.bd (hl : LsI f B r l) (h : ArgM n ok f r) {a b : Int} (hf : ∀ c, c < n → ok c → a ≤ f c ∧ f c ≤ b) : l = B ∨ (a ≤ l ∧ l ≤ b) := by
  rcases hl with ⟨e, b⟩ | ⟨e, b⟩
  · exact Or.inl b
  · rcases h.rng with q | ⟨q1, q2, q3⟩
    · omega
    · have := hf r.toNat (by omega) q3; omega
end
theorem KpN.land {D D' : DD} (h : KpN D D') : ∀ a, 1 ≤ a → a ≤ 9 → D' a = D a := fun a h1 h2 => h.1 a (by omega) (Or.inl (by omega))
theorem now_facts {D D' : DD} (k : KpN D D') (hN : NowOK D') : (mlC D = -9 ∨ (0 ≤ mlC D ∧ mlC D ≤ 360000)) ∧ D' 0 14 = mlC D ∧ (mlC D ≠ -9 → Holds D' 16 (D 1 8).toNat (D 1 9).toNat (D 4) (D 9) (alC D) (farC D) ∧ PSt D' 16 (D 1 8).toNat 0 ∧ mlC D = costX (D 1 8).toNat (D 1 9).toNat (fO D' 16) (xO D' 16) ∧ ∀ c, c < (D 1 9).toNat → 0 ≤ D' 26 c ∧ D' 26 c ≤ 2000000 ∧ D' 26 c = mlC D - mpC D c) := by
  obtain ⟨m1, m2, m3, m4⟩ := mlC_of k.land
  unfold NowOK at hN
  rw [m1, m2, m3, m4, k.land 1 (by decide) (by decide), k.land 4 (by decide) (by decide), k.land 9 (by decide) (by decide)] at hN
  obtain ⟨a, b, c⟩ := hN
  rw [a] at b
  exact ⟨b, a, c⟩
section
variable {g : G0} {d : Nat} {P : Option Value → List SC → DD → Prop} {D : DD}
theorem c_miles (hL : LK D) (hC : CacheN D) (hk : ∀ D' : DD, KpN D D' → D' 0 11 = D 1 11 → NowOK D' → P (some (iI (mlC D))) SH D') : TM g mX6_miles (d + 5) P [.ref 0] D := by
  refine T_aload_n dX6_miles_0 rfl ?_
  refine T_cV_0 dX6_miles_1 lkX6_158 rfl (Nat.le_of_ble_eq_true rfl) (RO_r (by decide)) (Nat.le_of_ble_eq_true rfl) ?_
  refine c_leastMiles hL hC (fun D1 kp e1 hN => ?_)
  refine T_iret dX6_miles_4 rfl ?_
  exact hk D1 kp e1 hN
theorem c_weight {c : Int} (hL : LK D) (hC : CacheN D) (hc : InR c) (kU : ¬ (0 ≤ c ∧ c < D 1 9) → P (some (iI (-1))) SH D) (kN : 0 ≤ c → c < D 1 9 → mlC D = -9 → ∀ D' : DD, KpN D D' → D' 0 11 = D 1 11 → NowOK D' → P (some (iI (-9))) SH D') (kk : 0 ≤ c → c < D 1 9 → mlC D ≠ -9 → ∀ D' : DD, KpN D D' → D' 0 11 = D 1 11 → NowOK D' → P (some (iI (mlC D - mpC D c.toNat))) SH D') : TM g mX6_weight (d + 5) P [.ref 0, iI c] D := by
  have hM := hL.2.1
  refine T_aload_n dX6_weight_0 rfl ?_
  refine T_getR dX6_weight_1 flX6_12 rfl rfl ?_
  refine T_iload_n dX6_weight_4 rfl ?_
  refine T_cV_1 dX6_weight_5 lkX6_125 rfl (Nat.le_of_ble_eq_true rfl) (RO_r (by decide)) (Nat.le_of_ble_eq_true rfl) ?_
  refine c_hasChurch hc hM (fun h1 h2 => ?_) (fun h1 => ?_)
  · refine T_if_ne 13 dX6_weight_8 (by decide) (by unfold InR; decide) (fun _ => ?_) (fun h => absurd (by decide) h)
    refine T_aload_n dX6_weight_13 rfl ?_
    refine T_cV_0 dX6_weight_14 lkX6_158 rfl (Nat.le_of_ble_eq_true rfl) (RO_r (by decide)) (Nat.le_of_ble_eq_true rfl) ?_
    refine c_leastMiles hL hC (fun D1 kp e1 hN => ?_)
    obtain ⟨rr, f2, f3⟩ := now_facts kp hN
    refine T_bipush dX6_weight_17 (by decide) ?_
    refine T_icmp_ne 27 dX6_weight_19 (by decide) (by unfold InR; omega) (by first | (unfold InR; omega) | (simp [st2, InR]; omega)) (fun hc19 => ?_) (fun hc19 => ?_)
    · refine T_aload_n dX6_weight_27 rfl ?_
      refine T_getR dX6_weight_28 flX6_28 rfl rfl ?_
      refine T_getR dX6_weight_31 flX6_165 rfl rfl ?_
      refine T_iload_n dX6_weight_34 rfl ?_
      refine T_iald dX6_weight_35 rfl (by first | decide | omega) (by first | omega | (simp [st2]; omega)) (by first | omega | (simp [st2]; omega)) ?_
      refine T_iret dX6_weight_36 rfl ?_
      first
      | exact kU (by omega)
      | exact kN h1 h2 (by omega) D1 kp e1 hN
      | (have := ((f3 (by omega)).2.2.2 c.toNat (by omega)).2.2; rw [this]; exact kk h1 h2 (by omega) D1 kp e1 hN)
    · refine T_bipush dX6_weight_22 (by decide) ?_
      refine T_goto (tgt := 36) dX6_weight_24 (by decide) ?_
      refine T_iret dX6_weight_36 rfl ?_
      first
      | exact kU (by omega)
      | exact kN h1 h2 (by omega) D1 kp e1 hN
      | (have := ((f3 (by omega)).2.2.2 c.toNat (by omega)).2.2; rw [this]; exact kk h1 h2 (by omega) D1 kp e1 hN)
  · refine T_if_ne 13 dX6_weight_8 (by decide) (by unfold InR; decide) (fun h => absurd h (by decide)) (fun _ => ?_)
    refine T_iconst dX6_weight_11 ?_
    refine T_iret dX6_weight_12 rfl ?_
    first
    | exact kU (by omega)
    | exact kN h1 h2 (by omega) D1 kp e1 hN
    | (have := ((f3 (by omega)).2.2.2 c.toNat (by omega)).2.2; rw [this]; exact kk h1 h2 (by omega) D1 kp e1 hN)
theorem c_line {h : Int} (hL : LK D) (hC : CacheN D) (hh : InR h) (kU : ¬ (0 ≤ h ∧ h < D 1 8) → P (some (iI (-1))) SH D) (kN : 0 ≤ h → h < D 1 8 → mlC D = -9 → ∀ D' : DD, KpN D D' → D' 0 11 = D 1 11 → NowOK D' → P (some (iI (-9))) SH D') (kk : 0 ≤ h → h < D 1 8 → mlC D ≠ -9 → ∀ D' : DD, KpN D D' → D' 0 11 = D 1 11 → NowOK D' → P (some (iI (lnS (alC D h.toNat) (fun c => farC D h.toNat c + (mlC D - mpC D c)) 500000000 (D 1 9).toNat))) SH D') : TM g mX6_line (d + 5) P [.ref 0, iI h] D := by
  have hM := hL.1
  refine T_aload_n dX6_line_0 rfl ?_
  refine T_getR dX6_line_1 flX6_12 rfl rfl ?_
  refine T_iload_n dX6_line_4 rfl ?_
  refine T_cV_1 dX6_line_5 lkX6_112 rfl (Nat.le_of_ble_eq_true rfl) (RO_r (by decide)) (Nat.le_of_ble_eq_true rfl) ?_
  refine c_hasHome hh hM (fun h1 h2 => ?_) (fun h1 => ?_)
  · refine T_if_ne 13 dX6_line_8 (by decide) (by unfold InR; decide) (fun _ => ?_) (fun h => absurd (by decide) h)
    refine T_aload_n dX6_line_13 rfl ?_
    refine T_cV_0 dX6_line_14 lkX6_158 rfl (Nat.le_of_ble_eq_true rfl) (RO_r (by decide)) (Nat.le_of_ble_eq_true rfl) ?_
    refine c_leastMiles hL hC (fun D1 kp e1 hN => ?_)
    obtain ⟨rr, f2, f3⟩ := now_facts kp hN
    refine T_bipush dX6_line_17 (by decide) ?_
    refine T_icmp_ne 27 dX6_line_19 (by decide) (by unfold InR; omega) (by first | (unfold InR; omega) | (simp [st2, InR]; omega)) (fun hc19 => ?_) (fun hc19 => ?_)
    · refine T_aload_n dX6_line_27 rfl ?_
      refine T_getR dX6_line_28 flX6_28 rfl rfl ?_
      refine T_iload_n dX6_line_31 rfl ?_
      obtain ⟨hH, -, -, hw⟩ := f3 (by omega)
      obtain ⟨h, rfl⟩ : ∃ k : Nat, h = k := ⟨h.toNat, by omega⟩
      refine T_cV_1 dX6_line_32 lkX6_168 rfl (Nat.le_of_ble_eq_true rfl) (RO_r (by decide)) (Nat.le_of_ble_eq_true rfl) ?_
      refine c_lineOf SnAt16 hH.snk (by rw [hH.nH]; omega) (fun c hc => ?_) ?_
      · have := hw c (by rw [← hH.nC]; exact hc)
        exact ⟨this.1, this.2.1⟩
      rw [hH.nC, (ln_B (ok := alO D1 16 h) (ok' := alC D h) (v := fun c => fO D1 16 h c + D1 (16 + 10) c) (v' := fun c => farC D h c + (mlC D - mpC D c)) (B := 500000000) (B' := 500000000) (D 1 9).toNat (fun c hc => ⟨hH.alo (by omega) hc, fun q => by
        have q2 := (hH.alo (by omega) hc).mp q
        have z1 := (hH.2.2.2 h c (by omega) hc).1 q2
        have z2 := hw c hc
        show fO D1 16 h c + D1 26 c = farC D h c + (mlC D - mpC D c) ∧ fO D1 16 h c + D1 26 c < 500000000 ∧ fO D1 16 h c + D1 26 c < 500000000
        omega⟩)).1]
      refine T_iret dX6_line_35 rfl ?_
      first
      | exact kU (by omega)
      | exact kN h1 h2 (by omega) D1 kp e1 hN
      | (rw [Int.toNat_natCast] at kk; exact kk h1 h2 (by omega) D1 kp e1 hN)
    · refine T_bipush dX6_line_22 (by decide) ?_
      refine T_goto (tgt := 35) dX6_line_24 (by decide) ?_
      refine T_iret dX6_line_35 rfl ?_
      first
      | exact kU (by omega)
      | exact kN h1 h2 (by omega) D1 kp e1 hN
      | (rw [Int.toNat_natCast] at kk; exact kk h1 h2 (by omega) D1 kp e1 hN)
  · refine T_if_ne 13 dX6_line_8 (by decide) (by unfold InR; decide) (fun h => absurd h (by decide)) (fun _ => ?_)
    refine T_iconst dX6_line_11 ?_
    refine T_iret dX6_line_12 rfl ?_
    first
    | exact kU (by omega)
    | exact kN h1 h2 (by omega) D1 kp e1 hN
    | (rw [Int.toNat_natCast] at kk; exact kk h1 h2 (by omega) D1 kp e1 hN)
theorem c_leastChurch {x y : Int} (hL : LK D) (hx : 0 ≤ x ∧ x ≤ 60) (hy : 0 ≤ y ∧ y ≤ 60) (hw : ∀ c, c < (D 1 9).toNat → 0 ≤ D 26 c ∧ D 26 c ≤ 2000000) (hk : ∀ r, ArgM (D 1 9).toNat (fun _ => True) (fun c => farK (D 6 c) x y (D 7 c) (D 8 c) (D 1 10) + D 26 c) r → P (some (iI r)) SH D) : TM g mX6_leastChurch (d + 2) P [.ref 0, iI x, iI y] D := by
  have hM := hL.2.1
  have loop : ∀ (q c : Nat) (r l : Int) (m6 : Option Value), q + c = (D 1 9).toNat → ArgM c (fun _ => True) (fun c => farK (D 6 c) x y (D 7 c) (D 8 c) (D 1 10) + D 26 c) r → LsI (fun c => farK (D 6 c) x y (D 7 c) (D 8 c) (D 1 10) + D 26 c) 500000000 r l → l = 500000000 ∨ (0 ≤ l ∧ l ≤ 3000000) → T g mX6_leastChurch (rmd (d + 2) 0 0) 0 0 (Qm g (rmd (d + 2) 0 0) P) 10 [some (.ref 0), some (iI x), some (iI y), some (iI r), some (iI l), some (iI c), m6] [] SH D := by
    intro q
    induction q with
    | zero =>
      intro c r l m6 hq hA hl hb
      refine T_iload dX6_leastChurch_10 rfl ?_
      refine T_aload_n dX6_leastChurch_12 rfl ?_
      refine T_getR dX6_leastChurch_13 flX6_12 rfl rfl ?_
      refine T_getI dX6_leastChurch_16 flX6_88 rfl rfl ?_
      refine T_icmp_ge 66 dX6_leastChurch_19 (by decide) (by first | (unfold InR; omega) | (simp [st2, InR]; omega)) (by first | (unfold InR; omega) | (simp [st2, InR]; omega)) (fun hc19 => ?_) (fun hc19 => (by exfalso; omega))
      refine T_iload_n dX6_leastChurch_66 rfl ?_
      refine T_iret dX6_leastChurch_67 rfl ?_
      exact hk r (by rw [show (D 1 9).toNat = c by omega]; exact hA)
    | succ q ih =>
      intro c r l m6 hq hA hl hb
      have ec : (c : Int).toNat = c := Int.toNat_natCast c
      have b1 : 0 ≤ farK (D 6 c) x y (D 7 c) (D 8 c) (D 1 10) ∧ farK (D 6 c) x y (D 7 c) (D 8 c) (D 1 10) ≤ 7200 := farK_bd hx hy (hL.2.2.2.2.2.2.2.2.2.1 _) (hL.2.2.2.2.2.2.2.2.2.2.1 _) hL.2.2.1
      have b2 := hw c (by omega)
      have e1 : farK (D 6 (c : Int).toNat) x y (D 7 (c : Int).toNat) (D 8 (c : Int).toNat) (D 1 10) + D 26 (c : Int).toNat = farK (D 6 c) x y (D 7 c) (D 8 c) (D 1 10) + D 26 c := by rw [ec]
      refine T_iload dX6_leastChurch_10 rfl ?_
      refine T_aload_n dX6_leastChurch_12 rfl ?_
      refine T_getR dX6_leastChurch_13 flX6_12 rfl rfl ?_
      refine T_getI dX6_leastChurch_16 flX6_88 rfl rfl ?_
      refine T_icmp_ge 66 dX6_leastChurch_19 (by decide) (by first | (unfold InR; omega) | (simp [st2, InR]; omega)) (by first | (unfold InR; omega) | (simp [st2, InR]; omega)) (fun hc19 => (by exfalso; omega)) (fun hc19 => ?_)
      refine T_aload_n dX6_leastChurch_22 rfl ?_
      refine T_getR dX6_leastChurch_23 flX6_12 rfl rfl ?_
      refine T_iload dX6_leastChurch_26 rfl ?_
      refine T_iload_n dX6_leastChurch_28 rfl ?_
      refine T_iload_n dX6_leastChurch_29 rfl ?_
      refine T_cV_3 dX6_leastChurch_30 lkX6_155 rfl (Nat.le_of_ble_eq_true rfl) (RO_r (by decide)) (Nat.le_of_ble_eq_true rfl) ?_
      refine c_farTo hL (by omega) hx hy ?_
      refine T_aload_n dX6_leastChurch_33 rfl ?_
      refine T_getR dX6_leastChurch_34 flX6_28 rfl rfl ?_
      refine T_getR dX6_leastChurch_37 flX6_165 rfl rfl ?_
      refine T_iload dX6_leastChurch_40 rfl ?_
      refine T_iald dX6_leastChurch_42 rfl (by first | decide | omega) (by first | omega | (simp [st2]; omega)) (by first | omega | (simp [st2]; omega)) ?_
      refine T_iadd dX6_leastChurch_43 ?_
      refine T_istore dX6_leastChurch_44 (by decide) ?_
      refine T_iload dX6_leastChurch_46 rfl ?_
      refine T_iload dX6_leastChurch_48 rfl ?_
      rw [e1]
      refine T_icmp_ge 60 dX6_leastChurch_50 (by decide) (by unfold InR; omega) (by unfold InR; omega) (fun hc50 => ?_) (fun hc50 => ?_)
      · refine T_iinc dX6_leastChurch_60 rfl (by decide) ?_
        refine T_goto (tgt := 10) dX6_leastChurch_63 (by decide) ?_
        first
        | exact ih (c + 1) _ _ _ (by omega) (hA.ge hl (fun _ => ⟨by show _ < _; omega, by show _ ≤ _; omega⟩)) hl hb
        | (have z := hA.lt hl trivial (show farK (D 6 c) x y (D 7 c) (D 8 c) (D 1 10) + D 26 c < l by omega)
           exact ih (c + 1) _ _ _ (by omega) z.1 z.2 (by omega))
      · refine T_iload dX6_leastChurch_53 rfl ?_
        refine T_istore dX6_leastChurch_55 (by decide) ?_
        refine T_iload dX6_leastChurch_57 rfl ?_
        refine T_istore_n dX6_leastChurch_59 (by decide) ?_
        refine T_iinc dX6_leastChurch_60 rfl (by decide) ?_
        refine T_goto (tgt := 10) dX6_leastChurch_63 (by decide) ?_
        first
        | exact ih (c + 1) _ _ _ (by omega) (hA.ge hl (fun _ => ⟨by show _ < _; omega, by show _ ≤ _; omega⟩)) hl hb
        | (have z := hA.lt hl trivial (show farK (D 6 c) x y (D 7 c) (D 8 c) (D 1 10) + D 26 c < l by omega)
           exact ih (c + 1) _ _ _ (by omega) z.1 z.2 (by omega))
  refine T_bipush dX6_leastChurch_0 (by decide) ?_
  refine T_istore_n dX6_leastChurch_2 (by decide) ?_
  refine T_ldc (n := 500000000) dX6_leastChurch_3 tk_598 ?_
  refine T_istore dX6_leastChurch_5 (by decide) ?_
  refine T_iconst dX6_leastChurch_7 ?_
  refine T_istore dX6_leastChurch_8 (by decide) ?_
  exact loop (D 1 9).toNat 0 (-9) 500000000 none (by omega) ArgM.zero (Or.inl ⟨rfl, rfl⟩) (Or.inl rfl)
/-- FAR from a spot -/
def farX (D : DD) (x y : Int) (c : Nat) : Int := farK (D 6 c) x y (D 7 c) (D 8 c) (D 1 10)
theorem c_who {x y : Int} (hL : LK D) (hC : CacheN D) (hx : InR x) (hy : InR y) (kO : ¬ (0 ≤ x ∧ x ≤ 60 ∧ 0 ≤ y ∧ y ≤ 60) → P (some (iI (-2))) SH D) (kN : 0 ≤ x ∧ x ≤ 60 ∧ 0 ≤ y ∧ y ≤ 60 → mlC D = -9 → ∀ D' : DD, KpN D D' → D' 0 11 = D 1 11 → NowOK D' → P (some (iI (-3))) SH D') (kk : 0 ≤ x ∧ x ≤ 60 ∧ 0 ≤ y ∧ y ≤ 60 → mlC D ≠ -9 → ∀ (D' : DD) (r : Int), KpN D D' → D' 0 11 = D 1 11 → NowOK D' → ArgM (D 1 9).toNat (fun _ => True) (fun c => farX D x y c + (mlC D - mpC D c)) r → P (some (iI r)) SH D') : TM g mX6_who (d + 5) P [.ref 0, iI x, iI y] D := by
  refine T_iload_n dX6_who_0 rfl ?_
  refine T_iload_n dX6_who_1 rfl ?_
  refine T_cS_2 dX6_who_2 lkX6_73 (Nat.le_of_ble_eq_true rfl) (RO_r (by decide)) (Nat.le_of_ble_eq_true rfl) ?_
  refine c_isSpot hx hy (fun h1 h2 h3 h4 => ?_) (fun h1 => ?_)
  · refine T_if_ne 11 dX6_who_5 (by decide) (by unfold InR; decide) (fun _ => ?_) (fun h => absurd (by decide) h)
    refine T_aload_n dX6_who_11 rfl ?_
    refine T_cV_0 dX6_who_12 lkX6_158 rfl (Nat.le_of_ble_eq_true rfl) (RO_r (by decide)) (Nat.le_of_ble_eq_true rfl) ?_
    refine c_leastMiles hL hC (fun D1 kp e1 hN => ?_)
    obtain ⟨rr, f2, f3⟩ := now_facts kp hN
    refine T_bipush dX6_who_15 (by decide) ?_
    refine T_icmp_ne 23 dX6_who_17 (by decide) (by unfold InR; omega) (by first | (unfold InR; omega) | (simp [st2, InR]; omega)) (fun hc17 => ?_) (fun hc17 => ?_)
    · refine T_aload_n dX6_who_23 rfl ?_
      refine T_iload_n dX6_who_24 rfl ?_
      refine T_iload_n dX6_who_25 rfl ?_
      obtain ⟨hH, -, -, hw⟩ := f3 (by omega)
      have a1 : D1 1 = D 1 := kp.land 1 (by decide) (by decide)
      refine T_cV_2 dX6_who_26 lkX6_203 rfl (Nat.le_of_ble_eq_true rfl) (RO_r (by decide)) (Nat.le_of_ble_eq_true rfl) ?_
      refine c_leastChurch (LK_fr kp.land hL) ⟨h1, h2⟩ ⟨h3, h4⟩ (fun c hc => by rw [a1] at hc; exact ⟨(hw c hc).1, (hw c hc).2.1⟩) (fun r hA => ?_)
      rw [a1, kp.land 6 (by decide) (by decide), kp.land 7 (by decide) (by decide), kp.land 8 (by decide) (by decide)] at hA
      have hA2 : ArgM (D 1 9).toNat (fun _ => True) (fun c => farX D x y c + (mlC D - mpC D c)) r := hA.cong (fun c hc => ⟨Iff.rfl, fun _ => by
        show farX D x y c + D1 26 c = farX D x y c + (mlC D - mpC D c)
        rw [(hw c hc).2.2]⟩)
      refine T_iret dX6_who_29 rfl ?_
      first
      | exact kO (by omega)
      | exact kN ⟨h1, h2, h3, h4⟩ (by omega) D1 kp e1 hN
      | exact kk ⟨h1, h2, h3, h4⟩ (by omega) D1 r kp e1 hN hA2
    · refine T_bipush dX6_who_20 (by decide) ?_
      refine T_iret dX6_who_22 rfl ?_
      first
      | exact kO (by omega)
      | exact kN ⟨h1, h2, h3, h4⟩ (by omega) D1 kp e1 hN
      | exact kk ⟨h1, h2, h3, h4⟩ (by omega) D1 r kp e1 hN hA2
  · refine T_if_ne 11 dX6_who_5 (by decide) (by unfold InR; decide) (fun h => absurd h (by decide)) (fun _ => ?_)
    refine T_bipush dX6_who_8 (by decide) ?_
    refine T_iret dX6_who_10 rfl ?_
    first
    | exact kO (by omega)
    | exact kN ⟨h1, h2, h3, h4⟩ (by omega) D1 kp e1 hN
    | exact kk ⟨h1, h2, h3, h4⟩ (by omega) D1 r kp e1 hN hA2
end

