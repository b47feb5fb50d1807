/-! a sender: its object o (16 now, 27 trial), its rows o + 1 .. o + 10 -/
def SnAt (o : Nat) : Prop := SH[o]? = some (0, 3, [some (.ref (o + 1)), some (.ref (o + 2)), some (.ref (o + 3)), some (.ref (o + 4)), some (.ref (o + 5)), some (.ref (o + 6)), some (.ref (o + 7)), some (.ref (o + 8)), some (.ref (o + 9)), some (.ref (o + 10)), none, none]) ∧ SH[o + 1]? = some (1, 50, []) ∧ SH[o + 2]? = some (1, 50, []) ∧ SH[o + 3]? = some (1, 10, []) ∧ SH[o + 4]? = some (1, 5, []) ∧ SH[o + 5]? = some (1, 5, []) ∧ SH[o + 6]? = some (1, 25, []) ∧ SH[o + 7]? = some (1, 25, []) ∧ SH[o + 8]? = some (1, 5, []) ∧ SH[o + 9]? = some (1, 5, []) ∧ SH[o + 10]? = some (1, 5, []) ∧ 16 ≤ o
theorem SnAt16 : SnAt 16 := ⟨rfl, rfl, rfl, rfl, rfl, rfl, rfl, rfl, rfl, rfl, rfl, by decide⟩
theorem SnAt27 : SnAt 27 := ⟨rfl, rfl, rfl, rfl, rfl, rfl, rfl, rfl, rfl, rfl, rfl, by decide⟩
/-- nothing but the sender's rows has changed -/
def Fr (o : Nat) (D D1 : DD) : Prop := ∀ a, (a < o ∨ o + 10 < a) → D1 a = D a
theorem Fr.rf {o : Nat} {D : DD} : Fr o D D := fun _ _ => rfl
theorem Fr.tr {o : Nat} {D D1 D2 : DD} (h1 : Fr o D D1) (h2 : Fr o D1 D2) : Fr o D D2 := fun a h => (h2 a h).trans (h1 a h)
theorem Fr.st {o i j : Nat} {D D1 : DD} {v : Int} (h : Fr o D D1) (hi : o ≤ i ∧ i ≤ o + 10) : Fr o D (st2 D1 i j v) := fun a ha => by rw [st2_row (by omega)]; exact h a ha
theorem LK_fr {D D1 : DD} (h : ∀ a, 1 ≤ a → a ≤ 9 → D1 a = D a) (hL : LK D) : LK D1 := by
  unfold LK
  rw [h 1 (by decide) (by decide), h 2 (by decide) (by decide), h 3 (by decide) (by decide), h 4 (by decide) (by decide), h 5 (by decide) (by decide), h 6 (by decide) (by decide), h 7 (by decide) (by decide), h 8 (by decide) (by decide), h 9 (by decide) (by decide)]
  exact hL
noncomputable def farS (D : DD) (h c : Nat) (x y : Int) : Int := cif (bit (D 5 h) c) 500000000 (farK (D 6 c) (D 2 h) (D 3 h) x y (D 1 10))
section
variable {g : G0} {d : Nat} {P : Option Value → List SC → DD → Prop} {D : DD}
theorem c_putChurch {o c : Nat} {x y : Int} (hs : SnAt o) (hL : LK D) (ho : D o 10 = D 1 8) (hc : c < 5) (hx : 0 ≤ x ∧ x ≤ 60) (hy : 0 ≤ y ∧ y ≤ 60) (hk : ∀ D' : DD, (∀ a, a ≠ o + 1 → D' a = D a) → (∀ h, h < (D 1 8).toNat → D' (o + 1) (h * 5 + c) = farS D h c x y) → (∀ j, (∀ h, h < (D 1 8).toNat → j ≠ h * 5 + c) → D' (o + 1) j = D (o + 1) j) → P none SH D') : TM g mX3_putChurch (d + 1) P [.ref o, .ref 1, iI c, iI x, iI y] D := by
  obtain ⟨hS, hA0, hA1, hA2, hA3, hA4, hA5, hA6, hA7, hA8, hA9, ho16⟩ := hs
  have hN := hL.1
  have loop : ∀ (q h : Nat) (D1 : DD) (m6 : Option Value), q + h = (D 1 8).toNat → (∀ a, a ≠ o + 1 → D1 a = D a) → (∀ j, j < h → D1 (o + 1) (j * 5 + c) = farS D j c x y) → (∀ j, (∀ h', h' < h → j ≠ h' * 5 + c) → D1 (o + 1) j = D (o + 1) j) → T g mX3_putChurch (rmd (d + 1) 0 0) 0 0 (Qm g (rmd (d + 1) 0 0) P) 3 [some (.ref o), some (.ref 1), some (iI c), some (iI x), some (iI y), some (iI h), m6] [] SH D1 := by
    intro q
    induction q with
    | zero =>
      intro h D1 m6 hq q1 q2 q3
      have z1 : D1 o 10 = D 1 8 := by rw [q1 o (by omega)]; exact ho
      refine T_iload dX3_putChurch_3 rfl ?_
      refine T_aload_n dX3_putChurch_5 rfl ?_
      refine T_getI dX3_putChurch_6 flX3_48 hS rfl ?_
      refine T_icmp_ge 75 dX3_putChurch_9 (by decide) (by first | (unfold InR; omega) | (simp [st2, InR]; omega)) (by first | (unfold InR; omega) | (simp [st2, InR]; omega)) (fun hc9 => ?_) (fun hc9 => (by exfalso; omega))
      refine T_vret dX3_putChurch_75 rfl ?_
      exact hk D1 q1 (fun j hj => q2 j (by omega)) (fun j hj => q3 j (fun h' hh => hj h' (by omega)))
    | succ q ih =>
      intro h D1 m6 hq q1 q2 q3
      have z1 : D1 o 10 = D 1 8 := by rw [q1 o (by omega)]; exact ho
      have hL1 : LK D1 := LK_fr (fun a _ _ => q1 a (by omega)) hL
      have ec : (c : Int).toNat = c := Int.toNat_natCast c
      have eh : (h : Int).toNat = h := Int.toNat_natCast h
      have ix : ((h : Int) * 5 + c).toNat = h * 5 + c := by omega
      have e5 : D1 5 = D 5 := q1 5 (by omega)
      have fin : ∀ v : Int, v = farS D h c x y → T g mX3_putChurch (rmd (d + 1) 0 0) 0 0 (Qm g (rmd (d + 1) 0 0) P) 3 [some (.ref o), some (.ref 1), some (iI c), some (iI x), some (iI y), some (iI ((h + 1 : Nat) : Int)), some (iI (farK (D1 6 (c : Int).toNat) (D1 2 (h : Int).toNat) (D1 3 (h : Int).toNat) x y (D1 1 10)))] [] SH (st2 D1 (o + 1) ((h : Int) * 5 + c).toNat v) := by
        intro v hv
        refine ih (h + 1) _ _ (by omega) (fun a ha => by rw [st2_row ha]; exact q1 a ha) (fun j hj => ?_) (fun j hj => ?_)
        · rw [ix]
          by_cases e : j = h
          · subst e; rw [st2_at]; exact hv
          · rw [st2_ne (by omega)]; exact q2 j (by omega)
        · rw [ix, st2_ne (by have := hj h (by omega); omega)]
          exact q3 j (fun h' hh => hj h' (by omega))
      refine T_iload dX3_putChurch_3 rfl ?_
      refine T_aload_n dX3_putChurch_5 rfl ?_
      refine T_getI dX3_putChurch_6 flX3_48 hS rfl ?_
      refine T_icmp_ge 75 dX3_putChurch_9 (by decide) (by first | (unfold InR; omega) | (simp [st2, InR]; omega)) (by first | (unfold InR; omega) | (simp [st2, InR]; omega)) (fun hc9 => (by exfalso; omega)) (fun hc9 => ?_)
      refine T_aload_n dX3_putChurch_12 rfl ?_
      refine T_aload_n dX3_putChurch_13 rfl ?_
      refine T_getR dX3_putChurch_14 flX3_67 rfl rfl ?_
      refine T_iload_n dX3_putChurch_17 rfl ?_
      refine T_iald dX3_putChurch_18 rfl (by first | decide | omega) (by first | omega | (simp [st2]; omega)) (by first | omega | (simp [st2]; omega)) ?_
      refine T_aload_n dX3_putChurch_19 rfl ?_
      refine T_getR dX3_putChurch_20 flX3_70 rfl rfl ?_
      refine T_iload dX3_putChurch_23 rfl ?_
      refine T_iald dX3_putChurch_25 rfl (by first | decide | omega) (by first | omega | (simp [st2]; omega)) (by first | omega | (simp [st2]; omega)) ?_
      refine T_aload_n dX3_putChurch_26 rfl ?_
      refine T_getR dX3_putChurch_27 flX3_73 rfl rfl ?_
      refine T_iload dX3_putChurch_30 rfl ?_
      refine T_iald dX3_putChurch_32 rfl (by first | decide | omega) (by first | omega | (simp [st2]; omega)) (by first | omega | (simp [st2]; omega)) ?_
      refine T_iload_n dX3_putChurch_33 rfl ?_
      refine T_iload dX3_putChurch_34 rfl ?_
      refine T_cV_5 dX3_putChurch_36 lkX3_76 rfl (Nat.le_of_ble_eq_true rfl) (RO_r (by decide)) (Nat.le_of_ble_eq_true rfl) ?_
      refine c_farBetween hL1 (hL1.2.2.2.2.2.2.2.2.1 _) (hL1.2.2.2.2.1 _) (hL1.2.2.2.2.2.1 _) hx hy ?_
      refine T_istore dX3_putChurch_39 (by decide) ?_
      refine T_aload_n dX3_putChurch_41 rfl ?_
      refine T_getR dX3_putChurch_42 flX3_9 hS rfl ?_
      refine T_iload dX3_putChurch_45 rfl ?_
      refine T_iconst dX3_putChurch_47 ?_
      refine T_imul dX3_putChurch_48 ?_
      refine T_iload_n dX3_putChurch_49 rfl ?_
      refine T_iadd dX3_putChurch_50 ?_
      refine T_aload_n dX3_putChurch_51 rfl ?_
      refine T_iload dX3_putChurch_52 rfl ?_
      refine T_iload_n dX3_putChurch_54 rfl ?_
      refine T_cV_2 dX3_putChurch_55 lkX3_80 rfl (Nat.le_of_ble_eq_true rfl) (RO_r (by decide)) (Nat.le_of_ble_eq_true rfl) ?_
      refine c_isBarred ⟨by omega, by omega⟩ (fun h4 => ?_) (fun h4 => ?_) <;> rw [eh, e5] at h4
      · refine T_if_eq 66 dX3_putChurch_58 (by decide) (by unfold InR; decide) (fun h => absurd h (by decide)) (fun _ => ?_)
        refine T_ldc (n := 500000000) dX3_putChurch_61 tk_469 ?_
        refine T_goto (tgt := 68) dX3_putChurch_63 (by decide) ?_
        refine T_iast dX3_putChurch_68 hA0 (by first | decide | omega) (by first | omega | (simp [st2]; omega)) (by first | omega | (simp [st2]; omega)) ?_
        refine T_iinc dX3_putChurch_69 rfl (by decide) ?_
        refine T_goto (tgt := 3) dX3_putChurch_72 (by decide) ?_
        refine fin _ ?_
        unfold farS
        first | (rw [cif_pos h4]; done) | (rw [cif_neg h4, ec, eh, q1 6 (by omega), q1 2 (by omega), q1 3 (by omega), q1 1 (by omega)])
      · refine T_if_eq 66 dX3_putChurch_58 (by decide) (by unfold InR; decide) (fun _ => ?_) (fun h => absurd (by decide) h)
        refine T_iload dX3_putChurch_66 rfl ?_
        refine T_iast dX3_putChurch_68 hA0 (by first | decide | omega) (by first | omega | (simp [st2]; omega)) (by first | omega | (simp [st2]; omega)) ?_
        refine T_iinc dX3_putChurch_69 rfl (by decide) ?_
        refine T_goto (tgt := 3) dX3_putChurch_72 (by decide) ?_
        refine fin _ ?_
        unfold farS
        first | (rw [cif_pos h4]; done) | (rw [cif_neg h4, ec, eh, q1 6 (by omega), q1 2 (by omega), q1 3 (by omega), q1 1 (by omega)])
  refine T_iconst dX3_putChurch_0 ?_
  refine T_istore dX3_putChurch_1 (by decide) ?_
  exact loop (D 1 8).toNat 0 D none (by omega) (fun a _ => rfl) (fun j hj => by omega) (fun j _ => rfl)
/-- the sender holds the land -/
def Loaded (D D' : DD) (o : Nat) : Prop := D' o 10 = D 1 8 ∧ D' o 11 = D 1 9 ∧ (∀ h, h < (D 1 8).toNat → D' (o + 3) h = D 4 h) ∧ (∀ c, c < (D 1 9).toNat → D' (o + 4) c = D 9 c) ∧ ∀ h c, h < (D 1 8).toNat → c < (D 1 9).toNat → D' (o + 1) (h * 5 + c) = farS D h c (D 7 c) (D 8 c)
theorem c_load {o : Nat} (hs : SnAt o) (hL : LK D) (hk : ∀ D' : DD, Fr o D D' → Loaded D D' o → P none SH D') : TM g mX3_load (d + 2) P [.ref o, .ref 1] D := by
  have hs2 := hs
  obtain ⟨hS, hA0, hA1, hA2, hA3, hA4, hA5, hA6, hA7, hA8, hA9, ho16⟩ := hs
  have hN := hL.1
  have hM := hL.2.1
  have loop2 : ∀ (q c : Nat) (D1 : DD), q + c = (D 1 9).toNat → Fr o D D1 → D1 o 10 = D 1 8 → D1 o 11 = D 1 9 → (∀ h, h < (D 1 8).toNat → D1 (o + 3) h = D 4 h) → (∀ j, j < c → D1 (o + 4) j = D 9 j) → (∀ h j, h < (D 1 8).toNat → j < c → D1 (o + 1) (h * 5 + j) = farS D h j (D 7 j) (D 8 j)) → T g mX3_load (rmd (d + 2) 0 0) 0 0 (Qm g (rmd (d + 2) 0 0) P) 46 [some (.ref o), some (.ref 1), some (iI c)] [] SH D1 := by
    intro q
    induction q with
    | zero =>
      intro c D1 hq f z1 z2 z3 z4 z5
      refine T_iload_n dX3_load_46 rfl ?_
      refine T_aload_n dX3_load_47 rfl ?_
      refine T_getI dX3_load_48 flX3_52 hS rfl ?_
      refine T_icmp_ge 90 dX3_load_51 (by decide) (by first | (unfold InR; omega) | (simp [st2, InR]; omega)) (by first | (unfold InR; omega) | (simp [st2, InR]; omega)) (fun hc51 => ?_) (fun hc51 => (by exfalso; omega))
      refine T_vret dX3_load_90 rfl ?_
      exact hk D1 f ⟨z1, z2, z3, fun j hj => z4 j (by omega), fun h j hh hj => z5 h j hh (by omega)⟩
    | succ q ih =>
      intro c D1 hq f z1 z2 z3 z4 z5
      have ec : (c : Int).toNat = c := Int.toNat_natCast c
      have f2 : Fr o D (st2 D1 (o + 4) (c : Int).toNat (D1 9 (c : Int).toNat)) := f.st (by omega)
      have e7 : st2 D1 (o + 4) (c : Int).toNat (D1 9 (c : Int).toNat) 7 = D 7 := f2 7 (by omega)
      have e8 : st2 D1 (o + 4) (c : Int).toNat (D1 9 (c : Int).toNat) 8 = D 8 := f2 8 (by omega)
      have e9 : D1 9 = D 9 := f 9 (by omega)
      have eo : st2 D1 (o + 4) (c : Int).toNat (D1 9 (c : Int).toNat) o = D1 o := st2_row (by omega)
      have e1 : st2 D1 (o + 4) (c : Int).toNat (D1 9 (c : Int).toNat) 1 = D 1 := f2 1 (by omega)
      have hL2 : LK (st2 D1 (o + 4) (c : Int).toNat (D1 9 (c : Int).toNat)) := LK_fr (fun a _ _ => f2 a (by omega)) hL
      have eF : ∀ h x y, farS (st2 D1 (o + 4) (c : Int).toNat (D1 9 (c : Int).toNat)) h c x y = farS D h c x y := by
        intro h x y
        unfold farS
        rw [f2 5 (by omega), f2 6 (by omega), f2 2 (by omega), f2 3 (by omega), e1]
      refine T_iload_n dX3_load_46 rfl ?_
      refine T_aload_n dX3_load_47 rfl ?_
      refine T_getI dX3_load_48 flX3_52 hS rfl ?_
      refine T_icmp_ge 90 dX3_load_51 (by decide) (by first | (unfold InR; omega) | (simp [st2, InR]; omega)) (by first | (unfold InR; omega) | (simp [st2, InR]; omega)) (fun hc51 => (by exfalso; omega)) (fun hc51 => ?_)
      refine T_aload_n dX3_load_54 rfl ?_
      refine T_getR dX3_load_55 flX3_21 hS rfl ?_
      refine T_iload_n dX3_load_58 rfl ?_
      refine T_aload_n dX3_load_59 rfl ?_
      refine T_getR dX3_load_60 flX3_54 rfl rfl ?_
      refine T_iload_n dX3_load_63 rfl ?_
      refine T_iald dX3_load_64 rfl (by first | decide | omega) (by first | omega | (simp [st2]; omega)) (by first | omega | (simp [st2]; omega)) ?_
      refine T_iast dX3_load_65 hA3 (by first | decide | omega) (by first | omega | (simp [st2]; omega)) (by first | omega | (simp [st2]; omega)) ?_
      refine T_aload_n dX3_load_66 rfl ?_
      refine T_aload_n dX3_load_67 rfl ?_
      refine T_iload_n dX3_load_68 rfl ?_
      refine T_aload_n dX3_load_69 rfl ?_
      refine T_getR dX3_load_70 flX3_57 rfl rfl ?_
      refine T_iload_n dX3_load_73 rfl ?_
      refine T_iald dX3_load_74 rfl (by first | decide | omega) (by first | omega | (simp [st2]; omega)) (by first | omega | (simp [st2]; omega)) ?_
      refine T_aload_n dX3_load_75 rfl ?_
      refine T_getR dX3_load_76 flX3_60 rfl rfl ?_
      refine T_iload_n dX3_load_79 rfl ?_
      refine T_iald dX3_load_80 rfl (by first | decide | omega) (by first | omega | (simp [st2]; omega)) (by first | omega | (simp [st2]; omega)) ?_
      refine T_cV_4 dX3_load_81 lkX3_63 hS (Nat.le_of_ble_eq_true rfl) (RO_r (by decide)) (Nat.le_of_ble_eq_true rfl) ?_
      refine c_putChurch hs2 hL2 (by rw [eo, e1]; exact z1) (by omega) (by rw [e7]; exact hL.2.2.2.2.2.2.2.2.2.1 _) (by rw [e8]; exact hL.2.2.2.2.2.2.2.2.2.2.1 _) (fun D' p1 p2 p3 => ?_)
      rw [e1] at p2 p3
      refine T_iinc dX3_load_84 rfl (by decide) ?_
      refine T_goto (tgt := 46) dX3_load_87 (by decide) ?_
      refine ih (c + 1) D' (by omega) (fun a ha => by rw [p1 a (by omega)]; exact f2 a ha) (by rw [p1 o (by omega), eo]; exact z1) (by rw [p1 o (by omega), eo]; exact z2) (fun h hh => by rw [p1 (o + 3) (by omega), st2_row (by omega)]; exact z3 h hh) (fun j hj => ?_) (fun h j hh hj => ?_)
      · rw [p1 (o + 4) (by omega), ec]
        by_cases e : j = c
        · subst e; rw [st2_at, e9]
        · rw [st2_ne e]; exact z4 j (by omega)
      · by_cases e : j = c
        · subst e
          rw [p2 h hh, eF, e7, e8, ec]
        · rw [p3 _ (fun h' hh' q => by omega), st2_row (by omega)]
          exact z5 h j hh (by omega)
  have loop1 : ∀ (q h : Nat) (D1 : DD), q + h = (D 1 8).toNat → Fr o D D1 → D1 o 10 = D 1 8 → D1 o 11 = D 1 9 → (∀ j, j < h → D1 (o + 3) j = D 4 j) → T g mX3_load (rmd (d + 2) 0 0) 0 0 (Qm g (rmd (d + 2) 0 0) P) 18 [some (.ref o), some (.ref 1), some (iI h)] [] SH D1 := by
    intro q
    induction q with
    | zero =>
      intro h D1 hq f z1 z2 z3
      refine T_iload_n dX3_load_18 rfl ?_
      refine T_aload_n dX3_load_19 rfl ?_
      refine T_getI dX3_load_20 flX3_48 hS rfl ?_
      refine T_icmp_ge 44 dX3_load_23 (by decide) (by first | (unfold InR; omega) | (simp [st2, InR]; omega)) (by first | (unfold InR; omega) | (simp [st2, InR]; omega)) (fun hc23 => ?_) (fun hc23 => (by exfalso; omega))
      refine T_iconst dX3_load_44 ?_
      refine T_istore_n dX3_load_45 (by decide) ?_
      exact loop2 (D 1 9).toNat 0 D1 (by omega) f z1 z2 (fun j hj => z3 j (by omega)) (fun j hj => by omega) (fun h j _ hj => by omega)
    | succ q ih =>
      intro h D1 hq f z1 z2 z3
      have eh : (h : Int).toNat = h := Int.toNat_natCast h
      refine T_iload_n dX3_load_18 rfl ?_
      refine T_aload_n dX3_load_19 rfl ?_
      refine T_getI dX3_load_20 flX3_48 hS rfl ?_
      refine T_icmp_ge 44 dX3_load_23 (by decide) (by first | (unfold InR; omega) | (simp [st2, InR]; omega)) (by first | (unfold InR; omega) | (simp [st2, InR]; omega)) (fun hc23 => (by exfalso; omega)) (fun hc23 => ?_)
      refine T_aload_n dX3_load_26 rfl ?_
      refine T_getR dX3_load_27 flX3_18 hS rfl ?_
      refine T_iload_n dX3_load_30 rfl ?_
      refine T_aload_n dX3_load_31 rfl ?_
      refine T_getR dX3_load_32 flX3_53 rfl rfl ?_
      refine T_iload_n dX3_load_35 rfl ?_
      refine T_iald dX3_load_36 rfl (by first | decide | omega) (by first | omega | (simp [st2]; omega)) (by first | omega | (simp [st2]; omega)) ?_
      refine T_iast dX3_load_37 hA2 (by first | decide | omega) (by first | omega | (simp [st2]; omega)) (by first | omega | (simp [st2]; omega)) ?_
      refine T_iinc dX3_load_38 rfl (by decide) ?_
      refine T_goto (tgt := 18) dX3_load_41 (by decide) ?_
      refine ih (h + 1) _ (by omega) (f.st (by omega)) (by rw [st2_row (by omega)]; exact z1) (by rw [st2_row (by omega)]; exact z2) (fun j hj => ?_)
      rw [eh]
      by_cases e : j = h
      · subst e; rw [st2_at, f 4 (by omega)]
      · rw [st2_ne e]; exact z3 j (by omega)
  refine T_aload_n dX3_load_0 rfl ?_
  refine T_aload_n dX3_load_1 rfl ?_
  refine T_getI dX3_load_2 flX3_42 rfl rfl ?_
  refine T_putI dX3_load_5 flX3_48 hS rfl ?_
  refine T_aload_n dX3_load_8 rfl ?_
  refine T_aload_n dX3_load_9 rfl ?_
  refine T_getI dX3_load_10 flX3_49 rfl rfl ?_
  refine T_putI dX3_load_13 flX3_52 hS rfl ?_
  refine T_iconst dX3_load_16 ?_
  refine T_istore_n dX3_load_17 (by decide) ?_
  refine loop1 (D 1 8).toNat 0 _ (by omega) ((Fr.rf.st (by omega)).st (by omega)) ?_ ?_ (fun j hj => by omega)
  · rw [st2_ne (by decide), st2_at]
  · rw [st2_at, st2_row (by omega)]
end

