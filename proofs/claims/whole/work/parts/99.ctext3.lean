/-- the codes of n cells of a row from i on -/
def coS (row : Nat → Int) (i n : Nat) (p : Nat) : Int := if p < n then row (i + p) else -1
noncomputable def FT (co : Nat → Int) (m : Nat) : Int := if fT co m = -1 then (eT co m : Int) else fT co m
/-- the text is taken whole by m + 1 items -/
def TakenT (co : Nat → Int) (n m : Nat) : Prop := fT co m = -1 ∧ eT co m = n
/-- items before m stand in the class's rows -/
def ItsC (D : DD) (co : Nat → Int) (m : Nat) : Prop := ∀ t, t < m → ItC D t (kC (co (psT co t))) (xT co t) (yT co t) (nT co t)
section
variable {g : G0} {d : Nat} {P : Option Value → List SC → DD → Prop} {D : DD} {n : Nat} {co : Nat → Int}
theorem c_begin {b i : Nat} (hb : SH[b]? = some (1, 80, [])) (hb2 : b ≠ 10 ∧ b ≠ 15) (hin : i + n ≤ 80) (hI : ∀ j, InR (D b j)) (hk : ∀ D' : DD, (∀ r, r ≠ 10 → r ≠ 15 → D' r = D r) → TxK D' n (coS (D b) i n) → TS D' (-1) 0 → D' 10 7 = 0 → D' 10 8 = 0 → P none SH D') : TM g mX2_begin (d + 1) P [.ref 10, .ref b, iI i, iI n] D := by
  have en : (n : Int).toNat = n := Int.toNat_natCast n
  have ei : (i : Int).toNat = i := Int.toNat_natCast i
  refine T_aload_n dX2_begin_0 rfl ?_
  refine T_iload_n dX2_begin_1 rfl ?_
  refine T_aload_n dX2_begin_2 rfl ?_
  refine T_getR dX2_begin_3 flX2_24 rfl rfl ?_
  refine T_iconst dX2_begin_6 ?_
  refine T_iload_n dX2_begin_7 rfl ?_
  refine T_copy dX2_begin_8 lkX2_52 hb rfl (by decide) (by decide) (by omega) (by omega) (by omega) (by omega) (by omega) (Nat.le_of_ble_eq_true rfl) ⟨by show _ ≤ _; first | decide | (simp only [rmd]; omega) | omega, by show _ ≤ _; first | decide | (simp only [rmd]; omega) | omega⟩ ?_
  refine T_aload_n dX2_begin_11 rfl ?_
  refine T_iload_n dX2_begin_12 rfl ?_
  refine T_putI dX2_begin_13 flX2_43 rfl rfl ?_
  refine T_aload_n dX2_begin_16 rfl ?_
  refine T_iconst dX2_begin_17 ?_
  refine T_putI dX2_begin_18 flX2_39 rfl rfl ?_
  refine T_aload_n dX2_begin_21 rfl ?_
  refine T_iconst dX2_begin_22 ?_
  refine T_putI dX2_begin_23 flX2_58 rfl rfl ?_
  refine T_aload_n dX2_begin_26 rfl ?_
  refine T_iconst dX2_begin_27 ?_
  refine T_putI dX2_begin_28 flX2_61 rfl rfl ?_
  refine T_aload_n dX2_begin_31 rfl ?_
  refine T_iconst dX2_begin_32 ?_
  refine T_putZ dX2_begin_33 flX2_31 rfl rfl (by decide) ?_
  refine T_vret dX2_begin_36 rfl ?_
  rw [en, ei, show (0 : Int).toNat = 0 from rfl]
  generalize hD1 : cpD D b i 15 0 n = D1
  have q1 : ∀ r, r ≠ 15 → D1 r = D r := fun r e => by rw [← hD1]; exact cpD_row e
  have q2 : ∀ p, p < n → D1 15 p = D b (i + p) := fun p hp => by
    rw [← hD1]; unfold cpD
    rw [if_pos ⟨rfl, by omega, by omega⟩, Nat.sub_zero]
  refine hk _ (fun r a e => by rw [st2_row a, st2_row a, st2_row a, st2_row a, st2_row a]; exact q1 r e) ⟨?_, by omega, fun p hp => ?_, fun p hp => ?_, fun p => ?_⟩ ⟨?_, Or.inl ⟨rfl, st2_at⟩⟩ ?_ ?_
  · rw [st2_ne (by decide), st2_ne (by decide), st2_ne (by decide), st2_ne (by decide), st2_at]
  · rw [st2_row (by decide), st2_row (by decide), st2_row (by decide), st2_row (by decide), st2_row (by decide), q2 p hp]
    unfold coS; rw [if_pos hp]
  · unfold coS; rw [if_neg (by omega)]
  · unfold coS
    by_cases e : p < n
    · rw [if_pos e]; exact hI _
    · rw [if_neg e]; unfold InR; omega
  · rw [st2_ne (by decide), st2_ne (by decide), st2_ne (by decide), st2_at]; rfl
  · rw [st2_ne (by decide), st2_ne (by decide), st2_at]
  · rw [st2_ne (by decide), st2_at]
theorem c_readItems {b i : Nat} (hb : SH[b]? = some (1, 80, [])) (hb2 : 15 < b) (hin : i + n ≤ 80) (hI : ∀ j, InR (D b j)) (k1 : ∀ (D' : DD) (m : Nat), (∀ r, (r < 10 ∨ 15 < r) → D' r = D r) → EndT (coS (D b) i n) m → TakenT (coS (D b) i n) n m → m ≤ 11 → ItsC D' (coS (D b) i n) (m + 1) → P (some (iI ((m + 1 : Nat) : Int))) SH D') (k0 : ∀ (D' : DD) (m : Nat), (∀ r, (r < 10 ∨ 15 < r) → D' r = D r) → EndT (coS (D b) i n) m → ¬ TakenT (coS (D b) i n) n m → m ≤ 11 → D' 10 10 = FT (coS (D b) i n) m → P (some (iI (-1))) SH D') : TM g mX2_readItems (d + 4) P [.ref 10, .ref b, iI i, iI n] D := by
  have he : ∀ p, n ≤ p → coS (D b) i n p = -1 := fun p hp => by unfold coS; rw [if_neg (by omega)]
  generalize hco : coS (D b) i n = co at *
  have stop : ∀ (D1 : DD) (m : Nat) (F : Int) (q : Nat) (m' : Int), F ≠ -1 → TS D1 F q → (∀ r, (r < 10 ∨ 15 < r) → D1 r = D r) → EndT co m → ¬ TakenT co n m → m ≤ 11 → F = FT co m → (m' = (m : Int) + 1) → T g mX2_readItems (rmd (d + 4) 0 0) 0 0 (Qm g (rmd (d + 4) 0 0) P) 10 [some (.ref 10), some (.ref b), some (iI i), some (iI n), some (iI m')] [] SH D1 := by
    intro D1 m F q m' hF t1 fr hE hN hm hFT hm'
    subst hm'
    have rg := t1.rg
    have e10 : D1 10 10 = F := by
      rcases t1.2 with z | z
      · exact absurd z.1 hF
      · exact z.2.2
    refine T_iload dX2_readItems_10 rfl ?_
    refine T_bipush dX2_readItems_12 (by decide) ?_
    refine T_icmp_ge 87 dX2_readItems_14 (by decide) (by first | (unfold InR; omega) | (simp [st2, InR]; omega)) (by first | (unfold InR; omega) | (simp [st2, InR]; omega)) (fun hc14 => (by exfalso; omega)) (fun hc14 => ?_)
    refine T_aload_n dX2_readItems_17 rfl ?_
    refine T_getI dX2_readItems_18 flX2_31 rfl rfl ?_
    refine T_if_eq 87 dX2_readItems_21 (by decide) (by first | (unfold InR; omega) | (simp [st2, InR]; omega)) (fun hc21 => ?_) (fun hc21 => (by exfalso; omega))
    refine T_iconst dX2_readItems_87 ?_
    refine T_iret dX2_readItems_88 rfl ?_
    exact k0 D1 m fr hE hN hm (e10.trans hFT)
  have loop : ∀ (q m : Nat) (D1 : DD), q + m = 12 → (∀ r, (r < 10 ∨ 15 < r) → D1 r = D r) → TxK D1 n co → TS D1 (-1) (psT co m) → D1 10 7 = hcT co m → D1 10 8 = ((m - hcT co m : Nat) : Int) → (∀ j, j < m → GoT co j) → ItsC D1 co m → T g mX2_readItems (rmd (d + 4) 0 0) 0 0 (Qm g (rmd (d + 4) 0 0) P) 10 [some (.ref 10), some (.ref b), some (iI i), some (iI n), some (iI m)] [] SH D1 := by
    intro q
    induction q with
    | zero =>
      intro m D1 hq fr hK hT h7 h8 hG hI
      have := (go_le (n := n) (by omega) he hG).1
      omega
    | succ q ih =>
      intro m D1 hq fr hK hT h7 h8 hG hIt
      have gl := go_le (n := n) (by omega) he hG
      have hb' := hcT_bd (co := co) m (fun j hj => (hG j hj).1)
      have rg := hT.rg
      have hl := hcT_le co m
      have hle := itE_le co (psT co m)
      have mmm : ((m + 1 : Nat) : Int) = (m : Int) + 1 := by omega
      refine T_iload dX2_readItems_10 rfl ?_
      refine T_bipush dX2_readItems_12 (by decide) ?_
      refine T_icmp_ge 87 dX2_readItems_14 (by decide) (by first | (unfold InR; omega) | (simp [st2, InR]; omega)) (by first | (unfold InR; omega) | (simp [st2, InR]; omega)) (fun hc14 => (by exfalso; omega)) (fun hc14 => ?_)
      refine T_aload_n dX2_readItems_17 rfl ?_
      refine T_getI dX2_readItems_18 flX2_31 rfl rfl ?_
      refine T_if_eq 87 dX2_readItems_21 (by decide) (by first | (unfold InR; omega) | (simp [st2, InR]; omega)) (fun hc21 => (by exfalso; omega)) (fun hc21 => ?_)
      refine T_aload_n dX2_readItems_24 rfl ?_
      refine T_iload dX2_readItems_25 rfl ?_
      refine T_cV_1 dX2_readItems_27 lkX2_35 rfl (Nat.le_of_ble_eq_true rfl) (RO_r (by decide)) (Nat.le_of_ble_eq_true rfl) ?_
      refine c_readItem hK hT (by omega) (by omega) h7 h8 hb' (fun D2 f1 f2 f3 f4 f5 f6 t2 => ?_)
      have fr2 : ∀ r, (r < 10 ∨ 15 < r) → D2 r = D r := fun r hr => (f1 r (by omega)).trans (fr r hr)
      have hK2 : TxK D2 n co := hK.of f2 (f1 15 (by omega))
      have t2' : TS D2 (fT co m) (eT co m) := t2
      have rg2 := t2'.rg
      have g6 := t2'.1
      have g5 : D2 10 5 = n := hK2.1
      have hle2 : eT co m ≤ 89 := by unfold eT; omega
      have hIt2 : ItsC D2 co (m + 1) := fun t ht => by
        by_cases e : t = m
        · subst e; exact f3
        · have o := hIt t (by omega)
          have z := f4 t e
          exact ⟨z.1.trans o.1, z.2.1.trans o.2.1, z.2.2.1.trans o.2.2.1, z.2.2.2.trans o.2.2.2⟩
      refine T_aload_n dX2_readItems_30 rfl ?_
      refine T_getI dX2_readItems_31 flX2_31 rfl rfl ?_
      refine T_if_eq 53 dX2_readItems_34 (by decide) (by first | (unfold InR; omega) | (simp [st2, InR]; omega)) (fun hc34 => ?_) (fun hc34 => ?_)
      · refine T_aload_n dX2_readItems_53 rfl ?_
        refine T_getI dX2_readItems_54 flX2_31 rfl rfl ?_
        refine T_if_eq 75 dX2_readItems_57 (by decide) (by first | (unfold InR; omega) | (simp [st2, InR]; omega)) (fun hc57 => ?_) (fun hc57 => ?_)
        · refine T_aload_n dX2_readItems_75 rfl ?_
          refine T_bipush dX2_readItems_76 (by decide) ?_
          refine T_cV_1 dX2_readItems_78 lkX2_49 rfl (Nat.le_of_ble_eq_true rfl) (RO_r (by decide)) (Nat.le_of_ble_eq_true rfl) ?_
          refine c_takeCode hK2 t2' (by omega) (by first | (unfold InR; omega) | (simp [st2, InR]; omega)) (fun D3 fr3 t3 => ?_)
          have fr3' : ∀ r, (r < 10 ∨ 15 < r) → D3 r = D r := fun r hr => (fr3.1 r (by omega)).trans (fr2 r hr)
          have nt : ¬ TakenT co n m := fun z => by have := z.1; have := z.2; omega
          refine T_iinc dX2_readItems_81 rfl (by decide) ?_
          refine T_goto (tgt := 10) dX2_readItems_84 (by decide) ?_
          by_cases hF : fs (fT co m) (co (eT co m) = 59) (eT co m) = -1
          · have ok := fs_ok hF
            rw [hF] at t3
            rw [← mmm]
            refine ih (m + 1) D3 (by omega) fr3' (hK2.fr fr3) t3 ?_ ?_ (fun j hj => ?_) (fun t ht => ?_)
            · rw [fr3.2 7 (by decide) (by decide) (by decide), f5]
              show (hcT co m : Int) + (if kT co m = 3 then 1 else 0) = ((hcT co m + (if kT co m = 3 then 1 else 0) : Nat) : Int)
              split <;> omega
            · rw [fr3.2 8 (by decide) (by decide) (by decide), f6]
              show ((m - hcT co m : Nat) : Int) + (if kT co m = 3 then 0 else 1) = ((m + 1 - (hcT co m + (if kT co m = 3 then 1 else 0)) : Nat) : Int)
              split <;> omega
            · by_cases e : j = m
              · subst e; exact ok
              · exact hG j (by omega)
            · have o := hIt2 t ht
              unfold ItC at o ⊢
              rw [fr3.1 11 (by decide), fr3.1 12 (by decide), fr3.1 13 (by decide), fr3.1 14 (by decide)]
              exact o
          · refine stop D3 m _ _ _ hF t3 fr3' ⟨hG, fun z => hF ?_⟩ nt (by omega) ?_ rfl
            · rw [z.1]; exact fs_go z.2
            · unfold FT
              by_cases e : fT co m = -1
              · rw [if_pos e, e]
                refine fs_no (fun z => hF ?_)
                rw [e]; exact fs_go z
              · rw [if_neg e, fs_bad e]
        · refine T_iload dX2_readItems_60 rfl ?_
          refine T_bipush dX2_readItems_62 (by decide) ?_
          refine T_icmp_ne 75 dX2_readItems_64 (by decide) (by first | (unfold InR; omega) | (simp [st2, InR]; omega)) (by first | (unfold InR; omega) | (simp [st2, InR]; omega)) (fun hc64 => ?_) (fun hc64 => (by exfalso; omega))
          refine T_aload_n dX2_readItems_75 rfl ?_
          refine T_bipush dX2_readItems_76 (by decide) ?_
          refine T_cV_1 dX2_readItems_78 lkX2_49 rfl (Nat.le_of_ble_eq_true rfl) (RO_r (by decide)) (Nat.le_of_ble_eq_true rfl) ?_
          refine c_takeCode hK2 t2' (by omega) (by first | (unfold InR; omega) | (simp [st2, InR]; omega)) (fun D3 fr3 t3 => ?_)
          have fr3' : ∀ r, (r < 10 ∨ 15 < r) → D3 r = D r := fun r hr => (fr3.1 r (by omega)).trans (fr2 r hr)
          have nt : ¬ TakenT co n m := fun z => by have := z.1; have := z.2; omega
          refine T_iinc dX2_readItems_81 rfl (by decide) ?_
          refine T_goto (tgt := 10) dX2_readItems_84 (by decide) ?_
          by_cases hF : fs (fT co m) (co (eT co m) = 59) (eT co m) = -1
          · have ok := fs_ok hF
            rw [hF] at t3
            rw [← mmm]
            refine ih (m + 1) D3 (by omega) fr3' (hK2.fr fr3) t3 ?_ ?_ (fun j hj => ?_) (fun t ht => ?_)
            · rw [fr3.2 7 (by decide) (by decide) (by decide), f5]
              show (hcT co m : Int) + (if kT co m = 3 then 1 else 0) = ((hcT co m + (if kT co m = 3 then 1 else 0) : Nat) : Int)
              split <;> omega
            · rw [fr3.2 8 (by decide) (by decide) (by decide), f6]
              show ((m - hcT co m : Nat) : Int) + (if kT co m = 3 then 0 else 1) = ((m + 1 - (hcT co m + (if kT co m = 3 then 1 else 0)) : Nat) : Int)
              split <;> omega
            · by_cases e : j = m
              · subst e; exact ok
              · exact hG j (by omega)
            · have o := hIt2 t ht
              unfold ItC at o ⊢
              rw [fr3.1 11 (by decide), fr3.1 12 (by decide), fr3.1 13 (by decide), fr3.1 14 (by decide)]
              exact o
          · refine stop D3 m _ _ _ hF t3 fr3' ⟨hG, fun z => hF ?_⟩ nt (by omega) ?_ rfl
            · rw [z.1]; exact fs_go z.2
            · unfold FT
              by_cases e : fT co m = -1
              · rw [if_pos e, e]
                refine fs_no (fun z => hF ?_)
                rw [e]; exact fs_go z
              · rw [if_neg e, fs_bad e]
      · refine T_aload_n dX2_readItems_37 rfl ?_
        refine T_getI dX2_readItems_38 flX2_39 rfl rfl ?_
        refine T_aload_n dX2_readItems_41 rfl ?_
        refine T_getI dX2_readItems_42 flX2_43 rfl rfl ?_
        refine T_icmp_ne 53 dX2_readItems_45 (by decide) (by unfold InR; omega) (by unfold InR; omega) (fun hc45 => ?_) (fun hc45 => ?_)
        · refine T_aload_n dX2_readItems_53 rfl ?_
          refine T_getI dX2_readItems_54 flX2_31 rfl rfl ?_
          refine T_if_eq 75 dX2_readItems_57 (by decide) (by first | (unfold InR; omega) | (simp [st2, InR]; omega)) (fun hc57 => ?_) (fun hc57 => ?_)
          · refine T_aload_n dX2_readItems_75 rfl ?_
            refine T_bipush dX2_readItems_76 (by decide) ?_
            refine T_cV_1 dX2_readItems_78 lkX2_49 rfl (Nat.le_of_ble_eq_true rfl) (RO_r (by decide)) (Nat.le_of_ble_eq_true rfl) ?_
            refine c_takeCode hK2 t2' (by omega) (by first | (unfold InR; omega) | (simp [st2, InR]; omega)) (fun D3 fr3 t3 => ?_)
            have fr3' : ∀ r, (r < 10 ∨ 15 < r) → D3 r = D r := fun r hr => (fr3.1 r (by omega)).trans (fr2 r hr)
            have nt : ¬ TakenT co n m := fun z => by have := z.1; have := z.2; omega
            refine T_iinc dX2_readItems_81 rfl (by decide) ?_
            refine T_goto (tgt := 10) dX2_readItems_84 (by decide) ?_
            by_cases hF : fs (fT co m) (co (eT co m) = 59) (eT co m) = -1
            · have ok := fs_ok hF
              rw [hF] at t3
              rw [← mmm]
              refine ih (m + 1) D3 (by omega) fr3' (hK2.fr fr3) t3 ?_ ?_ (fun j hj => ?_) (fun t ht => ?_)
              · rw [fr3.2 7 (by decide) (by decide) (by decide), f5]
                show (hcT co m : Int) + (if kT co m = 3 then 1 else 0) = ((hcT co m + (if kT co m = 3 then 1 else 0) : Nat) : Int)
                split <;> omega
              · rw [fr3.2 8 (by decide) (by decide) (by decide), f6]
                show ((m - hcT co m : Nat) : Int) + (if kT co m = 3 then 0 else 1) = ((m + 1 - (hcT co m + (if kT co m = 3 then 1 else 0)) : Nat) : Int)
                split <;> omega
              · by_cases e : j = m
                · subst e; exact ok
                · exact hG j (by omega)
              · have o := hIt2 t ht
                unfold ItC at o ⊢
                rw [fr3.1 11 (by decide), fr3.1 12 (by decide), fr3.1 13 (by decide), fr3.1 14 (by decide)]
                exact o
            · refine stop D3 m _ _ _ hF t3 fr3' ⟨hG, fun z => hF ?_⟩ nt (by omega) ?_ rfl
              · rw [z.1]; exact fs_go z.2
              · unfold FT
                by_cases e : fT co m = -1
                · rw [if_pos e, e]
                  refine fs_no (fun z => hF ?_)
                  rw [e]; exact fs_go z
                · rw [if_neg e, fs_bad e]
          · refine T_iload dX2_readItems_60 rfl ?_
            refine T_bipush dX2_readItems_62 (by decide) ?_
            refine T_icmp_ne 75 dX2_readItems_64 (by decide) (by first | (unfold InR; omega) | (simp [st2, InR]; omega)) (by first | (unfold InR; omega) | (simp [st2, InR]; omega)) (fun hc64 => ?_) (fun hc64 => (by exfalso; omega))
            refine T_aload_n dX2_readItems_75 rfl ?_
            refine T_bipush dX2_readItems_76 (by decide) ?_
            refine T_cV_1 dX2_readItems_78 lkX2_49 rfl (Nat.le_of_ble_eq_true rfl) (RO_r (by decide)) (Nat.le_of_ble_eq_true rfl) ?_
            refine c_takeCode hK2 t2' (by omega) (by first | (unfold InR; omega) | (simp [st2, InR]; omega)) (fun D3 fr3 t3 => ?_)
            have fr3' : ∀ r, (r < 10 ∨ 15 < r) → D3 r = D r := fun r hr => (fr3.1 r (by omega)).trans (fr2 r hr)
            have nt : ¬ TakenT co n m := fun z => by have := z.1; have := z.2; omega
            refine T_iinc dX2_readItems_81 rfl (by decide) ?_
            refine T_goto (tgt := 10) dX2_readItems_84 (by decide) ?_
            by_cases hF : fs (fT co m) (co (eT co m) = 59) (eT co m) = -1
            · have ok := fs_ok hF
              rw [hF] at t3
              rw [← mmm]
              refine ih (m + 1) D3 (by omega) fr3' (hK2.fr fr3) t3 ?_ ?_ (fun j hj => ?_) (fun t ht => ?_)
              · rw [fr3.2 7 (by decide) (by decide) (by decide), f5]
                show (hcT co m : Int) + (if kT co m = 3 then 1 else 0) = ((hcT co m + (if kT co m = 3 then 1 else 0) : Nat) : Int)
                split <;> omega
              · rw [fr3.2 8 (by decide) (by decide) (by decide), f6]
                show ((m - hcT co m : Nat) : Int) + (if kT co m = 3 then 0 else 1) = ((m + 1 - (hcT co m + (if kT co m = 3 then 1 else 0)) : Nat) : Int)
                split <;> omega
              · by_cases e : j = m
                · subst e; exact ok
                · exact hG j (by omega)
              · have o := hIt2 t ht
                unfold ItC at o ⊢
                rw [fr3.1 11 (by decide), fr3.1 12 (by decide), fr3.1 13 (by decide), fr3.1 14 (by decide)]
                exact o
            · refine stop D3 m _ _ _ hF t3 fr3' ⟨hG, fun z => hF ?_⟩ nt (by omega) ?_ rfl
              · rw [z.1]; exact fs_go z.2
              · unfold FT
                by_cases e : fT co m = -1
                · rw [if_pos e, e]
                  refine fs_no (fun z => hF ?_)
                  rw [e]; exact fs_go z
                · rw [if_neg e, fs_bad e]
        · refine T_iload dX2_readItems_48 rfl ?_
          refine T_iconst dX2_readItems_50 ?_
          refine T_iadd dX2_readItems_51 ?_
          refine T_iret dX2_readItems_52 rfl ?_
          have hf : fT co m = -1 := by omega
          have hee : eT co m = n := by omega
          rw [← mmm]
          refine k1 D2 m fr2 ⟨hG, fun z => ?_⟩ ⟨hf, hee⟩ (by omega) hIt2
          have z2 := z.2
          rw [he (eT co m) (by omega)] at z2
          omega
  refine T_aload_n dX2_readItems_0 rfl ?_
  refine T_aload_n dX2_readItems_1 rfl ?_
  refine T_iload_n dX2_readItems_2 rfl ?_
  refine T_iload_n dX2_readItems_3 rfl ?_
  refine T_cV_3 dX2_readItems_4 lkX2_27 rfl (Nat.le_of_ble_eq_true rfl) (RO_r (by decide)) (Nat.le_of_ble_eq_true rfl) ?_
  refine c_begin hb (by omega) hin hI (fun D1 f1 hK1 t1 g7 g8 => ?_)
  rw [hco] at hK1
  refine T_iconst dX2_readItems_7 ?_
  refine T_istore dX2_readItems_8 (by decide) ?_
  exact loop 12 0 D1 (by omega) (fun r hr => f1 r (by omega) (by omega)) hK1 t1 g7 g8 (fun j hj => by omega) (fun t ht => by omega)
end

