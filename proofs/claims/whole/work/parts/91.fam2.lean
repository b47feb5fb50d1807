section
variable {g : G0} {d : Nat} {P : Option Value → List SC → DD → Prop} {D : DD}
theorem c_keep {H : Nat} {sum : Int} (hH : D 38 6 = H) (h7 : H ≤ 7) (hk : ∀ D' : DD, (∀ r, r ≠ 38 → r ≠ 44 → D' r = D r) → (∀ j, j ≠ 8 → D' 38 j = D 38 j) → D' 38 8 = sum → (∀ h, h < H → D' 44 h = D 43 h) → P none SH D') : TM g mX0_keep d P [.ref 38, iI sum] D := by
  have loop : ∀ (q h : Nat) (D1 : DD), q + h = H → (∀ r, r ≠ 38 → r ≠ 44 → D1 r = D r) → (∀ j, j ≠ 8 → D1 38 j = D 38 j) → D1 38 8 = sum → (∀ h', h' < h → D1 44 h' = D 43 h') → T g mX0_keep (rmd d 0 0) 0 0 (Qm g (rmd d 0 0) P) 7 [some (.ref 38), some (iI sum), some (iI h)] [] SH D1 := by
    intro q
    induction q with
    | zero =>
      intro h D1 hq r1 r2 r3 r4
      have z : D1 38 6 = H := (r2 6 (by decide)).trans hH
      refine T_iload_n dX0_keep_7 rfl ?_
      refine T_aload_n dX0_keep_8 rfl ?_
      refine T_getI dX0_keep_9 flX0_42 rfl rfl ?_
      refine T_icmp_ge 33 dX0_keep_12 (by decide) (by first | (unfold InR; omega) | (simp [st2, InR]; omega)) (by first | (unfold InR; omega) | (simp [st2, InR]; omega)) (fun hc12 => ?_) (fun hc12 => (by exfalso; omega))
      refine T_vret dX0_keep_33 rfl ?_
      exact hk D1 r1 r2 r3 (fun h' hh => r4 h' (by omega))
    | succ q ih =>
      intro h D1 hq r1 r2 r3 r4
      have z : D1 38 6 = H := (r2 6 (by decide)).trans hH
      have eh : (h : Int).toNat = h := Int.toNat_natCast h
      refine T_iload_n dX0_keep_7 rfl ?_
      refine T_aload_n dX0_keep_8 rfl ?_
      refine T_getI dX0_keep_9 flX0_42 rfl rfl ?_
      refine T_icmp_ge 33 dX0_keep_12 (by decide) (by first | (unfold InR; omega) | (simp [st2, InR]; omega)) (by first | (unfold InR; omega) | (simp [st2, InR]; omega)) (fun hc12 => (by exfalso; omega)) (fun hc12 => ?_)
      refine T_aload_n dX0_keep_15 rfl ?_
      refine T_getR dX0_keep_16 flX0_27 rfl rfl ?_
      refine T_iload_n dX0_keep_19 rfl ?_
      refine T_aload_n dX0_keep_20 rfl ?_
      refine T_getR dX0_keep_21 flX0_24 rfl rfl ?_
      refine T_iload_n dX0_keep_24 rfl ?_
      refine T_iald dX0_keep_25 rfl (by first | decide | omega) (by first | omega | (simp [st2]; omega)) (by first | omega | (simp [st2]; omega)) ?_
      refine T_iast dX0_keep_26 rfl (by first | decide | omega) (by first | omega | (simp [st2]; omega)) (by first | omega | (simp [st2]; omega)) ?_
      refine T_iinc dX0_keep_27 rfl (by decide) ?_
      refine T_goto (tgt := 7) dX0_keep_30 (by decide) ?_
      rw [eh]
      refine ih (h + 1) _ (by omega) (fun r e1 e2 => by rw [st2_row e2]; exact r1 r e1 e2) (fun j e => by rw [st2_row (by decide)]; exact r2 j e) (by rw [st2_row (by decide)]; exact r3) (fun h' hh => ?_)
      by_cases e : h' = h
      · subst e; rw [st2_at, r1 43 (by decide) (by decide)]
      · rw [st2_ne e]; exact r4 h' (by omega)
  refine T_aload_n dX0_keep_0 rfl ?_
  refine T_iload_n dX0_keep_1 rfl ?_
  refine T_putI dX0_keep_2 flX0_56 rfl rfl ?_
  refine T_iconst dX0_keep_5 ?_
  refine T_istore_n dX0_keep_6 (by decide) ?_
  exact loop H 0 _ (by omega) (fun r e1 e2 => st2_row e1) (fun j e => st2_ne e) st2_at (fun h' hh => by omega)
theorem c_tryHome {C H : Nat} {al : Nat → Nat → Prop} {se hd : Nat → Int} {ct : Nat → Nat → Int} (hH : H ≤ 7) (hC : C ≤ 5) (b1 : ∀ h, 0 ≤ hd h ∧ hd h ≤ 5) (b2 : ∀ h c, 0 ≤ ct h c ∧ ct h c ≤ 7200) (b3 : ∀ c, 0 ≤ se c ∧ se c ≤ 50) : ∀ (k h q : Nat) (sum : Int) (D : DD) (P : Option Value → List SC → DD → Prop), h + k = H → FmK D C H al hd ct → PreI D C al se hd ct h q sum → FamI D C H al se hd ct (q * C ^ k) → (0 ≤ D 38 8 ∧ D 38 8 ≤ 500000000) → (∀ D' : DD, FrF C h D D' → FamI D' C H al se hd ct ((q + 1) * C ^ k) → (0 ≤ D' 38 8 ∧ D' 38 8 ≤ 500000000) → P none SH D') → TM g mX0_tryHome (d + k + 1) P [.ref 38, iI h, iI sum] D := by
  intro k
  have smb : ∀ (h : Nat) (s : Nat → Nat), h ≤ 7 → 0 ≤ csG hd ct h s ∧ csG hd ct h s ≤ 252000 := fun h s hh => by
    have := csG_bd b1 b2 h s
    have : (h : Int) * 36000 ≤ 252000 := by omega
    omega
  have lvb : ∀ (h c : Nat) (s : Nat → Nat), h ≤ 7 → -35 ≤ lvG se hd s h c ∧ lvG se hd s h c ≤ 50 := fun h c s hh => by
    have z := sm_bd (f := fun h' => if s h' = c then hd h' else 0) (a := 0) (b := 5) h (fun j _ => by
      have := b1 j
      show 0 ≤ (if s j = c then hd j else 0) ∧ (if s j = c then hd j else 0) ≤ 5
      split <;> omega)
    have := b3 c
    unfold lvG
    omega
  induction k with
  | zero =>
    intro h q sum D P hhk hK hP hF hb8 hk
    obtain rfl : h = H := by omega
    have a0 := hK.2.2.2.2.2
    have a6 := hK.1
    have eh : (h : Int).toNat = h := Int.toNat_natCast h
    have e42 : D 42 (h : Int).toNat = 0 := by rw [eh]; exact a0
    have bs := smb h (dg C h q) hH
    rw [← hP.1] at bs
    rw [Nat.pow_zero, Nat.mul_one] at hF hk
    refine T_iload_n dX0_tryHome_0 rfl ?_
    refine T_aload_n dX0_tryHome_1 rfl ?_
    refine T_getR dX0_tryHome_2 flX0_21 rfl rfl ?_
    refine T_iload_n dX0_tryHome_5 rfl ?_
    refine T_iald dX0_tryHome_6 rfl (by first | decide | omega) (by first | omega | (simp [st2]; omega)) (by first | omega | (simp [st2]; omega)) ?_
    refine T_iadd dX0_tryHome_7 ?_
    refine T_aload_n dX0_tryHome_8 rfl ?_
    refine T_getI dX0_tryHome_9 flX0_56 rfl rfl ?_
    rw [e42, Int.add_zero]
    refine T_icmp_lt 16 dX0_tryHome_12 (by decide) (by unfold InR; omega) (by unfold InR; omega) (fun hc12 => ?_) (fun hc12 => ?_)
    · refine T_iload_n dX0_tryHome_16 rfl ?_
      refine T_aload_n dX0_tryHome_17 rfl ?_
      refine T_getI dX0_tryHome_18 flX0_42 rfl rfl ?_
      refine T_icmp_lt 30 dX0_tryHome_21 (by decide) (by first | (unfold InR; omega) | (simp [st2, InR]; omega)) (by first | (unfold InR; omega) | (simp [st2, InR]; omega)) (fun hc21 => (by exfalso; omega)) (fun hc21 => ?_)
      refine T_aload_n dX0_tryHome_24 rfl ?_
      refine T_iload_n dX0_tryHome_25 rfl ?_
      refine T_cV_1 dX0_tryHome_26 lkX0_77 rfl (Nat.le_of_ble_eq_true rfl) (RO_r (by decide)) (Nat.le_of_ble_eq_true rfl) ?_
      refine c_keep (H := h) a6 hH (fun D' f1 f2 f3 f4 => ?_)
      refine T_vret dX0_tryHome_29 rfl ?_
      first
      | exact hk D FrF.rf (by have z := FamI.prune (k := 0) (by rw [Nat.pow_zero, Nat.mul_one]; exact hF) hhk hK hP b1 b2 hH (by rw [a0]; omega); rw [Nat.pow_zero, Nat.mul_one] at z; exact z) hb8
      | exact hk D' ⟨fun r e1 e2 e3 e4 => f1 r e1 e4, f2, fun c _ => by rw [f1 41 (by decide) (by decide)], fun h' _ => by rw [f1 43 (by decide) (by decide)]⟩ (hF.keep hP (by omega) f3 f4) (by omega)
    · refine T_vret dX0_tryHome_15 rfl ?_
      first
      | exact hk D FrF.rf (by have z := FamI.prune (k := 0) (by rw [Nat.pow_zero, Nat.mul_one]; exact hF) hhk hK hP b1 b2 hH (by rw [a0]; omega); rw [Nat.pow_zero, Nat.mul_one] at z; exact z) hb8
      | exact hk D' ⟨fun r e1 e2 e3 e4 => f1 r e1 e4, f2, fun c _ => by rw [f1 41 (by decide) (by decide)], fun h' _ => by rw [f1 43 (by decide) (by decide)]⟩ (hF.keep hP (by omega) f3 f4) (by omega)
  | succ k ihk =>
    intro h q sum D P hhk hK hP hF hb8 hk
    have a6 := hK.1
    have a7 := hK.2.1
    have eh : (h : Int).toNat = h := Int.toNat_natCast h
    have a42 := (hK.2.2.2.2.1 h (by omega)).1
    have e42 : D 42 (h : Int).toNat = D 42 h := by rw [eh]
    have bs := smb h (dg C h q) (by omega)
    rw [← hP.1] at bs
    have bh := b1 h
    have e40 : D 40 h = hd h := hK.2.2.1 h (by omega)
    have loop : ∀ (n c : Nat) (D1 : DD) (m4 : Option Value), n + c = C → FrF C h D D1 → FamI D1 C H al se hd ct ((q * C + c) * C ^ k) → (0 ≤ D1 38 8 ∧ D1 38 8 ≤ 500000000) → T g mX0_tryHome (rmd (d + (k + 1) + 1) 0 0) 0 0 (Qm g (rmd (d + (k + 1) + 1) 0 0) P) 32 [some (.ref 38), some (iI h), some (iI sum), some (iI c), m4] [] SH D1 := by
      intro n
      induction n with
      | zero =>
        intro c D1 m4 hn fr hF1 hb1
        obtain rfl : c = C := by omega
        have z7 : D1 38 7 = c := (fr.2.1 7 (by decide)).trans a7
        have e : (q * c + c) * c ^ k = (q + 1) * c ^ (k + 1) := by rw [Nat.pow_succ, ← Nat.succ_mul, Nat.mul_assoc, Nat.mul_comm c]
        rw [e] at hF1
        refine T_iload_n dX0_tryHome_32 rfl ?_
        refine T_aload_n dX0_tryHome_33 rfl ?_
        refine T_getI dX0_tryHome_34 flX0_46 rfl rfl ?_
        refine T_icmp_ge 128 dX0_tryHome_37 (by decide) (by first | (unfold InR; omega) | (simp [st2, InR]; omega)) (by first | (unfold InR; omega) | (simp [st2, InR]; omega)) (fun hc37 => ?_) (fun hc37 => (by exfalso; omega))
        refine T_vret dX0_tryHome_128 rfl ?_
        exact hk D1 fr hF1 hb1
      | succ n ih =>
        intro c D1 m4 hn fr hF1 hb1
        have hc : c < C := by omega
        have z7 : D1 38 7 = C := (fr.2.1 7 (by decide)).trans a7
        have hK1 : FmK D1 C H al hd ct := hK.of fr
        have hP1 := hP.of fr
        have ec : (c : Int).toNat = c := Int.toNat_natCast c
        have ix : ((h : Int) * 5 + c).toNat = h * 5 + c := by omega
        have e39 : D1 39 ((h : Int) * 5 + c).toNat = D 39 (h * 5 + c) := by rw [ix, fr.1 39 (by decide) (by decide) (by decide) (by decide)]
        have e40' : D1 40 (h : Int).toNat = hd h := by rw [eh, fr.1 40 (by decide) (by decide) (by decide) (by decide)]; exact e40
        have e41 : D1 41 (c : Int).toNat = D1 41 c := by rw [ec]
        have bl := lvb h c (dg C h q) (by omega)
        rw [← hP1.2.2.1 c hc] at bl
        obtain ⟨c1, c2⟩ := hK.2.2.2.1 h c (by omega) hc
        have bc := b2 h c
        have bm : 0 ≤ hd h * ct h c ∧ hd h * ct h c ≤ 36000 := ⟨Int.mul_nonneg bh.1 bc.1, Int.le_trans (Int.mul_le_mul bh.2 bc.2 bc.1 (by decide)) (by decide)⟩
        have b39 : D 39 (h * 5 + c) = 500000000 ∨ (0 ≤ D 39 (h * 5 + c) ∧ D 39 (h * 5 + c) ≤ 36000) := by
          by_cases z : al h c
          · rw [c1 z]; exact Or.inr bm
          · exact Or.inl (c2 z)
        have shut := fun hn (m4 : Option Value) => ih (c + 1) D1 m4 (by omega) fr (hF1.shut (by omega) hP1 hc hn) hb1
        refine T_iload_n dX0_tryHome_32 rfl ?_
        refine T_aload_n dX0_tryHome_33 rfl ?_
        refine T_getI dX0_tryHome_34 flX0_46 rfl rfl ?_
        refine T_icmp_ge 128 dX0_tryHome_37 (by decide) (by first | (unfold InR; omega) | (simp [st2, InR]; omega)) (by first | (unfold InR; omega) | (simp [st2, InR]; omega)) (fun hc37 => (by exfalso; omega)) (fun hc37 => ?_)
        refine T_aload_n dX0_tryHome_40 rfl ?_
        refine T_getR dX0_tryHome_41 flX0_9 rfl rfl ?_
        refine T_iload_n dX0_tryHome_44 rfl ?_
        refine T_iconst dX0_tryHome_45 ?_
        refine T_imul dX0_tryHome_46 ?_
        refine T_iload_n dX0_tryHome_47 rfl ?_
        refine T_iadd dX0_tryHome_48 ?_
        refine T_iald dX0_tryHome_49 rfl (by first | decide | omega) (by first | omega | (simp [st2]; omega)) (by first | omega | (simp [st2]; omega)) ?_
        refine T_istore dX0_tryHome_50 (by decide) ?_
        refine T_iload dX0_tryHome_52 rfl ?_
        refine T_ldc (n := 500000000) dX0_tryHome_54 tk_583 ?_
        refine T_icmp_ge 122 dX0_tryHome_56 (by decide) (by rw [e39]; unfold InR; omega) (by first | (unfold InR; omega) | (simp [st2, InR]; omega)) (fun hc56 => ?_) (fun hc56 => ?_)
        · rw [e39] at hc56
          have nal : ¬ al h c := fun z => by have := c1 z; omega
          refine T_iinc dX0_tryHome_122 rfl (by decide) ?_
          refine T_goto (tgt := 32) dX0_tryHome_125 (by decide) ?_
          first
          | exact shut (Or.inl nal) _
          | exact shut (Or.inr (by omega)) _
          | (rw [ec]
             refine ih (c + 1) _ _ (by omega) ⟨fun r e1 e2 e3 e4 => ?_, fun j e => ?_, fun c' hc' => ?_, fun h' hh => ?_⟩ hF3 hb3
             · rw [st2_row e2, f3.1 r e1 e2 e3 e4, st2_row e2, st2_row e3]; exact fr.1 r e1 e2 e3 e4
             · rw [st2_row (by decide), f3.2.1 j e, st2_row (by decide), st2_row (by decide)]; exact fr.2.1 j e
             · by_cases e : c' = c
               · subst e; rw [st2_at, ← fr.2.2.1 c' hc']; omega
               · rw [st2_ne e, f3.2.2.1 c' hc', st2_ne e, st2_row (by decide)]; exact fr.2.2.1 c' hc'
             · rw [st2_row (by decide), f3.2.2.2 h' (by omega), st2_row (by decide), st2_ne (by omega)]; exact fr.2.2.2 h' hh)
        · rw [e39] at hc56
          have yal : al h c := Classical.byContradiction fun z => by have := c2 z; omega
          have e39b := c1 yal
          refine T_aload_n dX0_tryHome_59 rfl ?_
          refine T_getR dX0_tryHome_60 flX0_15 rfl rfl ?_
          refine T_iload_n dX0_tryHome_63 rfl ?_
          refine T_iald dX0_tryHome_64 rfl (by first | decide | omega) (by first | omega | (simp [st2]; omega)) (by first | omega | (simp [st2]; omega)) ?_
          refine T_aload_n dX0_tryHome_65 rfl ?_
          refine T_getR dX0_tryHome_66 flX0_18 rfl rfl ?_
          refine T_iload_n dX0_tryHome_69 rfl ?_
          refine T_iald dX0_tryHome_70 rfl (by first | decide | omega) (by first | omega | (simp [st2]; omega)) (by first | omega | (simp [st2]; omega)) ?_
          refine T_icmp_gt 122 dX0_tryHome_71 (by decide) (by rw [e40']; unfold InR; omega) (by rw [e41]; unfold InR; omega) (fun hc71 => ?_) (fun hc71 => ?_)
          · rw [e40', e41] at hc71
            refine T_iinc dX0_tryHome_122 rfl (by decide) ?_
            refine T_goto (tgt := 32) dX0_tryHome_125 (by decide) ?_
            first
            | exact shut (Or.inl nal) _
            | exact shut (Or.inr (by omega)) _
            | (rw [ec]
               refine ih (c + 1) _ _ (by omega) ⟨fun r e1 e2 e3 e4 => ?_, fun j e => ?_, fun c' hc' => ?_, fun h' hh => ?_⟩ hF3 hb3
               · rw [st2_row e2, f3.1 r e1 e2 e3 e4, st2_row e2, st2_row e3]; exact fr.1 r e1 e2 e3 e4
               · rw [st2_row (by decide), f3.2.1 j e, st2_row (by decide), st2_row (by decide)]; exact fr.2.1 j e
               · by_cases e : c' = c
                 · subst e; rw [st2_at, ← fr.2.2.1 c' hc']; omega
                 · rw [st2_ne e, f3.2.2.1 c' hc', st2_ne e, st2_row (by decide)]; exact fr.2.2.1 c' hc'
               · rw [st2_row (by decide), f3.2.2.2 h' (by omega), st2_row (by decide), st2_ne (by omega)]; exact fr.2.2.2 h' hh)
          · rw [e40', e41] at hc71
            refine T_aload_n dX0_tryHome_74 rfl ?_
            refine T_getR dX0_tryHome_75 flX0_24 rfl rfl ?_
            refine T_iload_n dX0_tryHome_78 rfl ?_
            refine T_iload_n dX0_tryHome_79 rfl ?_
            refine T_iast dX0_tryHome_80 rfl (by first | decide | omega) (by first | omega | (simp [st2]; omega)) (by first | omega | (simp [st2]; omega)) ?_
            rw [eh]
            refine T_aload_n dX0_tryHome_81 rfl ?_
            refine T_getR dX0_tryHome_82 flX0_18 rfl rfl ?_
            refine T_iload_n dX0_tryHome_85 rfl ?_
            refine T_dup2 dX0_tryHome_86 rfl rfl ?_
            refine T_iald dX0_tryHome_87 rfl (by first | decide | omega) (by first | omega | (simp [st2]; omega)) (by first | omega | (simp [st2]; omega)) ?_
            refine T_aload_n dX0_tryHome_88 rfl ?_
            refine T_getR dX0_tryHome_89 flX0_15 rfl rfl ?_
            refine T_iload_n dX0_tryHome_92 rfl ?_
            refine T_iald dX0_tryHome_93 rfl (by first | decide | omega) (by first | omega | (simp [st2]; omega)) (by first | omega | (simp [st2]; omega)) ?_
            rw [st2_row (show (41 : Nat) ≠ 43 by decide), e41, st2_row (show (40 : Nat) ≠ 43 by decide), e40']
            refine T_isub dX0_tryHome_94 ?_
            refine T_iast dX0_tryHome_95 rfl (by first | decide | omega) (by first | omega | (simp [st2]; omega)) (by first | omega | (simp [st2]; omega)) ?_
            rw [ec]
            refine T_aload_n dX0_tryHome_96 rfl ?_
            refine T_iload_n dX0_tryHome_97 rfl ?_
            refine T_iconst dX0_tryHome_98 ?_
            refine T_iadd dX0_tryHome_99 ?_
            refine T_iload_n dX0_tryHome_100 rfl ?_
            refine T_iload dX0_tryHome_101 rfl ?_
            refine T_iadd dX0_tryHome_103 ?_
            rw [e39, e39b]
            have hP2 : PreI (st2 (st2 D1 43 h c) 41 c (D1 41 c - hd h)) C al se hd ct (h + 1) (q * C + c) (sum + hd h * ct h c) := by
              have p : ∀ h', h' < h → dg C h q h' = dg C (h + 1) (q * C + c) h' := fun h' hh => (dg_child hc hh).symm
              refine ⟨?_, fun h' hh => ?_, fun c' hc' => ?_, fun h' hh => ?_⟩
              · show _ = csG hd ct h (dg C (h + 1) (q * C + c)) + hd h * ct h (dg C (h + 1) (q * C + c) h)
                rw [← csG_cong p, ← hP.1, dg_last hc]
              · rw [st2_row (by decide)]
                by_cases e : h' = h
                · subst e; rw [st2_at, dg_last hc]
                · rw [st2_ne e, ← p h' (by omega)]; exact hP1.2.1 h' (by omega)
              · have l : lvG se hd (dg C (h + 1) (q * C + c)) (h + 1) c' = lvG se hd (dg C h q) h c' - (if c = c' then hd h else 0) := by
                  rw [lvG_cong p]
                  unfold lvG
                  simp only [sm]
                  rw [dg_last hc]
                  omega
                rw [l, ← hP1.2.2.1 c' hc']
                by_cases e : c' = c
                · subst e; rw [st2_at, if_pos rfl]
                · rw [st2_ne e, if_neg (Ne.symm e), st2_row (by decide)]; omega
              · by_cases e : h' = h
                · subst e
                  rw [dg_last hc, ← lvG_cong p, ← hP1.2.2.1 c hc]
                  exact ⟨hc, yal, by omega⟩
                · have o := hP1.2.2.2 h' (by omega)
                  rw [← lvG_cong (fun h'' hh' => p h'' (by omega)), ← p h' (by omega)]
                  exact o
            have hK2 : FmK (st2 (st2 D1 43 h c) 41 c (D1 41 c - hd h)) C H al hd ct := hK1
            have hF2 : FamI (st2 (st2 D1 43 h c) 41 c (D1 41 c - hd h)) C H al se hd ct ((q * C + c) * C ^ k) := hF1
            refine T_cV_2 dX0_tryHome_104 lkX0_59 rfl (Nat.le_of_ble_eq_true rfl) (RO_r (by decide)) (Nat.le_of_ble_eq_true rfl) ?_
            refine ihk (h + 1) (q * C + c) _ _ _ (by omega) hK2 hP2 hF2 hb1 (fun D3 f3 hF3 hb3 => ?_)
            have y41 : D3 41 (c : Int).toNat = D1 41 c - hd h := by rw [ec, f3.2.2.1 c hc, st2_at]
            have y40 : D3 40 (h : Int).toNat = hd h := by rw [eh, f3.1 40 (by decide) (by decide) (by decide) (by decide), st2_row (by decide), st2_row (by decide)]; rw [eh] at e40'; exact e40'
            refine T_aload_n dX0_tryHome_107 rfl ?_
            refine T_getR dX0_tryHome_108 flX0_18 rfl rfl ?_
            refine T_iload_n dX0_tryHome_111 rfl ?_
            refine T_dup2 dX0_tryHome_112 rfl rfl ?_
            refine T_iald dX0_tryHome_113 rfl (by first | decide | omega) (by first | omega | (simp [st2]; omega)) (by first | omega | (simp [st2]; omega)) ?_
            refine T_aload_n dX0_tryHome_114 rfl ?_
            refine T_getR dX0_tryHome_115 flX0_15 rfl rfl ?_
            refine T_iload_n dX0_tryHome_118 rfl ?_
            refine T_iald dX0_tryHome_119 rfl (by first | decide | omega) (by first | omega | (simp [st2]; omega)) (by first | omega | (simp [st2]; omega)) ?_
            rw [y41, y40]
            refine T_iadd dX0_tryHome_120 ?_
            refine T_iast dX0_tryHome_121 rfl (by first | decide | omega) (by first | omega | (simp [st2]; omega)) (by first | omega | (simp [st2]; omega)) ?_
            refine T_iinc dX0_tryHome_122 rfl (by decide) ?_
            refine T_goto (tgt := 32) dX0_tryHome_125 (by decide) ?_
            first
            | exact shut (Or.inl nal) _
            | exact shut (Or.inr (by omega)) _
            | (rw [ec]
               refine ih (c + 1) _ _ (by omega) ⟨fun r e1 e2 e3 e4 => ?_, fun j e => ?_, fun c' hc' => ?_, fun h' hh => ?_⟩ hF3 hb3
               · rw [st2_row e2, f3.1 r e1 e2 e3 e4, st2_row e2, st2_row e3]; exact fr.1 r e1 e2 e3 e4
               · rw [st2_row (by decide), f3.2.1 j e, st2_row (by decide), st2_row (by decide)]; exact fr.2.1 j e
               · by_cases e : c' = c
                 · subst e; rw [st2_at, ← fr.2.2.1 c' hc']; omega
                 · rw [st2_ne e, f3.2.2.1 c' hc', st2_ne e, st2_row (by decide)]; exact fr.2.2.1 c' hc'
               · rw [st2_row (by decide), f3.2.2.2 h' (by omega), st2_row (by decide), st2_ne (by omega)]; exact fr.2.2.2 h' hh)
    have e0 : q * C ^ (k + 1) = (q * C + 0) * C ^ k := by rw [Nat.pow_succ, Nat.add_zero, Nat.mul_assoc, Nat.mul_comm C]
    refine T_iload_n dX0_tryHome_0 rfl ?_
    refine T_aload_n dX0_tryHome_1 rfl ?_
    refine T_getR dX0_tryHome_2 flX0_21 rfl rfl ?_
    refine T_iload_n dX0_tryHome_5 rfl ?_
    refine T_iald dX0_tryHome_6 rfl (by first | decide | omega) (by first | omega | (simp [st2]; omega)) (by first | omega | (simp [st2]; omega)) ?_
    refine T_iadd dX0_tryHome_7 ?_
    refine T_aload_n dX0_tryHome_8 rfl ?_
    refine T_getI dX0_tryHome_9 flX0_56 rfl rfl ?_
    rw [e42]
    refine T_icmp_lt 16 dX0_tryHome_12 (by decide) (by unfold InR; omega) (by unfold InR; omega) (fun hc12 => ?_) (fun hc12 => ?_)
    · refine T_iload_n dX0_tryHome_16 rfl ?_
      refine T_aload_n dX0_tryHome_17 rfl ?_
      refine T_getI dX0_tryHome_18 flX0_42 rfl rfl ?_
      refine T_icmp_lt 30 dX0_tryHome_21 (by decide) (by first | (unfold InR; omega) | (simp [st2, InR]; omega)) (by first | (unfold InR; omega) | (simp [st2, InR]; omega)) (fun hc21 => ?_) (fun hc21 => (by exfalso; omega))
      refine T_iconst dX0_tryHome_30 ?_
      refine T_istore_n dX0_tryHome_31 (by decide) ?_
      rw [e0] at hF
      exact loop C 0 D none (by omega) FrF.rf hF hb8
    · refine T_vret dX0_tryHome_15 rfl ?_
      exact hk D FrF.rf (hF.prune hhk hK hP b1 b2 hH (by omega)) hb8
end

