/-- the best row of the land's families -/
def FamC (D : DD) : Prop := FamI D (D 1 9).toNat (D 1 8).toNat (alC D) (D 9) (D 4) (farC D) ((D 1 9).toNat ^ (D 1 8).toNat)
def CacheF (D : DD) : Prop := -1 ≤ D 0 13 ∧ D 0 13 ≤ D 1 11 ∧ (D 0 13 = D 1 11 → D 1 8 ≤ 7 ∧ FamC D)
theorem FamC.of {D D1 : DD} (h : FamC D) (hl : ∀ a, 1 ≤ a → a ≤ 9 → D1 a = D a) (h1 : D1 38 8 = D 38 8) (h2 : D1 44 = D 44) : FamC D1 := by
  obtain ⟨-, -, ea, ef⟩ := mlC_of hl
  unfold FamC FamI at *
  rw [ea, ef, hl 1 (by decide) (by decide), hl 4 (by decide) (by decide), hl 9 (by decide) (by decide), h1, h2]
  exact h
def KpF (D D' : DD) : Prop := (∀ r, r ≠ 0 → (r < 38 ∨ 44 < r) → D' r = D r) ∧ ∀ j, j ≠ 13 → D' 0 j = D 0 j
/-- what family tells of a row -/
def FamV (C H : Nat) (hd : Nat → Int) (ct : Nat → Nat → Int) (r h v : Int) : Prop := (r = -9 → v = -9) ∧ (0 ≤ r → (h < 0 → v = csRow C H hd ct r.toNat) ∧ (0 ≤ h → v = (dg C H r.toNat h.toNat : Nat)))
/-- homes from n on are laid -/
def LdI (D D1 : DD) (n : Nat) : Prop := (∀ r, (r < 38 ∨ 44 < r) → D1 r = D r) ∧ D1 38 6 = D 1 8 ∧ D1 38 7 = D 1 9 ∧ (∀ c, c < (D 1 9).toNat → D1 41 c = D 9 c) ∧ (∀ h, n ≤ h → h < (D 1 8).toNat → D1 40 h = D 4 h) ∧ (∀ h c, n ≤ h → h < (D 1 8).toNat → c < (D 1 9).toNat → D1 39 (h * 5 + c) = fcC D h c) ∧ (∀ h, n ≤ h → h ≤ (D 1 8).toNat → (0 ≤ D1 42 h ∧ D1 42 h ≤ 500000000) ∧ ∀ s : Nat → Nat, (∀ h', h' < (D 1 8).toNat → s h' < (D 1 9).toNat ∧ alC D h' (s h')) → D1 42 h ≤ csG (D 4) (farC D) (D 1 8).toNat s - csG (D 4) (farC D) h s) ∧ D1 42 (D 1 8).toNat = 0
theorem LdI.fmk {D D1 D2 : DD} (hL : LK D) (h : LdI D D1 0) (e : ∀ r, r ≠ 38 → D2 r = D1 r) (e8 : ∀ j, j ≠ 8 → D2 38 j = D1 38 j) : FmK D2 (D 1 9).toNat (D 1 8).toNat (alC D) (D 4) (farC D) := by
  obtain ⟨a1, a2, a3, a4, a5, a6, a7, a8⟩ := h
  have hN := hL.1
  have hM := hL.2.1
  unfold FmK
  rw [e8 6 (by decide), e8 7 (by decide), e 39 (by decide), e 40 (by decide), e 42 (by decide)]
  refine ⟨by omega, by omega, fun h hh => a5 h (by omega) hh, fun h c hh hc => ?_, fun h hh => a7 h (by omega) hh, a8⟩
  rw [a6 h c (by omega) hh hc]
  rcases fcC_bd hL h c with z | z
  · exact ⟨fun q => absurd z.1 q, fun _ => z.2⟩
  · exact ⟨fun _ => z.2.1, fun q => absurd z.1 q⟩
section
variable {g : G0} {d : Nat} {P : Option Value → List SC → DD → Prop} {D : DD}
theorem c_seek (hL : LK D) (h7 : D 1 8 ≤ 7) (hk : ∀ D' : DD, (∀ r, (r < 38 ∨ 44 < r) → D' r = D r) → FamC D' → P none SH D') : TM g mX0_seek (d + 9) P [.ref 38, .ref 1] D := by
  have hN := hL.1
  have hM := hL.2.1
  have hd4 := hL.2.2.2.2.2.2.1
  have last : ∀ D1 : DD, LdI D D1 0 → T g mX0_seek (rmd (d + 9) 0 0) 0 0 (Qm g (rmd (d + 9) 0 0) P) 114 [some (.ref 38), some (.ref 1), some (iI (-1))] [] SH D1 := by
    intro D1 hI
    have hK2 : FmK (st2 D1 38 8 500000000) (D 1 9).toNat (D 1 8).toNat (alC D) (D 4) (farC D) := hI.fmk hL (fun r e => st2_row e) (fun j e => st2_ne e)
    have hP2 : PreI (st2 D1 38 8 500000000) (D 1 9).toNat (alC D) (D 9) (D 4) (farC D) 0 0 0 := by
      refine ⟨rfl, fun h' hh => by omega, fun c hc => ?_, fun h' hh => by omega⟩
      rw [st2_row (by decide), hI.2.2.2.1 c hc]
      unfold lvG
      simp only [sm]
      omega
    have hF2 : FamI (st2 D1 38 8 500000000) (D 1 9).toNat (D 1 8).toNat (alC D) (D 9) (D 4) (farC D) (0 * (D 1 9).toNat ^ (D 1 8).toNat) := by
      rw [Nat.zero_mul]
      exact ⟨-9, ArgM.zero, Or.inl ⟨rfl, st2_at⟩⟩
    have tr := c_tryHome (g := g) (d := d + (7 - (D 1 8).toNat)) (C := (D 1 9).toNat) (H := (D 1 8).toNat) (al := alC D) (se := D 9) (hd := D 4) (ct := farC D) (by omega) (by omega) hd4 (fun h c => farC_bd hL h c) hL.2.2.2.2.2.2.2.2.2.2.2 (D 1 8).toNat 0 0 0 (st2 D1 38 8 500000000)
    rw [show d + (7 - (D 1 8).toNat) + (D 1 8).toNat + 1 = d + 8 by omega] at tr
    refine T_aload_n dX0_seek_114 rfl ?_
    refine T_ldc (n := 500000000) dX0_seek_115 tk_583 ?_
    refine T_putI dX0_seek_117 flX0_56 rfl rfl ?_
    refine T_aload_n dX0_seek_120 rfl ?_
    refine T_iconst dX0_seek_121 ?_
    refine T_iconst dX0_seek_122 ?_
    refine T_cV_2 dX0_seek_123 lkX0_59 rfl (Nat.le_of_ble_eq_true rfl) (RO_r (by decide)) (Nat.le_of_ble_eq_true rfl) ?_
    refine tr _ (by omega) hK2 hP2 hF2 (by rw [st2_at]; omega) (fun D3 f3 hF3 _ => ?_)
    have fo : ∀ r, (r < 38 ∨ 44 < r) → D3 r = D r := fun r hr => by rw [f3.1 r (by omega) (by omega) (by omega) (by omega), st2_row (by omega)]; exact hI.1 r hr
    obtain ⟨-, -, ea, ef⟩ := mlC_of (D := D) (D1 := D3) (fun a h1 h2 => fo a (by omega))
    have hF4 : FamC D3 := by
      unfold FamC
      rw [ea, ef, fo 1 (by omega), fo 4 (by omega), fo 9 (by omega)]
      rw [Nat.zero_add, Nat.one_mul] at hF3
      exact hF3
    refine T_vret dX0_seek_126 rfl ?_
    exact hk D3 fo hF4
  have down : ∀ (n : Nat) (D1 : DD), n ≤ (D 1 8).toNat → LdI D D1 n → T g mX0_seek (rmd (d + 9) 0 0) 0 0 (Qm g (rmd (d + 9) 0 0) P) 66 [some (.ref 38), some (.ref 1), some (iI ((n : Int) - 1))] [] SH D1 := by
    intro n
    induction n with
    | zero =>
      intro D1 hn hI
      refine T_iload_n dX0_seek_66 rfl ?_
      refine T_if_lt 114 dX0_seek_67 (by decide) (by first | (unfold InR; omega) | (simp [st2, InR]; omega)) (fun hc67 => ?_) (fun hc67 => (by exfalso; omega))
      exact last D1 hI
    | succ n ih =>
      intro D1 hn hI
      obtain ⟨a1, a2, a3, a4, a5, a6, a7, a8⟩ := id hI
      have en : ((n + 1 : Nat) : Int) - 1 = n := by omega
      rw [en]
      have ent : (n : Int).toNat = n := Int.toNat_natCast n
      have ent1 : ((n : Int) + 1).toNat = n + 1 := by omega
      have ml : ∀ a, 1 ≤ a → a ≤ 9 → D1 a = D a := fun a h1 h2 => a1 a (by omega)
      obtain ⟨-, -, ea, ef⟩ := mlC_of ml
      have b42 := (a7 (n + 1) (by omega) (by omega)).1
      have fc1 : ∀ X : DD, (∀ a, 1 ≤ a → a ≤ 9 → X a = D a) → fcC X = fcC D := fun X hX => by
        obtain ⟨-, -, -, ef'⟩ := mlC_of hX
        funext x y; unfold fcC; rw [ef', hX 4 (by decide) (by decide), hX 5 (by decide) (by decide)]
      refine T_iload_n dX0_seek_66 rfl ?_
      refine T_if_lt 114 dX0_seek_67 (by decide) (by first | (unfold InR; omega) | (simp [st2, InR]; omega)) (fun hc67 => (by exfalso; omega)) (fun hc67 => ?_)
      refine T_aload_n dX0_seek_70 rfl ?_
      refine T_getR dX0_seek_71 flX0_15 rfl rfl ?_
      refine T_iload_n dX0_seek_74 rfl ?_
      refine T_aload_n dX0_seek_75 rfl ?_
      refine T_getR dX0_seek_76 flX0_50 rfl rfl ?_
      refine T_iload_n dX0_seek_79 rfl ?_
      refine T_iald dX0_seek_80 rfl (by first | decide | omega) (by first | omega | (simp [st2]; omega)) (by first | omega | (simp [st2]; omega)) ?_
      refine T_iast dX0_seek_81 rfl (by first | decide | omega) (by first | omega | (simp [st2]; omega)) (by first | omega | (simp [st2]; omega)) ?_
      rw [ent]
      refine T_aload_n dX0_seek_82 rfl ?_
      refine T_getR dX0_seek_83 flX0_21 rfl rfl ?_
      refine T_iload_n dX0_seek_86 rfl ?_
      refine T_ldc (n := 500000000) dX0_seek_87 tk_583 ?_
      refine T_aload_n dX0_seek_89 rfl ?_
      refine T_getR dX0_seek_90 flX0_21 rfl rfl ?_
      refine T_iload_n dX0_seek_93 rfl ?_
      refine T_iconst dX0_seek_94 ?_
      refine T_iadd dX0_seek_95 ?_
      refine T_iald dX0_seek_96 rfl (by first | decide | omega) (by first | omega | (simp [st2]; omega)) (by first | omega | (simp [st2]; omega)) ?_
      refine T_aload_n dX0_seek_97 rfl ?_
      refine T_aload_n dX0_seek_98 rfl ?_
      refine T_iload_n dX0_seek_99 rfl ?_
      have mlX : ∀ a, 1 ≤ a → a ≤ 9 → st2 D1 40 n (D1 4 n) a = D a := fun a h1 h2 => by rw [st2_row (by omega)]; exact ml a h1 h2
      have e42 : st2 D1 40 n (D1 4 n) 42 ((n : Int) + 1).toNat = D1 42 (n + 1) := by rw [st2_row (by decide), ent1]
      rw [e42]
      refine T_cV_2 dX0_seek_100 lkX0_52 rfl (Nat.le_of_ble_eq_true rfl) (RO_r (by decide)) (Nat.le_of_ble_eq_true rfl) ?_
      refine c_loadHome (LK_fr mlX hL) (by rw [st2_row (by decide), st2_row (by decide), a3, ml 1 (by decide) (by decide)]) (by omega) (fun D2 v f2 g2 o2 b2 l2 => ?_)
      rw [fc1 _ mlX, st2_row (show (1 : Nat) ≠ 40 by decide), ml 1 (by decide) (by decide)] at g2 l2
      refine T_iadd dX0_seek_103 ?_
      refine T_min dX0_seek_104 lkX0_36 (by first | (unfold InR; omega) | (simp [st2, InR]; omega)) (by unfold InR; omega) (Nat.le_of_ble_eq_true rfl) ⟨by show _ ≤ _; first | decide | (simp only [rmd]; omega) | omega, by show _ ≤ _; first | decide | (simp only [rmd]; omega) | omega⟩ ?_
      refine T_iast dX0_seek_107 rfl (by first | decide | omega) (by first | omega | (simp [st2]; omega)) (by first | omega | (simp [st2]; omega)) ?_
      refine T_iinc dX0_seek_108 rfl (by decide) ?_
      refine T_goto (tgt := 66) dX0_seek_111 (by decide) ?_
      rw [ent]
      have hI2 : LdI D (st2 D2 42 n (if D1 42 (n + 1) + v < 500000000 then D1 42 (n + 1) + v else 500000000)) n := by
        have fo : ∀ r, r ≠ 39 → r ≠ 40 → r ≠ 42 → st2 D2 42 n (if D1 42 (n + 1) + v < 500000000 then D1 42 (n + 1) + v else 500000000) r = D1 r := fun r e1 e2 e3 => by rw [st2_row e3, f2 r e1, st2_row e2]
        refine ⟨fun r hr => ?_, ?_, ?_, fun c hc => ?_, fun h h1 h2 => ?_, fun h c h1 h2 h3 => ?_, fun h h1 h2 => ?_, ?_⟩
        · rw [fo r (by omega) (by omega) (by omega)]; exact a1 r hr
        · rw [fo 38 (by decide) (by decide) (by decide)]; exact a2
        · rw [fo 38 (by decide) (by decide) (by decide)]; exact a3
        · rw [fo 41 (by decide) (by decide) (by decide)]; exact a4 c hc
        · rw [st2_row (by decide), f2 40 (by decide)]
          by_cases e : h = n
          · subst e; rw [st2_at, ml 4 (by decide) (by decide)]
          · rw [st2_ne e]; exact a5 h (by omega) h2
        · rw [st2_row (by decide)]
          by_cases e : h = n
          · subst e; exact g2 c h3
          · rw [o2 (h * 5 + c) (fun c' hc' => by omega), st2_row (by decide)]; exact a6 h c (by omega) h2 h3
        · by_cases e : h = n
          · subst e
            rw [st2_at]
            refine ⟨by split <;> omega, fun s hs => ?_⟩
            have w := (a7 (h + 1) (by omega) (by omega)).2 s hs
            have w2 := l2 (s h) (hs h (by omega)).1
            have w3 : fcC D h (s h) = D 4 h * farC D h (s h) := by
              rcases fcC_bd hL h (s h) with z | z
              · exact absurd z.1 (hs h (by omega)).2
              · exact z.2.1
            have w4 : csG (D 4) (farC D) (h + 1) s = csG (D 4) (farC D) h s + D 4 h * farC D h (s h) := rfl
            split <;> omega
          · rw [st2_ne e, f2 42 (by decide), st2_row (by decide)]; exact a7 h (by omega) h2
        · rw [st2_ne (by omega), f2 42 (by decide), st2_row (by decide)]; exact a8
      exact ih _ (by omega) hI2
  have lefts : ∀ (q c : Nat) (D1 : DD), q + c = (D 1 9).toNat → (∀ r, (r < 38 ∨ 44 < r) → D1 r = D r) → D1 38 6 = D 1 8 → D1 38 7 = D 1 9 → (∀ c', c' < c → D1 41 c' = D 9 c') → T g mX0_seek (rmd (d + 9) 0 0) 0 0 (Qm g (rmd (d + 9) 0 0) P) 23 [some (.ref 38), some (.ref 1), some (iI c)] [] SH D1 := by
    intro q
    induction q with
    | zero =>
      intro c D1 hq r1 r2 r3 r4
      have en : (D1 38 6).toNat = (D 1 8).toNat := by rw [r2]
      refine T_iload_n dX0_seek_23 rfl ?_
      refine T_aload_n dX0_seek_24 rfl ?_
      refine T_getI dX0_seek_25 flX0_46 rfl rfl ?_
      refine T_icmp_ge 49 dX0_seek_28 (by decide) (by first | (unfold InR; omega) | (simp [st2, InR]; omega)) (by first | (unfold InR; omega) | (simp [st2, InR]; omega)) (fun hc28 => ?_) (fun hc28 => (by exfalso; omega))
      refine T_aload_n dX0_seek_49 rfl ?_
      refine T_getR dX0_seek_50 flX0_21 rfl rfl ?_
      refine T_aload_n dX0_seek_53 rfl ?_
      refine T_getI dX0_seek_54 flX0_42 rfl rfl ?_
      refine T_iconst dX0_seek_57 ?_
      refine T_iast dX0_seek_58 rfl (by first | decide | omega) (by first | omega | (simp [st2]; omega)) (by first | omega | (simp [st2]; omega)) ?_
      refine T_aload_n dX0_seek_59 rfl ?_
      refine T_getI dX0_seek_60 flX0_42 rfl rfl ?_
      refine T_iconst dX0_seek_63 ?_
      refine T_isub dX0_seek_64 ?_
      refine T_istore_n dX0_seek_65 (by decide) ?_
      rw [en]
      have e6 : st2 D1 42 (D 1 8).toNat 0 38 6 = D 1 8 := by rw [st2_row (by decide)]; exact r2
      rw [e6, show D 1 8 - 1 = ((D 1 8).toNat : Int) - 1 by omega]
      refine down (D 1 8).toNat _ (Nat.le_refl _) ⟨fun r hr => by rw [st2_row (by omega)]; exact r1 r hr, e6, by rw [st2_row (by decide)]; exact r3, fun c' hc' => by rw [st2_row (by decide)]; exact r4 c' (by omega), fun h h1 h2 => by omega, fun h c' h1 h2 _ => by omega, fun h h1 h2 => ?_, st2_at⟩
      obtain rfl : h = (D 1 8).toNat := by omega
      rw [st2_at]
      exact ⟨by omega, fun s _ => by omega⟩
    | succ q ih =>
      intro c D1 hq r1 r2 r3 r4
      have ec : (c : Int).toNat = c := Int.toNat_natCast c
      refine T_iload_n dX0_seek_23 rfl ?_
      refine T_aload_n dX0_seek_24 rfl ?_
      refine T_getI dX0_seek_25 flX0_46 rfl rfl ?_
      refine T_icmp_ge 49 dX0_seek_28 (by decide) (by first | (unfold InR; omega) | (simp [st2, InR]; omega)) (by first | (unfold InR; omega) | (simp [st2, InR]; omega)) (fun hc28 => (by exfalso; omega)) (fun hc28 => ?_)
      refine T_aload_n dX0_seek_31 rfl ?_
      refine T_getR dX0_seek_32 flX0_18 rfl rfl ?_
      refine T_iload_n dX0_seek_35 rfl ?_
      refine T_aload_n dX0_seek_36 rfl ?_
      refine T_getR dX0_seek_37 flX0_47 rfl rfl ?_
      refine T_iload_n dX0_seek_40 rfl ?_
      refine T_iald dX0_seek_41 rfl (by first | decide | omega) (by first | omega | (simp [st2]; omega)) (by first | omega | (simp [st2]; omega)) ?_
      refine T_iast dX0_seek_42 rfl (by first | decide | omega) (by first | omega | (simp [st2]; omega)) (by first | omega | (simp [st2]; omega)) ?_
      refine T_iinc dX0_seek_43 rfl (by decide) ?_
      refine T_goto (tgt := 23) dX0_seek_46 (by decide) ?_
      rw [ec]
      refine ih (c + 1) _ (by omega) (fun r hr => by rw [st2_row (by omega)]; exact r1 r hr) (by rw [st2_row (by decide)]; exact r2) (by rw [st2_row (by decide)]; exact r3) (fun c' hc' => ?_)
      by_cases e : c' = c
      · subst e; rw [st2_at, r1 9 (by omega)]
      · rw [st2_ne e]; exact r4 c' (by omega)
  have emin : (if (7 : Int) < D 1 8 then 7 else D 1 8) = D 1 8 := if_neg (by omega)
  refine T_aload_n dX0_seek_0 rfl ?_
  refine T_aload_n dX0_seek_1 rfl ?_
  refine T_getI dX0_seek_2 flX0_30 rfl rfl ?_
  refine T_bipush dX0_seek_5 (by decide) ?_
  refine T_min dX0_seek_7 lkX0_36 (by unfold InR; omega) (by first | (unfold InR; omega) | (simp [st2, InR]; omega)) (Nat.le_of_ble_eq_true rfl) ⟨by show _ ≤ _; first | decide | (simp only [rmd]; omega) | omega, by show _ ≤ _; first | decide | (simp only [rmd]; omega) | omega⟩ ?_
  rw [emin]
  refine T_putI dX0_seek_10 flX0_42 rfl rfl ?_
  refine T_aload_n dX0_seek_13 rfl ?_
  refine T_aload_n dX0_seek_14 rfl ?_
  refine T_getI dX0_seek_15 flX0_43 rfl rfl ?_
  refine T_putI dX0_seek_18 flX0_46 rfl rfl ?_
  refine T_iconst dX0_seek_21 ?_
  refine T_istore_n dX0_seek_22 (by decide) ?_
  refine lefts (D 1 9).toNat 0 _ (by omega) (fun r hr => by rw [st2_row (by omega), st2_row (by omega)]) ?_ ?_ (fun c' hc' => by omega)
  · rw [st2_ne (by decide), st2_at]
  · rw [st2_at, st2_row (by decide)]
theorem c_seekFamilies (hL : LK D) (h7 : D 1 8 ≤ 7) (hF : CacheF D) (hk : ∀ D' : DD, KpF D D' → CacheF D' → FamC D' → P none SH D') : TM g mX6_seekFamilies (d + 10) P [.ref 0] D := by
  have hch := hL.2.2.2.1
  have h11 := hF.1
  have h12 := hF.2.1
  refine T_aload_n dX6_seekFamilies_0 rfl ?_
  refine T_getI dX6_seekFamilies_1 flX6_69 rfl rfl ?_
  refine T_aload_n dX6_seekFamilies_4 rfl ?_
  refine T_getR dX6_seekFamilies_5 flX6_12 rfl rfl ?_
  refine T_getI dX6_seekFamilies_8 flX6_274 rfl rfl ?_
  refine T_icmp_eq 36 dX6_seekFamilies_11 (by decide) (by first | (unfold InR; omega) | (simp [st2, InR]; omega)) (by first | (unfold InR; omega) | (simp [st2, InR]; omega)) (fun hc11 => ?_) (fun hc11 => ?_)
  · refine T_vret dX6_seekFamilies_36 rfl ?_
    first
    | exact hk D ⟨fun _ _ _ => rfl, fun _ _ => rfl⟩ hF (hF.2.2 hc11).2
    | (have q11 : D1 1 11 = D 1 11 := by rw [f1 1 (by omega)]
       have ql : ∀ a, 1 ≤ a → a ≤ 9 → st2 D1 0 13 (D1 1 11) a = D1 a := fun a h1 h2 => st2_row (by omega)
       have hF2 : FamC (st2 D1 0 13 (D1 1 11)) := hF1.of ql (by rw [st2_row (by decide)]) (st2_row (by decide))
       have r13 : st2 D1 0 13 (D1 1 11) 0 13 = D 1 11 := by rw [st2_at, q11]
       have r11 : st2 D1 0 13 (D1 1 11) 1 11 = D 1 11 := by rw [st2_row (by decide), q11]
       have r8 : st2 D1 0 13 (D1 1 11) 1 8 = D 1 8 := by rw [st2_row (by decide), f1 1 (by omega)]
       exact hk _ ⟨fun r h0 h1 => by rw [st2_row h0]; exact f1 r h1, fun j hj => by rw [st2_ne hj, f1 0 (by omega)]⟩ ⟨by omega, by omega, fun _ => ⟨by omega, hF2⟩⟩ hF2)
  · refine T_aload_n dX6_seekFamilies_14 rfl ?_
    refine T_getR dX6_seekFamilies_15 flX6_38 rfl rfl ?_
    refine T_aload_n dX6_seekFamilies_18 rfl ?_
    refine T_getR dX6_seekFamilies_19 flX6_12 rfl rfl ?_
    refine T_cV_1 dX6_seekFamilies_22 lkX6_290 rfl (Nat.le_of_ble_eq_true rfl) (RO_r (by decide)) (Nat.le_of_ble_eq_true rfl) ?_
    refine c_seek hL h7 (fun D1 f1 hF1 => ?_)
    refine T_aload_n dX6_seekFamilies_25 rfl ?_
    refine T_aload_n dX6_seekFamilies_26 rfl ?_
    refine T_getR dX6_seekFamilies_27 flX6_12 rfl rfl ?_
    refine T_getI dX6_seekFamilies_30 flX6_274 rfl rfl ?_
    refine T_putI dX6_seekFamilies_33 flX6_69 rfl rfl ?_
    refine T_vret dX6_seekFamilies_36 rfl ?_
    first
    | exact hk D ⟨fun _ _ _ => rfl, fun _ _ => rfl⟩ hF (hF.2.2 hc11).2
    | (have q11 : D1 1 11 = D 1 11 := by rw [f1 1 (by omega)]
       have ql : ∀ a, 1 ≤ a → a ≤ 9 → st2 D1 0 13 (D1 1 11) a = D1 a := fun a h1 h2 => st2_row (by omega)
       have hF2 : FamC (st2 D1 0 13 (D1 1 11)) := hF1.of ql (by rw [st2_row (by decide)]) (st2_row (by decide))
       have r13 : st2 D1 0 13 (D1 1 11) 0 13 = D 1 11 := by rw [st2_at, q11]
       have r11 : st2 D1 0 13 (D1 1 11) 1 11 = D 1 11 := by rw [st2_row (by decide), q11]
       have r8 : st2 D1 0 13 (D1 1 11) 1 8 = D 1 8 := by rw [st2_row (by decide), f1 1 (by omega)]
       exact hk _ ⟨fun r h0 h1 => by rw [st2_row h0]; exact f1 r h1, fun j hj => by rw [st2_ne hj, f1 0 (by omega)]⟩ ⟨by omega, by omega, fun _ => ⟨by omega, hF2⟩⟩ hF2)
theorem c_family {h : Int} (hL : LK D) (hF : CacheF D) (hh : InR h) (kU : ¬ (h = -1 ∨ (0 ≤ h ∧ h < D 1 8)) → P (some (iI (-1))) SH D) (kS : (h = -1 ∨ (0 ≤ h ∧ h < D 1 8)) → 7 < D 1 8 → P (some (iI (-3))) SH D) (kk : (h = -1 ∨ (0 ≤ h ∧ h < D 1 8)) → D 1 8 ≤ 7 → ∀ (D' : DD) (r v : Int), KpF D D' → CacheF D' → ArgM ((D 1 9).toNat ^ (D 1 8).toNat) (okRow (D 1 9).toNat (D 1 8).toNat (alC D) (D 9) (D 4)) (csRow (D 1 9).toNat (D 1 8).toNat (D 4) (farC D)) r → FamV (D 1 9).toNat (D 1 8).toNat (D 4) (farC D) r h v → P (some (iI v)) SH D') : TM g mX6_family (d + 11) P [.ref 0, iI h] D := by
  have hN := hL.1
  have rest : (h = -1 ∨ (0 ≤ h ∧ h < D 1 8)) → T g mX6_family (rmd (d + 11) 0 0) 0 0 (Qm g (rmd (d + 11) 0 0) P) 18 [some (.ref 0), some (iI h)] [] SH D := by
    intro hv
    refine T_aload_n dX6_family_18 rfl ?_
    refine T_getR dX6_family_19 flX6_12 rfl rfl ?_
    refine T_getI dX6_family_22 flX6_81 rfl rfl ?_
    refine T_bipush dX6_family_25 (by decide) ?_
    refine T_icmp_le 33 dX6_family_27 (by decide) (by first | (unfold InR; omega) | (simp [st2, InR]; omega)) (by first | (unfold InR; omega) | (simp [st2, InR]; omega)) (fun hc27 => ?_) (fun hc27 => ?_)
    · refine T_aload_n dX6_family_33 rfl ?_
      refine T_cV_0 dX6_family_34 lkX6_175 rfl (Nat.le_of_ble_eq_true rfl) (RO_r (by decide)) (Nat.le_of_ble_eq_true rfl) ?_
      refine c_seekFamilies hL (by omega) hF (fun D1 kp cf fc => ?_)
      have kl : ∀ a, 1 ≤ a → a ≤ 9 → D1 a = D a := fun a h1 h2 => kp.1 a (by omega) (by omega)
      obtain ⟨-, -, ea, ef⟩ := mlC_of kl
      unfold FamC FamI at fc
      rw [ea, ef, kl 1 (by decide) (by decide), kl 4 (by decide) (by decide), kl 9 (by decide) (by decide)] at fc
      obtain ⟨r, hA, hr⟩ := fc
      have csb : 0 ≤ csRow (D 1 9).toNat (D 1 8).toNat (D 4) (farC D) r.toNat ∧ csRow (D 1 9).toNat (D 1 8).toNat (D 4) (farC D) r.toNat ≤ 252000 := by
        have := csG_bd (hd := D 4) (ct := farC D) hL.2.2.2.2.2.2.1 (fun h c => farC_bd hL h c) (D 1 8).toNat (dg (D 1 9).toNat (D 1 8).toNat r.toNat)
        unfold csRow
        have : ((D 1 8).toNat : Int) * 36000 ≤ 252000 := by omega
        omega
      have hr1 : (r = -9 ∧ D1 38 8 = 500000000) ∨ (0 ≤ r ∧ D1 38 8 = csRow (D 1 9).toNat (D 1 8).toNat (D 4) (farC D) r.toNat) := hr.imp id (fun z => ⟨z.1, z.2.1⟩)
      have hr2 : 0 ≤ r → ∀ h, h < (D 1 8).toNat → D1 44 h = (dg (D 1 9).toNat (D 1 8).toNat r.toNat h : Nat) := fun h0 => by
        rcases hr with z | z
        · omega
        · exact z.2.2
      clear hr
      refine T_aload_n dX6_family_37 rfl ?_
      refine T_getR dX6_family_38 flX6_38 rfl rfl ?_
      refine T_getI dX6_family_41 flX6_178 rfl rfl ?_
      refine T_ldc (n := 500000000) dX6_family_44 tk_598 ?_
      refine T_icmp_ne 52 dX6_family_46 (by decide) (by unfold InR; omega) (by first | (unfold InR; omega) | (simp [st2, InR]; omega)) (fun hc46 => ?_) (fun hc46 => ?_)
      · refine T_iload_n dX6_family_52 rfl ?_
        refine T_iconst dX6_family_53 ?_
        refine T_icmp_ne 67 dX6_family_54 (by decide) hh (by first | (unfold InR; omega) | (simp [st2, InR]; omega)) (fun hc54 => ?_) (fun hc54 => ?_)
        · refine T_aload_n dX6_family_67 rfl ?_
          refine T_getR dX6_family_68 flX6_38 rfl rfl ?_
          refine T_getR dX6_family_71 flX6_182 rfl rfl ?_
          refine T_iload_n dX6_family_74 rfl ?_
          refine T_iald dX6_family_75 rfl (by first | decide | omega) (by first | omega | (simp [st2]; omega)) (by first | omega | (simp [st2]; omega)) ?_
          refine T_iret dX6_family_76 rfl ?_
          first
          | exact kS hv (by omega)
          | exact kk hv (by omega) D1 r _ kp cf hA ⟨fun _ => rfl, fun z => by omega⟩
          | exact kk hv (by omega) D1 r _ kp cf hA ⟨fun z => by omega, fun z => ⟨fun _ => by omega, fun z2 => by omega⟩⟩
          | exact kk hv (by omega) D1 r _ kp cf hA ⟨fun z => by omega, fun z => ⟨fun z2 => by omega, fun z2 => hr2 z h.toNat (by omega)⟩⟩
        · refine T_aload_n dX6_family_57 rfl ?_
          refine T_getR dX6_family_58 flX6_38 rfl rfl ?_
          refine T_getI dX6_family_61 flX6_178 rfl rfl ?_
          refine T_goto (tgt := 76) dX6_family_64 (by decide) ?_
          refine T_iret dX6_family_76 rfl ?_
          first
          | exact kS hv (by omega)
          | exact kk hv (by omega) D1 r _ kp cf hA ⟨fun _ => rfl, fun z => by omega⟩
          | exact kk hv (by omega) D1 r _ kp cf hA ⟨fun z => by omega, fun z => ⟨fun _ => by omega, fun z2 => by omega⟩⟩
          | exact kk hv (by omega) D1 r _ kp cf hA ⟨fun z => by omega, fun z => ⟨fun z2 => by omega, fun z2 => hr2 z h.toNat (by omega)⟩⟩
      · refine T_bipush dX6_family_49 (by decide) ?_
        refine T_iret dX6_family_51 rfl ?_
        first
        | exact kS hv (by omega)
        | exact kk hv (by omega) D1 r _ kp cf hA ⟨fun _ => rfl, fun z => by omega⟩
        | exact kk hv (by omega) D1 r _ kp cf hA ⟨fun z => by omega, fun z => ⟨fun _ => by omega, fun z2 => by omega⟩⟩
        | exact kk hv (by omega) D1 r _ kp cf hA ⟨fun z => by omega, fun z => ⟨fun z2 => by omega, fun z2 => hr2 z h.toNat (by omega)⟩⟩
    · refine T_bipush dX6_family_30 (by decide) ?_
      refine T_iret dX6_family_32 rfl ?_
      first
      | exact kS hv (by omega)
      | exact kk hv (by omega) D1 r _ kp cf hA ⟨fun _ => rfl, fun z => by omega⟩
      | exact kk hv (by omega) D1 r _ kp cf hA ⟨fun z => by omega, fun z => ⟨fun _ => by omega, fun z2 => by omega⟩⟩
      | exact kk hv (by omega) D1 r _ kp cf hA ⟨fun z => by omega, fun z => ⟨fun z2 => by omega, fun z2 => hr2 z h.toNat (by omega)⟩⟩
  refine T_iload_n dX6_family_0 rfl ?_
  refine T_iconst dX6_family_1 ?_
  refine T_icmp_eq 18 dX6_family_2 (by decide) hh (by first | (unfold InR; omega) | (simp [st2, InR]; omega)) (fun hc2 => ?_) (fun hc2 => ?_)
  · exact rest (by omega)
  · refine T_aload_n dX6_family_5 rfl ?_
    refine T_getR dX6_family_6 flX6_12 rfl rfl ?_
    refine T_iload_n dX6_family_9 rfl ?_
    refine T_cV_1 dX6_family_10 lkX6_112 rfl (Nat.le_of_ble_eq_true rfl) (RO_r (by decide)) (Nat.le_of_ble_eq_true rfl) ?_
    refine c_hasHome hh hN (fun h1 h2 => ?_) (fun h1 => ?_)
    · refine T_if_ne 18 dX6_family_13 (by decide) (by unfold InR; decide) (fun _ => ?_) (fun h => absurd (by decide) h)
      exact rest (by omega)
    · refine T_if_ne 18 dX6_family_13 (by decide) (by unfold InR; decide) (fun h => absurd h (by decide)) (fun _ => ?_)
      refine T_iconst dX6_family_16 ?_
      refine T_iret dX6_family_17 rfl ?_
      exact kU (by omega)
end

