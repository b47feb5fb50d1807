/-- the text that is being read: n codes, in cell 15 -/
def TxK (D : DD) (n : Nat) (co : Nat → Int) : Prop := D 10 5 = n ∧ n ≤ 80 ∧ (∀ p, p < n → D 15 p = co p) ∧ (∀ p, n ≤ p → co p = -1) ∧ ∀ p, InR (co p)
/-- at place p, with the first fault F (-1: none) -/
def TS (D : DD) (F : Int) (p : Nat) : Prop := D 10 6 = p ∧ ((F = -1 ∧ D 10 9 = 1) ∨ (0 ≤ F ∧ D 10 9 = 0 ∧ D 10 10 = F))
def FrT (D D' : DD) : Prop := (∀ r, r ≠ 10 → D' r = D r) ∧ ∀ j, j ≠ 6 → j ≠ 9 → j ≠ 10 → D' 10 j = D 10 j
theorem FrT.rf {D : DD} : FrT D D := ⟨fun _ _ => rfl, fun _ _ _ _ => rfl⟩
theorem FrT.tr {D D1 D2 : DD} (h1 : FrT D D1) (h2 : FrT D1 D2) : FrT D D2 := ⟨fun r e => (h2.1 r e).trans (h1.1 r e), fun j a b c => (h2.2 j a b c).trans (h1.2 j a b c)⟩
theorem FrT.at6 {D : DD} {v : Int} : FrT D (st2 D 10 6 v) := ⟨fun r e => st2_row e, fun j a _ _ => st2_ne a⟩
theorem TxK.of {D D1 : DD} {n : Nat} {co : Nat → Int} (h : TxK D n co) (e : D1 10 5 = D 10 5) (e2 : D1 15 = D 15) : TxK D1 n co := by unfold TxK; rw [e, e2]; exact h
theorem TxK.fr {D D1 : DD} {n : Nat} {co : Nat → Int} (h : TxK D n co) (f : FrT D D1) : TxK D1 n co := h.of (f.2 5 (by decide) (by decide) (by decide)) (f.1 15 (by decide))
theorem TS.mv {D : DD} {F : Int} {p q : Nat} (h : TS D F p) : TS (st2 D 10 6 q) F q := ⟨st2_at, by rw [st2_ne (by decide), st2_ne (by decide)]; exact h.2⟩
theorem TS.rg {D : DD} {F : Int} {p : Nat} (h : TS D F p) : (D 10 9 = 0 ∨ D 10 9 = 1) ∧ (F = -1 ↔ D 10 9 = 1) := by
  rcases h.2 with z | z
  · omega
  · omega
/-- the class's kinds: -1 a home, -2 none -/
def kC (c : Int) : Int := if c = 102 then 2 else if c = 104 then -1 else if c = 113 then 0 else if c = 115 then 1 else -2
theorem kC_eq (c : Int) : (kC c = -1 ↔ kdR c = 3) ∧ (kC c = -2 ↔ kdR c = -1) ∧ (0 ≤ kC c → kC c = kdR c) ∧ (-2 ≤ kC c ∧ kC c ≤ 2) ∧ (c = 104 ↔ kdR c = 3) := by
  unfold kC kdR
  by_cases a : c = 102
  · subst a; simp
  · by_cases b : c = 104
    · subst b; simp
    · by_cases d : c = 113
      · subst d; simp
      · by_cases e : c = 115
        · subst e; simp
        · simp [a, b, d, e]
section
variable {g : G0} {d : Nat} {P : Option Value → List SC → DD → Prop} {D : DD} {n p : Nat} {co : Nat → Int} {F : Int}
theorem c_codeHere (hK : TxK D n co) (h6 : D 10 6 = p) (hp : p ≤ 1000) (hk : P (some (iI (co p))) SH D) : TM g mX2_codeHere d P [.ref 10] D := by
  obtain ⟨k1, k2, k3, k4, k5⟩ := hK
  have e6 : (D 10 6).toNat = p := by omega
  refine T_aload_n dX2_codeHere_0 rfl ?_
  refine T_getI dX2_codeHere_1 flX2_39 rfl rfl ?_
  refine T_aload_n dX2_codeHere_4 rfl ?_
  refine T_getI dX2_codeHere_5 flX2_43 rfl rfl ?_
  refine T_icmp_ge 23 dX2_codeHere_8 (by decide) (by first | (unfold InR; omega) | (simp [st2, InR]; omega)) (by first | (unfold InR; omega) | (simp [st2, InR]; omega)) (fun hc8 => ?_) (fun hc8 => ?_)
  · refine T_iconst dX2_codeHere_23 ?_
    refine T_iret dX2_codeHere_24 rfl ?_
    first
    | (rw [e6, k3 p (by omega)]; exact hk)
    | (rw [k4 p (by omega)] at hk; exact hk)
  · refine T_aload_n dX2_codeHere_11 rfl ?_
    refine T_getR dX2_codeHere_12 flX2_24 rfl rfl ?_
    refine T_aload_n dX2_codeHere_15 rfl ?_
    refine T_getI dX2_codeHere_16 flX2_39 rfl rfl ?_
    refine T_iald dX2_codeHere_19 rfl (by first | decide | omega) (by first | omega | (simp [st2]; omega)) (by first | omega | (simp [st2]; omega)) ?_
    refine T_goto (tgt := 24) dX2_codeHere_20 (by decide) ?_
    refine T_iret dX2_codeHere_24 rfl ?_
    first
    | (rw [e6, k3 p (by omega)]; exact hk)
    | (rw [k4 p (by omega)] at hk; exact hk)
theorem c_failAt {q : Nat} (hT : TS D F p) (hk : ∀ D' : DD, FrT D D' → TS D' (fs F False q) p → P none SH D') : TM g mX2_failAt d P [.ref 10, iI q] D := by
  have rg := hT.rg
  refine T_aload_n dX2_failAt_0 rfl ?_
  refine T_getI dX2_failAt_1 flX2_31 rfl rfl ?_
  refine T_if_eq 17 dX2_failAt_4 (by decide) (by first | (unfold InR; omega) | (simp [st2, InR]; omega)) (fun hc4 => ?_) (fun hc4 => ?_)
  · refine T_vret dX2_failAt_17 rfl ?_
    first
    | (refine hk D FrT.rf ?_
       have hF : F ≠ -1 := by omega
       rw [fs_bad hF]; exact hT)
    | (refine hk _ ⟨fun r e => by rw [st2_row e, st2_row e], fun j a b c => by rw [st2_ne b, st2_ne c]⟩ ?_
       have hF : F = -1 := by omega
       subst hF
       rw [fs_no (fun z => z)]
       exact ⟨by rw [st2_ne (by decide), st2_ne (by decide)]; exact hT.1, Or.inr ⟨by omega, st2_at, by rw [st2_ne (by decide), st2_at]⟩⟩)
  · refine T_aload_n dX2_failAt_7 rfl ?_
    refine T_iload_n dX2_failAt_8 rfl ?_
    refine T_putI dX2_failAt_9 flX2_100 rfl rfl ?_
    refine T_aload_n dX2_failAt_12 rfl ?_
    refine T_iconst dX2_failAt_13 ?_
    refine T_putZ dX2_failAt_14 flX2_31 rfl rfl (by decide) ?_
    refine T_vret dX2_failAt_17 rfl ?_
    first
    | (refine hk D FrT.rf ?_
       have hF : F ≠ -1 := by omega
       rw [fs_bad hF]; exact hT)
    | (refine hk _ ⟨fun r e => by rw [st2_row e, st2_row e], fun j a b c => by rw [st2_ne b, st2_ne c]⟩ ?_
       have hF : F = -1 := by omega
       subst hF
       rw [fs_no (fun z => z)]
       exact ⟨by rw [st2_ne (by decide), st2_ne (by decide)]; exact hT.1, Or.inr ⟨by omega, st2_at, by rw [st2_ne (by decide), st2_at]⟩⟩)
theorem fs_and {c : Prop} {q : Nat} (h : ¬ c) : fs F False q = fs F c q := by
  unfold fs
  exact cif_iff ⟨fun z => ⟨z.1, h⟩, fun z => ⟨z.1, fun y => y⟩⟩
theorem fs_yes {c : Prop} {q : Nat} (h : c) : fs F c q = F := by
  unfold fs
  rw [cif_neg (fun z => z.2 h)]
theorem c_takeCode {code : Int} (hK : TxK D n co) (hT : TS D F p) (hp : p ≤ 1000) (hc : InR code) (hk : ∀ D' : DD, FrT D D' → TS D' (fs F (co p = code) p) (p + 1) → P none SH D') : TM g mX2_takeCode (d + 1) P [.ref 10, iI code] D := by
  have h6 := hT.1
  have e1 : ((p + 1 : Nat) : Int) = (p : Int) + 1 := by omega
  refine T_aload_n dX2_takeCode_0 rfl ?_
  refine T_cV_0 dX2_takeCode_1 lkX2_84 rfl (Nat.le_of_ble_eq_true rfl) (RO_r (by decide)) (Nat.le_of_ble_eq_true rfl) ?_
  refine c_codeHere hK h6 hp ?_
  refine T_iload_n dX2_takeCode_4 rfl ?_
  refine T_icmp_eq 16 dX2_takeCode_5 (by decide) (hK.2.2.2.2 p) hc (fun hc5 => ?_) (fun hc5 => ?_)
  · refine T_aload_n dX2_takeCode_16 rfl ?_
    refine T_dup dX2_takeCode_17 rfl ?_
    refine T_getI dX2_takeCode_18 flX2_39 rfl rfl ?_
    refine T_iconst dX2_takeCode_21 ?_
    refine T_iadd dX2_takeCode_22 ?_
    refine T_putI dX2_takeCode_23 flX2_39 rfl rfl ?_
    refine T_vret dX2_takeCode_26 rfl ?_
    first
    | (rw [h6, ← e1]
       refine hk _ FrT.at6 ?_
       rw [fs_yes hc5]
       exact hT.mv)
    | (rw [h6', ← e1]
       refine hk _ (f1.tr FrT.at6) ?_
       rw [fs_and hc5] at t1
       exact t1.mv)
  · refine T_aload_n dX2_takeCode_8 rfl ?_
    refine T_aload_n dX2_takeCode_9 rfl ?_
    refine T_getI dX2_takeCode_10 flX2_39 rfl rfl ?_
    rw [h6]
    refine T_cV_1 dX2_takeCode_13 lkX2_46 rfl (Nat.le_of_ble_eq_true rfl) (RO_r (by decide)) (Nat.le_of_ble_eq_true rfl) ?_
    refine c_failAt hT (fun D1 f1 t1 => ?_)
    have h6' := t1.1
    refine T_aload_n dX2_takeCode_16 rfl ?_
    refine T_dup dX2_takeCode_17 rfl ?_
    refine T_getI dX2_takeCode_18 flX2_39 rfl rfl ?_
    refine T_iconst dX2_takeCode_21 ?_
    refine T_iadd dX2_takeCode_22 ?_
    refine T_putI dX2_takeCode_23 flX2_39 rfl rfl ?_
    refine T_vret dX2_takeCode_26 rfl ?_
    first
    | (rw [h6, ← e1]
       refine hk _ FrT.at6 ?_
       rw [fs_yes hc5]
       exact hT.mv)
    | (rw [h6', ← e1]
       refine hk _ (f1.tr FrT.at6) ?_
       rw [fs_and hc5] at t1
       exact t1.mv)
theorem c_isDigit {c : Int} (hc : InR c) (k1 : dgt c → P (some (iI 1)) SH D) (k0 : ¬ dgt c → P (some (iI 0)) SH D) : TM g mX2_isDigit (d + 1) P [iI c] D := by
  refine T_iload_n dX2_isDigit_0 rfl ?_
  refine T_bipush dX2_isDigit_1 (by decide) ?_
  refine T_bipush dX2_isDigit_3 (by decide) ?_
  refine T_cSN_3 dX2_isDigit_5 lkX2_96 (Nat.le_of_ble_eq_true rfl) (RO_r (by decide)) (Nat.le_of_ble_eq_true rfl) ?_
  refine c_isWithin hc (by first | (unfold InR; omega) | (simp [st2, InR]; omega)) (by first | (unfold InR; omega) | (simp [st2, InR]; omega)) (fun h1 h2 => ?_) (fun h1 => ?_)
  · refine T_zret dX2_isDigit_8 rfl (by decide) ?_
    first | exact k1 ⟨h1, h2⟩ | exact k0 h1
  · refine T_zret dX2_isDigit_8 rfl (by decide) ?_
    first | exact k1 ⟨h1, h2⟩ | exact k0 h1
theorem c_readNumber {lo hi : Int} (hK : TxK D n co) (hT : TS D F p) (hp : p ≤ 900) (hlo : InR lo) (hhi : InR hi) (hk : ∀ D' : DD, FrT D D' → TS D' (fs F (nOk co p lo hi) p) (p + nLen co p) → P (some (iI (nVal co p))) SH D') : TM g mX2_readNumber (d + 2) P [.ref 10, iI lo, iI hi] D := by
  have h6 := hT.1
  have e1 : ((p + 1 : Nat) : Int) = (p : Int) + 1 := by omega
  have e2 : ((p + 2 : Nat) : Int) = (p : Int) + 1 + 1 := by omega
  have i0 := hK.2.2.2.2 p
  have i1 := hK.2.2.2.2 (p + 1)
  have tail : ∀ (D1 : DD) (v : Int) (q : Nat), FrT D D1 → TS D1 F q → dgt (co p) → v = nVal co p → q = p + nLen co p → (0 ≤ v ∧ v ≤ 1000) → T g mX2_readNumber (rmd (d + 2) 0 0) 0 0 (Qm g (rmd (d + 2) 0 0) P) 76 [some (.ref 10), some (iI lo), some (iI hi), some (iI p), some (iI v)] [] SH D1 := by
    intro D1 v q f1 t1 hd hv hq hb
    subst hv
    refine T_iload dX2_readNumber_76 rfl ?_
    refine T_iload_n dX2_readNumber_78 rfl ?_
    refine T_iload_n dX2_readNumber_79 rfl ?_
    refine T_cSN_3 dX2_readNumber_80 lkX2_96 (Nat.le_of_ble_eq_true rfl) (RO_r (by decide)) (Nat.le_of_ble_eq_true rfl) ?_
    refine c_isWithin (by unfold InR; omega) hlo hhi (fun h1 h2 => ?_) (fun h1 => ?_)
    · refine T_if_ne 91 dX2_readNumber_83 (by decide) (by unfold InR; decide) (fun _ => ?_) (fun h => absurd (by decide) h)
      refine T_iload dX2_readNumber_91 rfl ?_
      refine T_iret dX2_readNumber_93 rfl ?_
      first
      | (refine hk D1 f1 ?_
         rw [fs_yes (⟨hd, h1, h2⟩ : nOk co p lo hi), ← hq]
         exact t1)
      | (refine hk D2 (f1.tr f2) ?_
         rw [fs_and (c := nOk co p lo hi) (fun z => h1 ⟨z.2.1, z.2.2⟩), hq] at t2
         exact t2)
    · refine T_if_ne 91 dX2_readNumber_83 (by decide) (by unfold InR; decide) (fun h => absurd h (by decide)) (fun _ => ?_)
      refine T_aload_n dX2_readNumber_86 rfl ?_
      refine T_iload_n dX2_readNumber_87 rfl ?_
      refine T_cV_1 dX2_readNumber_88 lkX2_46 rfl (Nat.le_of_ble_eq_true rfl) (RO_r (by decide)) (Nat.le_of_ble_eq_true rfl) ?_
      refine c_failAt t1 (fun D2 f2 t2 => ?_)
      refine T_iload dX2_readNumber_91 rfl ?_
      refine T_iret dX2_readNumber_93 rfl ?_
      first
      | (refine hk D1 f1 ?_
         rw [fs_yes (⟨hd, h1, h2⟩ : nOk co p lo hi), ← hq]
         exact t1)
      | (refine hk D2 (f1.tr f2) ?_
         rw [fs_and (c := nOk co p lo hi) (fun z => h1 ⟨z.2.1, z.2.2⟩), hq] at t2
         exact t2)
  refine T_aload_n dX2_readNumber_0 rfl ?_
  refine T_getI dX2_readNumber_1 flX2_39 rfl rfl ?_
  rw [h6]
  refine T_istore_n dX2_readNumber_4 (by decide) ?_
  refine T_aload_n dX2_readNumber_5 rfl ?_
  refine T_cV_0 dX2_readNumber_6 lkX2_84 rfl (Nat.le_of_ble_eq_true rfl) (RO_r (by decide)) (Nat.le_of_ble_eq_true rfl) ?_
  refine c_codeHere hK h6 (by omega) ?_
  refine T_cS_1 dX2_readNumber_9 lkX2_92 (Nat.le_of_ble_eq_true rfl) (RO_r (by decide)) (Nat.le_of_ble_eq_true rfl) ?_
  refine c_isDigit i0 (fun hd => ?_) (fun hd => ?_)
  · refine T_if_ne 22 dX2_readNumber_12 (by decide) (by unfold InR; decide) (fun _ => ?_) (fun h => absurd (by decide) h)
    refine T_aload_n dX2_readNumber_22 rfl ?_
    refine T_cV_0 dX2_readNumber_23 lkX2_84 rfl (Nat.le_of_ble_eq_true rfl) (RO_r (by decide)) (Nat.le_of_ble_eq_true rfl) ?_
    refine c_codeHere hK h6 (by omega) ?_
    refine T_bipush dX2_readNumber_26 (by decide) ?_
    refine T_isub dX2_readNumber_28 ?_
    refine T_istore dX2_readNumber_29 (by decide) ?_
    refine T_aload_n dX2_readNumber_31 rfl ?_
    refine T_dup dX2_readNumber_32 rfl ?_
    refine T_getI dX2_readNumber_33 flX2_39 rfl rfl ?_
    refine T_iconst dX2_readNumber_36 ?_
    refine T_iadd dX2_readNumber_37 ?_
    rw [h6, ← e1]
    have t1 : TS (st2 D 10 6 ((p + 1 : Nat) : Int)) F (p + 1) := hT.mv
    have f1 : FrT D (st2 D 10 6 ((p + 1 : Nat) : Int)) := FrT.at6
    have g6 : st2 D 10 6 ((p + 1 : Nat) : Int) 10 6 = ((p + 1 : Nat) : Int) := st2_at
    refine T_putI dX2_readNumber_38 flX2_39 rfl rfl ?_
    refine T_aload_n dX2_readNumber_41 rfl ?_
    refine T_cV_0 dX2_readNumber_42 lkX2_84 rfl (Nat.le_of_ble_eq_true rfl) (RO_r (by decide)) (Nat.le_of_ble_eq_true rfl) ?_
    refine c_codeHere (hK.fr f1) g6 (by omega) ?_
    refine T_cS_1 dX2_readNumber_45 lkX2_92 (Nat.le_of_ble_eq_true rfl) (RO_r (by decide)) (Nat.le_of_ble_eq_true rfl) ?_
    refine c_isDigit i1 (fun hd1 => ?_) (fun hd1 => ?_)
    · refine T_if_eq 76 dX2_readNumber_48 (by decide) (by unfold InR; decide) (fun h => absurd h (by decide)) (fun _ => ?_)
      refine T_bipush dX2_readNumber_51 (by decide) ?_
      refine T_iload dX2_readNumber_53 rfl ?_
      refine T_imul dX2_readNumber_55 ?_
      refine T_aload_n dX2_readNumber_56 rfl ?_
      refine T_cV_0 dX2_readNumber_57 lkX2_84 rfl (Nat.le_of_ble_eq_true rfl) (RO_r (by decide)) (Nat.le_of_ble_eq_true rfl) ?_
      refine c_codeHere (hK.fr f1) g6 (by omega) ?_
      refine T_iadd dX2_readNumber_60 ?_
      refine T_bipush dX2_readNumber_61 (by decide) ?_
      refine T_isub dX2_readNumber_63 ?_
      refine T_istore dX2_readNumber_64 (by decide) ?_
      refine T_aload_n dX2_readNumber_66 rfl ?_
      refine T_dup dX2_readNumber_67 rfl ?_
      refine T_getI dX2_readNumber_68 flX2_39 rfl rfl ?_
      refine T_iconst dX2_readNumber_71 ?_
      refine T_iadd dX2_readNumber_72 ?_
      refine T_putI dX2_readNumber_73 flX2_39 rfl rfl ?_
      first
      | (refine tail _ _ (p + 1) f1 t1 hd ?_ ?_ (by omega)
         · unfold nVal; rw [if_pos hd, if_neg hd1]
         · unfold nLen; rw [if_pos hd, if_neg hd1])
      | (rw [g6, show ((p + 1 : Nat) : Int) + 1 = ((p + 2 : Nat) : Int) by omega]
         refine tail _ _ (p + 2) (f1.tr FrT.at6) t1.mv hd ?_ ?_ (by omega)
         · unfold nVal; rw [if_pos hd, if_pos hd1]
         · unfold nLen; rw [if_pos hd, if_pos hd1])
    · refine T_if_eq 76 dX2_readNumber_48 (by decide) (by unfold InR; decide) (fun _ => ?_) (fun h => absurd (by decide) h)
      first
      | (refine tail _ _ (p + 1) f1 t1 hd ?_ ?_ (by omega)
         · unfold nVal; rw [if_pos hd, if_neg hd1]
         · unfold nLen; rw [if_pos hd, if_neg hd1])
      | (rw [g6, show ((p + 1 : Nat) : Int) + 1 = ((p + 2 : Nat) : Int) by omega]
         refine tail _ _ (p + 2) (f1.tr FrT.at6) t1.mv hd ?_ ?_ (by omega)
         · unfold nVal; rw [if_pos hd, if_pos hd1]
         · unfold nLen; rw [if_pos hd, if_pos hd1])
  · refine T_if_ne 22 dX2_readNumber_12 (by decide) (by unfold InR; decide) (fun h => absurd h (by decide)) (fun _ => ?_)
    refine T_aload_n dX2_readNumber_15 rfl ?_
    refine T_iload_n dX2_readNumber_16 rfl ?_
    refine T_cV_1 dX2_readNumber_17 lkX2_46 rfl (Nat.le_of_ble_eq_true rfl) (RO_r (by decide)) (Nat.le_of_ble_eq_true rfl) ?_
    refine c_failAt hT (fun D1 f1 t1 => ?_)
    refine T_iconst dX2_readNumber_20 ?_
    refine T_iret dX2_readNumber_21 rfl ?_
    have e0 : nVal co p = 0 := by unfold nVal; rw [if_neg hd]
    have e3 : nLen co p = 0 := by unfold nLen; rw [if_neg hd]
    rw [e0, e3] at hk
    refine hk D1 f1 ?_
    rw [fs_and (c := nOk co p lo hi) (fun z => hd z.1)] at t1
    exact t1
theorem c_kindOf {c : Int} (hc : InR c) (hk : P (some (iI (kC c))) SH D) : TM g mX2_kindOf d P [iI c] D := by
  unfold kC at hk
  refine T_iload_n dX2_kindOf_0 rfl ?_
  refine T_lsw4 50 44 46 48 52 dX2_kindOf_1 hc (by decide) (by decide) (fun hs1 => ?_) (fun hs1 => ?_) (fun hs1 => ?_) (fun hs1 => ?_) (fun hs1 => ?_)
  · refine T_iconst dX2_kindOf_50 ?_
    refine T_iret dX2_kindOf_51 rfl ?_
    first
    | (rw [if_pos (by omega)] at hk; exact hk)
    | (rw [if_neg (by omega), if_pos (by omega)] at hk; exact hk)
    | (rw [if_neg (by omega), if_neg (by omega), if_pos (by omega)] at hk; exact hk)
    | (rw [if_neg (by omega), if_neg (by omega), if_neg (by omega), if_pos (by omega)] at hk; exact hk)
    | (rw [if_neg (by omega), if_neg (by omega), if_neg (by omega), if_neg (by omega)] at hk; exact hk)
  · refine T_iconst dX2_kindOf_44 ?_
    refine T_iret dX2_kindOf_45 rfl ?_
    first
    | (rw [if_pos (by omega)] at hk; exact hk)
    | (rw [if_neg (by omega), if_pos (by omega)] at hk; exact hk)
    | (rw [if_neg (by omega), if_neg (by omega), if_pos (by omega)] at hk; exact hk)
    | (rw [if_neg (by omega), if_neg (by omega), if_neg (by omega), if_pos (by omega)] at hk; exact hk)
    | (rw [if_neg (by omega), if_neg (by omega), if_neg (by omega), if_neg (by omega)] at hk; exact hk)
  · refine T_iconst dX2_kindOf_46 ?_
    refine T_iret dX2_kindOf_47 rfl ?_
    first
    | (rw [if_pos (by omega)] at hk; exact hk)
    | (rw [if_neg (by omega), if_pos (by omega)] at hk; exact hk)
    | (rw [if_neg (by omega), if_neg (by omega), if_pos (by omega)] at hk; exact hk)
    | (rw [if_neg (by omega), if_neg (by omega), if_neg (by omega), if_pos (by omega)] at hk; exact hk)
    | (rw [if_neg (by omega), if_neg (by omega), if_neg (by omega), if_neg (by omega)] at hk; exact hk)
  · refine T_iconst dX2_kindOf_48 ?_
    refine T_iret dX2_kindOf_49 rfl ?_
    first
    | (rw [if_pos (by omega)] at hk; exact hk)
    | (rw [if_neg (by omega), if_pos (by omega)] at hk; exact hk)
    | (rw [if_neg (by omega), if_neg (by omega), if_pos (by omega)] at hk; exact hk)
    | (rw [if_neg (by omega), if_neg (by omega), if_neg (by omega), if_pos (by omega)] at hk; exact hk)
    | (rw [if_neg (by omega), if_neg (by omega), if_neg (by omega), if_neg (by omega)] at hk; exact hk)
  · refine T_bipush dX2_kindOf_52 (by decide) ?_
    refine T_iret dX2_kindOf_54 rfl ?_
    first
    | (rw [if_pos (by omega)] at hk; exact hk)
    | (rw [if_neg (by omega), if_pos (by omega)] at hk; exact hk)
    | (rw [if_neg (by omega), if_neg (by omega), if_pos (by omega)] at hk; exact hk)
    | (rw [if_neg (by omega), if_neg (by omega), if_neg (by omega), if_pos (by omega)] at hk; exact hk)
    | (rw [if_neg (by omega), if_neg (by omega), if_neg (by omega), if_neg (by omega)] at hk; exact hk)
end

