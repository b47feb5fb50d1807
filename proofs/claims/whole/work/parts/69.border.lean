theorem gcd_step {l s : Nat} : Nat.gcd s (l % s) = Nat.gcd l s := by
  rw [Nat.gcd_comm l s, Nat.gcd_rec s l, Nat.gcd_comm]
theorem gcd_half {l s q : Nat} (h0 : s ≠ 0) (h1 : s ≤ l) (h2 : s * l < 2 ^ (q + 1)) : l % s ≤ s ∧ l % s * s < 2 ^ q := by
  have a := Nat.mod_lt l (by omega : 0 < s)
  have b : 2 * (l % s) ≤ l := by
    have e := Nat.div_add_mod l s
    have f : 1 ≤ l / s := (Nat.le_div_iff_mul_le (by omega)).mpr (by omega)
    have k := Nat.mul_le_mul_left s f
    omega
  have c := Nat.mul_le_mul_left s b
  have e : s * (2 * (l % s)) = 2 * (l % s * s) := by rw [Nat.mul_left_comm, Nat.mul_comm s]
  rw [Nat.pow_succ] at h2
  omega
theorem tmod_n (l s : Nat) : (l : Int).tmod s = ((l % s : Nat) : Int) := rfl
/-- the three numbers of a border, in lowest terms -/
def brdG (a b c : Int) : Nat := Nat.gcd (Nat.gcd a.natAbs b.natAbs) c.natAbs
def brdS (a b c : Int) : Int := if a < 0 ∨ (a = 0 ∧ b < 0) then -(brdG a b c : Int) else brdG a b c
def brd (a b c w : Int) : Int := if w = 0 then a.tdiv (brdS a b c) else if w = 1 then b.tdiv (brdS a b c) else c.tdiv (brdS a b c)
theorem ab_n (a : Int) : (if 0 ≤ a then a else -a) = (a.natAbs : Int) := by split <;> omega
theorem tdiv_bd (a b : Int) : (a.tdiv b).natAbs ≤ a.natAbs := by rw [Int.natAbs_tdiv]; exact Nat.div_le_self _ _
theorem gcd_bd {v w m : Nat} (h1 : v ≤ m) (h2 : w ≤ m) : Nat.gcd v w ≤ m := by
  by_cases e : v = 0
  · subst e; rw [Nat.gcd_zero_left]; exact h2
  · exact Nat.le_trans (Nat.gcd_le_left w (by omega)) h1
theorem brd_ne {a b c : Int} (h : ¬ (a = 0 ∧ b = 0)) : brdG a b c ≠ 0 := by
  unfold brdG
  intro e
  have e1 := Nat.eq_zero_of_gcd_eq_zero_left e
  have e2 := Nat.eq_zero_of_gcd_eq_zero_left e1
  have e3 := Nat.eq_zero_of_gcd_eq_zero_right e1
  omega
section
variable {g : G0} {d : Nat} {P : Option Value → List SC → DD → Prop} {D : DD}
theorem c_commonDivisor {v w : Nat} (hv : v ≤ 4000000) (hw : w ≤ 4000000) (hk : P (some (iI (Nat.gcd v w : Nat))) SH D) : TM g mX6_commonDivisor d P [iI v, iI w] D := by
  have loop : ∀ (q r l s : Nat) (m5 : Option Value), q + r = 64 → s ≤ l → l ≤ 4000000 → s * l < 2 ^ q → Nat.gcd l s = Nat.gcd v w → T g mX6_commonDivisor (rmd d 0 0) 0 0 (Qm g (rmd d 0 0) P) 7 [some (iI v), some (iI w), some (iI l), some (iI s), some (iI r), m5] [] SH D := by
    intro q
    induction q with
    | zero =>
      intro r l s m5 hq h1 h2 h3 h4
      have h0 : s = 0 := by
        refine Classical.byContradiction fun z => ?_
        have := Nat.mul_le_mul (show 1 ≤ s by omega) (show 1 ≤ l by omega)
        omega
      subst h0
      rw [Nat.gcd_zero_right] at h4
      subst h4
      refine T_iload dX6_commonDivisor_7 rfl ?_
      refine T_bipush dX6_commonDivisor_9 (by decide) ?_
      refine T_icmp_ge 34 dX6_commonDivisor_11 (by decide) (by first | (unfold InR; omega) | (simp [st2, InR]; omega)) (by first | (unfold InR; omega) | (simp [st2, InR]; omega)) (fun hc11 => ?_) (fun hc11 => (by exfalso; omega))
      refine T_iload_n dX6_commonDivisor_34 rfl ?_
      refine T_iret dX6_commonDivisor_35 rfl ?_
      exact hk
    | succ q ih =>
      intro r l s m5 hq h1 h2 h3 h4
      refine T_iload dX6_commonDivisor_7 rfl ?_
      refine T_bipush dX6_commonDivisor_9 (by decide) ?_
      refine T_icmp_ge 34 dX6_commonDivisor_11 (by decide) (by first | (unfold InR; omega) | (simp [st2, InR]; omega)) (by first | (unfold InR; omega) | (simp [st2, InR]; omega)) (fun hc11 => (by exfalso; omega)) (fun hc11 => ?_)
      refine T_iload_n dX6_commonDivisor_14 rfl ?_
      refine T_if_eq 34 dX6_commonDivisor_15 (by decide) (by unfold InR; omega) (fun hc15 => ?_) (fun hc15 => ?_)
      · refine T_iload_n dX6_commonDivisor_34 rfl ?_
        refine T_iret dX6_commonDivisor_35 rfl ?_
        have h0 : s = 0 := by omega
        subst h0
        rw [Nat.gcd_zero_right] at h4
        subst h4
        exact hk
      · have hs0 : s ≠ 0 := by omega
        obtain ⟨g1, g2⟩ := gcd_half hs0 h1 h3
        refine T_iload_n dX6_commonDivisor_18 rfl ?_
        refine T_iload_n dX6_commonDivisor_19 rfl ?_
        refine T_irem dX6_commonDivisor_20 (by unfold InR; omega) (by unfold InR; omega) (by omega) ?_
        refine T_istore dX6_commonDivisor_21 (by decide) ?_
        refine T_iload_n dX6_commonDivisor_23 rfl ?_
        refine T_istore_n dX6_commonDivisor_24 (by decide) ?_
        refine T_iload dX6_commonDivisor_25 rfl ?_
        refine T_istore_n dX6_commonDivisor_27 (by decide) ?_
        refine T_iinc dX6_commonDivisor_28 rfl (by decide) ?_
        refine T_goto (tgt := 7) dX6_commonDivisor_31 (by decide) ?_
        rw [tmod_n]
        exact ih (r + 1) s (l % s) _ (by omega) g1 (by omega) g2 (gcd_step.trans h4)
  have hb : ∀ a b : Nat, a ≤ 4000000 → b ≤ 4000000 → a * b < 2 ^ 63 := fun a b h1 h2 => by have := Nat.mul_le_mul h1 h2; omega
  by_cases z : w ≤ v
  · skip
    refine T_iload_n dX6_commonDivisor_0 rfl ?_
    refine T_istore_n dX6_commonDivisor_1 (by decide) ?_
    refine T_iload_n dX6_commonDivisor_2 rfl ?_
    refine T_istore_n dX6_commonDivisor_3 (by decide) ?_
    refine T_iconst dX6_commonDivisor_4 ?_
    refine T_istore dX6_commonDivisor_5 (by decide) ?_
    exact loop 64 0 v w none (by omega) z hv (by have := hb w v hw hv; omega) rfl
  · have hw0 : w ≠ 0 := by omega
    refine T_iload_n dX6_commonDivisor_0 rfl ?_
    refine T_istore_n dX6_commonDivisor_1 (by decide) ?_
    refine T_iload_n dX6_commonDivisor_2 rfl ?_
    refine T_istore_n dX6_commonDivisor_3 (by decide) ?_
    refine T_iconst dX6_commonDivisor_4 ?_
    refine T_istore dX6_commonDivisor_5 (by decide) ?_
    refine T_iload dX6_commonDivisor_7 rfl ?_
    refine T_bipush dX6_commonDivisor_9 (by decide) ?_
    refine T_icmp_ge 34 dX6_commonDivisor_11 (by decide) (by unfold InR; decide) (by unfold InR; decide) (fun h => absurd h (by decide)) (fun _ => ?_)
    refine T_iload_n dX6_commonDivisor_14 rfl ?_
    refine T_if_eq 34 dX6_commonDivisor_15 (by decide) (by unfold InR; omega) (fun hc15 => (by exfalso; omega)) (fun hc15 => ?_)
    refine T_iload_n dX6_commonDivisor_18 rfl ?_
    refine T_iload_n dX6_commonDivisor_19 rfl ?_
    refine T_irem dX6_commonDivisor_20 (by unfold InR; omega) (by unfold InR; omega) (by omega) ?_
    refine T_istore dX6_commonDivisor_21 (by decide) ?_
    refine T_iload_n dX6_commonDivisor_23 rfl ?_
    refine T_istore_n dX6_commonDivisor_24 (by decide) ?_
    refine T_iload dX6_commonDivisor_25 rfl ?_
    refine T_istore_n dX6_commonDivisor_27 (by decide) ?_
    refine T_iinc dX6_commonDivisor_28 rfl (by decide) ?_
    refine T_goto (tgt := 7) dX6_commonDivisor_31 (by decide) ?_
    rw [tmod_n]
    have e := Nat.mod_lt v (by omega : 0 < w)
    exact loop 63 1 w (v % w) _ (by omega) (by omega) hw (hb _ _ (by omega) hw) gcd_step
theorem c_sideOfBorder {c : Int} (hc : 0 ≤ c ∧ c < 5) (hk : P (some (iI (D 7 c.toNat * D 7 c.toNat + D 8 c.toNat * D 8 c.toNat + D 26 c.toNat))) SH D) : TM g mX6_sideOfBorder d P [.ref 0, iI c] D := by
  refine T_aload_n dX6_sideOfBorder_0 rfl ?_
  refine T_getR dX6_sideOfBorder_1 flX6_12 rfl rfl ?_
  refine T_getR dX6_sideOfBorder_4 flX6_131 rfl rfl ?_
  refine T_iload_n dX6_sideOfBorder_7 rfl ?_
  refine T_iald dX6_sideOfBorder_8 rfl (by first | decide | omega) (by first | omega | (simp [st2]; omega)) (by first | omega | (simp [st2]; omega)) ?_
  refine T_aload_n dX6_sideOfBorder_9 rfl ?_
  refine T_getR dX6_sideOfBorder_10 flX6_12 rfl rfl ?_
  refine T_getR dX6_sideOfBorder_13 flX6_131 rfl rfl ?_
  refine T_iload_n dX6_sideOfBorder_16 rfl ?_
  refine T_iald dX6_sideOfBorder_17 rfl (by first | decide | omega) (by first | omega | (simp [st2]; omega)) (by first | omega | (simp [st2]; omega)) ?_
  refine T_imul dX6_sideOfBorder_18 ?_
  refine T_aload_n dX6_sideOfBorder_19 rfl ?_
  refine T_getR dX6_sideOfBorder_20 flX6_12 rfl rfl ?_
  refine T_getR dX6_sideOfBorder_23 flX6_134 rfl rfl ?_
  refine T_iload_n dX6_sideOfBorder_26 rfl ?_
  refine T_iald dX6_sideOfBorder_27 rfl (by first | decide | omega) (by first | omega | (simp [st2]; omega)) (by first | omega | (simp [st2]; omega)) ?_
  refine T_aload_n dX6_sideOfBorder_28 rfl ?_
  refine T_getR dX6_sideOfBorder_29 flX6_12 rfl rfl ?_
  refine T_getR dX6_sideOfBorder_32 flX6_134 rfl rfl ?_
  refine T_iload_n dX6_sideOfBorder_35 rfl ?_
  refine T_iald dX6_sideOfBorder_36 rfl (by first | decide | omega) (by first | omega | (simp [st2]; omega)) (by first | omega | (simp [st2]; omega)) ?_
  refine T_imul dX6_sideOfBorder_37 ?_
  refine T_iadd dX6_sideOfBorder_38 ?_
  refine T_aload_n dX6_sideOfBorder_39 rfl ?_
  refine T_getR dX6_sideOfBorder_40 flX6_28 rfl rfl ?_
  refine T_getR dX6_sideOfBorder_43 flX6_165 rfl rfl ?_
  refine T_iload_n dX6_sideOfBorder_46 rfl ?_
  refine T_iald dX6_sideOfBorder_47 rfl (by first | decide | omega) (by first | omega | (simp [st2]; omega)) (by first | omega | (simp [st2]; omega)) ?_
  refine T_iadd dX6_sideOfBorder_48 ?_
  refine T_iret dX6_sideOfBorder_49 rfl ?_
  exact hk
theorem c_partOfBorder {p q w : Int} (hL : LK D) (hp : 0 ≤ p ∧ p < 5) (hq : 0 ≤ q ∧ q < 5) (hw : InR w) (hn : ¬ (D 7 p.toNat = D 7 q.toNat ∧ D 8 p.toNat = D 8 q.toNat)) (w1 : 0 ≤ D 26 p.toNat ∧ D 26 p.toNat ≤ 2000000) (w2 : 0 ≤ D 26 q.toNat ∧ D 26 q.toNat ≤ 2000000) (hk : P (some (lI (brd (2 * (D 7 q.toNat - D 7 p.toNat)) (2 * (D 8 q.toNat - D 8 p.toNat)) (D 7 q.toNat * D 7 q.toNat + D 8 q.toNat * D 8 q.toNat + D 26 q.toNat - (D 7 p.toNat * D 7 p.toNat + D 8 p.toNat * D 8 p.toNat + D 26 p.toNat)) w))) SH D) : TM g mX6_partOfBorder (d + 1) P [.ref 0, iI p, iI q, iI w] D := by
  obtain ⟨-, -, -, -, -, -, -, -, -, hx, hy, -⟩ := hL
  have x1 := hx p.toNat; have x2 := hx q.toNat; have y1 := hy p.toNat; have y2 := hy q.toNat
  have sq : ∀ a : Int, 0 ≤ a ∧ a ≤ 60 → 0 ≤ a * a ∧ a * a ≤ 3600 := fun a ha => ⟨Int.mul_nonneg ha.1 ha.1, Int.le_trans (Int.mul_le_mul ha.2 ha.2 ha.1 (by decide)) (by decide)⟩
  have s1 := sq _ x1; have s2 := sq _ x2; have s3 := sq _ y1; have s4 := sq _ y2
  generalize ea : 2 * (D 7 q.toNat - D 7 p.toNat) = a at hk
  generalize eb : 2 * (D 8 q.toNat - D 8 p.toNat) = b at hk
  generalize ec : D 7 q.toNat * D 7 q.toNat + D 8 q.toNat * D 8 q.toNat + D 26 q.toNat - (D 7 p.toNat * D 7 p.toNat + D 8 p.toNat * D 8 p.toNat + D 26 p.toNat) = c at hk
  have ba : -120 ≤ a ∧ a ≤ 120 := by omega
  have bb : -120 ≤ b ∧ b ≤ 120 := by omega
  have bc : -2100000 ≤ c ∧ c ≤ 2100000 := by omega
  have g0 : brdG a b c ≠ 0 := brd_ne (by omega)
  have g1 : Nat.gcd a.natAbs b.natAbs ≤ 4000000 := gcd_bd (by omega) (by omega)
  have g2 : brdG a b c ≤ 4000000 := gcd_bd g1 (by omega)
  have t1 := tdiv_bd a (brdS a b c)
  have t2 := tdiv_bd b (brdS a b c)
  have t3 := tdiv_bd c (brdS a b c)
  have sP : (a < 0 ∨ (a = 0 ∧ b < 0)) → brdS a b c = -(brdG a b c : Int) := fun z => if_pos z
  have sN : ¬ (a < 0 ∨ (a = 0 ∧ b < 0)) → brdS a b c = (brdG a b c : Int) := fun z => if_neg z
  unfold brd at hk
  refine T_iconst dX6_partOfBorder_0 ?_
  refine T_aload_n dX6_partOfBorder_1 rfl ?_
  refine T_getR dX6_partOfBorder_2 flX6_12 rfl rfl ?_
  refine T_getR dX6_partOfBorder_5 flX6_131 rfl rfl ?_
  refine T_iload_n dX6_partOfBorder_8 rfl ?_
  refine T_iald dX6_partOfBorder_9 rfl (by first | decide | omega) (by first | omega | (simp [st2]; omega)) (by first | omega | (simp [st2]; omega)) ?_
  refine T_aload_n dX6_partOfBorder_10 rfl ?_
  refine T_getR dX6_partOfBorder_11 flX6_12 rfl rfl ?_
  refine T_getR dX6_partOfBorder_14 flX6_131 rfl rfl ?_
  refine T_iload_n dX6_partOfBorder_17 rfl ?_
  refine T_iald dX6_partOfBorder_18 rfl (by first | decide | omega) (by first | omega | (simp [st2]; omega)) (by first | omega | (simp [st2]; omega)) ?_
  refine T_isub dX6_partOfBorder_19 ?_
  refine T_imul dX6_partOfBorder_20 ?_
  refine T_istore dX6_partOfBorder_21 (by decide) ?_
  refine T_iconst dX6_partOfBorder_23 ?_
  refine T_aload_n dX6_partOfBorder_24 rfl ?_
  refine T_getR dX6_partOfBorder_25 flX6_12 rfl rfl ?_
  refine T_getR dX6_partOfBorder_28 flX6_134 rfl rfl ?_
  refine T_iload_n dX6_partOfBorder_31 rfl ?_
  refine T_iald dX6_partOfBorder_32 rfl (by first | decide | omega) (by first | omega | (simp [st2]; omega)) (by first | omega | (simp [st2]; omega)) ?_
  refine T_aload_n dX6_partOfBorder_33 rfl ?_
  refine T_getR dX6_partOfBorder_34 flX6_12 rfl rfl ?_
  refine T_getR dX6_partOfBorder_37 flX6_134 rfl rfl ?_
  refine T_iload_n dX6_partOfBorder_40 rfl ?_
  refine T_iald dX6_partOfBorder_41 rfl (by first | decide | omega) (by first | omega | (simp [st2]; omega)) (by first | omega | (simp [st2]; omega)) ?_
  refine T_isub dX6_partOfBorder_42 ?_
  refine T_imul dX6_partOfBorder_43 ?_
  refine T_istore dX6_partOfBorder_44 (by decide) ?_
  refine T_aload_n dX6_partOfBorder_46 rfl ?_
  refine T_iload_n dX6_partOfBorder_47 rfl ?_
  refine T_cV_1 dX6_partOfBorder_48 lkX6_310 rfl (Nat.le_of_ble_eq_true rfl) (RO_r (by decide)) (Nat.le_of_ble_eq_true rfl) ?_
  refine c_sideOfBorder hq ?_
  refine T_aload_n dX6_partOfBorder_51 rfl ?_
  refine T_iload_n dX6_partOfBorder_52 rfl ?_
  refine T_cV_1 dX6_partOfBorder_53 lkX6_310 rfl (Nat.le_of_ble_eq_true rfl) (RO_r (by decide)) (Nat.le_of_ble_eq_true rfl) ?_
  refine c_sideOfBorder hp ?_
  refine T_isub dX6_partOfBorder_56 ?_
  refine T_istore dX6_partOfBorder_57 (by decide) ?_
  rw [ea, eb, ec]
  refine T_iload dX6_partOfBorder_59 rfl ?_
  refine T_abs dX6_partOfBorder_61 lkX6_313 (by unfold InR; omega) (Nat.le_of_ble_eq_true rfl) ⟨by show _ ≤ _; first | decide | (simp only [rmd]; omega) | omega, by show _ ≤ _; first | decide | (simp only [rmd]; omega) | omega⟩ ?_
  refine T_iload dX6_partOfBorder_64 rfl ?_
  refine T_abs dX6_partOfBorder_66 lkX6_313 (by unfold InR; omega) (Nat.le_of_ble_eq_true rfl) ⟨by show _ ≤ _; first | decide | (simp only [rmd]; omega) | omega, by show _ ≤ _; first | decide | (simp only [rmd]; omega) | omega⟩ ?_
  rw [ab_n, ab_n]
  refine T_cS_2 dX6_partOfBorder_69 lkX6_318 (Nat.le_of_ble_eq_true rfl) (RO_r (by decide)) (Nat.le_of_ble_eq_true rfl) ?_
  refine c_commonDivisor (by omega) (by omega) ?_
  refine T_iload dX6_partOfBorder_72 rfl ?_
  refine T_abs dX6_partOfBorder_74 lkX6_313 (by unfold InR; omega) (Nat.le_of_ble_eq_true rfl) ⟨by show _ ≤ _; first | decide | (simp only [rmd]; omega) | omega, by show _ ≤ _; first | decide | (simp only [rmd]; omega) | omega⟩ ?_
  rw [ab_n]
  refine T_cS_2 dX6_partOfBorder_77 lkX6_318 (Nat.le_of_ble_eq_true rfl) (RO_r (by decide)) (Nat.le_of_ble_eq_true rfl) ?_
  refine c_commonDivisor g1 (by omega) ?_
  show T _ _ _ _ _ _ _ _ [iI (brdG a b c : Nat)] _ _
  refine T_istore dX6_partOfBorder_80 (by decide) ?_
  refine T_iload dX6_partOfBorder_82 rfl ?_
  refine T_if_ne 91 dX6_partOfBorder_84 (by decide) (by unfold InR; omega) (fun hc84 => ?_) (fun hc84 => (by exfalso; omega))
  refine T_iload dX6_partOfBorder_91 rfl ?_
  refine T_if_lt 106 dX6_partOfBorder_93 (by decide) (by unfold InR; omega) (fun hc93 => ?_) (fun hc93 => ?_)
  · refine T_iload dX6_partOfBorder_106 rfl ?_
    refine T_ineg dX6_partOfBorder_108 ?_
    refine T_goto (tgt := 114) dX6_partOfBorder_109 (by decide) ?_
    refine T_istore dX6_partOfBorder_114 (by decide) ?_
    first
    | rw [← sP (by omega)]
    | rw [← sN (by omega)]
    have sz : brdS a b c ≠ 0 ∧ InR (brdS a b c) := by
      by_cases z : a < 0 ∨ (a = 0 ∧ b < 0)
      · rw [sP z]; unfold InR; omega
      · rw [sN z]; unfold InR; omega
    refine T_iload_n dX6_partOfBorder_116 rfl ?_
    refine T_if_ne 129 dX6_partOfBorder_117 (by decide) hw (fun hc117 => ?_) (fun hc117 => ?_)
    · refine T_iload_n dX6_partOfBorder_129 rfl ?_
      refine T_iconst dX6_partOfBorder_130 ?_
      refine T_icmp_ne 143 dX6_partOfBorder_131 (by decide) hw (by first | (unfold InR; omega) | (simp [st2, InR]; omega)) (fun hc131 => ?_) (fun hc131 => ?_)
      · refine T_iload dX6_partOfBorder_143 rfl ?_
        refine T_iload dX6_partOfBorder_145 rfl ?_
        refine T_idiv dX6_partOfBorder_147 (by unfold InR; omega) sz.2 sz.1 ?_
        refine T_i2l dX6_partOfBorder_148 (by unfold InR; omega) ?_
        refine T_lret dX6_partOfBorder_149 rfl ?_
        first
        | (rw [if_pos (by omega)] at hk; exact hk)
        | (rw [if_neg (by omega), if_pos (by omega)] at hk; exact hk)
        | (rw [if_neg (by omega), if_neg (by omega)] at hk; exact hk)
      · refine T_iload dX6_partOfBorder_134 rfl ?_
        refine T_iload dX6_partOfBorder_136 rfl ?_
        refine T_idiv dX6_partOfBorder_138 (by unfold InR; omega) sz.2 sz.1 ?_
        refine T_i2l dX6_partOfBorder_139 (by unfold InR; omega) ?_
        refine T_goto (tgt := 149) dX6_partOfBorder_140 (by decide) ?_
        refine T_lret dX6_partOfBorder_149 rfl ?_
        first
        | (rw [if_pos (by omega)] at hk; exact hk)
        | (rw [if_neg (by omega), if_pos (by omega)] at hk; exact hk)
        | (rw [if_neg (by omega), if_neg (by omega)] at hk; exact hk)
    · refine T_iload dX6_partOfBorder_120 rfl ?_
      refine T_iload dX6_partOfBorder_122 rfl ?_
      refine T_idiv dX6_partOfBorder_124 (by unfold InR; omega) sz.2 sz.1 ?_
      refine T_i2l dX6_partOfBorder_125 (by unfold InR; omega) ?_
      refine T_goto (tgt := 149) dX6_partOfBorder_126 (by decide) ?_
      refine T_lret dX6_partOfBorder_149 rfl ?_
      first
      | (rw [if_pos (by omega)] at hk; exact hk)
      | (rw [if_neg (by omega), if_pos (by omega)] at hk; exact hk)
      | (rw [if_neg (by omega), if_neg (by omega)] at hk; exact hk)
  · refine T_iload dX6_partOfBorder_96 rfl ?_
    refine T_if_ne 112 dX6_partOfBorder_98 (by decide) (by unfold InR; omega) (fun hc98 => ?_) (fun hc98 => ?_)
    · refine T_iload dX6_partOfBorder_112 rfl ?_
      refine T_istore dX6_partOfBorder_114 (by decide) ?_
      first
      | rw [← sP (by omega)]
      | rw [← sN (by omega)]
      have sz : brdS a b c ≠ 0 ∧ InR (brdS a b c) := by
        by_cases z : a < 0 ∨ (a = 0 ∧ b < 0)
        · rw [sP z]; unfold InR; omega
        · rw [sN z]; unfold InR; omega
      refine T_iload_n dX6_partOfBorder_116 rfl ?_
      refine T_if_ne 129 dX6_partOfBorder_117 (by decide) hw (fun hc117 => ?_) (fun hc117 => ?_)
      · refine T_iload_n dX6_partOfBorder_129 rfl ?_
        refine T_iconst dX6_partOfBorder_130 ?_
        refine T_icmp_ne 143 dX6_partOfBorder_131 (by decide) hw (by first | (unfold InR; omega) | (simp [st2, InR]; omega)) (fun hc131 => ?_) (fun hc131 => ?_)
        · refine T_iload dX6_partOfBorder_143 rfl ?_
          refine T_iload dX6_partOfBorder_145 rfl ?_
          refine T_idiv dX6_partOfBorder_147 (by unfold InR; omega) sz.2 sz.1 ?_
          refine T_i2l dX6_partOfBorder_148 (by unfold InR; omega) ?_
          refine T_lret dX6_partOfBorder_149 rfl ?_
          first
          | (rw [if_pos (by omega)] at hk; exact hk)
          | (rw [if_neg (by omega), if_pos (by omega)] at hk; exact hk)
          | (rw [if_neg (by omega), if_neg (by omega)] at hk; exact hk)
        · refine T_iload dX6_partOfBorder_134 rfl ?_
          refine T_iload dX6_partOfBorder_136 rfl ?_
          refine T_idiv dX6_partOfBorder_138 (by unfold InR; omega) sz.2 sz.1 ?_
          refine T_i2l dX6_partOfBorder_139 (by unfold InR; omega) ?_
          refine T_goto (tgt := 149) dX6_partOfBorder_140 (by decide) ?_
          refine T_lret dX6_partOfBorder_149 rfl ?_
          first
          | (rw [if_pos (by omega)] at hk; exact hk)
          | (rw [if_neg (by omega), if_pos (by omega)] at hk; exact hk)
          | (rw [if_neg (by omega), if_neg (by omega)] at hk; exact hk)
      · refine T_iload dX6_partOfBorder_120 rfl ?_
        refine T_iload dX6_partOfBorder_122 rfl ?_
        refine T_idiv dX6_partOfBorder_124 (by unfold InR; omega) sz.2 sz.1 ?_
        refine T_i2l dX6_partOfBorder_125 (by unfold InR; omega) ?_
        refine T_goto (tgt := 149) dX6_partOfBorder_126 (by decide) ?_
        refine T_lret dX6_partOfBorder_149 rfl ?_
        first
        | (rw [if_pos (by omega)] at hk; exact hk)
        | (rw [if_neg (by omega), if_pos (by omega)] at hk; exact hk)
        | (rw [if_neg (by omega), if_neg (by omega)] at hk; exact hk)
    · refine T_iload dX6_partOfBorder_101 rfl ?_
      refine T_if_ge 112 dX6_partOfBorder_103 (by decide) (by unfold InR; omega) (fun hc103 => ?_) (fun hc103 => ?_)
      · refine T_iload dX6_partOfBorder_112 rfl ?_
        refine T_istore dX6_partOfBorder_114 (by decide) ?_
        first
        | rw [← sP (by omega)]
        | rw [← sN (by omega)]
        have sz : brdS a b c ≠ 0 ∧ InR (brdS a b c) := by
          by_cases z : a < 0 ∨ (a = 0 ∧ b < 0)
          · rw [sP z]; unfold InR; omega
          · rw [sN z]; unfold InR; omega
        refine T_iload_n dX6_partOfBorder_116 rfl ?_
        refine T_if_ne 129 dX6_partOfBorder_117 (by decide) hw (fun hc117 => ?_) (fun hc117 => ?_)
        · refine T_iload_n dX6_partOfBorder_129 rfl ?_
          refine T_iconst dX6_partOfBorder_130 ?_
          refine T_icmp_ne 143 dX6_partOfBorder_131 (by decide) hw (by first | (unfold InR; omega) | (simp [st2, InR]; omega)) (fun hc131 => ?_) (fun hc131 => ?_)
          · refine T_iload dX6_partOfBorder_143 rfl ?_
            refine T_iload dX6_partOfBorder_145 rfl ?_
            refine T_idiv dX6_partOfBorder_147 (by unfold InR; omega) sz.2 sz.1 ?_
            refine T_i2l dX6_partOfBorder_148 (by unfold InR; omega) ?_
            refine T_lret dX6_partOfBorder_149 rfl ?_
            first
            | (rw [if_pos (by omega)] at hk; exact hk)
            | (rw [if_neg (by omega), if_pos (by omega)] at hk; exact hk)
            | (rw [if_neg (by omega), if_neg (by omega)] at hk; exact hk)
          · refine T_iload dX6_partOfBorder_134 rfl ?_
            refine T_iload dX6_partOfBorder_136 rfl ?_
            refine T_idiv dX6_partOfBorder_138 (by unfold InR; omega) sz.2 sz.1 ?_
            refine T_i2l dX6_partOfBorder_139 (by unfold InR; omega) ?_
            refine T_goto (tgt := 149) dX6_partOfBorder_140 (by decide) ?_
            refine T_lret dX6_partOfBorder_149 rfl ?_
            first
            | (rw [if_pos (by omega)] at hk; exact hk)
            | (rw [if_neg (by omega), if_pos (by omega)] at hk; exact hk)
            | (rw [if_neg (by omega), if_neg (by omega)] at hk; exact hk)
        · refine T_iload dX6_partOfBorder_120 rfl ?_
          refine T_iload dX6_partOfBorder_122 rfl ?_
          refine T_idiv dX6_partOfBorder_124 (by unfold InR; omega) sz.2 sz.1 ?_
          refine T_i2l dX6_partOfBorder_125 (by unfold InR; omega) ?_
          refine T_goto (tgt := 149) dX6_partOfBorder_126 (by decide) ?_
          refine T_lret dX6_partOfBorder_149 rfl ?_
          first
          | (rw [if_pos (by omega)] at hk; exact hk)
          | (rw [if_neg (by omega), if_pos (by omega)] at hk; exact hk)
          | (rw [if_neg (by omega), if_neg (by omega)] at hk; exact hk)
      · refine T_iload dX6_partOfBorder_106 rfl ?_
        refine T_ineg dX6_partOfBorder_108 ?_
        refine T_goto (tgt := 114) dX6_partOfBorder_109 (by decide) ?_
        refine T_istore dX6_partOfBorder_114 (by decide) ?_
        first
        | rw [← sP (by omega)]
        | rw [← sN (by omega)]
        have sz : brdS a b c ≠ 0 ∧ InR (brdS a b c) := by
          by_cases z : a < 0 ∨ (a = 0 ∧ b < 0)
          · rw [sP z]; unfold InR; omega
          · rw [sN z]; unfold InR; omega
        refine T_iload_n dX6_partOfBorder_116 rfl ?_
        refine T_if_ne 129 dX6_partOfBorder_117 (by decide) hw (fun hc117 => ?_) (fun hc117 => ?_)
        · refine T_iload_n dX6_partOfBorder_129 rfl ?_
          refine T_iconst dX6_partOfBorder_130 ?_
          refine T_icmp_ne 143 dX6_partOfBorder_131 (by decide) hw (by first | (unfold InR; omega) | (simp [st2, InR]; omega)) (fun hc131 => ?_) (fun hc131 => ?_)
          · refine T_iload dX6_partOfBorder_143 rfl ?_
            refine T_iload dX6_partOfBorder_145 rfl ?_
            refine T_idiv dX6_partOfBorder_147 (by unfold InR; omega) sz.2 sz.1 ?_
            refine T_i2l dX6_partOfBorder_148 (by unfold InR; omega) ?_
            refine T_lret dX6_partOfBorder_149 rfl ?_
            first
            | (rw [if_pos (by omega)] at hk; exact hk)
            | (rw [if_neg (by omega), if_pos (by omega)] at hk; exact hk)
            | (rw [if_neg (by omega), if_neg (by omega)] at hk; exact hk)
          · refine T_iload dX6_partOfBorder_134 rfl ?_
            refine T_iload dX6_partOfBorder_136 rfl ?_
            refine T_idiv dX6_partOfBorder_138 (by unfold InR; omega) sz.2 sz.1 ?_
            refine T_i2l dX6_partOfBorder_139 (by unfold InR; omega) ?_
            refine T_goto (tgt := 149) dX6_partOfBorder_140 (by decide) ?_
            refine T_lret dX6_partOfBorder_149 rfl ?_
            first
            | (rw [if_pos (by omega)] at hk; exact hk)
            | (rw [if_neg (by omega), if_pos (by omega)] at hk; exact hk)
            | (rw [if_neg (by omega), if_neg (by omega)] at hk; exact hk)
        · refine T_iload dX6_partOfBorder_120 rfl ?_
          refine T_iload dX6_partOfBorder_122 rfl ?_
          refine T_idiv dX6_partOfBorder_124 (by unfold InR; omega) sz.2 sz.1 ?_
          refine T_i2l dX6_partOfBorder_125 (by unfold InR; omega) ?_
          refine T_goto (tgt := 149) dX6_partOfBorder_126 (by decide) ?_
          refine T_lret dX6_partOfBorder_149 rfl ?_
          first
          | (rw [if_pos (by omega)] at hk; exact hk)
          | (rw [if_neg (by omega), if_pos (by omega)] at hk; exact hk)
          | (rw [if_neg (by omega), if_neg (by omega)] at hk; exact hk)
/-- a border is told -/
def okD (D : DD) (p q w : Int) : Prop := (0 ≤ p ∧ p < D 1 9) ∧ (0 ≤ q ∧ q < D 1 9) ∧ (0 ≤ w ∧ w ≤ 2) ∧ p ≠ q ∧ D 6 p.toNat = 0 ∧ D 6 q.toNat = 0 ∧ ¬ (D 7 p.toNat = D 7 q.toNat ∧ D 8 p.toNat = D 8 q.toNat)
noncomputable def sdC (D : DD) (c : Nat) : Int := D 7 c * D 7 c + D 8 c * D 8 c + (mlC D - mpC D c)
noncomputable def bdC (D : DD) (p q : Nat) (w : Int) : Int := brd (2 * (D 7 q - D 7 p)) (2 * (D 8 q - D 8 p)) (sdC D q - sdC D p) w
theorem c_border {p q w : Int} (hL : LK D) (hC : CacheN D) (hp : InR p) (hq : InR q) (hw : InR w) (k0 : ¬ okD D p q w → P (some (lI (-9223372036854775808))) SH D) (kN : okD D p q w → mlC D = -9 → ∀ D' : DD, KpN D D' → D' 0 11 = D 1 11 → NowOK D' → P (some (lI (-9223372036854775808))) SH D') (kk : okD D p q w → mlC D ≠ -9 → ∀ D' : DD, KpN D D' → D' 0 11 = D 1 11 → NowOK D' → P (some (lI (bdC D p.toNat q.toNat w))) SH D') : TM g mX6_border (d + 5) P [.ref 0, iI p, iI q, iI w] D := by
  have hM := hL.2.1
  have hkd := hL.2.2.2.2.2.2.2.2.1
  have kd1 := hkd p.toNat; have kd2 := hkd q.toNat
  refine T_aload_n dX6_border_0 rfl ?_
  refine T_getR dX6_border_1 flX6_12 rfl rfl ?_
  refine T_iload_n dX6_border_4 rfl ?_
  refine T_cV_1 dX6_border_5 lkX6_125 rfl (Nat.le_of_ble_eq_true rfl) (RO_r (by decide)) (Nat.le_of_ble_eq_true rfl) ?_
  refine c_hasChurch hp hM (fun h1 h2 => ?_) (fun h1 => ?_)
  · refine T_if_eq 36 dX6_border_8 (by decide) (by unfold InR; decide) (fun h => absurd h (by decide)) (fun _ => ?_)
    refine T_aload_n dX6_border_11 rfl ?_
    refine T_getR dX6_border_12 flX6_12 rfl rfl ?_
    refine T_iload_n dX6_border_15 rfl ?_
    refine T_cV_1 dX6_border_16 lkX6_125 rfl (Nat.le_of_ble_eq_true rfl) (RO_r (by decide)) (Nat.le_of_ble_eq_true rfl) ?_
    refine c_hasChurch hq hM (fun h3 h4 => ?_) (fun h3 => ?_)
    · refine T_if_eq 36 dX6_border_19 (by decide) (by unfold InR; decide) (fun h => absurd h (by decide)) (fun _ => ?_)
      refine T_iload_n dX6_border_22 rfl ?_
      refine T_iconst dX6_border_23 ?_
      refine T_iconst dX6_border_24 ?_
      refine T_cS_3 dX6_border_25 lkX6_77 (Nat.le_of_ble_eq_true rfl) (RO_r (by decide)) (Nat.le_of_ble_eq_true rfl) ?_
      refine c_isWithin hw (by first | (unfold InR; omega) | (simp [st2, InR]; omega)) (by first | (unfold InR; omega) | (simp [st2, InR]; omega)) (fun h5 h6 => ?_) (fun h5 => ?_)
      · refine T_if_eq 36 dX6_border_28 (by decide) (by unfold InR; decide) (fun h => absurd h (by decide)) (fun _ => ?_)
        refine T_iload_n dX6_border_31 rfl ?_
        refine T_iload_n dX6_border_32 rfl ?_
        refine T_icmp_ne 40 dX6_border_33 (by decide) hp hq (fun hc33 => ?_) (fun hc33 => ?_)
        · refine T_aload_n dX6_border_40 rfl ?_
          refine T_getR dX6_border_41 flX6_12 rfl rfl ?_
          refine T_getR dX6_border_44 flX6_128 rfl rfl ?_
          refine T_iload_n dX6_border_47 rfl ?_
          refine T_iald dX6_border_48 rfl (by first | decide | omega) (by first | omega | (simp [st2]; omega)) (by first | omega | (simp [st2]; omega)) ?_
          refine T_if_ne 76 dX6_border_49 (by decide) (by first | (unfold InR; omega) | (simp [st2, InR]; omega)) (fun hc49 => ?_) (fun hc49 => ?_)
          · refine T_ldc2 (n := -9223372036854775808) dX6_border_76 (by rw [show Int64.ofInt (-9223372036854775808) = (-9223372036854775808 : Int64) by decide]; exact tk_623) ?_
            refine T_lret dX6_border_79 rfl ?_
            first
            | exact k0 (fun z => by unfold okD at z; omega)
            | exact kN ok (by omega) D1 kp e1 hN
            | exact kk ok (by omega) D1 kp e1 hN
          · refine T_aload_n dX6_border_52 rfl ?_
            refine T_getR dX6_border_53 flX6_12 rfl rfl ?_
            refine T_getR dX6_border_56 flX6_128 rfl rfl ?_
            refine T_iload_n dX6_border_59 rfl ?_
            refine T_iald dX6_border_60 rfl (by first | decide | omega) (by first | omega | (simp [st2]; omega)) (by first | omega | (simp [st2]; omega)) ?_
            refine T_if_ne 76 dX6_border_61 (by decide) (by first | (unfold InR; omega) | (simp [st2, InR]; omega)) (fun hc61 => ?_) (fun hc61 => ?_)
            · refine T_ldc2 (n := -9223372036854775808) dX6_border_76 (by rw [show Int64.ofInt (-9223372036854775808) = (-9223372036854775808 : Int64) by decide]; exact tk_623) ?_
              refine T_lret dX6_border_79 rfl ?_
              first
              | exact k0 (fun z => by unfold okD at z; omega)
              | exact kN ok (by omega) D1 kp e1 hN
              | exact kk ok (by omega) D1 kp e1 hN
            · refine T_aload_n dX6_border_64 rfl ?_
              refine T_getR dX6_border_65 flX6_12 rfl rfl ?_
              refine T_iload_n dX6_border_68 rfl ?_
              refine T_iload_n dX6_border_69 rfl ?_
              refine T_cV_2 dX6_border_70 lkX6_196 rfl (Nat.le_of_ble_eq_true rfl) (RO_r (by decide)) (Nat.le_of_ble_eq_true rfl) ?_
              refine c_atOneSpot hL ⟨h1, by omega⟩ ⟨h3, by omega⟩ (fun h7 h8 => ?_) (fun h7 => ?_)
              · refine T_if_eq 80 dX6_border_73 (by decide) (by unfold InR; decide) (fun h => absurd h (by decide)) (fun _ => ?_)
                refine T_ldc2 (n := -9223372036854775808) dX6_border_76 (by rw [show Int64.ofInt (-9223372036854775808) = (-9223372036854775808 : Int64) by decide]; exact tk_623) ?_
                refine T_lret dX6_border_79 rfl ?_
                first
                | exact k0 (fun z => by unfold okD at z; omega)
                | exact kN ok (by omega) D1 kp e1 hN
                | exact kk ok (by omega) D1 kp e1 hN
              · refine T_if_eq 80 dX6_border_73 (by decide) (by unfold InR; decide) (fun _ => ?_) (fun h => absurd (by decide) h)
                refine T_aload_n dX6_border_80 rfl ?_
                refine T_cV_0 dX6_border_81 lkX6_158 rfl (Nat.le_of_ble_eq_true rfl) (RO_r (by decide)) (Nat.le_of_ble_eq_true rfl) ?_
                refine c_leastMiles hL hC (fun D1 kp e1 hN => ?_)
                obtain ⟨rr, f2, f3⟩ := now_facts kp hN
                have ok : okD D p q w := ⟨⟨h1, h2⟩, ⟨h3, h4⟩, ⟨h5, h6⟩, by omega, by omega, by omega, h7⟩
                refine T_bipush dX6_border_84 (by decide) ?_
                refine T_icmp_ne 95 dX6_border_86 (by decide) (by unfold InR; omega) (by first | (unfold InR; omega) | (simp [st2, InR]; omega)) (fun hc86 => ?_) (fun hc86 => ?_)
                · refine T_aload_n dX6_border_95 rfl ?_
                  refine T_iload_n dX6_border_96 rfl ?_
                  refine T_iload_n dX6_border_97 rfl ?_
                  refine T_iload_n dX6_border_98 rfl ?_
                  obtain ⟨hH, -, -, hw2⟩ := f3 (by omega)
                  have v1 := hw2 p.toNat (by omega)
                  have v2 := hw2 q.toNat (by omega)
                  have z7 := kp.land 7 (by decide) (by decide)
                  have z8 := kp.land 8 (by decide) (by decide)
                  refine T_cV_3 dX6_border_99 lkX6_199 rfl (Nat.le_of_ble_eq_true rfl) (RO_r (by decide)) (Nat.le_of_ble_eq_true rfl) ?_
                  refine c_partOfBorder (LK_fr kp.land hL) ⟨h1, by omega⟩ ⟨h3, by omega⟩ hw (by rw [z7, z8]; exact h7) ⟨v1.1, v1.2.1⟩ ⟨v2.1, v2.2.1⟩ ?_
                  rw [z7, z8, v1.2.2, v2.2.2]
                  refine T_lret dX6_border_102 rfl ?_
                  first
                  | exact k0 (fun z => by unfold okD at z; omega)
                  | exact kN ok (by omega) D1 kp e1 hN
                  | exact kk ok (by omega) D1 kp e1 hN
                · refine T_ldc2 (n := -9223372036854775808) dX6_border_89 (by rw [show Int64.ofInt (-9223372036854775808) = (-9223372036854775808 : Int64) by decide]; exact tk_623) ?_
                  refine T_goto (tgt := 102) dX6_border_92 (by decide) ?_
                  refine T_lret dX6_border_102 rfl ?_
                  first
                  | exact k0 (fun z => by unfold okD at z; omega)
                  | exact kN ok (by omega) D1 kp e1 hN
                  | exact kk ok (by omega) D1 kp e1 hN
        · refine T_ldc2 (n := -9223372036854775808) dX6_border_36 (by rw [show Int64.ofInt (-9223372036854775808) = (-9223372036854775808 : Int64) by decide]; exact tk_623) ?_
          refine T_lret dX6_border_39 rfl ?_
          first
          | exact k0 (fun z => by unfold okD at z; omega)
          | exact kN ok (by omega) D1 kp e1 hN
          | exact kk ok (by omega) D1 kp e1 hN
      · refine T_if_eq 36 dX6_border_28 (by decide) (by unfold InR; decide) (fun _ => ?_) (fun h => absurd (by decide) h)
        refine T_ldc2 (n := -9223372036854775808) dX6_border_36 (by rw [show Int64.ofInt (-9223372036854775808) = (-9223372036854775808 : Int64) by decide]; exact tk_623) ?_
        refine T_lret dX6_border_39 rfl ?_
        first
        | exact k0 (fun z => by unfold okD at z; omega)
        | exact kN ok (by omega) D1 kp e1 hN
        | exact kk ok (by omega) D1 kp e1 hN
    · refine T_if_eq 36 dX6_border_19 (by decide) (by unfold InR; decide) (fun _ => ?_) (fun h => absurd (by decide) h)
      refine T_ldc2 (n := -9223372036854775808) dX6_border_36 (by rw [show Int64.ofInt (-9223372036854775808) = (-9223372036854775808 : Int64) by decide]; exact tk_623) ?_
      refine T_lret dX6_border_39 rfl ?_
      first
      | exact k0 (fun z => by unfold okD at z; omega)
      | exact kN ok (by omega) D1 kp e1 hN
      | exact kk ok (by omega) D1 kp e1 hN
  · refine T_if_eq 36 dX6_border_8 (by decide) (by unfold InR; decide) (fun _ => ?_) (fun h => absurd (by decide) h)
    refine T_ldc2 (n := -9223372036854775808) dX6_border_36 (by rw [show Int64.ofInt (-9223372036854775808) = (-9223372036854775808 : Int64) by decide]; exact tk_623) ?_
    refine T_lret dX6_border_39 rfl ?_
    first
    | exact k0 (fun z => by unfold okD at z; omega)
    | exact kN ok (by omega) D1 kp e1 hN
    | exact kk ok (by omega) D1 kp e1 hN
end

