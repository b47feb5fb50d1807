def okDM (D : DD) (p q w : Int) : Prop := (0 ≤ p ∧ p < D 57 5) ∧ (0 ≤ q ∧ q < D 57 5) ∧ (0 ≤ w ∧ w ≤ 2) ∧ p ≠ q ∧ D 61 p.toNat = 0 ∧ D 61 q.toNat = 0 ∧ ¬ (D 62 p.toNat = D 62 q.toNat ∧ D 63 p.toNat = D 63 q.toNat)
noncomputable def sdM (D : DD) (c : Nat) : Int := D 62 c * D 62 c + D 63 c * D 63 c + (mlM D - mpM D c)
noncomputable def bdM (D : DD) (p q : Nat) (w : Int) : Int := brd (2 * (D 62 q - D 62 p)) (2 * (D 63 q - D 63 p)) (sdM D q - sdM D p) w
theorem mod_le (x y : Nat) (h : y ≠ 0) : x % y < y := Nat.mod_lt x (by omega)
section
variable {g : G0} {d : Nat} {P : Option Value → List SC → DD → Prop} {D : DD}
theorem r_common {a b : Int} (ha : -4000000 ≤ a ∧ a ≤ 4000000) (hb : -4000000 ≤ b ∧ b ≤ 4000000) (hk : P (some (lI (Nat.gcd a.natAbs b.natAbs : Nat))) SH D) : TM g mX7_common d P [lI a, lI b] D := by
  have loop : ∀ (n x y : Nat) (m8 : Option Value), y = n → x ≤ 4000000 → y ≤ 4000000 → Nat.gcd x y = Nat.gcd a.natAbs b.natAbs → T g mX7_common (rmd d 0 0) 0 0 (Qm g (rmd d 0 0) P) 28 [some (lI a), none, some (lI b), none, some (lI x), none, some (lI y), none, m8, none] [] SH D := by
    intro n
    induction n using Nat.strongRecOn with
    | ind n ih =>
      intro x y m8 hn hx hy hg
      by_cases e : y = 0
      · subst e
        rw [Nat.gcd_zero_right] at hg
        subst hg
        refine T_lload dX7_common_28 rfl ?_
        refine T_lconst (a := 0) dX7_common_30 (by decide) ?_
        refine T_lcmp dX7_common_31 (by unfold In64; omega) (by unfold In64; omega) ?_
        refine T_if_eq 53 dX7_common_32 (by decide) (inR_lc _ _) (fun hc32 => ?_) (fun hc32 => (by exfalso; rw [lc_eq] at hc32; omega))
        refine T_lload dX7_common_53 rfl ?_
        refine T_lret dX7_common_55 rfl ?_
        exact hk
      · have := mod_le x y e
        refine T_lload dX7_common_28 rfl ?_
        refine T_lconst (a := 0) dX7_common_30 (by decide) ?_
        refine T_lcmp dX7_common_31 (by unfold In64; omega) (by unfold In64; omega) ?_
        refine T_if_eq 53 dX7_common_32 (by decide) (inR_lc _ _) (fun hc32 => (by exfalso; rw [lc_eq] at hc32; omega)) (fun hc32 => ?_)
        refine T_lload dX7_common_35 rfl ?_
        refine T_lload dX7_common_37 rfl ?_
        refine T_lrem dX7_common_39 (by unfold In64; omega) (by unfold In64; omega) (by omega) ?_
        refine T_lstore dX7_common_40 (by decide) ?_
        refine T_lload dX7_common_42 rfl ?_
        refine T_lstore dX7_common_44 (by decide) ?_
        refine T_lload dX7_common_46 rfl ?_
        refine T_lstore dX7_common_48 (by decide) ?_
        refine T_goto (tgt := 28) dX7_common_50 (by decide) ?_
        rw [tmod_n]
        exact ih (x % y) (by omega) y (x % y) _ rfl hy (by omega) (gcd_step.trans hg)
  have na : ∀ v : Int, 0 ≤ v → v = (v.natAbs : Int) := fun v h => by omega
  have nb : ∀ v : Int, v < 0 → -v = (v.natAbs : Int) := fun v h => by omega
  have go : ∀ m8, T g mX7_common (rmd d 0 0) 0 0 (Qm g (rmd d 0 0) P) 28 [some (lI a), none, some (lI b), none, some (lI (a.natAbs : Int)), none, some (lI (b.natAbs : Int)), none, m8, none] [] SH D := fun m8 => loop b.natAbs a.natAbs b.natAbs m8 rfl (by omega) (by omega) rfl
  refine T_lload_n dX7_common_0 rfl ?_
  refine T_lconst (a := 0) dX7_common_1 (by decide) ?_
  refine T_lcmp dX7_common_2 (by unfold In64; omega) (by unfold In64; omega) ?_
  refine T_if_ge 11 dX7_common_3 (by decide) (inR_lc _ _) (fun hc3 => ?_) (fun hc3 => ?_)
  · rw [lc_ge] at hc3
    refine T_lload_n dX7_common_11 rfl ?_
    refine T_lstore dX7_common_12 (by decide) ?_
    refine T_lload_n dX7_common_14 rfl ?_
    refine T_lconst (a := 0) dX7_common_15 (by decide) ?_
    refine T_lcmp dX7_common_16 (by unfold In64; omega) (by unfold In64; omega) ?_
    refine T_if_ge 25 dX7_common_17 (by decide) (inR_lc _ _) (fun hc17 => ?_) (fun hc17 => ?_)
    · rw [lc_ge] at hc17
      refine T_lload_n dX7_common_25 rfl ?_
      refine T_lstore dX7_common_26 (by decide) ?_
      have g1 := go none
      first
      | (rw [← na a (by omega), ← na b (by omega)] at g1; exact g1)
      | (rw [← na a (by omega), ← nb b (by omega)] at g1; exact g1)
      | (rw [← nb a (by omega), ← na b (by omega)] at g1; exact g1)
      | (rw [← nb a (by omega), ← nb b (by omega)] at g1; exact g1)
    · rw [lc_ge] at hc17
      refine T_lload_n dX7_common_20 rfl ?_
      refine T_lneg dX7_common_21 ?_
      refine T_goto (tgt := 26) dX7_common_22 (by decide) ?_
      refine T_lstore dX7_common_26 (by decide) ?_
      have g1 := go none
      first
      | (rw [← na a (by omega), ← na b (by omega)] at g1; exact g1)
      | (rw [← na a (by omega), ← nb b (by omega)] at g1; exact g1)
      | (rw [← nb a (by omega), ← na b (by omega)] at g1; exact g1)
      | (rw [← nb a (by omega), ← nb b (by omega)] at g1; exact g1)
  · rw [lc_ge] at hc3
    refine T_lload_n dX7_common_6 rfl ?_
    refine T_lneg dX7_common_7 ?_
    refine T_goto (tgt := 12) dX7_common_8 (by decide) ?_
    refine T_lstore dX7_common_12 (by decide) ?_
    refine T_lload_n dX7_common_14 rfl ?_
    refine T_lconst (a := 0) dX7_common_15 (by decide) ?_
    refine T_lcmp dX7_common_16 (by unfold In64; omega) (by unfold In64; omega) ?_
    refine T_if_ge 25 dX7_common_17 (by decide) (inR_lc _ _) (fun hc17 => ?_) (fun hc17 => ?_)
    · rw [lc_ge] at hc17
      refine T_lload_n dX7_common_25 rfl ?_
      refine T_lstore dX7_common_26 (by decide) ?_
      have g1 := go none
      first
      | (rw [← na a (by omega), ← na b (by omega)] at g1; exact g1)
      | (rw [← na a (by omega), ← nb b (by omega)] at g1; exact g1)
      | (rw [← nb a (by omega), ← na b (by omega)] at g1; exact g1)
      | (rw [← nb a (by omega), ← nb b (by omega)] at g1; exact g1)
    · rw [lc_ge] at hc17
      refine T_lload_n dX7_common_20 rfl ?_
      refine T_lneg dX7_common_21 ?_
      refine T_goto (tgt := 26) dX7_common_22 (by decide) ?_
      refine T_lstore dX7_common_26 (by decide) ?_
      have g1 := go none
      first
      | (rw [← na a (by omega), ← na b (by omega)] at g1; exact g1)
      | (rw [← na a (by omega), ← nb b (by omega)] at g1; exact g1)
      | (rw [← nb a (by omega), ← na b (by omega)] at g1; exact g1)
      | (rw [← nb a (by omega), ← nb b (by omega)] at g1; exact g1)
theorem r_border {p q w : Int} (hL : MK D) (hp : InR p) (hq : InR q) (hw : InR w) (k0 : ¬ okDM D p q w → P (some (lI (-9223372036854775808))) SH D) (kN : okDM D p q w → mlM D = -9 → ∀ D' : DD, FrV D D' → P (some (lI (-9223372036854775808))) SH D') (kk : okDM D p q w → mlM D ≠ -9 → ∀ D' : DD, FrV D D' → P (some (lI (bdM D p.toNat q.toNat w))) SH D') : TM g mX7_border (d + 6) P [.ref 57, iI p, iI q, iI w] D := by
  have hM := hL.2.1
  have kd1 := hL.2.2.2.2.2.2.1 p.toNat; have kd2 := hL.2.2.2.2.2.2.1 q.toNat
  have hx := hL.2.2.2.2.2.2.2.1
  have hy := hL.2.2.2.2.2.2.2.2.1
  have x1 := hx p.toNat; have x2 := hx q.toNat; have y1 := hy p.toNat; have y2 := hy q.toNat
  have sq : ∀ a : Int, 0 ≤ a ∧ a ≤ 60 → 0 ≤ a * a ∧ a * a ≤ 3600 := fun a ha => ⟨Int.mul_nonneg ha.1 ha.1, Int.le_trans (Int.mul_le_mul ha.2 ha.2 ha.1 (by decide)) (by decide)⟩
  have s1 := sq _ x1; have s2 := sq _ x2; have s3 := sq _ y1; have s4 := sq _ y2
  have ba : -120 ≤ 2 * (D 62 q.toNat - D 62 p.toNat) ∧ 2 * (D 62 q.toNat - D 62 p.toNat) ≤ 120 := by omega
  have bb : -120 ≤ 2 * (D 63 q.toNat - D 63 p.toNat) ∧ 2 * (D 63 q.toNat - D 63 p.toNat) ≤ 120 := by omega
  have last : ∀ (a b c : Int) (m10 : Option Value) (D1 : DD), -120 ≤ a ∧ a ≤ 120 → -120 ≤ b ∧ b ≤ 120 → -2100000 ≤ c ∧ c ≤ 2100000 → ¬ (a = 0 ∧ b = 0) → P (some (lI (brd a b c w))) SH D1 → T g mX7_border (rmd (d + 6) 0 0) 0 0 (Qm g (rmd (d + 6) 0 0) P) 205 [some (.ref 57), some (iI p), some (iI q), some (iI w), some (lI a), none, some (lI b), none, some (lI c), none, m10, none] [] SH D1 := by
    intro a b c m10 D1 ba bb bc hne K
    have g0 : brdG a b c ≠ 0 := brd_ne hne
    have g1 : Nat.gcd a.natAbs b.natAbs ≤ 4000000 := gcd_bd (by omega) (by omega)
    have g2 : brdG a b c ≤ 4000000 := gcd_bd g1 (by omega)
    have sP : (a < 0 ∨ (a = 0 ∧ b < 0)) → brdS a b c = -(brdG a b c : Int) := fun z => if_pos z
    have sN : ¬ (a < 0 ∨ (a = 0 ∧ b < 0)) → brdS a b c = (brdG a b c : Int) := fun z => if_neg z
    have sz : brdS a b c ≠ 0 ∧ In64 (brdS a b c) := by
      by_cases z : a < 0 ∨ (a = 0 ∧ b < 0)
      · rw [sP z]; unfold In64; omega
      · rw [sN z]; unfold In64; omega
    unfold brd at K
    clear k0 kN kk
    refine T_lload dX7_border_205 rfl ?_
    refine T_lload dX7_border_207 rfl ?_
    refine T_cS_2 dX7_border_209 lkX7_235 (Nat.le_of_ble_eq_true rfl) (RO_r (by decide)) (Nat.le_of_ble_eq_true rfl) ?_
    refine r_common (by omega) (by omega) ?_
    refine T_lload dX7_border_212 rfl ?_
    refine T_cS_2 dX7_border_214 lkX7_235 (Nat.le_of_ble_eq_true rfl) (RO_r (by decide)) (Nat.le_of_ble_eq_true rfl) ?_
    refine r_common (by omega) (by omega) ?_
    rw [Int.natAbs_natCast]
    show T _ _ _ _ _ _ _ _ [lI (brdG a b c : Nat)] _ _
    refine T_lstore dX7_border_217 (by decide) ?_
    refine T_lload dX7_border_219 rfl ?_
    refine T_lconst (a := 0) dX7_border_221 (by decide) ?_
    refine T_lcmp dX7_border_222 (by unfold In64; omega) (by unfold In64; omega) ?_
    refine T_if_lt 240 dX7_border_223 (by decide) (inR_lc _ _) (fun hc223 => ?_) (fun hc223 => ?_)
    · rw [lc_lt] at hc223
      refine T_lload dX7_border_240 rfl ?_
      refine T_lneg dX7_border_242 ?_
      refine T_goto (tgt := 248) dX7_border_243 (by decide) ?_
      refine T_lstore dX7_border_248 (by decide) ?_
      first
      | rw [← sP (by omega)]
      | rw [← sN (by omega)]
      refine T_iload_n dX7_border_250 rfl ?_
      refine T_if_ne 262 dX7_border_251 (by decide) hw (fun hc251 => ?_) (fun hc251 => ?_)
      · refine T_iload_n dX7_border_262 rfl ?_
        refine T_iconst dX7_border_263 ?_
        refine T_icmp_ne 275 dX7_border_264 (by decide) hw (by first | (unfold InR; omega) | (simp [st2, InR]; omega)) (fun hc264 => ?_) (fun hc264 => ?_)
        · refine T_lload dX7_border_275 rfl ?_
          refine T_lload dX7_border_277 rfl ?_
          refine T_ldiv dX7_border_279 (by unfold In64; omega) sz.2 sz.1 ?_
          refine T_lret dX7_border_280 rfl ?_
          first
          | (rw [if_pos (by omega)] at K; exact K)
          | (rw [if_neg (by omega), if_pos (by omega)] at K; exact K)
          | (rw [if_neg (by omega), if_neg (by omega)] at K; exact K)
        · refine T_lload dX7_border_267 rfl ?_
          refine T_lload dX7_border_269 rfl ?_
          refine T_ldiv dX7_border_271 (by unfold In64; omega) sz.2 sz.1 ?_
          refine T_goto (tgt := 280) dX7_border_272 (by decide) ?_
          refine T_lret dX7_border_280 rfl ?_
          first
          | (rw [if_pos (by omega)] at K; exact K)
          | (rw [if_neg (by omega), if_pos (by omega)] at K; exact K)
          | (rw [if_neg (by omega), if_neg (by omega)] at K; exact K)
      · refine T_lload dX7_border_254 rfl ?_
        refine T_lload dX7_border_256 rfl ?_
        refine T_ldiv dX7_border_258 (by unfold In64; omega) sz.2 sz.1 ?_
        refine T_goto (tgt := 280) dX7_border_259 (by decide) ?_
        refine T_lret dX7_border_280 rfl ?_
        first
        | (rw [if_pos (by omega)] at K; exact K)
        | (rw [if_neg (by omega), if_pos (by omega)] at K; exact K)
        | (rw [if_neg (by omega), if_neg (by omega)] at K; exact K)
    · rw [lc_lt] at hc223
      refine T_lload dX7_border_226 rfl ?_
      refine T_lconst (a := 0) dX7_border_228 (by decide) ?_
      refine T_lcmp dX7_border_229 (by unfold In64; omega) (by unfold In64; omega) ?_
      refine T_if_ne 246 dX7_border_230 (by decide) (inR_lc _ _) (fun hc230 => ?_) (fun hc230 => ?_)
      · rw [Ne, lc_eq] at hc230
        refine T_lload dX7_border_246 rfl ?_
        refine T_lstore dX7_border_248 (by decide) ?_
        first
        | rw [← sP (by omega)]
        | rw [← sN (by omega)]
        refine T_iload_n dX7_border_250 rfl ?_
        refine T_if_ne 262 dX7_border_251 (by decide) hw (fun hc251 => ?_) (fun hc251 => ?_)
        · refine T_iload_n dX7_border_262 rfl ?_
          refine T_iconst dX7_border_263 ?_
          refine T_icmp_ne 275 dX7_border_264 (by decide) hw (by first | (unfold InR; omega) | (simp [st2, InR]; omega)) (fun hc264 => ?_) (fun hc264 => ?_)
          · refine T_lload dX7_border_275 rfl ?_
            refine T_lload dX7_border_277 rfl ?_
            refine T_ldiv dX7_border_279 (by unfold In64; omega) sz.2 sz.1 ?_
            refine T_lret dX7_border_280 rfl ?_
            first
            | (rw [if_pos (by omega)] at K; exact K)
            | (rw [if_neg (by omega), if_pos (by omega)] at K; exact K)
            | (rw [if_neg (by omega), if_neg (by omega)] at K; exact K)
          · refine T_lload dX7_border_267 rfl ?_
            refine T_lload dX7_border_269 rfl ?_
            refine T_ldiv dX7_border_271 (by unfold In64; omega) sz.2 sz.1 ?_
            refine T_goto (tgt := 280) dX7_border_272 (by decide) ?_
            refine T_lret dX7_border_280 rfl ?_
            first
            | (rw [if_pos (by omega)] at K; exact K)
            | (rw [if_neg (by omega), if_pos (by omega)] at K; exact K)
            | (rw [if_neg (by omega), if_neg (by omega)] at K; exact K)
        · refine T_lload dX7_border_254 rfl ?_
          refine T_lload dX7_border_256 rfl ?_
          refine T_ldiv dX7_border_258 (by unfold In64; omega) sz.2 sz.1 ?_
          refine T_goto (tgt := 280) dX7_border_259 (by decide) ?_
          refine T_lret dX7_border_280 rfl ?_
          first
          | (rw [if_pos (by omega)] at K; exact K)
          | (rw [if_neg (by omega), if_pos (by omega)] at K; exact K)
          | (rw [if_neg (by omega), if_neg (by omega)] at K; exact K)
      · rw [Ne, lc_eq] at hc230
        refine T_lload dX7_border_233 rfl ?_
        refine T_lconst (a := 0) dX7_border_235 (by decide) ?_
        refine T_lcmp dX7_border_236 (by unfold In64; omega) (by unfold In64; omega) ?_
        refine T_if_ge 246 dX7_border_237 (by decide) (inR_lc _ _) (fun hc237 => ?_) (fun hc237 => ?_)
        · rw [lc_ge] at hc237
          refine T_lload dX7_border_246 rfl ?_
          refine T_lstore dX7_border_248 (by decide) ?_
          first
          | rw [← sP (by omega)]
          | rw [← sN (by omega)]
          refine T_iload_n dX7_border_250 rfl ?_
          refine T_if_ne 262 dX7_border_251 (by decide) hw (fun hc251 => ?_) (fun hc251 => ?_)
          · refine T_iload_n dX7_border_262 rfl ?_
            refine T_iconst dX7_border_263 ?_
            refine T_icmp_ne 275 dX7_border_264 (by decide) hw (by first | (unfold InR; omega) | (simp [st2, InR]; omega)) (fun hc264 => ?_) (fun hc264 => ?_)
            · refine T_lload dX7_border_275 rfl ?_
              refine T_lload dX7_border_277 rfl ?_
              refine T_ldiv dX7_border_279 (by unfold In64; omega) sz.2 sz.1 ?_
              refine T_lret dX7_border_280 rfl ?_
              first
              | (rw [if_pos (by omega)] at K; exact K)
              | (rw [if_neg (by omega), if_pos (by omega)] at K; exact K)
              | (rw [if_neg (by omega), if_neg (by omega)] at K; exact K)
            · refine T_lload dX7_border_267 rfl ?_
              refine T_lload dX7_border_269 rfl ?_
              refine T_ldiv dX7_border_271 (by unfold In64; omega) sz.2 sz.1 ?_
              refine T_goto (tgt := 280) dX7_border_272 (by decide) ?_
              refine T_lret dX7_border_280 rfl ?_
              first
              | (rw [if_pos (by omega)] at K; exact K)
              | (rw [if_neg (by omega), if_pos (by omega)] at K; exact K)
              | (rw [if_neg (by omega), if_neg (by omega)] at K; exact K)
          · refine T_lload dX7_border_254 rfl ?_
            refine T_lload dX7_border_256 rfl ?_
            refine T_ldiv dX7_border_258 (by unfold In64; omega) sz.2 sz.1 ?_
            refine T_goto (tgt := 280) dX7_border_259 (by decide) ?_
            refine T_lret dX7_border_280 rfl ?_
            first
            | (rw [if_pos (by omega)] at K; exact K)
            | (rw [if_neg (by omega), if_pos (by omega)] at K; exact K)
            | (rw [if_neg (by omega), if_neg (by omega)] at K; exact K)
        · rw [lc_ge] at hc237
          refine T_lload dX7_border_240 rfl ?_
          refine T_lneg dX7_border_242 ?_
          refine T_goto (tgt := 248) dX7_border_243 (by decide) ?_
          refine T_lstore dX7_border_248 (by decide) ?_
          first
          | rw [← sP (by omega)]
          | rw [← sN (by omega)]
          refine T_iload_n dX7_border_250 rfl ?_
          refine T_if_ne 262 dX7_border_251 (by decide) hw (fun hc251 => ?_) (fun hc251 => ?_)
          · refine T_iload_n dX7_border_262 rfl ?_
            refine T_iconst dX7_border_263 ?_
            refine T_icmp_ne 275 dX7_border_264 (by decide) hw (by first | (unfold InR; omega) | (simp [st2, InR]; omega)) (fun hc264 => ?_) (fun hc264 => ?_)
            · refine T_lload dX7_border_275 rfl ?_
              refine T_lload dX7_border_277 rfl ?_
              refine T_ldiv dX7_border_279 (by unfold In64; omega) sz.2 sz.1 ?_
              refine T_lret dX7_border_280 rfl ?_
              first
              | (rw [if_pos (by omega)] at K; exact K)
              | (rw [if_neg (by omega), if_pos (by omega)] at K; exact K)
              | (rw [if_neg (by omega), if_neg (by omega)] at K; exact K)
            · refine T_lload dX7_border_267 rfl ?_
              refine T_lload dX7_border_269 rfl ?_
              refine T_ldiv dX7_border_271 (by unfold In64; omega) sz.2 sz.1 ?_
              refine T_goto (tgt := 280) dX7_border_272 (by decide) ?_
              refine T_lret dX7_border_280 rfl ?_
              first
              | (rw [if_pos (by omega)] at K; exact K)
              | (rw [if_neg (by omega), if_pos (by omega)] at K; exact K)
              | (rw [if_neg (by omega), if_neg (by omega)] at K; exact K)
          · refine T_lload dX7_border_254 rfl ?_
            refine T_lload dX7_border_256 rfl ?_
            refine T_ldiv dX7_border_258 (by unfold In64; omega) sz.2 sz.1 ?_
            refine T_goto (tgt := 280) dX7_border_259 (by decide) ?_
            refine T_lret dX7_border_280 rfl ?_
            first
            | (rw [if_pos (by omega)] at K; exact K)
            | (rw [if_neg (by omega), if_pos (by omega)] at K; exact K)
            | (rw [if_neg (by omega), if_neg (by omega)] at K; exact K)
  refine T_aload_n dX7_border_0 rfl ?_
  refine T_iload_n dX7_border_1 rfl ?_
  refine T_cV_1 dX7_border_2 lkX7_173 rfl (Nat.le_of_ble_eq_true rfl) (RO_r (by decide)) (Nat.le_of_ble_eq_true rfl) ?_
  refine r_noChurch hp hM (fun h1 h2 => ?_) (fun h1 => ?_)
  · refine T_if_ne 33 dX7_border_5 (by decide) (by unfold InR; decide) (fun h => absurd h (by decide)) (fun _ => ?_)
    refine T_aload_n dX7_border_8 rfl ?_
    refine T_iload_n dX7_border_9 rfl ?_
    refine T_cV_1 dX7_border_10 lkX7_173 rfl (Nat.le_of_ble_eq_true rfl) (RO_r (by decide)) (Nat.le_of_ble_eq_true rfl) ?_
    refine r_noChurch hq hM (fun h3 h4 => ?_) (fun h3 => ?_)
    · refine T_if_ne 33 dX7_border_13 (by decide) (by unfold InR; decide) (fun h => absurd h (by decide)) (fun _ => ?_)
      refine T_iload_n dX7_border_16 rfl ?_
      refine T_i2l dX7_border_17 hw ?_
      refine T_lconst (a := 0) dX7_border_18 (by decide) ?_
      refine T_ldc2 (n := 2) dX7_border_19 tk_892 ?_
      refine T_cS_3 dX7_border_22 lkX7_88 (Nat.le_of_ble_eq_true rfl) (RO_r (by decide)) (Nat.le_of_ble_eq_true rfl) ?_
      refine r_in (in64_of hw) (by first | (unfold In64; omega) | (simp [st2, In64]; omega)) (by first | (unfold In64; omega) | (simp [st2, In64]; omega)) (fun h5 h6 => ?_) (fun h5 => ?_)
      · refine T_if_eq 33 dX7_border_25 (by decide) (by unfold InR; decide) (fun h => absurd h (by decide)) (fun _ => ?_)
        refine T_iload_n dX7_border_28 rfl ?_
        refine T_iload_n dX7_border_29 rfl ?_
        refine T_icmp_ne 37 dX7_border_30 (by decide) hp hq (fun hc30 => ?_) (fun hc30 => ?_)
        · refine T_ldc2 (n := 2) dX7_border_37 tk_892 ?_
          refine T_aload_n dX7_border_40 rfl ?_
          refine T_getR dX7_border_41 flX7_22 rfl rfl ?_
          refine T_iload_n dX7_border_44 rfl ?_
          refine T_iald dX7_border_45 rfl (by first | decide | omega) (by first | omega | (simp [st2]; omega)) (by first | omega | (simp [st2]; omega)) ?_
          refine T_aload_n dX7_border_46 rfl ?_
          refine T_getR dX7_border_47 flX7_22 rfl rfl ?_
          refine T_iload_n dX7_border_50 rfl ?_
          refine T_iald dX7_border_51 rfl (by first | decide | omega) (by first | omega | (simp [st2]; omega)) (by first | omega | (simp [st2]; omega)) ?_
          refine T_isub dX7_border_52 ?_
          refine T_i2l dX7_border_53 (by unfold InR; omega) ?_
          refine T_lmul dX7_border_54 ?_
          refine T_lstore dX7_border_55 (by decide) ?_
          refine T_ldc2 (n := 2) dX7_border_57 tk_892 ?_
          refine T_aload_n dX7_border_60 rfl ?_
          refine T_getR dX7_border_61 flX7_25 rfl rfl ?_
          refine T_iload_n dX7_border_64 rfl ?_
          refine T_iald dX7_border_65 rfl (by first | decide | omega) (by first | omega | (simp [st2]; omega)) (by first | omega | (simp [st2]; omega)) ?_
          refine T_aload_n dX7_border_66 rfl ?_
          refine T_getR dX7_border_67 flX7_25 rfl rfl ?_
          refine T_iload_n dX7_border_70 rfl ?_
          refine T_iald dX7_border_71 rfl (by first | decide | omega) (by first | omega | (simp [st2]; omega)) (by first | omega | (simp [st2]; omega)) ?_
          refine T_isub dX7_border_72 ?_
          refine T_i2l dX7_border_73 (by unfold InR; omega) ?_
          refine T_lmul dX7_border_74 ?_
          refine T_lstore dX7_border_75 (by decide) ?_
          refine T_aload_n dX7_border_77 rfl ?_
          refine T_getR dX7_border_78 flX7_19 rfl rfl ?_
          refine T_iload_n dX7_border_81 rfl ?_
          refine T_iald dX7_border_82 rfl (by first | decide | omega) (by first | omega | (simp [st2]; omega)) (by first | omega | (simp [st2]; omega)) ?_
          refine T_if_ne 116 dX7_border_83 (by decide) (by unfold InR; omega) (fun hc83 => ?_) (fun hc83 => ?_)
          · refine T_cS_0 dX7_border_116 lkX7_95 (Nat.le_of_ble_eq_true rfl) (RO_r (by decide)) (Nat.le_of_ble_eq_true rfl) ?_
            refine r_lost ?_
            refine T_lret dX7_border_119 rfl ?_
            first
            | (exfalso; omega)
            | exact k0 (fun z => by unfold okDM at z; omega)
            | exact kN ⟨⟨h1, h2⟩, ⟨h3, h4⟩, ⟨h5, h6⟩, by omega, by omega, by omega, by omega⟩ b0 D1 fv
          · refine T_aload_n dX7_border_86 rfl ?_
            refine T_getR dX7_border_87 flX7_19 rfl rfl ?_
            refine T_iload_n dX7_border_90 rfl ?_
            refine T_iald dX7_border_91 rfl (by first | decide | omega) (by first | omega | (simp [st2]; omega)) (by first | omega | (simp [st2]; omega)) ?_
            refine T_if_ne 116 dX7_border_92 (by decide) (by unfold InR; omega) (fun hc92 => ?_) (fun hc92 => ?_)
            · refine T_cS_0 dX7_border_116 lkX7_95 (Nat.le_of_ble_eq_true rfl) (RO_r (by decide)) (Nat.le_of_ble_eq_true rfl) ?_
              refine r_lost ?_
              refine T_lret dX7_border_119 rfl ?_
              first
              | (exfalso; omega)
              | exact k0 (fun z => by unfold okDM at z; omega)
              | exact kN ⟨⟨h1, h2⟩, ⟨h3, h4⟩, ⟨h5, h6⟩, by omega, by omega, by omega, by omega⟩ b0 D1 fv
            · refine T_lload dX7_border_95 rfl ?_
              refine T_lconst (a := 0) dX7_border_97 (by decide) ?_
              refine T_lcmp dX7_border_98 (by unfold In64; omega) (by unfold In64; omega) ?_
              refine T_if_ne 109 dX7_border_99 (by decide) (inR_lc _ _) (fun hc99 => ?_) (fun hc99 => ?_)
              · rw [Ne, lc_eq] at hc99
                refine T_aload_n dX7_border_109 rfl ?_
                refine T_cV_0 dX7_border_110 lkX7_213 rfl (Nat.le_of_ble_eq_true rfl) (RO_r (by decide)) (Nat.le_of_ble_eq_true rfl) ?_
                refine r_layWeights hL (fun b0 b1 D1 fv hwt => ?_) (fun b0 D1 fv => ?_)
                · refine T_if_ne 120 dX7_border_113 (by decide) (by unfold InR; decide) (fun _ => ?_) (fun h => absurd (by decide) h)
                  have z62 : D1 62 = D 62 := fv 62 (by omega)
                  have z63 : D1 63 = D 63 := fv 63 (by omega)
                  have v1 := hwt p.toNat (by omega)
                  have v2 := hwt q.toNat (by omega)
                  have ok : okDM D p q w := ⟨⟨h1, h2⟩, ⟨h3, h4⟩, ⟨h5, h6⟩, by omega, by omega, by omega, by omega⟩
                  have K := kk ok (by omega) D1 fv
                  have ec : (0 + D1 62 q.toNat * D1 62 q.toNat + D1 63 q.toNat * D1 63 q.toNat + D1 74 q.toNat) - (0 + D1 62 p.toNat * D1 62 p.toNat + D1 63 p.toNat * D1 63 p.toNat + D1 74 p.toNat) = sdM D q.toNat - sdM D p.toNat := by
                    unfold sdM
                    rw [z62, z63, v1.1, v2.1, Int.zero_add, Int.zero_add]
                  have bc : -2100000 ≤ sdM D q.toNat - sdM D p.toNat ∧ sdM D q.toNat - sdM D p.toNat ≤ 2100000 := by
                    unfold sdM
                    rw [← v1.1, ← v2.1]
                    omega
                  have hne : ¬ (2 * (D 62 q.toNat - D 62 p.toNat) = 0 ∧ 2 * (D 63 q.toNat - D 63 p.toNat) = 0) := by omega
                  rw [← z62] at s1 s2
                  rw [← z63] at s3 s4
                  refine T_lconst (a := 0) dX7_border_120 (by decide) ?_
                  refine T_aload_n dX7_border_121 rfl ?_
                  refine T_getR dX7_border_122 flX7_22 rfl rfl ?_
                  refine T_iload_n dX7_border_125 rfl ?_
                  refine T_iald dX7_border_126 rfl (by first | decide | omega) (by first | omega | (simp [st2]; omega)) (by first | omega | (simp [st2]; omega)) ?_
                  refine T_aload_n dX7_border_127 rfl ?_
                  refine T_getR dX7_border_128 flX7_22 rfl rfl ?_
                  refine T_iload_n dX7_border_131 rfl ?_
                  refine T_iald dX7_border_132 rfl (by first | decide | omega) (by first | omega | (simp [st2]; omega)) (by first | omega | (simp [st2]; omega)) ?_
                  refine T_imul dX7_border_133 ?_
                  refine T_i2l dX7_border_134 (by unfold InR; omega) ?_
                  refine T_ladd dX7_border_135 ?_
                  refine T_aload_n dX7_border_136 rfl ?_
                  refine T_getR dX7_border_137 flX7_25 rfl rfl ?_
                  refine T_iload_n dX7_border_140 rfl ?_
                  refine T_iald dX7_border_141 rfl (by first | decide | omega) (by first | omega | (simp [st2]; omega)) (by first | omega | (simp [st2]; omega)) ?_
                  refine T_aload_n dX7_border_142 rfl ?_
                  refine T_getR dX7_border_143 flX7_25 rfl rfl ?_
                  refine T_iload_n dX7_border_146 rfl ?_
                  refine T_iald dX7_border_147 rfl (by first | decide | omega) (by first | omega | (simp [st2]; omega)) (by first | omega | (simp [st2]; omega)) ?_
                  refine T_imul dX7_border_148 ?_
                  refine T_i2l dX7_border_149 (by unfold InR; omega) ?_
                  refine T_ladd dX7_border_150 ?_
                  refine T_aload_n dX7_border_151 rfl ?_
                  refine T_getR dX7_border_152 flX7_59 rfl rfl ?_
                  refine T_iload_n dX7_border_155 rfl ?_
                  refine T_iald dX7_border_156 rfl (by first | decide | omega) (by first | omega | (simp [st2]; omega)) (by first | omega | (simp [st2]; omega)) ?_
                  refine T_i2l dX7_border_157 (by unfold InR; omega) ?_
                  refine T_ladd dX7_border_158 ?_
                  refine T_lstore dX7_border_159 (by decide) ?_
                  refine T_lload dX7_border_161 rfl ?_
                  refine T_lconst (a := 0) dX7_border_163 (by decide) ?_
                  refine T_aload_n dX7_border_164 rfl ?_
                  refine T_getR dX7_border_165 flX7_22 rfl rfl ?_
                  refine T_iload_n dX7_border_168 rfl ?_
                  refine T_iald dX7_border_169 rfl (by first | decide | omega) (by first | omega | (simp [st2]; omega)) (by first | omega | (simp [st2]; omega)) ?_
                  refine T_aload_n dX7_border_170 rfl ?_
                  refine T_getR dX7_border_171 flX7_22 rfl rfl ?_
                  refine T_iload_n dX7_border_174 rfl ?_
                  refine T_iald dX7_border_175 rfl (by first | decide | omega) (by first | omega | (simp [st2]; omega)) (by first | omega | (simp [st2]; omega)) ?_
                  refine T_imul dX7_border_176 ?_
                  refine T_i2l dX7_border_177 (by unfold InR; omega) ?_
                  refine T_ladd dX7_border_178 ?_
                  refine T_aload_n dX7_border_179 rfl ?_
                  refine T_getR dX7_border_180 flX7_25 rfl rfl ?_
                  refine T_iload_n dX7_border_183 rfl ?_
                  refine T_iald dX7_border_184 rfl (by first | decide | omega) (by first | omega | (simp [st2]; omega)) (by first | omega | (simp [st2]; omega)) ?_
                  refine T_aload_n dX7_border_185 rfl ?_
                  refine T_getR dX7_border_186 flX7_25 rfl rfl ?_
                  refine T_iload_n dX7_border_189 rfl ?_
                  refine T_iald dX7_border_190 rfl (by first | decide | omega) (by first | omega | (simp [st2]; omega)) (by first | omega | (simp [st2]; omega)) ?_
                  refine T_imul dX7_border_191 ?_
                  refine T_i2l dX7_border_192 (by unfold InR; omega) ?_
                  refine T_ladd dX7_border_193 ?_
                  refine T_aload_n dX7_border_194 rfl ?_
                  refine T_getR dX7_border_195 flX7_59 rfl rfl ?_
                  refine T_iload_n dX7_border_198 rfl ?_
                  refine T_iald dX7_border_199 rfl (by first | decide | omega) (by first | omega | (simp [st2]; omega)) (by first | omega | (simp [st2]; omega)) ?_
                  refine T_i2l dX7_border_200 (by unfold InR; omega) ?_
                  refine T_ladd dX7_border_201 ?_
                  refine T_lsub dX7_border_202 ?_
                  rw [ec]
                  refine T_lstore dX7_border_203 (by decide) ?_
                  exact last _ _ _ none D1 ba bb bc hne K
                · refine T_if_ne 120 dX7_border_113 (by decide) (by unfold InR; decide) (fun h => absurd h (by decide)) (fun _ => ?_)
                  refine T_cS_0 dX7_border_116 lkX7_95 (Nat.le_of_ble_eq_true rfl) (RO_r (by decide)) (Nat.le_of_ble_eq_true rfl) ?_
                  refine r_lost ?_
                  refine T_lret dX7_border_119 rfl ?_
                  first
                  | (exfalso; omega)
                  | exact k0 (fun z => by unfold okDM at z; omega)
                  | exact kN ⟨⟨h1, h2⟩, ⟨h3, h4⟩, ⟨h5, h6⟩, by omega, by omega, by omega, by omega⟩ b0 D1 fv
              · rw [Ne, lc_eq] at hc99
                refine T_lload dX7_border_102 rfl ?_
                refine T_lconst (a := 0) dX7_border_104 (by decide) ?_
                refine T_lcmp dX7_border_105 (by unfold In64; omega) (by unfold In64; omega) ?_
                refine T_if_eq 116 dX7_border_106 (by decide) (inR_lc _ _) (fun hc106 => ?_) (fun hc106 => ?_)
                · rw [lc_eq] at hc106
                  refine T_cS_0 dX7_border_116 lkX7_95 (Nat.le_of_ble_eq_true rfl) (RO_r (by decide)) (Nat.le_of_ble_eq_true rfl) ?_
                  refine r_lost ?_
                  refine T_lret dX7_border_119 rfl ?_
                  first
                  | (exfalso; omega)
                  | exact k0 (fun z => by unfold okDM at z; omega)
                  | exact kN ⟨⟨h1, h2⟩, ⟨h3, h4⟩, ⟨h5, h6⟩, by omega, by omega, by omega, by omega⟩ b0 D1 fv
                · rw [lc_eq] at hc106
                  refine T_aload_n dX7_border_109 rfl ?_
                  refine T_cV_0 dX7_border_110 lkX7_213 rfl (Nat.le_of_ble_eq_true rfl) (RO_r (by decide)) (Nat.le_of_ble_eq_true rfl) ?_
                  refine r_layWeights hL (fun b0 b1 D1 fv hwt => ?_) (fun b0 D1 fv => ?_)
                  · refine T_if_ne 120 dX7_border_113 (by decide) (by unfold InR; decide) (fun _ => ?_) (fun h => absurd (by decide) h)
                    have z62 : D1 62 = D 62 := fv 62 (by omega)
                    have z63 : D1 63 = D 63 := fv 63 (by omega)
                    have v1 := hwt p.toNat (by omega)
                    have v2 := hwt q.toNat (by omega)
                    have ok : okDM D p q w := ⟨⟨h1, h2⟩, ⟨h3, h4⟩, ⟨h5, h6⟩, by omega, by omega, by omega, by omega⟩
                    have K := kk ok (by omega) D1 fv
                    have ec : (0 + D1 62 q.toNat * D1 62 q.toNat + D1 63 q.toNat * D1 63 q.toNat + D1 74 q.toNat) - (0 + D1 62 p.toNat * D1 62 p.toNat + D1 63 p.toNat * D1 63 p.toNat + D1 74 p.toNat) = sdM D q.toNat - sdM D p.toNat := by
                      unfold sdM
                      rw [z62, z63, v1.1, v2.1, Int.zero_add, Int.zero_add]
                    have bc : -2100000 ≤ sdM D q.toNat - sdM D p.toNat ∧ sdM D q.toNat - sdM D p.toNat ≤ 2100000 := by
                      unfold sdM
                      rw [← v1.1, ← v2.1]
                      omega
                    have hne : ¬ (2 * (D 62 q.toNat - D 62 p.toNat) = 0 ∧ 2 * (D 63 q.toNat - D 63 p.toNat) = 0) := by omega
                    rw [← z62] at s1 s2
                    rw [← z63] at s3 s4
                    refine T_lconst (a := 0) dX7_border_120 (by decide) ?_
                    refine T_aload_n dX7_border_121 rfl ?_
                    refine T_getR dX7_border_122 flX7_22 rfl rfl ?_
                    refine T_iload_n dX7_border_125 rfl ?_
                    refine T_iald dX7_border_126 rfl (by first | decide | omega) (by first | omega | (simp [st2]; omega)) (by first | omega | (simp [st2]; omega)) ?_
                    refine T_aload_n dX7_border_127 rfl ?_
                    refine T_getR dX7_border_128 flX7_22 rfl rfl ?_
                    refine T_iload_n dX7_border_131 rfl ?_
                    refine T_iald dX7_border_132 rfl (by first | decide | omega) (by first | omega | (simp [st2]; omega)) (by first | omega | (simp [st2]; omega)) ?_
                    refine T_imul dX7_border_133 ?_
                    refine T_i2l dX7_border_134 (by unfold InR; omega) ?_
                    refine T_ladd dX7_border_135 ?_
                    refine T_aload_n dX7_border_136 rfl ?_
                    refine T_getR dX7_border_137 flX7_25 rfl rfl ?_
                    refine T_iload_n dX7_border_140 rfl ?_
                    refine T_iald dX7_border_141 rfl (by first | decide | omega) (by first | omega | (simp [st2]; omega)) (by first | omega | (simp [st2]; omega)) ?_
                    refine T_aload_n dX7_border_142 rfl ?_
                    refine T_getR dX7_border_143 flX7_25 rfl rfl ?_
                    refine T_iload_n dX7_border_146 rfl ?_
                    refine T_iald dX7_border_147 rfl (by first | decide | omega) (by first | omega | (simp [st2]; omega)) (by first | omega | (simp [st2]; omega)) ?_
                    refine T_imul dX7_border_148 ?_
                    refine T_i2l dX7_border_149 (by unfold InR; omega) ?_
                    refine T_ladd dX7_border_150 ?_
                    refine T_aload_n dX7_border_151 rfl ?_
                    refine T_getR dX7_border_152 flX7_59 rfl rfl ?_
                    refine T_iload_n dX7_border_155 rfl ?_
                    refine T_iald dX7_border_156 rfl (by first | decide | omega) (by first | omega | (simp [st2]; omega)) (by first | omega | (simp [st2]; omega)) ?_
                    refine T_i2l dX7_border_157 (by unfold InR; omega) ?_
                    refine T_ladd dX7_border_158 ?_
                    refine T_lstore dX7_border_159 (by decide) ?_
                    refine T_lload dX7_border_161 rfl ?_
                    refine T_lconst (a := 0) dX7_border_163 (by decide) ?_
                    refine T_aload_n dX7_border_164 rfl ?_
                    refine T_getR dX7_border_165 flX7_22 rfl rfl ?_
                    refine T_iload_n dX7_border_168 rfl ?_
                    refine T_iald dX7_border_169 rfl (by first | decide | omega) (by first | omega | (simp [st2]; omega)) (by first | omega | (simp [st2]; omega)) ?_
                    refine T_aload_n dX7_border_170 rfl ?_
                    refine T_getR dX7_border_171 flX7_22 rfl rfl ?_
                    refine T_iload_n dX7_border_174 rfl ?_
                    refine T_iald dX7_border_175 rfl (by first | decide | omega) (by first | omega | (simp [st2]; omega)) (by first | omega | (simp [st2]; omega)) ?_
                    refine T_imul dX7_border_176 ?_
                    refine T_i2l dX7_border_177 (by unfold InR; omega) ?_
                    refine T_ladd dX7_border_178 ?_
                    refine T_aload_n dX7_border_179 rfl ?_
                    refine T_getR dX7_border_180 flX7_25 rfl rfl ?_
                    refine T_iload_n dX7_border_183 rfl ?_
                    refine T_iald dX7_border_184 rfl (by first | decide | omega) (by first | omega | (simp [st2]; omega)) (by first | omega | (simp [st2]; omega)) ?_
                    refine T_aload_n dX7_border_185 rfl ?_
                    refine T_getR dX7_border_186 flX7_25 rfl rfl ?_
                    refine T_iload_n dX7_border_189 rfl ?_
                    refine T_iald dX7_border_190 rfl (by first | decide | omega) (by first | omega | (simp [st2]; omega)) (by first | omega | (simp [st2]; omega)) ?_
                    refine T_imul dX7_border_191 ?_
                    refine T_i2l dX7_border_192 (by unfold InR; omega) ?_
                    refine T_ladd dX7_border_193 ?_
                    refine T_aload_n dX7_border_194 rfl ?_
                    refine T_getR dX7_border_195 flX7_59 rfl rfl ?_
                    refine T_iload_n dX7_border_198 rfl ?_
                    refine T_iald dX7_border_199 rfl (by first | decide | omega) (by first | omega | (simp [st2]; omega)) (by first | omega | (simp [st2]; omega)) ?_
                    refine T_i2l dX7_border_200 (by unfold InR; omega) ?_
                    refine T_ladd dX7_border_201 ?_
                    refine T_lsub dX7_border_202 ?_
                    rw [ec]
                    refine T_lstore dX7_border_203 (by decide) ?_
                    exact last _ _ _ none D1 ba bb bc hne K
                  · refine T_if_ne 120 dX7_border_113 (by decide) (by unfold InR; decide) (fun h => absurd h (by decide)) (fun _ => ?_)
                    refine T_cS_0 dX7_border_116 lkX7_95 (Nat.le_of_ble_eq_true rfl) (RO_r (by decide)) (Nat.le_of_ble_eq_true rfl) ?_
                    refine r_lost ?_
                    refine T_lret dX7_border_119 rfl ?_
                    first
                    | (exfalso; omega)
                    | exact k0 (fun z => by unfold okDM at z; omega)
                    | exact kN ⟨⟨h1, h2⟩, ⟨h3, h4⟩, ⟨h5, h6⟩, by omega, by omega, by omega, by omega⟩ b0 D1 fv
        · refine T_cS_0 dX7_border_33 lkX7_95 (Nat.le_of_ble_eq_true rfl) (RO_r (by decide)) (Nat.le_of_ble_eq_true rfl) ?_
          refine r_lost ?_
          refine T_lret dX7_border_36 rfl ?_
          first
          | (exfalso; omega)
          | exact k0 (fun z => by unfold okDM at z; omega)
          | exact kN ⟨⟨h1, h2⟩, ⟨h3, h4⟩, ⟨h5, h6⟩, by omega, by omega, by omega, by omega⟩ b0 D1 fv
      · refine T_if_eq 33 dX7_border_25 (by decide) (by unfold InR; decide) (fun _ => ?_) (fun h => absurd (by decide) h)
        refine T_cS_0 dX7_border_33 lkX7_95 (Nat.le_of_ble_eq_true rfl) (RO_r (by decide)) (Nat.le_of_ble_eq_true rfl) ?_
        refine r_lost ?_
        refine T_lret dX7_border_36 rfl ?_
        first
        | (exfalso; omega)
        | exact k0 (fun z => by unfold okDM at z; omega)
        | exact kN ⟨⟨h1, h2⟩, ⟨h3, h4⟩, ⟨h5, h6⟩, by omega, by omega, by omega, by omega⟩ b0 D1 fv
    · refine T_if_ne 33 dX7_border_13 (by decide) (by unfold InR; decide) (fun _ => ?_) (fun h => absurd (by decide) h)
      refine T_cS_0 dX7_border_33 lkX7_95 (Nat.le_of_ble_eq_true rfl) (RO_r (by decide)) (Nat.le_of_ble_eq_true rfl) ?_
      refine r_lost ?_
      refine T_lret dX7_border_36 rfl ?_
      first
      | (exfalso; omega)
      | exact k0 (fun z => by unfold okDM at z; omega)
      | exact kN ⟨⟨h1, h2⟩, ⟨h3, h4⟩, ⟨h5, h6⟩, by omega, by omega, by omega, by omega⟩ b0 D1 fv
  · refine T_if_ne 33 dX7_border_5 (by decide) (by unfold InR; decide) (fun _ => ?_) (fun h => absurd (by decide) h)
    refine T_cS_0 dX7_border_33 lkX7_95 (Nat.le_of_ble_eq_true rfl) (RO_r (by decide)) (Nat.le_of_ble_eq_true rfl) ?_
    refine r_lost ?_
    refine T_lret dX7_border_36 rfl ?_
    first
    | (exfalso; omega)
    | exact k0 (fun z => by unfold okDM at z; omega)
    | exact kN ⟨⟨h1, h2⟩, ⟨h3, h4⟩, ⟨h5, h6⟩, by omega, by omega, by omega, by omega⟩ b0 D1 fv
end

