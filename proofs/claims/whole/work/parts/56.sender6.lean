/-- the rows' cells beyond homes and churches stay -/
def OutE (o H C : Nat) (D D1 : DD) : Prop := ∀ j, (∀ h c, h < H → c < C → j ≠ h * 5 + c) → D1 (o + 2) j = D (o + 2) j
def ndO (pr : Nat → Int) (e : Nat) : Nat → Nat
  | 0 => e
  | i + 1 => (pr (ndO pr e i)).toNat
/-- the chain from e back, as far as k: n heads can be moved along it -/
def chO (D : DD) (o e : Nat) (n : Int) (k : Nat) : Prop := ∀ i, i < k → 0 ≤ D (o + 9) (ndO (D (o + 9)) e i) ∧ n ≤ xO D o (mvO D o (D (o + 9) (ndO (D (o + 9)) e i)).toNat (ndO (D (o + 9)) e i)) (D (o + 9) (ndO (D (o + 9)) e i)).toNat
section
variable {g : G0} {d : Nat} {P : Option Value → List SC → DD → Prop} {D : DD}
theorem c_seatAlong {o h e : Nat} {left δ : Int} {p : Nat → Int} {Sr : Nat → Int → Prop} {ρ : Nat → Nat} (hs : SnAt o) (hK : SnK D o) (hI : SitI D o) (hh : h < (D o 10).toNat) (he : e < (D o 11).toNat) (hE : EdgeOK (D o 10).toNat (D o 11).toNat (fun g b => fO D o g b < 500000000) (fO D o) (xO D o) (exO D o) (wO D o) (mvO D o)) (hT : TreeOK (D o 11).toNat (exO D o) (wO D o) p Sr 500000000 (D (o + 8)) (D (o + 9)) ρ) (hmv : ∀ a b, a < (D o 11).toNat → b < (D o 11).toNat → exO D o a b → 0 ≤ D (o + 7) (a * 5 + b)) (heB : D (o + 8) e < 500000000) (hp : D (o + 8) e + p e ≤ δ) (hδ : δ = D (o + 8) e) (hl : 1 ≤ left ∧ left ≤ 5) (htk : 0 ≤ D (o + 5) e ∧ D (o + 5) e < D (o + 4) e)
    (hk : ∀ (D' : DD) (n : Int) (c : Nat) (x1 : Nat → Nat → Int), 1 ≤ n → n ≤ left → D (o + 5) e + n ≤ D (o + 4) e → (∀ r, r ≠ o + 2 → r ≠ o + 5 → D' r = D r) → D' (o + 5) = up1 (D (o + 5)) e (D (o + 5) e + n) → c < (D o 11).toNat → D (o + 9) c < 0 → WkI (D o 10).toNat (D o 11).toNat (fO D o) (xO D o) (mvO D o) p 500000000 δ (D (o + 8)) (D (o + 9)) ρ e n c x1 → (∀ h', h' < (D o 10).toNat → ∀ c', c' < (D o 11).toNat → up2 x1 h c (x1 h c + n) h' c' = xO D' o h' c') → OutE o (D o 10).toNat (D o 11).toNat D D' → P (some (iI n)) SH D') : TM g mX3_seatAlong (d + 1) P [.ref o, iI h, iI e, iI left] D := by
  have hs2 := hs
  obtain ⟨hS, hA0, hA1, hA2, hA3, hA4, hA5, hA6, hA7, hA8, hA9, ho16⟩ := hs
  have hN := hK.1
  have hM := hK.2.1
  have hrm := hK.2.2.2.2 e he
  have hd8 : ∀ c, c < (D o 11).toNat → D (o + 8) c < 500000000 → InR (D (o + 9) c) := by
    intro c hc hB
    obtain ⟨-, t⟩ := hT c hc hB
    unfold InR
    rcases t with ⟨t, -⟩ | ⟨a, t1, t2, -⟩ <;> omega
  -- a church on the chain, and the one before it
  have node : ∀ c, c < (D o 11).toNat → D (o + 8) c < 500000000 → 0 ≤ D (o + 9) c → (D (o + 9) c).toNat < (D o 11).toNat ∧ D (o + 9) c < 5 ∧ exO D o (D (o + 9) c).toNat c ∧ D (o + 8) (D (o + 9) c).toNat < 500000000 ∧ ρ (D (o + 9) c).toNat < ρ c := by
    intro c hc hB hpr
    obtain ⟨-, t⟩ := hT c hc hB
    rcases t with ⟨t, -⟩ | ⟨a, t1, t2, t3, t4, t5, t6, t7⟩
    · omega
    · have ea : (D (o + 9) c).toNat = a := by omega
      rw [ea]
      exact ⟨t1, by omega, t3, t4, t6⟩
  have loop2 : ∀ (n : Int) (K : Nat), 1 ≤ n → n ≤ left → D (o + 5) e + n ≤ D (o + 4) e → chO D o e n K → D (o + 9) (ndO (D (o + 9)) e K) < 0 → ∀ (q k : Nat) (D1 : DD) (m7 : Option Value), q + k = K → ndO (D (o + 9)) e k < (D o 11).toNat → ρ (ndO (D (o + 9)) e k) + k < (D o 11).toNat → (∀ r, r ≠ o + 2 → D1 r = D r) → OutE o (D o 10).toNat (D o 11).toNat D D1 → WkI (D o 10).toNat (D o 11).toNat (fO D o) (xO D o) (mvO D o) p 500000000 δ (D (o + 8)) (D (o + 9)) ρ e n (ndO (D (o + 9)) e k) (xO D1 o) → T g mX3_seatAlong (rmd (d + 1) 0 0) 0 0 (Qm g (rmd (d + 1) 0 0) P) 93 [some (.ref o), some (iI h), some (iI e), some (iI left), some (iI n), some (iI (ndO (D (o + 9)) e k)), some (iI k), m7] [] SH D1 := by
    intro n K n1 n2 n3 ch hK0 q
    induction q with
    | zero =>
      intro k D1 m7 hq hc hρ r1 hOut hW
      obtain rfl : k = K := by omega
      generalize hcc : ndO (D (o + 9)) e k = c at *
      have z11 : D1 o 11 = D o 11 := by rw [r1 o (by omega)]
      have y9 : D1 (o + 9) = D (o + 9) := r1 (o + 9) (by omega)
      have ec : (c : Int).toNat = c := Int.toNat_natCast c
      have ee : (e : Int).toNat = e := Int.toNat_natCast e
      have e9 : D1 (o + 9) (c : Int).toNat = D (o + 9) c := by rw [ec, y9]
      have ix : ((h : Int) * 5 + c).toNat = h * 5 + c := by omega
      have i9 := hd8 c hc hW.2.2.2.2.2.2.1
      refine T_iload dX3_seatAlong_93 rfl ?_
      refine T_aload_n dX3_seatAlong_95 rfl ?_
      refine T_getI dX3_seatAlong_96 flX3_52 hS rfl ?_
      refine T_icmp_ge 167 dX3_seatAlong_99 (by decide) (by first | (unfold InR; omega) | (simp [st2, InR]; omega)) (by first | (unfold InR; omega) | (simp [st2, InR]; omega)) (fun hc99 => (by exfalso; omega)) (fun hc99 => ?_)
      refine T_aload_n dX3_seatAlong_102 rfl ?_
      refine T_getR dX3_seatAlong_103 flX3_36 hS rfl ?_
      refine T_iload dX3_seatAlong_106 rfl ?_
      refine T_iald dX3_seatAlong_108 hA8 (by first | decide | omega) (by first | omega | (simp [st2]; omega)) (by first | omega | (simp [st2]; omega)) ?_
      refine T_if_lt 167 dX3_seatAlong_109 (by decide) (by rw [e9]; exact i9) (fun hc109 => ?_) (fun hc109 => (by exfalso; rw [e9] at hc109; omega))
      refine T_aload_n dX3_seatAlong_167 rfl ?_
      refine T_getR dX3_seatAlong_168 flX3_15 hS rfl ?_
      refine T_iload_n dX3_seatAlong_171 rfl ?_
      refine T_iconst dX3_seatAlong_172 ?_
      refine T_imul dX3_seatAlong_173 ?_
      refine T_iload dX3_seatAlong_174 rfl ?_
      refine T_iadd dX3_seatAlong_176 ?_
      refine T_dup2 dX3_seatAlong_177 rfl rfl ?_
      refine T_iald dX3_seatAlong_178 hA1 (by first | decide | omega) (by first | omega | (simp [st2]; omega)) (by first | omega | (simp [st2]; omega)) ?_
      refine T_iload dX3_seatAlong_179 rfl ?_
      refine T_iadd dX3_seatAlong_181 ?_
      refine T_iast dX3_seatAlong_182 hA1 (by first | decide | omega) (by first | omega | (simp [st2]; omega)) (by first | omega | (simp [st2]; omega)) ?_
      refine T_aload_n dX3_seatAlong_183 rfl ?_
      refine T_getR dX3_seatAlong_184 flX3_24 hS rfl ?_
      refine T_iload_n dX3_seatAlong_187 rfl ?_
      refine T_dup2 dX3_seatAlong_188 rfl rfl ?_
      refine T_iald dX3_seatAlong_189 hA4 (by first | decide | omega) (by first | omega | (simp [st2]; omega)) (by first | omega | (simp [st2]; omega)) ?_
      refine T_iload dX3_seatAlong_190 rfl ?_
      refine T_iadd dX3_seatAlong_192 ?_
      refine T_iast dX3_seatAlong_193 hA4 (by first | decide | omega) (by first | omega | (simp [st2]; omega)) (by first | omega | (simp [st2]; omega)) ?_
      refine T_iload dX3_seatAlong_194 rfl ?_
      refine T_iret dX3_seatAlong_196 rfl ?_
      refine hk _ n c (xO D1 o) n1 n2 n3 (fun r e2 e5 => by rw [st2_row e5, st2_row e2]; exact r1 r e2) ?_ hc hK0 hW (fun h' hh' c' hc' => ?_) (fun j hj => by rw [st2_row (show o + 2 ≠ o + 5 by omega), ix, st2_ne (hj h c hh hc)]; exact hOut j hj)
      · rw [ee, st2_up, st2_row (show o + 5 ≠ o + 2 by omega), r1 (o + 5) (by omega)]
      · have z := up2_st (H := (D o 10).toNat) (C := (D o 11).toNat) (D1 := D1) (o := o) (g := h) (b := c) (v := xO D1 o h c + n) (by omega) hc h' hh' c' hc'
        rw [z]
        unfold xO
        rw [ix, st2_row (show o + 2 ≠ o + 5 by omega)]
    | succ q ih =>
      intro k D1 m7 hq hc hρ r1 hOut hW
      have hch := ch k (by omega)
      have hnext : ndO (D (o + 9)) e (k + 1) = (D (o + 9) (ndO (D (o + 9)) e k)).toNat := rfl
      generalize hcc : ndO (D (o + 9)) e k = c at *
      obtain ⟨w1, w2, w3, w4, w5⟩ := node c hc hW.2.2.2.2.2.2.1 hch.1
      obtain ⟨s1, s2, s3, s4⟩ := hW.step hE hT hc (a := (D (o + 9) c).toNat) (by omega) (by omega) hch.2
      have hm0 := hmv _ c w1 hc w3
      have z11 : D1 o 11 = D o 11 := by rw [r1 o (by omega)]
      have y9 : D1 (o + 9) = D (o + 9) := r1 (o + 9) (by omega)
      have y7 : D1 (o + 7) = D (o + 7) := r1 (o + 7) (by omega)
      have ec : (c : Int).toNat = c := Int.toNat_natCast c
      have e9 : D1 (o + 9) (c : Int).toNat = D (o + 9) c := by rw [ec, y9]
      have i9 := hd8 c hc hW.2.2.2.2.2.2.1
      generalize ham : (D (o + 9) c).toNat = a at *
      have em : D (o + 7) (a * 5 + c) = (mvO D o a c : Nat) := by unfold mvO; omega
      have ea : D (o + 9) c = (a : Nat) := by omega
      generalize hmm : mvO D o a c = m at *
      have ixc : ((m : Int) * 5 + c).toNat = m * 5 + c := by omega
      have ixa : ((m : Int) * 5 + a).toNat = m * 5 + a := by omega
      refine T_iload dX3_seatAlong_93 rfl ?_
      refine T_aload_n dX3_seatAlong_95 rfl ?_
      refine T_getI dX3_seatAlong_96 flX3_52 hS rfl ?_
      refine T_icmp_ge 167 dX3_seatAlong_99 (by decide) (by first | (unfold InR; omega) | (simp [st2, InR]; omega)) (by first | (unfold InR; omega) | (simp [st2, InR]; omega)) (fun hc99 => (by exfalso; omega)) (fun hc99 => ?_)
      refine T_aload_n dX3_seatAlong_102 rfl ?_
      refine T_getR dX3_seatAlong_103 flX3_36 hS rfl ?_
      refine T_iload dX3_seatAlong_106 rfl ?_
      refine T_iald dX3_seatAlong_108 hA8 (by first | decide | omega) (by first | omega | (simp [st2]; omega)) (by first | omega | (simp [st2]; omega)) ?_
      refine T_if_lt 167 dX3_seatAlong_109 (by decide) (by rw [e9]; exact i9) (fun hc109 => (by exfalso; rw [e9] at hc109; omega)) (fun hc109 => ?_)
      refine T_aload_n dX3_seatAlong_112 rfl ?_
      refine T_iload dX3_seatAlong_113 rfl ?_
      refine T_cV_1 dX3_seatAlong_115 lkX3_123 hS (Nat.le_of_ble_eq_true rfl) (RO_r (by decide)) (Nat.le_of_ble_eq_true rfl) ?_
      refine c_moverTo (o := o) (c := c) hs2 (by omega) (by rw [y9]; omega) ?_
      rw [y9, y7, ea, Int.toNat_natCast, em]
      refine T_iconst dX3_seatAlong_118 ?_
      refine T_imul dX3_seatAlong_119 ?_
      refine T_istore dX3_seatAlong_120 (by decide) ?_
      refine T_aload_n dX3_seatAlong_122 rfl ?_
      refine T_getR dX3_seatAlong_123 flX3_15 hS rfl ?_
      refine T_iload dX3_seatAlong_126 rfl ?_
      refine T_iload dX3_seatAlong_128 rfl ?_
      refine T_iadd dX3_seatAlong_130 ?_
      refine T_dup2 dX3_seatAlong_131 rfl rfl ?_
      refine T_iald dX3_seatAlong_132 hA1 (by first | decide | omega) (by first | omega | (simp [st2]; omega)) (by first | omega | (simp [st2]; omega)) ?_
      refine T_iload dX3_seatAlong_133 rfl ?_
      refine T_iadd dX3_seatAlong_135 ?_
      refine T_iast dX3_seatAlong_136 hA1 (by first | decide | omega) (by first | omega | (simp [st2]; omega)) (by first | omega | (simp [st2]; omega)) ?_
      refine T_aload_n dX3_seatAlong_137 rfl ?_
      refine T_getR dX3_seatAlong_138 flX3_36 hS rfl ?_
      refine T_iload dX3_seatAlong_141 rfl ?_
      refine T_iald dX3_seatAlong_143 hA8 (by first | decide | omega) (by omega) (by omega) ?_
      rw [show st2 D1 (o + 2) ((m : Int) * 5 + c).toNat (D1 (o + 2) ((m : Int) * 5 + c).toNat + n) (o + 9) (c : Int).toNat = (a : Nat) by rw [st2_row (by omega), e9, ea]]
      refine T_istore dX3_seatAlong_144 (by decide) ?_
      refine T_aload_n dX3_seatAlong_146 rfl ?_
      refine T_getR dX3_seatAlong_147 flX3_15 hS rfl ?_
      refine T_iload dX3_seatAlong_150 rfl ?_
      refine T_iload dX3_seatAlong_152 rfl ?_
      refine T_iadd dX3_seatAlong_154 ?_
      refine T_dup2 dX3_seatAlong_155 rfl rfl ?_
      refine T_iald dX3_seatAlong_156 hA1 (by first | decide | omega) (by first | omega | (simp [st2]; omega)) (by first | omega | (simp [st2]; omega)) ?_
      refine T_iload dX3_seatAlong_157 rfl ?_
      refine T_isub dX3_seatAlong_159 ?_
      refine T_iast dX3_seatAlong_160 hA1 (by first | decide | omega) (by first | omega | (simp [st2]; omega)) (by first | omega | (simp [st2]; omega)) ?_
      refine T_iinc dX3_seatAlong_161 rfl (by decide) ?_
      refine T_goto (tgt := 93) dX3_seatAlong_164 (by decide) ?_
      rw [ixc, ixa]
      have hnd : ((a : Nat) : Int) = (ndO (D (o + 9)) e (k + 1) : Nat) := by rw [hnext]
      rw [hnd]
      refine ih (k + 1) _ _ (by omega) (by rw [hnext]; exact s1) (by rw [hnext]; omega) (fun r e2 => by rw [st2_row e2, st2_row e2]; exact r1 r e2) (fun j hj => by rw [st2_ne (hj m a s3 s1), st2_ne (hj m c s3 hc)]; exact hOut j hj) ?_
      rw [hnext]
      have k1 := up2_st (H := (D o 10).toNat) (C := (D o 11).toNat) (D1 := D1) (o := o) (g := m) (b := c) (v := xO D1 o m c + n) (by omega) hc
      refine WkI.congX s1 (fun h' hh' c' hc' => ?_) s4
      have k2 := up2_st (H := (D o 10).toNat) (C := (D o 11).toNat) (D1 := st2 D1 (o + 2) (m * 5 + c) (xO D1 o m c + n)) (o := o) (g := m) (b := a) (v := xO (st2 D1 (o + 2) (m * 5 + c) (xO D1 o m c + n)) o m a - n) (by omega) s1 h' hh' c' hc'
      rw [k1 m s3 a s1]
      refine Eq.trans ?_ k2
      by_cases z : h' = m ∧ c' = a
      · rw [z.1, z.2, up2_at, up2_at]
      · rw [up2_ne z, up2_ne z]; exact k1 h' hh' c' hc'
  have loop1 : ∀ (q k : Nat) (n : Int), ρ (ndO (D (o + 9)) e k) ≤ q → ndO (D (o + 9)) e k < (D o 11).toNat → D (o + 8) (ndO (D (o + 9)) e k) < 500000000 → ρ (ndO (D (o + 9)) e k) + k < (D o 11).toNat → 1 ≤ n → n ≤ left → D (o + 5) e + n ≤ D (o + 4) e → chO D o e n k → T g mX3_seatAlong (rmd (d + 1) 0 0) 0 0 (Qm g (rmd (d + 1) 0 0) P) 25 [some (.ref o), some (iI h), some (iI e), some (iI left), some (iI n), some (iI (ndO (D (o + 9)) e k)), some (iI k), none] [] SH D := by
    intro q
    have step0 : ∀ (k : Nat) (n : Int), ndO (D (o + 9)) e k < (D o 11).toNat → ρ (ndO (D (o + 9)) e k) + k < (D o 11).toNat → 1 ≤ n → n ≤ left → D (o + 5) e + n ≤ D (o + 4) e → chO D o e n k → D (o + 9) (ndO (D (o + 9)) e k) < 0 → T g mX3_seatAlong (rmd (d + 1) 0 0) 0 0 (Qm g (rmd (d + 1) 0 0) P) 87 [some (.ref o), some (iI h), some (iI e), some (iI left), some (iI n), some (iI (ndO (D (o + 9)) e k)), some (iI k), none] [] SH D := by
      intro k n hc hρ n1 n2 n3 ch hneg
      have hρe := (hT e he heB).1
      refine T_iload_n dX3_seatAlong_87 rfl ?_
      refine T_istore dX3_seatAlong_88 (by decide) ?_
      refine T_iconst dX3_seatAlong_90 ?_
      refine T_istore dX3_seatAlong_91 (by decide) ?_
      exact loop2 n k n1 n2 n3 ch hneg k 0 D none (by omega) he (by show ρ e + 0 < _; omega) (fun r _ => rfl) (fun j _ => rfl) (WkI.start (fun g' hg' b' hb' => (hI g' b' hg' hb').1) heB hp hδ)
    induction q with
    | zero =>
      intro k n hq hc hB hρ n1 n2 n3 ch
      have hneg : D (o + 9) (ndO (D (o + 9)) e k) < 0 := Classical.byContradiction fun z => by have := (node _ hc hB (by omega)).2.2.2.2; omega
      have s0 := step0 k n hc hρ n1 n2 n3 ch hneg
      generalize hcc : ndO (D (o + 9)) e k = c at *
      have ec : (c : Int).toNat = c := Int.toNat_natCast c
      have e9 : D (o + 9) (c : Int).toNat = D (o + 9) c := by rw [ec]
      have i9 := hd8 c hc hB
      refine T_iload dX3_seatAlong_25 rfl ?_
      refine T_aload_n dX3_seatAlong_27 rfl ?_
      refine T_getI dX3_seatAlong_28 flX3_52 hS rfl ?_
      refine T_icmp_ge 87 dX3_seatAlong_31 (by decide) (by first | (unfold InR; omega) | (simp [st2, InR]; omega)) (by first | (unfold InR; omega) | (simp [st2, InR]; omega)) (fun hc31 => (by exfalso; omega)) (fun hc31 => ?_)
      refine T_aload_n dX3_seatAlong_34 rfl ?_
      refine T_getR dX3_seatAlong_35 flX3_36 hS rfl ?_
      refine T_iload dX3_seatAlong_38 rfl ?_
      refine T_iald dX3_seatAlong_40 hA8 (by first | decide | omega) (by first | omega | (simp [st2]; omega)) (by first | omega | (simp [st2]; omega)) ?_
      refine T_if_lt 87 dX3_seatAlong_41 (by decide) (by rw [e9]; exact i9) (fun hc41 => ?_) (fun hc41 => (by exfalso; rw [e9] at hc41; omega))
      exact s0
    | succ q ih =>
      intro k n hq hc hB hρ n1 n2 n3 ch
      have s0 := step0 k n hc hρ n1 n2 n3 ch
      have ih := ih (k + 1)
      have hnext : ndO (D (o + 9)) e (k + 1) = (D (o + 9) (ndO (D (o + 9)) e k)).toNat := rfl
      have chn : ∀ n' : Int, n' ≤ n → 0 ≤ D (o + 9) (ndO (D (o + 9)) e k) → n' ≤ xO D o (mvO D o (D (o + 9) (ndO (D (o + 9)) e k)).toNat (ndO (D (o + 9)) e k)) (D (o + 9) (ndO (D (o + 9)) e k)).toNat → chO D o e n' (k + 1) := by
        intro n' h1 h2 h3 i hi
        by_cases e0 : i = k
        · subst e0; exact ⟨h2, h3⟩
        · have := ch i (by omega)
          exact ⟨this.1, by omega⟩
      rw [hnext] at ih
      generalize hcc : ndO (D (o + 9)) e k = c at *
      have ec : (c : Int).toNat = c := Int.toNat_natCast c
      have e9 : D (o + 9) (c : Int).toNat = D (o + 9) c := by rw [ec]
      have i9 := hd8 c hc hB
      refine T_iload dX3_seatAlong_25 rfl ?_
      refine T_aload_n dX3_seatAlong_27 rfl ?_
      refine T_getI dX3_seatAlong_28 flX3_52 hS rfl ?_
      refine T_icmp_ge 87 dX3_seatAlong_31 (by decide) (by first | (unfold InR; omega) | (simp [st2, InR]; omega)) (by first | (unfold InR; omega) | (simp [st2, InR]; omega)) (fun hc31 => (by exfalso; omega)) (fun hc31 => ?_)
      refine T_aload_n dX3_seatAlong_34 rfl ?_
      refine T_getR dX3_seatAlong_35 flX3_36 hS rfl ?_
      refine T_iload dX3_seatAlong_38 rfl ?_
      refine T_iald dX3_seatAlong_40 hA8 (by first | decide | omega) (by first | omega | (simp [st2]; omega)) (by first | omega | (simp [st2]; omega)) ?_
      refine T_if_lt 87 dX3_seatAlong_41 (by decide) (by rw [e9]; exact i9) (fun hc41 => ?_) (fun hc41 => ?_)
      · rw [e9] at hc41
        exact s0 (by omega)
      · rw [e9] at hc41
        obtain ⟨w1, w2, w3, w4, w5⟩ := node c hc hB (by omega)
        have hm0 := hmv _ c w1 hc w3
        obtain ⟨u1, u2, u3, u4⟩ := hE.1 _ w1 c hc w3
        generalize ham : (D (o + 9) c).toNat = a at *
        have em : D (o + 7) (a * 5 + c) = (mvO D o a c : Nat) := by unfold mvO; omega
        have ea : D (o + 9) c = (a : Nat) := by omega
        generalize hmm : mvO D o a c = m at *
        have ixa : ((m : Int) * 5 + D (o + 9) (c : Int).toNat).toNat = m * 5 + a := by rw [e9]; omega
        have hxr := hI m a u1 w1
        have ex : D (o + 2) ((m : Int) * 5 + D (o + 9) (c : Int).toNat).toNat = xO D o m a := by rw [ixa]
        refine T_iload dX3_seatAlong_44 rfl ?_
        refine T_aload_n dX3_seatAlong_46 rfl ?_
        refine T_getR dX3_seatAlong_47 flX3_15 hS rfl ?_
        refine T_aload_n dX3_seatAlong_50 rfl ?_
        refine T_iload dX3_seatAlong_51 rfl ?_
        refine T_cV_1 dX3_seatAlong_53 lkX3_123 hS (Nat.le_of_ble_eq_true rfl) (RO_r (by decide)) (Nat.le_of_ble_eq_true rfl) ?_
        refine c_moverTo (o := o) (c := c) hs2 (by omega) (by omega) ?_
        rw [ea, Int.toNat_natCast, em]
        refine T_iconst dX3_seatAlong_56 ?_
        refine T_imul dX3_seatAlong_57 ?_
        refine T_aload_n dX3_seatAlong_58 rfl ?_
        refine T_getR dX3_seatAlong_59 flX3_36 hS rfl ?_
        refine T_iload dX3_seatAlong_62 rfl ?_
        refine T_iald dX3_seatAlong_64 hA8 (by first | decide | omega) (by first | omega | (simp [st2]; omega)) (by first | omega | (simp [st2]; omega)) ?_
        refine T_iadd dX3_seatAlong_65 ?_
        refine T_iald dX3_seatAlong_66 hA1 (by first | decide | omega) (by rw [e9]; omega) (by rw [e9]; omega) ?_
        refine T_min dX3_seatAlong_67 lkX3_117 (by first | (unfold InR; omega) | (simp [st2, InR]; omega)) (by rw [ex]; unfold InR; simp only [xO]; omega) (Nat.le_of_ble_eq_true rfl) ⟨by show _ ≤ _; first | decide | (simp only [rmd]; omega) | omega, by show _ ≤ _; first | decide | (simp only [rmd]; omega) | omega⟩ ?_
        refine T_istore dX3_seatAlong_70 (by decide) ?_
        refine T_aload_n dX3_seatAlong_72 rfl ?_
        refine T_getR dX3_seatAlong_73 flX3_36 hS rfl ?_
        refine T_iload dX3_seatAlong_76 rfl ?_
        refine T_iald dX3_seatAlong_78 hA8 (by first | decide | omega) (by first | omega | (simp [st2]; omega)) (by first | omega | (simp [st2]; omega)) ?_
        refine T_istore dX3_seatAlong_79 (by decide) ?_
        refine T_iinc dX3_seatAlong_81 rfl (by decide) ?_
        refine T_goto (tgt := 25) dX3_seatAlong_84 (by decide) ?_
        rw [ex, e9, ea]
        refine ih _ (by omega) w1 w4 (by omega) ?_ ?_ ?_ (chn _ ?_ (by omega) ?_)
        all_goals (split <;> omega)
  have hρe := (hT e he heB).1
  have ee : (e : Int).toNat = e := Int.toNat_natCast e
  have e4 : D (o + 4) (e : Int).toNat = D (o + 4) e := by rw [ee]
  have e5 : D (o + 5) (e : Int).toNat = D (o + 5) e := by rw [ee]
  refine T_iload_n dX3_seatAlong_0 rfl ?_
  refine T_aload_n dX3_seatAlong_1 rfl ?_
  refine T_getR dX3_seatAlong_2 flX3_21 hS rfl ?_
  refine T_iload_n dX3_seatAlong_5 rfl ?_
  refine T_iald dX3_seatAlong_6 hA3 (by first | decide | omega) (by first | omega | (simp [st2]; omega)) (by first | omega | (simp [st2]; omega)) ?_
  refine T_aload_n dX3_seatAlong_7 rfl ?_
  refine T_getR dX3_seatAlong_8 flX3_24 hS rfl ?_
  refine T_iload_n dX3_seatAlong_11 rfl ?_
  refine T_iald dX3_seatAlong_12 hA4 (by first | decide | omega) (by first | omega | (simp [st2]; omega)) (by first | omega | (simp [st2]; omega)) ?_
  refine T_isub dX3_seatAlong_13 ?_
  refine T_min dX3_seatAlong_14 lkX3_117 (by first | (unfold InR; omega) | (simp [st2, InR]; omega)) (by rw [e4, e5]; unfold InR; omega) (Nat.le_of_ble_eq_true rfl) ⟨by show _ ≤ _; first | decide | (simp only [rmd]; omega) | omega, by show _ ≤ _; first | decide | (simp only [rmd]; omega) | omega⟩ ?_
  refine T_istore dX3_seatAlong_17 (by decide) ?_
  refine T_iload_n dX3_seatAlong_19 rfl ?_
  refine T_istore dX3_seatAlong_20 (by decide) ?_
  refine T_iconst dX3_seatAlong_22 ?_
  refine T_istore dX3_seatAlong_23 (by decide) ?_
  rw [e4, e5]
  refine loop1 (ρ e) 0 _ (Nat.le_refl _) he heB (by show ρ e + 0 < _; omega) ?_ ?_ ?_ (fun i hi => by omega)
  all_goals (split <;> omega)
end

