def supR (D : DD) (h : Nat) (k : Int) (g : Nat) : Int := if g < h then D 60 g else if g = h then k else 0
/-- homes before h sit whole, k heads of h; the best way for these -/
def PSR (D : DD) (h : Nat) (k : Int) : Prop := ∃ p, Feas (D 57 1).toNat (D 57 5).toNat (supR D h k) (D 68) (alR D) (xR D) ∧ Cert (D 57 1).toNat (D 57 5).toNat (D 68) (alR D) (fR D) (xR D) p
theorem PSR.sit {D : DD} {h : Nat} {k : Int} (hK : RnK D) (hk : 0 ≤ k ∧ k ≤ 5) (hP : PSR D h k) : SitR D := by
  obtain ⟨p, hF, -⟩ := hP
  intro g c hg hc
  have h1 := hF.1 g hg c hc
  have h2 := sm_ge1 (f := xR D g) (n := (D 57 5).toNat) (k := c) (fun j hj => (hF.1 g hg j hj).1) hc
  have h3 := hF.2.1 g hg
  have h4 := hK.2.2.2.1 g
  have h5 : supR D h k g ≤ 5 := by unfold supR; (split <;> first | omega | (split <;> omega))
  exact ⟨h1.1, by omega, h1.2⟩
theorem up2_stR {D1 : DD} {H C : Nat} (hC : C ≤ 5) {g b : Nat} (hb : b < C) {v : Int} : ∀ h, h < H → ∀ c, c < C → up2 (xR D1) g b v h c = xR (st2 D1 70 (5 * g + b) v) h c := by
  intro h _ c hc
  unfold up2 xR
  by_cases e : h = g ∧ c = b
  · obtain ⟨rfl, rfl⟩ := e
    rw [if_pos ⟨rfl, rfl⟩, st2_at]
  · rw [if_neg e, st2_ne (by omega)]
/-- a church that can be reached and has room -/
def okS (D D1 : DD) (c : Nat) : Prop := D1 71 c < 100000000 ∧ sm (D 57 1).toNat (fun h => xR D h c) < D 68 c
def FrS (D D1 : DD) : Prop := ∀ r, r ≠ 70 → r ≠ 71 → r ≠ 72 → r ≠ 73 → D1 r = D r
section
variable {g : G0} {d : Nat} {P : Option Value → List SC → DD → Prop} {D : DD}
theorem r_seatOne {h : Nat} {k : Int} (hK : RnK D) (hh : h < (D 57 1).toNat) (hk0 : 0 ≤ k ∧ k < D 60 h) (hP : PSR D h k) (k1 : ∀ (D' : DD) (δ : Int), FrS D D' → PSR D' h (k + 1) → costX (D 57 1).toNat (D 57 5).toNat (fR D) (xR D') = costX (D 57 1).toNat (D 57 5).toNat (fR D) (xR D) + δ → -7207200 ≤ δ → δ < 100000000 → P (some (iI δ)) SH D') (kF : ∀ D' : DD, FrS D D' → (¬ ∃ y, Feas (D 57 1).toNat (D 57 5).toNat (D 60) (D 68) (alR D) y) → P (some (iI 100000000)) SH D') : TM g mX7_seatOne (d + 2) P [.ref 57, iI h] D := by
  have hN := hK.1
  have hM := hK.2.1
  have hhd := hK.2.2.2.1 h
  have hI := hP.sit hK ⟨hk0.1, by omega⟩
  obtain ⟨p, hF, hC⟩ := id hP
  have hPW := pwR hK hI hC
  have hE := edgeR (D := D)
  have main : ∀ (D1 : DD) (t : Nat) (τ : Nat → Nat) (m3 m4 : Option Value), t ≤ 200 → FrD D D1 → BfI (D 57 5).toNat (exR D) (wR D) p (fun c v => alR D h c ∧ v = fR D h c) 100000000 t τ (D1 71) (D1 72) → AllR (D 57 5).toNat (exR D) (wR D) 100000000 (D1 71) → WmI D D1 → T g mX7_seatOne (rmd (d + 2) 0 0) 0 0 (Qm g (rmd (d + 2) 0 0) P) 5 [some (.ref 57), some (iI h), none, m3, m4] [] SH D1 := by
    intro D1 t τ m3 m4 ht fr hB hA hW
    have z57 : D1 57 = D 57 := fr 57 (by decide) (by decide) (by decide)
    have z68 : D1 68 = D 68 := fr 68 (by decide) (by decide) (by decide)
    have z70 : D1 70 = D 70 := fr 70 (by decide) (by decide) (by decide)
    have z69 : D1 69 = D 69 := fr 69 (by decide) (by decide) (by decide)
    have hx1 : xR D1 = xR D := by unfold xR; rw [z70]
    obtain ⟨ρ, hT⟩ := hB.tree hA
    have dr : ∀ c, c < (D 57 5).toNat → -7207200 ≤ D1 71 c ∧ D1 71 c ≤ 500000000 := fun c hc => d_rng hB (by omega) (by omega) hc
    have walk : ∀ (fin : Nat), fin < (D 57 5).toNat → okS D D1 fin → (∀ c, c < (D 57 5).toNat → okS D D1 c → D1 71 fin ≤ D1 71 c) → ∀ (n c : Nat) (D2 : DD), ρ c = n → c < (D 57 5).toNat → (∀ r, r ≠ 70 → D2 r = D1 r) → WkI (D 57 1).toNat (D 57 5).toNat (fR D) (xR D) (mvV D) p 100000000 (D1 71 fin) (D1 71) (D1 72) ρ fin 1 c (xR D2) → T g mX7_seatOne (rmd (d + 2) 0 0) 0 0 (Qm g (rmd (d + 2) 0 0) P) 103 [some (.ref 57), some (iI h), some (iI fin), some (iI (D1 71 fin)), some (iI c)] [] SH D2 := by
      intro fin hfin hok hle n
      induction n using Nat.strongRecOn with
      | ind n ih =>
        intro c D2 hn hc r1 hWk
        have ec : (c : Int).toNat = c := Int.toNat_natCast c
        have e72 : D2 72 (c : Int).toNat = D1 72 c := by rw [ec, r1 72 (by decide)]
        have e73 : D2 73 (c : Int).toNat = D1 73 c := by rw [ec, r1 73 (by decide)]
        have hdB := hWk.2.2.2.2.2.2.1
        by_cases hpr : D1 72 c < 0
        · have ix : (5 * (h : Int) + c).toNat = 5 * h + c := by omega
          have hpr9 : -9 ≤ D1 72 c := by
            obtain ⟨-, t2⟩ := hT c hc hdB
            rcases t2 with ⟨t3, -⟩ | ⟨a, t3, t4, -⟩ <;> omega
          have au := aug_done (sup := supR D h k) (fin := fin) (n := 1) (δ := D1 71 fin) (h0 := h) hF hC hE hA hT (fun c' hc' hal' => hB.1 c' hc' _ ⟨hal', rfl⟩) hB.2.2.1 hh hfin (Int.le_refl 1) (by have := hok.2; omega) hok.1 (fun c' hc' hlt' hd' => hle c' hc' ⟨hd', hlt'⟩) rfl hc hpr hWk
          obtain ⟨u1, u2, u3, -⟩ := au
          have q6 := up2_stR (D1 := D2) (H := (D 57 1).toNat) (C := (D 57 5).toNat) (g := h) (b := c) (v := xR D2 h c + 1) (by omega) hc
          have dfr := dr fin hfin
          refine T_aload_n dX7_seatOne_103 rfl ?_
          refine T_getR dX7_seatOne_104 flX7_53 rfl rfl ?_
          refine T_iload dX7_seatOne_107 rfl ?_
          refine T_iald dX7_seatOne_109 rfl (by first | decide | omega) (by first | omega | (simp [st2]; omega)) (by first | omega | (simp [st2]; omega)) ?_
          rw [e72]
          refine T_if_lt 172 dX7_seatOne_110 (by decide) (by unfold InR; omega) (fun hc110 => ?_) (fun hc110 => (by exfalso; omega))
          refine T_aload_n dX7_seatOne_172 rfl ?_
          refine T_getR dX7_seatOne_173 flX7_47 rfl rfl ?_
          refine T_iconst dX7_seatOne_176 ?_
          refine T_iload_n dX7_seatOne_177 rfl ?_
          refine T_imul dX7_seatOne_178 ?_
          refine T_iload dX7_seatOne_179 rfl ?_
          refine T_iadd dX7_seatOne_181 ?_
          refine T_dup2 dX7_seatOne_182 rfl rfl ?_
          refine T_iald dX7_seatOne_183 rfl (by first | decide | omega) (by first | omega | (simp [st2]; omega)) (by first | omega | (simp [st2]; omega)) ?_
          refine T_iconst dX7_seatOne_184 ?_
          refine T_iadd dX7_seatOne_185 ?_
          refine T_iast dX7_seatOne_186 rfl (by first | decide | omega) (by first | omega | (simp [st2]; omega)) (by first | omega | (simp [st2]; omega)) ?_
          refine T_iload_n dX7_seatOne_187 rfl ?_
          refine T_iret dX7_seatOne_188 rfl ?_
          rw [ix]
          have hfr : FrS D (st2 D2 70 (5 * h + c) (D2 70 (5 * h + c) + 1)) := fun r e0 e1 e2 e3 => by rw [st2_row e0, r1 r e0]; exact fr r e1 e2 e3
          have y57 := hfr 57 (by decide) (by decide) (by decide) (by decide)
          have y60 := hfr 60 (by decide) (by decide) (by decide) (by decide)
          have y68 := hfr 68 (by decide) (by decide) (by decide) (by decide)
          have y69 := hfr 69 (by decide) (by decide) (by decide) (by decide)
          have yf : fR (st2 D2 70 (5 * h + c) (D2 70 (5 * h + c) + 1)) = fR D := by unfold fR; rw [y69]
          have ya : alR (st2 D2 70 (5 * h + c) (D2 70 (5 * h + c) + 1)) = alR D := by unfold alR; rw [yf]
          refine k1 _ (D1 71 fin) hfr ⟨pNew p (D1 71) (D1 71 fin), ?_, ?_⟩ ?_ dfr.1 hok.1
          · rw [y57, y68, ya]
            refine (Feas.congX q6 u1).cong (fun g' hg' => ?_) (fun _ _ => rfl) (fun _ _ _ _ => Iff.rfl)
            unfold supR
            rw [y60]
            by_cases z : g' = h
            · subst z; rw [if_pos rfl, if_neg (by omega), if_pos rfl, if_neg (by omega), if_pos rfl]
            · simp only [if_neg z]
          · rw [y57, y68, ya, yf]; exact Cert.congX q6 u2
          · rw [← costc q6, u3, Int.one_mul]
        · have hnx : ∃ a : Nat, a < (D 57 5).toNat ∧ D1 72 c = a ∧ exR D a c := by
            obtain ⟨-, t2⟩ := hT c hc hdB
            rcases t2 with ⟨t3, -⟩ | ⟨a, t3, t4, t5, -⟩
            · omega
            · exact ⟨a, t3, t4, t5⟩
          obtain ⟨a, s1, s2, s3⟩ := hnx
          have em : D1 73 c = (mvV D a c : Nat) := by
            have := hW c hc (by omega)
            rw [s2, Int.toNat_natCast] at this
            exact this
          obtain ⟨-, x2, -, -⟩ := hE.1 a s1 c hc s3
          obtain ⟨-, w2, w3, w4⟩ := hWk.step hE hT hc s2 (by decide) (by omega)
          generalize hm : mvV D a c = m at *
          rw [s2] at e72
          rw [em] at e73
          have ixc : (5 * (m : Int) + c).toNat = 5 * m + c := by omega
          have ixa : (5 * (m : Int) + a).toNat = 5 * m + a := by omega
          have ne1 : (72 : Nat) ≠ 70 := by decide
          have ne2 : (73 : Nat) ≠ 70 := by decide
          refine T_aload_n dX7_seatOne_103 rfl ?_
          refine T_getR dX7_seatOne_104 flX7_53 rfl rfl ?_
          refine T_iload dX7_seatOne_107 rfl ?_
          refine T_iald dX7_seatOne_109 rfl (by first | decide | omega) (by first | omega | (simp [st2]; omega)) (by first | omega | (simp [st2]; omega)) ?_
          rw [e72]
          refine T_if_lt 172 dX7_seatOne_110 (by decide) (by first | (unfold InR; omega) | (simp [st2, InR]; omega)) (fun hc110 => (by exfalso; omega)) (fun hc110 => ?_)
          refine T_aload_n dX7_seatOne_113 rfl ?_
          refine T_getR dX7_seatOne_114 flX7_47 rfl rfl ?_
          refine T_iconst dX7_seatOne_117 ?_
          refine T_aload_n dX7_seatOne_118 rfl ?_
          refine T_getR dX7_seatOne_119 flX7_56 rfl rfl ?_
          refine T_iload dX7_seatOne_122 rfl ?_
          refine T_iald dX7_seatOne_124 rfl (by first | decide | omega) (by first | omega | (simp [st2]; omega)) (by first | omega | (simp [st2]; omega)) ?_
          rw [e73]
          refine T_imul dX7_seatOne_125 ?_
          refine T_iload dX7_seatOne_126 rfl ?_
          refine T_iadd dX7_seatOne_128 ?_
          refine T_dup2 dX7_seatOne_129 rfl rfl ?_
          refine T_iald dX7_seatOne_130 rfl (by first | decide | omega) (by first | omega | (simp [st2]; omega)) (by first | omega | (simp [st2]; omega)) ?_
          refine T_iconst dX7_seatOne_131 ?_
          refine T_iadd dX7_seatOne_132 ?_
          refine T_iast dX7_seatOne_133 rfl (by first | decide | omega) (by first | omega | (simp [st2]; omega)) (by first | omega | (simp [st2]; omega)) ?_
          refine T_aload_n dX7_seatOne_134 rfl ?_
          refine T_getR dX7_seatOne_135 flX7_47 rfl rfl ?_
          refine T_iconst dX7_seatOne_138 ?_
          refine T_aload_n dX7_seatOne_139 rfl ?_
          refine T_getR dX7_seatOne_140 flX7_56 rfl rfl ?_
          refine T_iload dX7_seatOne_143 rfl ?_
          refine T_iald dX7_seatOne_145 rfl (by first | decide | omega) (by first | omega | (simp [st2]; omega)) (by first | omega | (simp [st2]; omega)) ?_
          rw [st2_row ne2, e73]
          refine T_imul dX7_seatOne_146 ?_
          refine T_aload_n dX7_seatOne_147 rfl ?_
          refine T_getR dX7_seatOne_148 flX7_53 rfl rfl ?_
          refine T_iload dX7_seatOne_151 rfl ?_
          refine T_iald dX7_seatOne_153 rfl (by first | decide | omega) (by first | omega | (simp [st2]; omega)) (by first | omega | (simp [st2]; omega)) ?_
          rw [st2_row ne1, e72]
          refine T_iadd dX7_seatOne_154 ?_
          refine T_dup2 dX7_seatOne_155 rfl rfl ?_
          refine T_iald dX7_seatOne_156 rfl (by first | decide | omega) (by first | omega | (simp [st2]; omega)) (by first | omega | (simp [st2]; omega)) ?_
          refine T_iconst dX7_seatOne_157 ?_
          refine T_isub dX7_seatOne_158 ?_
          refine T_iast dX7_seatOne_159 rfl (by first | decide | omega) (by first | omega | (simp [st2]; omega)) (by first | omega | (simp [st2]; omega)) ?_
          refine T_aload_n dX7_seatOne_160 rfl ?_
          refine T_getR dX7_seatOne_161 flX7_53 rfl rfl ?_
          refine T_iload dX7_seatOne_164 rfl ?_
          refine T_iald dX7_seatOne_166 rfl (by first | decide | omega) (by first | omega | (simp [st2]; omega)) (by first | omega | (simp [st2]; omega)) ?_
          rw [st2_row ne1, st2_row ne1, e72]
          refine T_istore dX7_seatOne_167 (by decide) ?_
          refine T_goto (tgt := 103) dX7_seatOne_169 (by decide) ?_
          rw [ixc, ixa]
          refine ih (ρ a) (by omega) a _ rfl s1 (fun r e => by rw [st2_row e, st2_row e]; exact r1 r e) ?_
          have k1' := up2_stR (H := (D 57 1).toNat) (C := (D 57 5).toNat) (D1 := D2) (g := m) (b := c) (v := xR D2 m c + 1) (by omega) hc
          refine WkI.congX s1 (fun h' hh' c' hc' => ?_) w4
          have k2 := up2_stR (H := (D 57 1).toNat) (C := (D 57 5).toNat) (D1 := st2 D2 70 (5 * m + c) (xR D2 m c + 1)) (g := m) (b := a) (v := xR (st2 D2 70 (5 * m + c) (xR D2 m c + 1)) m a - 1) (by omega) s1 h' hh' c' hc'
          rw [k1' m w3 a s1]
          refine Eq.trans ?_ k2
          by_cases z : h' = m ∧ c' = a
          · rw [z.1, z.2, up2_at, up2_at]
          · rw [up2_ne z, up2_ne z]; exact k1' h' hh' c' hc'
    have pick : ∀ (q c : Nat) (r : Int) (m4 : Option Value), q + c = (D 57 5).toNat → ArgM c (okS D D1) (D1 71) r → T g mX7_seatOne (rmd (d + 2) 0 0) 0 0 (Qm g (rmd (d + 2) 0 0) P) 10 [some (.ref 57), some (iI h), some (iI r), some (iI c), m4] [] SH D1 := by
      intro q
      induction q with
      | zero =>
        intro c r m4 hq hAr
        have z2 : D1 57 5 = D 57 5 := by rw [z57]
        obtain rfl : c = (D 57 5).toNat := by omega
        rcases hAr with ⟨rfl, a2⟩ | ⟨i, rfl, a2, a3, a4⟩
        · skip
          refine T_iload_n dX7_seatOne_10 rfl ?_
          refine T_aload_n dX7_seatOne_11 rfl ?_
          refine T_getI dX7_seatOne_12 flX7_115 rfl rfl ?_
          refine T_icmp_ge 86 dX7_seatOne_15 (by decide) (by first | (unfold InR; omega) | (simp [st2, InR]; omega)) (by first | (unfold InR; omega) | (simp [st2, InR]; omega)) (fun hc15 => ?_) (fun hc15 => (by exfalso; omega))
          refine T_iload_n dX7_seatOne_86 rfl ?_
          refine T_if_ge 93 dX7_seatOne_87 (by decide) (by first | (unfold InR; omega) | (simp [st2, InR]; omega)) (fun hc87 => (by exfalso; omega)) (fun hc87 => ?_)
          refine T_ldc (n := 100000000) dX7_seatOne_90 tk_995 ?_
          refine T_iret dX7_seatOne_92 rfl ?_
          refine kF D1 (fun r e0 e1 e2 e3 => fr r e1 e2 e3) (no_sending (B := 100000000) (d := D1 71) (hd := D 60) hF hh (fun g' hg' => ?_) ?_ (fun a ha b hb' g' hg' hd' hx' hal' => ?_) (fun b hb' hal' => ?_) (fun c hc hd' hlt => a2 c hc ⟨hd', hlt⟩))
          · have := hK.2.2.2.1 g'
            unfold supR
            split
            · omega
            · split
              · next e0 => subst e0; omega
              · omega
          · unfold supR; rw [if_neg (by omega), if_pos rfl]; omega
          · obtain ⟨x1, x2⟩ := hE.2 a ha b hb' g' hg' hx' hal'
            have y1 := hA a ha b hb' x1 hd'
            have y2 := hB.2.2.2.2 a ha hd'
            have y3 := hK.2.2.1 g' b hg' hb'
            have y4 := hK.2.2.1 g' a hg' ha
            have y5 := (hI g' a hg' ha).2.2 hx'
            simp only [alR] at hal' y5
            omega
          · have y1 := hB.1 b hb' _ ⟨hal', rfl⟩
            simp only [alR] at hal'
            omega
        · have ei : (i : Int).toNat = i := Int.toNat_natCast i
          have e71 : D1 71 (i : Int).toNat = D1 71 i := by rw [ei]
          have hp0 : p i = 0 := hC.2.1 i a2 a3.2
          refine T_iload_n dX7_seatOne_10 rfl ?_
          refine T_aload_n dX7_seatOne_11 rfl ?_
          refine T_getI dX7_seatOne_12 flX7_115 rfl rfl ?_
          refine T_icmp_ge 86 dX7_seatOne_15 (by decide) (by first | (unfold InR; omega) | (simp [st2, InR]; omega)) (by first | (unfold InR; omega) | (simp [st2, InR]; omega)) (fun hc15 => ?_) (fun hc15 => (by exfalso; omega))
          refine T_iload_n dX7_seatOne_86 rfl ?_
          refine T_if_ge 93 dX7_seatOne_87 (by decide) (by first | (unfold InR; omega) | (simp [st2, InR]; omega)) (fun hc87 => ?_) (fun hc87 => (by exfalso; omega))
          refine T_aload_n dX7_seatOne_93 rfl ?_
          refine T_getR dX7_seatOne_94 flX7_50 rfl rfl ?_
          refine T_iload_n dX7_seatOne_97 rfl ?_
          refine T_iald dX7_seatOne_98 rfl (by first | decide | omega) (by first | omega | (simp [st2]; omega)) (by first | omega | (simp [st2]; omega)) ?_
          refine T_istore_n dX7_seatOne_99 (by decide) ?_
          refine T_iload_n dX7_seatOne_100 rfl ?_
          refine T_istore dX7_seatOne_101 (by decide) ?_
          rw [e71]
          exact walk i a2 a3 (fun c hc hk => by have := a4 c hc hk; omega) (ρ i) i D1 rfl a2 (fun r _ => rfl) (by rw [hx1]; exact WkI.start (fun g' hg' b hb' => (hF.1 g' hg' b hb').1) a3.1 (by omega) rfl)
      | succ q ih =>
        intro c r m4 hq hAr
        have z2 : D1 57 5 = D 57 5 := by rw [z57]
        have ec : (c : Int).toNat = c := Int.toNat_natCast c
        have e71 : D1 71 (c : Int).toNat = D1 71 c := by rw [ec]
        have e68 : D1 68 (c : Int).toNat = D 68 c := by rw [ec, z68]
        have rr : r = -9 ∨ (0 ≤ r ∧ r < c) := hAr.rng.imp id (fun z => ⟨z.1, z.2.1⟩)
        have b68 := hK.2.2.2.2 c (by omega)
        have bsm : 0 ≤ sm (D 57 1).toNat (fun h => xR D h c) ∧ sm (D 57 1).toNat (fun h => xR D h c) ≤ 51 := ⟨sm_nn (fun j hj => (hF.1 j hj c (by omega)).1), by have := hF.2.2 c (by omega); omega⟩
        have dc := dr c (by omega)
        have esm : sm (D1 57 1).toNat (fun h => xR D1 h c) = sm (D 57 1).toNat (fun h => xR D h c) := by rw [z57, hx1]
        have skip : (100000000 ≤ D1 71 c ∨ D 68 c ≤ sm (D 57 1).toNat (fun h => xR D h c)) → ArgM (c + 1) (okS D D1) (D1 71) r := fun z => hAr.skip (fun y => by have := y.1; have := y.2; omega)
        have keep : 0 ≤ r → D1 71 r.toNat ≤ D1 71 c → ArgM (c + 1) (okS D D1) (D1 71) r := fun y z => hAr.skip (fun _ => ⟨r.toNat, by omega, z⟩)
        have take : D1 71 c < 100000000 → sm (D 57 1).toNat (fun h => xR D h c) < D 68 c → (r < 0 ∨ D1 71 c < D1 71 r.toNat) → ArgM (c + 1) (okS D D1) (D1 71) (c : Int) := fun y1 y2 z => hAr.take ⟨y1, y2⟩ (fun i hi e => by
          subst e
          rw [Int.toNat_natCast] at z
          omega)
        have drr : 0 ≤ r → -7207200 ≤ D1 71 r.toNat ∧ D1 71 r.toNat ≤ 500000000 := fun y => dr r.toNat (by omega)
        generalize sm (D 57 1).toNat (fun h => xR D h c) = S1 at *
        clear hP k1 kF walk hI hA hB hW hT hE hF hC hPW
        refine T_iload_n dX7_seatOne_10 rfl ?_
        refine T_aload_n dX7_seatOne_11 rfl ?_
        refine T_getI dX7_seatOne_12 flX7_115 rfl rfl ?_
        refine T_icmp_ge 86 dX7_seatOne_15 (by decide) (by first | (unfold InR; omega) | (simp [st2, InR]; omega)) (by first | (unfold InR; omega) | (simp [st2, InR]; omega)) (fun hc15 => (by exfalso; omega)) (fun hc15 => ?_)
        refine T_aload_n dX7_seatOne_18 rfl ?_
        refine T_getR dX7_seatOne_19 flX7_50 rfl rfl ?_
        refine T_iload_n dX7_seatOne_22 rfl ?_
        refine T_iald dX7_seatOne_23 rfl (by first | decide | omega) (by first | omega | (simp [st2]; omega)) (by first | omega | (simp [st2]; omega)) ?_
        refine T_ldc (n := 100000000) dX7_seatOne_24 tk_995 ?_
        refine T_icmp_ge 47 dX7_seatOne_26 (by decide) (by rw [e71]; unfold InR; omega) (by first | (unfold InR; omega) | (simp [st2, InR]; omega)) (fun hc26 => ?_) (fun hc26 => ?_)
        · rw [e71] at hc26
          refine T_iconst dX7_seatOne_47 ?_
          refine T_istore dX7_seatOne_48 (by decide) ?_
          refine T_iload dX7_seatOne_50 rfl ?_
          refine T_if_eq 78 dX7_seatOne_52 (by decide) (by unfold InR; decide) (fun _ => ?_) (fun h => absurd (by decide) h)
          refine T_iload_n dX7_seatOne_78 rfl ?_
          refine T_istore_n dX7_seatOne_79 (by decide) ?_
          refine T_iinc dX7_seatOne_80 rfl (by decide) ?_
          refine T_goto (tgt := 10) dX7_seatOne_83 (by decide) ?_
          first
          | (exfalso; omega)
          | exact ih (c + 1) r _ (by omega) (skip (by omega))
          | exact ih (c + 1) r _ (by omega) (keep (by omega) (by omega))
          | exact ih (c + 1) c _ (by omega) (take (by omega) (by omega) (by omega))
        · rw [e71] at hc26
          refine T_aload_n dX7_seatOne_29 rfl ?_
          refine T_iload_n dX7_seatOne_30 rfl ?_
          refine T_cV_1 dX7_seatOne_31 lkX7_193 rfl (Nat.le_of_ble_eq_true rfl) (RO_r (by decide)) (Nat.le_of_ble_eq_true rfl) ?_
          refine r_takenIn (by rw [z57]; exact hN) (by omega) ?_
          rw [esm]
          refine T_aload_n dX7_seatOne_34 rfl ?_
          refine T_getR dX7_seatOne_35 flX7_41 rfl rfl ?_
          refine T_iload_n dX7_seatOne_38 rfl ?_
          refine T_iald dX7_seatOne_39 rfl (by first | decide | omega) (by first | omega | (simp [st2]; omega)) (by first | omega | (simp [st2]; omega)) ?_
          refine T_icmp_ge 47 dX7_seatOne_40 (by decide) (by unfold InR; omega) (by rw [e68]; unfold InR; omega) (fun hc40 => ?_) (fun hc40 => ?_)
          · rw [e68] at hc40
            refine T_iconst dX7_seatOne_47 ?_
            refine T_istore dX7_seatOne_48 (by decide) ?_
            refine T_iload dX7_seatOne_50 rfl ?_
            refine T_if_eq 78 dX7_seatOne_52 (by decide) (by unfold InR; decide) (fun _ => ?_) (fun h => absurd (by decide) h)
            refine T_iload_n dX7_seatOne_78 rfl ?_
            refine T_istore_n dX7_seatOne_79 (by decide) ?_
            refine T_iinc dX7_seatOne_80 rfl (by decide) ?_
            refine T_goto (tgt := 10) dX7_seatOne_83 (by decide) ?_
            first
            | (exfalso; omega)
            | exact ih (c + 1) r _ (by omega) (skip (by omega))
            | exact ih (c + 1) r _ (by omega) (keep (by omega) (by omega))
            | exact ih (c + 1) c _ (by omega) (take (by omega) (by omega) (by omega))
          · rw [e68] at hc40
            refine T_iconst dX7_seatOne_43 ?_
            refine T_goto (tgt := 48) dX7_seatOne_44 (by decide) ?_
            refine T_istore dX7_seatOne_48 (by decide) ?_
            refine T_iload dX7_seatOne_50 rfl ?_
            refine T_if_eq 78 dX7_seatOne_52 (by decide) (by unfold InR; decide) (fun h => absurd h (by decide)) (fun _ => ?_)
            refine T_iload_n dX7_seatOne_55 rfl ?_
            refine T_if_lt 74 dX7_seatOne_56 (by decide) (by unfold InR; omega) (fun hc56 => ?_) (fun hc56 => ?_)
            · refine T_iload_n dX7_seatOne_74 rfl ?_
              refine T_goto (tgt := 79) dX7_seatOne_75 (by decide) ?_
              refine T_istore_n dX7_seatOne_79 (by decide) ?_
              refine T_iinc dX7_seatOne_80 rfl (by decide) ?_
              refine T_goto (tgt := 10) dX7_seatOne_83 (by decide) ?_
              first
              | (exfalso; omega)
              | exact ih (c + 1) r _ (by omega) (skip (by omega))
              | exact ih (c + 1) r _ (by omega) (keep (by omega) (by omega))
              | exact ih (c + 1) c _ (by omega) (take (by omega) (by omega) (by omega))
            · refine T_aload_n dX7_seatOne_59 rfl ?_
              refine T_getR dX7_seatOne_60 flX7_50 rfl rfl ?_
              refine T_iload_n dX7_seatOne_63 rfl ?_
              refine T_iald dX7_seatOne_64 rfl (by first | decide | omega) (by first | omega | (simp [st2]; omega)) (by first | omega | (simp [st2]; omega)) ?_
              refine T_aload_n dX7_seatOne_65 rfl ?_
              refine T_getR dX7_seatOne_66 flX7_50 rfl rfl ?_
              refine T_iload_n dX7_seatOne_69 rfl ?_
              refine T_iald dX7_seatOne_70 rfl (by first | decide | omega) (by first | omega | (simp [st2]; omega)) (by first | omega | (simp [st2]; omega)) ?_
              refine T_icmp_ge 78 dX7_seatOne_71 (by decide) (by rw [e71]; unfold InR; omega) (by have := drr (by omega); unfold InR; omega) (fun hc71 => ?_) (fun hc71 => ?_)
              · rw [e71] at hc71
                refine T_iload_n dX7_seatOne_78 rfl ?_
                refine T_istore_n dX7_seatOne_79 (by decide) ?_
                refine T_iinc dX7_seatOne_80 rfl (by decide) ?_
                refine T_goto (tgt := 10) dX7_seatOne_83 (by decide) ?_
                first
                | (exfalso; omega)
                | exact ih (c + 1) r _ (by omega) (skip (by omega))
                | exact ih (c + 1) r _ (by omega) (keep (by omega) (by omega))
                | exact ih (c + 1) c _ (by omega) (take (by omega) (by omega) (by omega))
              · rw [e71] at hc71
                refine T_iload_n dX7_seatOne_74 rfl ?_
                refine T_goto (tgt := 79) dX7_seatOne_75 (by decide) ?_
                refine T_istore_n dX7_seatOne_79 (by decide) ?_
                refine T_iinc dX7_seatOne_80 rfl (by decide) ?_
                refine T_goto (tgt := 10) dX7_seatOne_83 (by decide) ?_
                first
                | (exfalso; omega)
                | exact ih (c + 1) r _ (by omega) (skip (by omega))
                | exact ih (c + 1) r _ (by omega) (keep (by omega) (by omega))
                | exact ih (c + 1) c _ (by omega) (take (by omega) (by omega) (by omega))
    refine T_bipush dX7_seatOne_5 (by decide) ?_
    refine T_istore_n dX7_seatOne_7 (by decide) ?_
    refine T_iconst dX7_seatOne_8 ?_
    refine T_istore_n dX7_seatOne_9 (by decide) ?_
    exact pick (D 57 5).toNat 0 (-9) _ (by omega) ArgM.zero
  refine T_aload_n dX7_seatOne_0 rfl ?_
  refine T_iload_n dX7_seatOne_1 rfl ?_
  refine T_cV_1 dX7_seatOne_2 lkX7_189 rfl (Nat.le_of_ble_eq_true rfl) (RO_r (by decide)) (Nat.le_of_ble_eq_true rfl) ?_
  refine r_layDear hK hI hh hPW (fun D1 t τ ht fr hB hA hW => ?_)
  exact main D1 t τ none none ht fr hB hA hW
end

