theorem ArgM.ex (n : Nat) (ok : Nat → Prop) (f : Nat → Int) : ∃ r, ArgM n ok f r := by
  induction n with
  | zero => exact ⟨-9, ArgM.zero⟩
  | succ n ih =>
    obtain ⟨r, h⟩ := ih
    by_cases k : ok n
    · rcases id h with ⟨a1, a2⟩ | ⟨i, a1, a2, a3, a4⟩
      · exact ⟨n, h.take k (fun i _ e => by omega)⟩
      · by_cases z : f n < f i
        · exact ⟨n, h.take k (fun j _ e => by obtain rfl : j = i := by omega
                                              exact z)⟩
        · exact ⟨r, h.skip (fun _ => ⟨i, a1, by omega⟩)⟩
    · exact ⟨r, h.skip (fun q => absurd q k)⟩
theorem Rnd.all {C : Nat} {ex : Nat → Nat → Prop} {w : Nat → Nat → Int} {p : Nat → Int} {B : Int} {d : Nat → Int} {a : Nat} (h : Rnd C ex w p B d C a) : AllR C ex w B d := by
  rcases h with h | ⟨F, s, h1, -, h3, h4, -, -⟩
  · exact h
  · have := sm_lt (f := fun c => cif (F c) 1 0) (f' := fun _ => 1) (k := s) C (fun j _ => by
      by_cases h : F j
      · rw [cif_pos h]; decide
      · rw [cif_neg h]; decide) h3 (by rw [cif_neg h4]; decide)
    rw [sm_one] at this
    unfold cntF at h1
    omega
def exR (D : DD) (a b : Nat) : Prop := ∃ g, g < (D 57 1).toNat ∧ okV D a b g
noncomputable def wR (D : DD) (a b : Nat) : Int := byV D a b (mvV D a b)
theorem edgeR {D : DD} : EdgeOK (D 57 1).toNat (D 57 5).toNat (alR D) (fR D) (xR D) (exR D) (wR D) (mvV D) := by
  refine ⟨fun a ha b hb he => ?_, fun a ha b hb g hg hx hal => ?_⟩
  · obtain ⟨g, hg, hok⟩ := he
    obtain ⟨r, hr⟩ := ArgM.ex (D 57 1).toNat (okV D a b) (byV D a b)
    have em := mvV_eq hr
    rcases hr with ⟨a1, a2⟩ | ⟨i, a1, a2, a3, a4⟩
    · exact absurd hok (a2 g hg)
    · have ei : mvV D a b = i := by rw [em, a1, Int.toNat_natCast]
      unfold wR
      rw [ei]
      exact ⟨a2, a3.1, a3.2, rfl⟩
  · obtain ⟨r, hr⟩ := ArgM.ex (D 57 1).toNat (okV D a b) (byV D a b)
    have em := mvV_eq hr
    refine ⟨⟨g, hg, hx, hal⟩, ?_⟩
    rcases hr with ⟨a1, a2⟩ | ⟨i, a1, a2, a3, a4⟩
    · exact absurd ⟨hx, hal⟩ (a2 g hg)
    · have ei : mvV D a b = i := by rw [em, a1, Int.toNat_natCast]
      unfold wR
      rw [ei]
      have := a4 g hg ⟨hx, hal⟩
      show byV D a b i ≤ byV D a b g
      omega
theorem pwR {D : DD} {rm p : Nat → Int} (hK : RnK D) (hI : SitR D) (hC : Cert (D 57 1).toNat (D 57 5).toNat rm (alR D) (fR D) (xR D) p) : PW (D 57 5).toNat (exR D) (wR D) p := by
  intro a ha b hb he
  obtain ⟨e1, e2, e3, e4⟩ := (edgeR (D := D)).1 a ha b hb he
  have h1 := hC.2.2 _ e1 a ha b hb e2 e3
  have h2 := hK.2.2.1 _ b e1 hb
  have h3 := hK.2.2.1 _ a e1 ha
  have h4 := (hI _ a e1 ha).2.2 e2
  simp only [alR] at e3 h4
  omega
/-- who moved is kept beside the church it came from -/
def WmI (D D1 : DD) : Prop := ∀ c, c < (D 57 5).toNat → 0 ≤ D1 72 c → D1 73 c = (mvV D (D1 72 c).toNat c : Nat)
def FrD (D D1 : DD) : Prop := ∀ r, r ≠ 71 → r ≠ 72 → r ≠ 73 → D1 r = D r
theorem lift_t {C : Nat} {ex : Nat → Nat → Prop} {w : Nat → Nat → Int} {p : Nat → Int} {Sr : Nat → Int → Prop} {B : Int} {τ : Nat → Nat} {d pr : Nat → Int} : ∀ (j : Nat) {t : Nat}, BfI C ex w p Sr B t τ d pr → BfI C ex w p Sr B (t + j) τ d pr
  | 0, _, h => h
  | j + 1, _, h => (lift_t j h).later
section
variable {g : G0} {d : Nat} {P : Option Value → List SC → DD → Prop} {D : DD}
theorem r_layDear {h : Nat} {p : Nat → Int} (hK : RnK D) (hI : SitR D) (hh : h < (D 57 1).toNat) (hP : PW (D 57 5).toNat (exR D) (wR D) p) (hk : ∀ (D' : DD) (t : Nat) (τ : Nat → Nat), t ≤ 200 → FrD D D' → BfI (D 57 5).toNat (exR D) (wR D) p (fun c v => alR D h c ∧ v = fR D h c) 100000000 t τ (D' 71) (D' 72) → AllR (D 57 5).toNat (exR D) (wR D) 100000000 (D' 71) → WmI D D' → P none SH D') : TM g mX7_layDear (d + 1) P [.ref 57, iI h] D := by
  have hN := hK.1
  have hM := hK.2.1
  have inner : ∀ (r a : Nat), r ≤ (D 57 5).toNat → a < (D 57 5).toNat → (∀ (D1 : DD) (v : Int) (τ1 : Nat → Nat) (m4 m5 m6 : Option Value), (v = 0 ∨ v = 1) → (v = 1 → r < (D 57 5).toNat) → FrD D D1 → BfI (D 57 5).toNat (exR D) (wR D) p (fun c v => alR D h c ∧ v = fR D h c) 100000000 (25 * r + 5 * (a + 1)) τ1 (D1 71) (D1 72) → WmI D D1 → Rnd (D 57 5).toNat (exR D) (wR D) p 100000000 (D1 71) r (a + 1) → (v = 0 → ∀ a', a' < a + 1 → Rlx (D 57 5).toNat (exR D) (wR D) 100000000 (D1 71) a') → T g mX7_layDear (rmd (d + 1) 0 0) 0 0 (Qm g (rmd (d + 1) 0 0) P) 50 [some (.ref 57), some (iI h), some (iI v), some (iI ((a + 1 : Nat) : Int)), m4, m5, m6] [] SH D1) → ∀ (q b : Nat) (D1 : DD) (v : Int) (τ1 : Nat → Nat) (m5 m6 : Option Value), q + b = (D 57 5).toNat → (v = 0 ∨ v = 1) → (v = 1 → r < (D 57 5).toNat) → FrD D D1 → BfI (D 57 5).toNat (exR D) (wR D) p (fun c v => alR D h c ∧ v = fR D h c) 100000000 (25 * r + 5 * a + b) τ1 (D1 71) (D1 72) → WmI D D1 → Rnd (D 57 5).toNat (exR D) (wR D) p 100000000 (D1 71) r a → (v = 0 → ∀ a', a' < a → Rlx (D 57 5).toNat (exR D) (wR D) 100000000 (D1 71) a') → (∀ b', b' < b → exR D a b' → D1 71 a < 100000000 → D1 71 b' ≤ D1 71 a + wR D a b') → T g mX7_layDear (rmd (d + 1) 0 0) 0 0 (Qm g (rmd (d + 1) 0 0) P) 61 [some (.ref 57), some (iI h), some (iI v), some (iI a), some (iI b), m5, m6] [] SH D1 := by
    intro r a hr ha K q
    have done : ∀ (D1 : DD) (v : Int) (τ1 : Nat → Nat) (b : Nat) (m4 m5 m6 : Option Value), b ≤ 5 → (v = 0 ∨ v = 1) → (v = 1 → r < (D 57 5).toNat) → FrD D D1 → BfI (D 57 5).toNat (exR D) (wR D) p (fun c v => alR D h c ∧ v = fR D h c) 100000000 (25 * r + 5 * a + b) τ1 (D1 71) (D1 72) → WmI D D1 → Rnd (D 57 5).toNat (exR D) (wR D) p 100000000 (D1 71) r a → (v = 0 → ∀ a', a' < a → Rlx (D 57 5).toNat (exR D) (wR D) 100000000 (D1 71) a') → Rlx (D 57 5).toNat (exR D) (wR D) 100000000 (D1 71) a → T g mX7_layDear (rmd (d + 1) 0 0) 0 0 (Qm g (rmd (d + 1) 0 0) P) 50 [some (.ref 57), some (iI h), some (iI v), some (iI ((a + 1 : Nat) : Int)), m4, m5, m6] [] SH D1 := by
      intro D1 v τ1 b m4 m5 m6 hb hv hv2 fr hB hW hR r4 rl
      have hB' := lift_t (5 - b) hB
      rw [show 25 * r + 5 * a + b + (5 - b) = 25 * r + 5 * (a + 1) by omega] at hB'
      exact K D1 v τ1 m4 m5 m6 hv hv2 fr hB' hW (hR.next rl) (fun z a' ha' => by
        by_cases e : a' = a
        · subst e; exact rl
        · exact r4 z a' (by omega))
    induction q with
    | zero =>
      intro b D1 v τ1 m5 m6 hq hv hv2 fr hB hW hR r4 r5
      have z2 : D1 57 5 = D 57 5 := by rw [fr 57 (by decide) (by decide) (by decide)]
      refine T_iload dX7_layDear_61 rfl ?_
      refine T_aload_n dX7_layDear_63 rfl ?_
      refine T_getI dX7_layDear_64 flX7_115 rfl rfl ?_
      refine T_icmp_ge 190 dX7_layDear_67 (by decide) (by first | (unfold InR; omega) | (simp [st2, InR]; omega)) (by first | (unfold InR; omega) | (simp [st2, InR]; omega)) (fun hc67 => ?_) (fun hc67 => (by exfalso; omega))
      refine T_iinc dX7_layDear_190 rfl (by decide) ?_
      refine T_goto (tgt := 50) dX7_layDear_193 (by decide) ?_
      exact done D1 v τ1 b _ _ _ (by omega) hv hv2 fr hB hW hR r4 (fun b' hb' he hd => r5 b' (by omega) he hd)
    | succ q ih =>
      intro b D1 v τ1 m5 m6 hq hv hv2 fr hB hW hR r4 r5
      have hb : b < (D 57 5).toNat := by omega
      have z57 : D1 57 = D 57 := fr 57 (by decide) (by decide) (by decide)
      have z60 : D1 60 = D 60 := fr 60 (by decide) (by decide) (by decide)
      have z68 : D1 68 = D 68 := fr 68 (by decide) (by decide) (by decide)
      have z69 : D1 69 = D 69 := fr 69 (by decide) (by decide) (by decide)
      have z70 : D1 70 = D 70 := fr 70 (by decide) (by decide) (by decide)
      have z2 : D1 57 5 = D 57 5 := by rw [z57]
      have hK1 : RnK D1 := hK.of z57 z60 z68 z69
      have hI1 : SitR D1 := by unfold SitR alR fR xR; rw [z57, z69, z70]; exact hI
      have ok1 : okV D1 a b = okV D a b := by unfold okV xR fR; rw [z69, z70]
      have by1 : byV D1 a b = byV D a b := by unfold byV fR; rw [z69]
      have ea : (a : Int).toNat = a := Int.toNat_natCast a
      have eb : (b : Int).toNat = b := Int.toNat_natCast b
      have e8a : D1 71 (a : Int).toNat = D1 71 a := by rw [ea]
      have e8b : D1 71 (b : Int).toNat = D1 71 b := by rw [eb]
      have ra := d_rng hB (by omega) (by omega) ha
      have rb := d_rng hB (by omega) (by omega) hb
      have rb2 : D1 71 b ≤ 100000000 := by
        by_cases z : D1 71 b < 100000000
        · omega
        · have := hB.2.2.1 b hb z; omega
      have noup : D1 71 a < 100000000 → ¬ (exR D a b ∧ D1 71 a + wR D a b < D1 71 b) → ∀ m5 m6, T g mX7_layDear (rmd (d + 1) 0 0) 0 0 (Qm g (rmd (d + 1) 0 0) P) 61 [some (.ref 57), some (iI h), some (iI v), some (iI a), some (iI ((b + 1 : Nat) : Int)), m5, m6] [] SH D1 := by
        intro hd z m5 m6
        refine ih (b + 1) D1 v τ1 m5 m6 (by omega) hv hv2 fr hB.later hW hR r4 (fun b' hb' he hd' => ?_)
        by_cases e : b' = b
        · subst e; exact Int.not_lt.mp (fun q => z ⟨he, q⟩)
        · exact r5 b' (by omega) he hd'
      have tail0 : D1 71 a < 100000000 → ¬ (exR D a b ∧ D1 71 a + wR D a b < D1 71 b) → ∀ m6, T g mX7_layDear (rmd (d + 1) 0 0) 0 0 (Qm g (rmd (d + 1) 0 0) P) 101 [some (.ref 57), some (iI h), some (iI v), some (iI a), some (iI b), some (iI (-9)), m6] [] SH D1 := by
        intro hd z m6
        refine T_iload dX7_layDear_101 rfl ?_
        refine T_if_ge 111 dX7_layDear_103 (by decide) (by first | (unfold InR; omega) | (simp [st2, InR]; omega)) (fun hc103 => (by exfalso; omega)) (fun hc103 => ?_)
        refine T_ldc (n := 100000000) dX7_layDear_106 tk_995 ?_
        refine T_goto (tgt := 142) dX7_layDear_108 (by decide) ?_
        refine T_istore dX7_layDear_142 (by decide) ?_
        refine T_iload dX7_layDear_144 rfl ?_
        refine T_aload_n dX7_layDear_146 rfl ?_
        refine T_getR dX7_layDear_147 flX7_50 rfl rfl ?_
        refine T_iload dX7_layDear_150 rfl ?_
        refine T_iald dX7_layDear_152 rfl (by first | decide | omega) (by first | omega | (simp [st2]; omega)) (by first | omega | (simp [st2]; omega)) ?_
        refine T_icmp_ge 184 dX7_layDear_153 (by decide) (by first | (unfold InR; omega) | (simp [st2, InR]; omega)) (by rw [e8b]; unfold InR; omega) (fun hc153 => ?_) (fun hc153 => (by exfalso; rw [e8b] at hc153; omega))
        refine T_iinc dX7_layDear_184 rfl (by decide) ?_
        refine T_goto (tgt := 61) dX7_layDear_187 (by decide) ?_
        exact noup hd z _ _
      have tail1 : ∀ k : Nat, k < (D 57 1).toNat → mvV D a b = k → exR D a b → D1 71 a < 100000000 → ∀ m6, T g mX7_layDear (rmd (d + 1) 0 0) 0 0 (Qm g (rmd (d + 1) 0 0) P) 101 [some (.ref 57), some (iI h), some (iI v), some (iI a), some (iI b), some (iI k), m6] [] SH D1 := by
        intro k hkk hmv he hd m6
        have ix1 : (5 * (k : Int) + b).toNat = 5 * k + b := by omega
        have ix2 : (5 * (k : Int) + a).toNat = 5 * k + a := by omega
        have ew : D1 71 (a : Int).toNat + D1 69 (5 * (k : Int) + b).toNat - D1 69 (5 * (k : Int) + a).toNat = D1 71 a + wR D a b := by
          rw [ea, ix1, ix2, z69]
          unfold wR
          rw [hmv]
          show D1 71 a + D 69 (5 * k + b) - D 69 (5 * k + a) = D1 71 a + (D 69 (5 * k + b) - D 69 (5 * k + a))
          omega
        have hpw := hP a ha b hb he
        have da := hB.2.2.2.2 a ha hd
        refine T_iload dX7_layDear_101 rfl ?_
        refine T_if_ge 111 dX7_layDear_103 (by decide) (by first | (unfold InR; omega) | (simp [st2, InR]; omega)) (fun hc103 => ?_) (fun hc103 => (by exfalso; omega))
        refine T_aload_n dX7_layDear_111 rfl ?_
        refine T_getR dX7_layDear_112 flX7_50 rfl rfl ?_
        refine T_iload_n dX7_layDear_115 rfl ?_
        refine T_iald dX7_layDear_116 rfl (by first | decide | omega) (by first | omega | (simp [st2]; omega)) (by first | omega | (simp [st2]; omega)) ?_
        refine T_aload_n dX7_layDear_117 rfl ?_
        refine T_getR dX7_layDear_118 flX7_44 rfl rfl ?_
        refine T_iconst dX7_layDear_121 ?_
        refine T_iload dX7_layDear_122 rfl ?_
        refine T_imul dX7_layDear_124 ?_
        refine T_iload dX7_layDear_125 rfl ?_
        refine T_iadd dX7_layDear_127 ?_
        refine T_iald dX7_layDear_128 rfl (by first | decide | omega) (by first | omega | (simp [st2]; omega)) (by first | omega | (simp [st2]; omega)) ?_
        refine T_iadd dX7_layDear_129 ?_
        refine T_aload_n dX7_layDear_130 rfl ?_
        refine T_getR dX7_layDear_131 flX7_44 rfl rfl ?_
        refine T_iconst dX7_layDear_134 ?_
        refine T_iload dX7_layDear_135 rfl ?_
        refine T_imul dX7_layDear_137 ?_
        refine T_iload_n dX7_layDear_138 rfl ?_
        refine T_iadd dX7_layDear_139 ?_
        refine T_iald dX7_layDear_140 rfl (by first | decide | omega) (by first | omega | (simp [st2]; omega)) (by first | omega | (simp [st2]; omega)) ?_
        refine T_isub dX7_layDear_141 ?_
        rw [ew]
        refine T_istore dX7_layDear_142 (by decide) ?_
        refine T_iload dX7_layDear_144 rfl ?_
        refine T_aload_n dX7_layDear_146 rfl ?_
        refine T_getR dX7_layDear_147 flX7_50 rfl rfl ?_
        refine T_iload dX7_layDear_150 rfl ?_
        refine T_iald dX7_layDear_152 rfl (by first | decide | omega) (by first | omega | (simp [st2]; omega)) (by first | omega | (simp [st2]; omega)) ?_
        refine T_icmp_ge 184 dX7_layDear_153 (by decide) (by unfold InR; omega) (by rw [e8b]; unfold InR; omega) (fun hc153 => ?_) (fun hc153 => ?_)
        · rw [e8b] at hc153
          refine T_iinc dX7_layDear_184 rfl (by decide) ?_
          refine T_goto (tgt := 61) dX7_layDear_187 (by decide) ?_
          first
          | exact noup hd (fun z => by omega) _ _
          | (rw [eb]
             refine ih (b + 1) _ 1 (upN τ1 b (25 * r + 5 * a + b + 1)) _ _ (by omega) (Or.inr rfl) (fun _ => hrC) (fun r' e1 e2 e3 => by rw [st2_row e3, st2_row e2, st2_row e1]; exact fr r' e1 e2 e3) ?_ (fun c hc hpos => ?_) ?_ (fun z => absurd z (by decide)) (fun b' hb' he' hd' => ?_)
             · rw [st2_row (show (71 : Nat) ≠ 73 by decide), st2_row (show (71 : Nat) ≠ 72 by decide), st2_row (show (72 : Nat) ≠ 73 by decide), st2_up, st2_up, st2_row (show (72 : Nat) ≠ 71 by decide)]
               exact hB.relax hP (by omega) ha hb he hd (by omega)
             · rw [st2_row (show (72 : Nat) ≠ 73 by decide)] at hpos ⊢
               by_cases e : c = b
               · subst e; rw [st2_at, st2_at, Int.toNat_natCast, hmv]
               · rw [st2_ne e, st2_row (show (72 : Nat) ≠ 71 by decide)] at hpos
                 rw [st2_ne e, st2_ne e, st2_row (show (72 : Nat) ≠ 71 by decide), st2_row (show (73 : Nat) ≠ 72 by decide), st2_row (show (73 : Nat) ≠ 71 by decide)]
                 exact hW c hc hpos
             · rw [st2_row (show (71 : Nat) ≠ 73 by decide), st2_row (show (71 : Nat) ≠ 72 by decide), st2_up]
               exact hR.relax hP ha hb he hd (by omega)
             · rw [st2_row (show (71 : Nat) ≠ 73 by decide), st2_row (show (71 : Nat) ≠ 72 by decide), st2_up, up1_ne hab] at hd' ⊢
               by_cases e : b' = b
               · subst e; rw [up1_at]; exact Int.le_refl _
               · rw [up1_ne e]; exact r5 b' (by omega) he' hd')
        · rw [e8b] at hc153
          have hab : a ≠ b := fun e => by
            subst e
            omega
          have hrC : r < (D 57 5).toNat := by
            refine Classical.byContradiction fun z => ?_
            obtain rfl : r = (D 57 5).toNat := by omega
            have := hR.all a ha b hb he hd
            omega
          refine T_aload_n dX7_layDear_156 rfl ?_
          refine T_getR dX7_layDear_157 flX7_50 rfl rfl ?_
          refine T_iload dX7_layDear_160 rfl ?_
          refine T_iload dX7_layDear_162 rfl ?_
          refine T_iast dX7_layDear_164 rfl (by first | decide | omega) (by first | omega | (simp [st2]; omega)) (by first | omega | (simp [st2]; omega)) ?_
          refine T_aload_n dX7_layDear_165 rfl ?_
          refine T_getR dX7_layDear_166 flX7_53 rfl rfl ?_
          refine T_iload dX7_layDear_169 rfl ?_
          refine T_iload_n dX7_layDear_171 rfl ?_
          refine T_iast dX7_layDear_172 rfl (by first | decide | omega) (by first | omega | (simp [st2]; omega)) (by first | omega | (simp [st2]; omega)) ?_
          refine T_aload_n dX7_layDear_173 rfl ?_
          refine T_getR dX7_layDear_174 flX7_56 rfl rfl ?_
          refine T_iload dX7_layDear_177 rfl ?_
          refine T_iload dX7_layDear_179 rfl ?_
          refine T_iast dX7_layDear_181 rfl (by first | decide | omega) (by first | omega | (simp [st2]; omega)) (by first | omega | (simp [st2]; omega)) ?_
          refine T_iconst dX7_layDear_182 ?_
          refine T_istore_n dX7_layDear_183 (by decide) ?_
          refine T_iinc dX7_layDear_184 rfl (by decide) ?_
          refine T_goto (tgt := 61) dX7_layDear_187 (by decide) ?_
          first
          | exact noup hd (fun z => by omega) _ _
          | (rw [eb]
             refine ih (b + 1) _ 1 (upN τ1 b (25 * r + 5 * a + b + 1)) _ _ (by omega) (Or.inr rfl) (fun _ => hrC) (fun r' e1 e2 e3 => by rw [st2_row e3, st2_row e2, st2_row e1]; exact fr r' e1 e2 e3) ?_ (fun c hc hpos => ?_) ?_ (fun z => absurd z (by decide)) (fun b' hb' he' hd' => ?_)
             · rw [st2_row (show (71 : Nat) ≠ 73 by decide), st2_row (show (71 : Nat) ≠ 72 by decide), st2_row (show (72 : Nat) ≠ 73 by decide), st2_up, st2_up, st2_row (show (72 : Nat) ≠ 71 by decide)]
               exact hB.relax hP (by omega) ha hb he hd (by omega)
             · rw [st2_row (show (72 : Nat) ≠ 73 by decide)] at hpos ⊢
               by_cases e : c = b
               · subst e; rw [st2_at, st2_at, Int.toNat_natCast, hmv]
               · rw [st2_ne e, st2_row (show (72 : Nat) ≠ 71 by decide)] at hpos
                 rw [st2_ne e, st2_ne e, st2_row (show (72 : Nat) ≠ 71 by decide), st2_row (show (73 : Nat) ≠ 72 by decide), st2_row (show (73 : Nat) ≠ 71 by decide)]
                 exact hW c hc hpos
             · rw [st2_row (show (71 : Nat) ≠ 73 by decide), st2_row (show (71 : Nat) ≠ 72 by decide), st2_up]
               exact hR.relax hP ha hb he hd (by omega)
             · rw [st2_row (show (71 : Nat) ≠ 73 by decide), st2_row (show (71 : Nat) ≠ 72 by decide), st2_up, up1_ne hab] at hd' ⊢
               by_cases e : b' = b
               · subst e; rw [up1_at]; exact Int.le_refl _
               · rw [up1_ne e]; exact r5 b' (by omega) he' hd')
      refine T_iload dX7_layDear_61 rfl ?_
      refine T_aload_n dX7_layDear_63 rfl ?_
      refine T_getI dX7_layDear_64 flX7_115 rfl rfl ?_
      refine T_icmp_ge 190 dX7_layDear_67 (by decide) (by first | (unfold InR; omega) | (simp [st2, InR]; omega)) (by first | (unfold InR; omega) | (simp [st2, InR]; omega)) (fun hc67 => (by exfalso; omega)) (fun hc67 => ?_)
      refine T_aload_n dX7_layDear_70 rfl ?_
      refine T_getR dX7_layDear_71 flX7_50 rfl rfl ?_
      refine T_iload_n dX7_layDear_74 rfl ?_
      refine T_iald dX7_layDear_75 rfl (by first | decide | omega) (by first | omega | (simp [st2]; omega)) (by first | omega | (simp [st2]; omega)) ?_
      refine T_ldc (n := 100000000) dX7_layDear_76 tk_995 ?_
      refine T_icmp_ge 190 dX7_layDear_78 (by decide) (by rw [e8a]; unfold InR; omega) (by first | (unfold InR; omega) | (simp [st2, InR]; omega)) (fun hc78 => ?_) (fun hc78 => ?_)
      · rw [e8a] at hc78
        refine T_iinc dX7_layDear_190 rfl (by decide) ?_
        refine T_goto (tgt := 50) dX7_layDear_193 (by decide) ?_
        exact done D1 v τ1 b _ _ _ (by omega) hv hv2 fr hB hW hR r4 (fun b' hb' he hd => by omega)
      · rw [e8a] at hc78
        refine T_iload dX7_layDear_81 rfl ?_
        refine T_iload_n dX7_layDear_83 rfl ?_
        refine T_icmp_ne 92 dX7_layDear_84 (by decide) (by first | (unfold InR; omega) | (simp [st2, InR]; omega)) (by first | (unfold InR; omega) | (simp [st2, InR]; omega)) (fun hc84 => ?_) (fun hc84 => ?_)
        · refine T_aload_n dX7_layDear_92 rfl ?_
          refine T_iload_n dX7_layDear_93 rfl ?_
          refine T_iload dX7_layDear_94 rfl ?_
          refine T_cV_2 dX7_layDear_96 lkX7_186 rfl (Nat.le_of_ble_eq_true rfl) (RO_r (by decide)) (Nat.le_of_ble_eq_true rfl) ?_
          refine r_moverOf hK1 hI1 (by rw [z57]; exact ha) (by rw [z57]; exact hb) (fun rr hA => ?_)
          rw [z57, ok1, by1] at hA
          refine T_istore dX7_layDear_99 (by decide) ?_
          first
          | (have em := mvV_eq hA
             rcases hA with ⟨a1, a2⟩ | ⟨i, a1, a2, a3, a4⟩
             · rw [a1]; exact tail0 (by omega) (fun z => by obtain ⟨⟨y1, y2, y3⟩, -⟩ := z; exact a2 y1 y2 y3) _
             · rw [a1]; exact tail1 i a2 (by rw [em, a1, Int.toNat_natCast]) ⟨i, a2, a3⟩ (by omega) _)
          | (obtain rfl : b = a := by omega
             exact tail0 (by omega) (fun z => by have := (hP b ha b ha z.1).1; omega) _)
        · refine T_bipush dX7_layDear_87 (by decide) ?_
          refine T_goto (tgt := 99) dX7_layDear_89 (by decide) ?_
          refine T_istore dX7_layDear_99 (by decide) ?_
          first
          | (have em := mvV_eq hA
             rcases hA with ⟨a1, a2⟩ | ⟨i, a1, a2, a3, a4⟩
             · rw [a1]; exact tail0 (by omega) (fun z => by obtain ⟨⟨y1, y2, y3⟩, -⟩ := z; exact a2 y1 y2 y3) _
             · rw [a1]; exact tail1 i a2 (by rw [em, a1, Int.toNat_natCast]) ⟨i, a2, a3⟩ (by omega) _)
          | (obtain rfl : b = a := by omega
             exact tail0 (by omega) (fun z => by have := (hP b ha b ha z.1).1; omega) _)
  have rounds : ∀ (q r : Nat) (D1 : DD) (v : Int) (τ1 : Nat → Nat) (m3 m4 m5 m6 : Option Value), q + r = (D 57 5).toNat + 1 → ((v = 0 ∧ AllR (D 57 5).toNat (exR D) (wR D) 100000000 (D1 71)) ∨ (v = 1 ∧ r ≤ (D 57 5).toNat)) → FrD D D1 → BfI (D 57 5).toNat (exR D) (wR D) p (fun c v => alR D h c ∧ v = fR D h c) 100000000 (25 * r) τ1 (D1 71) (D1 72) → WmI D D1 → Setl (D 57 5).toNat (exR D) (wR D) p 100000000 (D1 71) r → T g mX7_layDear (rmd (d + 1) 0 0) 0 0 (Qm g (rmd (d + 1) 0 0) P) 42 [some (.ref 57), some (iI h), some (iI v), m3, m4, m5, m6] [] SH D1 := by
    intro q
    induction q with
    | zero =>
      intro r D1 v τ1 m3 m4 m5 m6 hq hv fr hB hW hS
      rcases hv with ⟨rfl, hA⟩ | ⟨rfl, hr⟩
      · skip
        refine T_iload_n dX7_layDear_42 rfl ?_
        refine T_if_eq 199 dX7_layDear_43 (by decide) (by first | (unfold InR; omega) | (simp [st2, InR]; omega)) (fun hc43 => ?_) (fun hc43 => (by exfalso; omega))
        refine T_vret dX7_layDear_199 rfl ?_
        exact hk D1 _ τ1 (by omega) fr hB hA hW
      · omega
    | succ q ih =>
      intro r D1 v τ1 m3 m4 m5 m6 hq hv fr hB hW hS
      rcases hv with ⟨rfl, hA⟩ | ⟨rfl, hr⟩
      · skip
        refine T_iload_n dX7_layDear_42 rfl ?_
        refine T_if_eq 199 dX7_layDear_43 (by decide) (by first | (unfold InR; omega) | (simp [st2, InR]; omega)) (fun hc43 => ?_) (fun hc43 => (by exfalso; omega))
        refine T_vret dX7_layDear_199 rfl ?_
        exact hk D1 _ τ1 (by omega) fr hB hA hW
      · have churches : ∀ (q2 a : Nat) (D2 : DD) (v : Int) (τ2 : Nat → Nat) (m4 m5 m6 : Option Value), q2 + a = (D 57 5).toNat → (v = 0 ∨ v = 1) → (v = 1 → r < (D 57 5).toNat) → FrD D D2 → BfI (D 57 5).toNat (exR D) (wR D) p (fun c v => alR D h c ∧ v = fR D h c) 100000000 (25 * r + 5 * a) τ2 (D2 71) (D2 72) → WmI D D2 → Rnd (D 57 5).toNat (exR D) (wR D) p 100000000 (D2 71) r a → (v = 0 → ∀ a', a' < a → Rlx (D 57 5).toNat (exR D) (wR D) 100000000 (D2 71) a') → T g mX7_layDear (rmd (d + 1) 0 0) 0 0 (Qm g (rmd (d + 1) 0 0) P) 50 [some (.ref 57), some (iI h), some (iI v), some (iI a), m4, m5, m6] [] SH D2 := by
          intro q2
          induction q2 with
          | zero =>
            intro a D2 v τ2 m4 m5 m6 hq2 hv hv2 fr2 hB2 hW2 hR2 r4
            have z2 : D2 57 5 = D 57 5 := by rw [fr2 57 (by decide) (by decide) (by decide)]
            obtain rfl : a = (D 57 5).toNat := by omega
            have hB2' := lift_t (25 - 5 * (D 57 5).toNat) hB2
            rw [show 25 * r + 5 * (D 57 5).toNat + (25 - 5 * (D 57 5).toNat) = 25 * (r + 1) by omega] at hB2'
            refine T_iload_n dX7_layDear_50 rfl ?_
            refine T_aload_n dX7_layDear_51 rfl ?_
            refine T_getI dX7_layDear_52 flX7_115 rfl rfl ?_
            refine T_icmp_ge 196 dX7_layDear_55 (by decide) (by first | (unfold InR; omega) | (simp [st2, InR]; omega)) (by first | (unfold InR; omega) | (simp [st2, InR]; omega)) (fun hc55 => ?_) (fun hc55 => (by exfalso; omega))
            refine T_goto (tgt := 42) dX7_layDear_196 (by decide) ?_
            refine ih (r + 1) D2 v τ2 _ _ _ _ (by omega) ?_ fr2 hB2' hW2 hR2.stop
            rcases hv with hv | hv
            · exact Or.inl ⟨hv, r4 hv⟩
            · exact Or.inr ⟨hv, hv2 hv⟩
          | succ q2 ih2 =>
            intro a D2 v τ2 m4 m5 m6 hq2 hv hv2 fr2 hB2 hW2 hR2 r4
            have z2 : D2 57 5 = D 57 5 := by rw [fr2 57 (by decide) (by decide) (by decide)]
            refine T_iload_n dX7_layDear_50 rfl ?_
            refine T_aload_n dX7_layDear_51 rfl ?_
            refine T_getI dX7_layDear_52 flX7_115 rfl rfl ?_
            refine T_icmp_ge 196 dX7_layDear_55 (by decide) (by first | (unfold InR; omega) | (simp [st2, InR]; omega)) (by first | (unfold InR; omega) | (simp [st2, InR]; omega)) (fun hc55 => (by exfalso; omega)) (fun hc55 => ?_)
            refine T_iconst dX7_layDear_58 ?_
            refine T_istore dX7_layDear_59 (by decide) ?_
            exact inner r a hr (by omega) (fun D3 v3 τ3 m4 m5 m6 w1 w2 w3 w4 w5 w6 w7 => ih2 (a + 1) D3 v3 τ3 m4 m5 m6 (by omega) w1 w2 w3 w4 w5 w6 w7) (D 57 5).toNat 0 D2 v τ2 _ _ (by omega) hv hv2 fr2 hB2 hW2 hR2 r4 (fun b' hb' => by omega)
        refine T_iload_n dX7_layDear_42 rfl ?_
        refine T_if_eq 199 dX7_layDear_43 (by decide) (by first | (unfold InR; omega) | (simp [st2, InR]; omega)) (fun hc43 => (by exfalso; omega)) (fun hc43 => ?_)
        refine T_iconst dX7_layDear_46 ?_
        refine T_istore_n dX7_layDear_47 (by decide) ?_
        refine T_iconst dX7_layDear_48 ?_
        refine T_istore_n dX7_layDear_49 (by decide) ?_
        exact churches (D 57 5).toNat 0 D1 0 τ1 _ _ _ (by omega) (Or.inl rfl) (fun z => absurd z (by decide)) fr hB hW hS.start (fun _ a' ha' => by omega)
  have first : ∀ (q c : Nat) (D1 : DD), q + c = (D 57 5).toNat → FrD D D1 → (∀ c', c' < c → D1 71 c' = fR D h c' ∧ D1 72 c' = -9) → T g mX7_layDear (rmd (d + 1) 0 0) 0 0 (Qm g (rmd (d + 1) 0 0) P) 2 [some (.ref 57), some (iI h), some (iI c), none, none, none, none] [] SH D1 := by
    intro q
    induction q with
    | zero =>
      intro c D1 hq fr r1
      have z2 : D1 57 5 = D 57 5 := by rw [fr 57 (by decide) (by decide) (by decide)]
      refine T_iload_n dX7_layDear_2 rfl ?_
      refine T_aload_n dX7_layDear_3 rfl ?_
      refine T_getI dX7_layDear_4 flX7_115 rfl rfl ?_
      refine T_icmp_ge 40 dX7_layDear_7 (by decide) (by first | (unfold InR; omega) | (simp [st2, InR]; omega)) (by first | (unfold InR; omega) | (simp [st2, InR]; omega)) (fun hc7 => ?_) (fun hc7 => (by exfalso; omega))
      refine T_iconst dX7_layDear_40 ?_
      refine T_istore_n dX7_layDear_41 (by decide) ?_
      refine rounds _ 0 D1 1 (fun _ => 0) _ _ _ _ (Nat.add_zero _) (Or.inr ⟨rfl, by omega⟩) fr ⟨fun c' hc' v hv => ?_, fun c' hc' hB => Or.inl ?_, fun c' hc' hB => ?_, fun c' hc' => Nat.le_refl _, fun c' hc' hB => ?_⟩ (fun c' hc' hp => ?_) Setl.zero
      · rw [(r1 c' (by omega)).1, hv.2]; exact Int.le_refl _
      · have := r1 c' (by omega)
        rw [this.1] at hB
        rw [this.1, this.2]
        exact ⟨by decide, hB, rfl⟩
      · have := r1 c' (by omega)
        have := hK.2.2.1 h c' hh (by omega)
        omega
      · have := r1 c' (by omega)
        have := hK.2.2.1 h c' hh (by omega)
        omega
      · have := r1 c' (by omega)
        omega
    | succ q ih =>
      intro c D1 hq fr r1
      have z2 : D1 57 5 = D 57 5 := by rw [fr 57 (by decide) (by decide) (by decide)]
      have ec : (c : Int).toNat = c := Int.toNat_natCast c
      have ix : (5 * (h : Int) + c).toNat = 5 * h + c := by omega
      refine T_iload_n dX7_layDear_2 rfl ?_
      refine T_aload_n dX7_layDear_3 rfl ?_
      refine T_getI dX7_layDear_4 flX7_115 rfl rfl ?_
      refine T_icmp_ge 40 dX7_layDear_7 (by decide) (by first | (unfold InR; omega) | (simp [st2, InR]; omega)) (by first | (unfold InR; omega) | (simp [st2, InR]; omega)) (fun hc7 => (by exfalso; omega)) (fun hc7 => ?_)
      refine T_aload_n dX7_layDear_10 rfl ?_
      refine T_getR dX7_layDear_11 flX7_50 rfl rfl ?_
      refine T_iload_n dX7_layDear_14 rfl ?_
      refine T_aload_n dX7_layDear_15 rfl ?_
      refine T_getR dX7_layDear_16 flX7_44 rfl rfl ?_
      refine T_iconst dX7_layDear_19 ?_
      refine T_iload_n dX7_layDear_20 rfl ?_
      refine T_imul dX7_layDear_21 ?_
      refine T_iload_n dX7_layDear_22 rfl ?_
      refine T_iadd dX7_layDear_23 ?_
      refine T_iald dX7_layDear_24 rfl (by first | decide | omega) (by first | omega | (simp [st2]; omega)) (by first | omega | (simp [st2]; omega)) ?_
      refine T_iast dX7_layDear_25 rfl (by first | decide | omega) (by first | omega | (simp [st2]; omega)) (by first | omega | (simp [st2]; omega)) ?_
      refine T_aload_n dX7_layDear_26 rfl ?_
      refine T_getR dX7_layDear_27 flX7_53 rfl rfl ?_
      refine T_iload_n dX7_layDear_30 rfl ?_
      refine T_bipush dX7_layDear_31 (by decide) ?_
      refine T_iast dX7_layDear_33 rfl (by first | decide | omega) (by first | omega | (simp [st2]; omega)) (by first | omega | (simp [st2]; omega)) ?_
      refine T_iinc dX7_layDear_34 rfl (by decide) ?_
      refine T_goto (tgt := 2) dX7_layDear_37 (by decide) ?_
      rw [ec, ix]
      refine ih (c + 1) _ (by omega) (fun r e1 e2 e3 => by rw [st2_row e2, st2_row e1]; exact fr r e1 e2 e3) (fun c' hc' => ?_)
      by_cases e : c' = c
      · subst e; rw [st2_row (show (71 : Nat) ≠ 72 by decide), st2_at, st2_at, fr 69 (by decide) (by decide) (by decide)]; exact ⟨rfl, rfl⟩
      · rw [st2_row (show (71 : Nat) ≠ 72 by decide), st2_ne e, st2_ne e, st2_row (show (72 : Nat) ≠ 71 by decide)]; exact r1 c' (by omega)
  refine T_iconst dX7_layDear_0 ?_
  refine T_istore_n dX7_layDear_1 (by decide) ?_
  exact first (D 57 5).toNat 0 D (by omega) (fun r _ _ _ => rfl) (fun c' hc' => by omega)
end

