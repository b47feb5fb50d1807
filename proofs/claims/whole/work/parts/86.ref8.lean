/-! the longest way made shortest, by a land's numbers alone -/
theorem IsMiles.ex {H C : Nat} {sup rm : Nat → Int} {al : Nat → Nat → Prop} {ct : Nat → Nat → Int} (hct : ∀ h c, 0 ≤ ct h c) : ∃ r, IsMiles H C sup rm al ct r := by
  by_cases hf : ∃ x, Feas H C sup rm al x
  · obtain ⟨x, hx⟩ := hf
    have key : ∀ (n : Nat) (x : Nat → Nat → Int), Feas H C sup rm al x → (costX H C ct x).toNat = n → ∃ r, IsMiles H C sup rm al ct r := by
      intro n
      induction n using Nat.strongRecOn with
      | ind n ih =>
        intro x hx hn
        by_cases q : ∀ y, Feas H C sup rm al y → costX H C ct x ≤ costX H C ct y
        · exact ⟨_, Or.inl ⟨x, hx, rfl, q⟩⟩
        · have ⟨y, hq⟩ := Classical.not_forall.mp q
          have ⟨hy, hlt⟩ := Classical.not_imp.mp hq
          have a := costX_nn hx hct
          have b := costX_nn hy hct
          exact ih (costX H C ct y).toNat (by omega) y hy rfl
    exact key _ x hx rfl
  · exact ⟨-9, Or.inr ⟨rfl, hf⟩⟩
theorem milesF_spec {H C : Nat} {sup rm : Nat → Int} {al : Nat → Nat → Prop} {ct : Nat → Nat → Int} (hct : ∀ h c, 0 ≤ ct h c) : IsMiles H C sup rm al ct (milesF H C sup rm al ct) := Classical.epsilon_spec (p := IsMiles H C sup rm al ct) (IsMiles.ex hct)
theorem milesF_none {H C : Nat} {sup rm : Nat → Int} {al : Nat → Nat → Prop} {ct : Nat → Nat → Int} (hct : ∀ h c, 0 ≤ ct h c) : milesF H C sup rm al ct = -9 ↔ ¬ ∃ x, Feas H C sup rm al x := by
  have h := milesF_spec (H := H) (C := C) (sup := sup) (rm := rm) (al := al) hct
  constructor
  · intro e; rw [e] at h; exact h.none hct
  · intro e
    rcases h with ⟨x, hx, -⟩ | ⟨h, -⟩
    · exact absurd ⟨x, hx⟩ e
    · exact h
abbrev lim (al : Nat → Nat → Prop) (ct : Nat → Nat → Int) (L : Int) (h c : Nat) : Prop := al h c ∧ ct h c ≤ L
def FsG (H C : Nat) (sup rm : Nat → Int) (al : Nat → Nat → Prop) (ct : Nat → Nat → Int) (L : Int) : Prop := ∃ x, Feas H C sup rm (lim al ct L) x
def EvenG (H C : Nat) (sup rm : Nat → Int) (al : Nat → Nat → Prop) (ct : Nat → Nat → Int) (L m : Int) : Prop := ((¬ ∃ x, Feas H C sup rm al x) ∧ L = -9 ∧ m = -9) ∨ (0 ≤ L ∧ FsG H C sup rm al ct L ∧ m = milesF H C sup rm (lim al ct L) ct ∧ ∀ L', 0 ≤ L' → FsG H C sup rm al ct L' → L ≤ L')
section
variable {H C : Nat} {sup sup' rm rm' : Nat → Int} {al al' : Nat → Nat → Prop} {ct ct' : Nat → Nat → Int} {L m L2 m2 : Int}
theorem FsG.all (h : FsG H C sup rm al ct L) : ∃ x, Feas H C sup rm al x := by
  obtain ⟨x, hx⟩ := h
  exact ⟨x, hx.mono (fun a b ha hb q => ((hx.1 a ha b hb).2 q).1)⟩
theorem EvenG.uniq (h1 : EvenG H C sup rm al ct L m) (h2 : EvenG H C sup rm al ct L2 m2) : L = L2 ∧ m = m2 := by
  rcases h1 with ⟨a1, a2, a3⟩ | ⟨a1, a2, a3, a4⟩ <;> rcases h2 with ⟨b1, b2, b3⟩ | ⟨b1, b2, b3, b4⟩
  · omega
  · exact absurd b2.all a1
  · exact absurd a2.all b1
  · have e : L = L2 := by have := a4 L2 b1 b2; have := b4 L a1 a2; omega
    subst e
    exact ⟨rfl, a3.trans b3.symm⟩
theorem FsG.cong (e1 : ∀ h, h < H → sup h = sup' h) (e2 : ∀ c, c < C → rm c = rm' c) (e3 : ∀ h c, h < H → c < C → (al h c ↔ al' h c)) (e4 : ∀ h c, h < H → c < C → ct h c = ct' h c) : FsG H C sup rm al ct L ↔ FsG H C sup' rm' al' ct' L := by
  constructor
  · rintro ⟨x, hx⟩
    exact ⟨x, hx.cong e1 e2 (fun h c hh hc => by unfold lim; rw [e4 h c hh hc, e3 h c hh hc])⟩
  · rintro ⟨x, hx⟩
    exact ⟨x, hx.cong (fun h hh => (e1 h hh).symm) (fun c hc => (e2 c hc).symm) (fun h c hh hc => by unfold lim; rw [e4 h c hh hc, e3 h c hh hc])⟩
theorem EvenG.cong (e1 : ∀ h, h < H → sup h = sup' h) (e2 : ∀ c, c < C → rm c = rm' c) (e3 : ∀ h c, h < H → c < C → (al h c ↔ al' h c)) (e4 : ∀ h c, h < H → c < C → ct h c = ct' h c) (h : EvenG H C sup rm al ct L m) : EvenG H C sup' rm' al' ct' L m := by
  have f := fun L => FsG.cong (L := L) e1 e2 e3 e4
  rcases h with ⟨a1, a2, a3⟩ | ⟨a1, a2, a3, a4⟩
  · refine Or.inl ⟨fun ⟨x, hx⟩ => a1 ⟨x, hx.cong (fun h hh => (e1 h hh).symm) (fun c hc => (e2 c hc).symm) (fun h c hh hc => (e3 h c hh hc).symm)⟩, a2, a3⟩
  · refine Or.inr ⟨a1, (f L).mp a2, ?_, fun L' h1 h2 => a4 L' h1 ((f L').mpr h2)⟩
    rw [a3]
    exact milesF_cong e1 e2 (fun h c hh hc => by unfold lim; rw [e4 h c hh hc, e3 h c hh hc]) (fun h c hh hc _ => e4 h c hh hc)
theorem max_used {used : Nat → Nat → Prop} {M : Int} (hb : ∀ h c, used h c → ct h c ≤ M) : ∀ (n h c : Nat), used h c → (M - ct h c).toNat = n → ∃ h0 c0, used h0 c0 ∧ ∀ h c, used h c → ct h c ≤ ct h0 c0 := by
  intro n
  induction n using Nat.strongRecOn with
  | ind n ih =>
    intro h c hu hn
    by_cases q : ∀ h' c', used h' c' → ct h' c' ≤ ct h c
    · exact ⟨h, c, hu, q⟩
    · have ⟨h', q1⟩ := Classical.not_forall.mp q
      have ⟨c', q2⟩ := Classical.not_forall.mp q1
      have ⟨u2, hlt⟩ := Classical.not_imp.mp q2
      have a := hb h c hu
      have b := hb h' c' u2
      exact ih _ (by omega) h' c' u2 rfl
theorem lim_at {x : Nat → Nat → Int} (hH : 0 < H) (hs : 1 ≤ sup 0) (hb : ∀ h c, ct h c ≤ 7200) (hx : Feas H C sup rm al x) : ∃ h0 c0, h0 < H ∧ c0 < C ∧ al h0 c0 ∧ Feas H C sup rm (lim al ct (ct h0 c0)) x := by
  have h1 := hx.2.1 0 hH
  obtain ⟨c, hc, hp⟩ := sm_pos C (show 0 < sm C (x 0) by omega)
  obtain ⟨h0, c0, ⟨u1, u2, u3⟩, um⟩ := max_used (used := fun h c => h < H ∧ c < C ∧ 0 < x h c) (ct := ct) (M := 7200) (fun h c _ => hb h c) _ 0 c ⟨hH, hc, hp⟩ rfl
  exact ⟨h0, c0, u1, u2, (hx.1 h0 u1 c0 u2).2 u3, hx.mono (fun a b ha hb q => ⟨(hx.1 a ha b hb).2 q, um a b ⟨ha, hb, q⟩⟩)⟩
/-- what has been found among the ways that Q names -/
def EvP (H C : Nat) (sup rm : Nat → Int) (al : Nat → Nat → Prop) (ct : Nat → Nat → Int) (Q : Nat → Nat → Prop) (b m : Int) : Prop := (b = -9 ∧ m = -9 ∧ ∀ h c, h < H → c < C → Q h c → ¬ FsG H C sup rm al ct (ct h c)) ∨ (0 ≤ b ∧ b ≤ 7200 ∧ FsG H C sup rm al ct b ∧ m = milesF H C sup rm (lim al ct b) ct ∧ ∀ h c, h < H → c < C → Q h c → FsG H C sup rm al ct (ct h c) → b ≤ ct h c)
theorem EvP.rg {Q : Nat → Nat → Prop} (h : EvP H C sup rm al ct Q L m) : L = -9 ∨ (0 ≤ L ∧ L ≤ 7200) := by
  rcases h with ⟨a, -⟩ | ⟨a, b, -⟩
  · exact Or.inl a
  · exact Or.inr ⟨a, b⟩
theorem EvP.skip {Q Q' : Nat → Nat → Prop} {h0 c0 : Nat} (h : EvP H C sup rm al ct Q L m) (hq : ∀ h c, h < H → c < C → Q' h c → Q h c ∨ (h = h0 ∧ c = c0)) (hn : ¬ FsG H C sup rm al ct (ct h0 c0) ∨ (0 ≤ L ∧ L ≤ ct h0 c0)) : EvP H C sup rm al ct Q' L m := by
  rcases h with ⟨a1, a2, a3⟩ | ⟨a1, a2, a3, a4, a5⟩
  · refine Or.inl ⟨a1, a2, fun h c hh hc q => ?_⟩
    rcases hq h c hh hc q with z | ⟨rfl, rfl⟩
    · exact a3 h c hh hc z
    · rcases hn with hn | hn
      · exact hn
      · omega
  · refine Or.inr ⟨a1, a2, a3, a4, fun h c hh hc q hf => ?_⟩
    rcases hq h c hh hc q with z | ⟨rfl, rfl⟩
    · exact a5 h c hh hc z hf
    · rcases hn with hn | hn
      · exact absurd hf hn
      · exact hn.2
theorem EvP.weaken {Q Q' : Nat → Nat → Prop} (h : EvP H C sup rm al ct Q L m) (hq : ∀ h c, h < H → c < C → Q' h c → Q h c) : EvP H C sup rm al ct Q' L m := by
  rcases h with ⟨a1, a2, a3⟩ | ⟨a1, a2, a3, a4, a5⟩
  · exact Or.inl ⟨a1, a2, fun h c hh hc q => a3 h c hh hc (hq h c hh hc q)⟩
  · exact Or.inr ⟨a1, a2, a3, a4, fun h c hh hc q => a5 h c hh hc (hq h c hh hc q)⟩
theorem EvP.take {Q Q' : Nat → Nat → Prop} {h0 c0 : Nat} (h : EvP H C sup rm al ct Q L m) (hq : ∀ h c, h < H → c < C → Q' h c → Q h c ∨ (h = h0 ∧ c = c0)) (hct : 0 ≤ ct h0 c0 ∧ ct h0 c0 ≤ 7200) (hf : FsG H C sup rm al ct (ct h0 c0)) (hl : L < 0 ∨ ct h0 c0 < L) : EvP H C sup rm al ct Q' (ct h0 c0) (milesF H C sup rm (lim al ct (ct h0 c0)) ct) := by
  refine Or.inr ⟨hct.1, hct.2, hf, rfl, fun h' c' hh hc q hf' => ?_⟩
  rcases hq h' c' hh hc q with z | ⟨rfl, rfl⟩
  · rcases h with ⟨a1, a2, a3⟩ | ⟨a1, a2, a3, a4, a5⟩
    · exact absurd hf' (a3 h' c' hh hc z)
    · have := a5 h' c' hh hc z hf'; omega
  · exact Int.le_refl _
theorem EvP.done (h : EvP H C sup rm al ct (fun _ _ => True) L m) (hH : 0 < H) (hs : 1 ≤ sup 0) (hb : ∀ h c, 0 ≤ ct h c ∧ ct h c ≤ 7200) : EvenG H C sup rm al ct L m := by
  rcases h with ⟨a1, a2, a3⟩ | ⟨a1, a2, a3, a4, a5⟩
  · refine Or.inl ⟨fun ⟨x, hx⟩ => ?_, a1, a2⟩
    obtain ⟨h0, c0, u1, u2, u3, u4⟩ := lim_at (ct := ct) hH hs (fun h c => (hb h c).2) hx
    exact a3 h0 c0 u1 u2 trivial ⟨x, u4⟩
  · refine Or.inr ⟨a1, a3, a4, fun L' h1 h2 => ?_⟩
    obtain ⟨x, hx⟩ := h2
    obtain ⟨h0, c0, u1, u2, u3, u4⟩ := lim_at (ct := ct) hH hs (fun h c => (hb h c).2) hx
    have := a5 h0 c0 u1 u2 trivial ⟨x, u4.mono (fun a b ha hb' q => by have z := (u4.1 a ha b hb').2 q; exact ⟨z.1.1, z.2⟩)⟩
    have := u3.2
    omega
theorem EvenG.zero (hH : H = 0) (hr : ∀ c, c < C → 0 ≤ rm c) : EvenG H C sup rm al ct 0 0 := by
  subst hH
  have hF : ∀ al', Feas 0 C sup rm al' (fun _ _ => 0) := fun al' => ⟨fun h hh => by omega, fun h hh => by omega, fun c hc => hr c hc⟩
  refine Or.inr ⟨Int.le_refl _, ⟨_, hF _⟩, ?_, fun L' h1 _ => h1⟩
  exact (IsMiles.eqF (Or.inl ⟨_, hF _, rfl, fun y _ => Int.le_refl _⟩)).symm
end
theorem even_c {D : DD} {L m : Int} (hL : LK D) (h : IsEven D L m) : EvenG (D 1 8).toNat (D 1 9).toNat (D 4) (D 9) (alC D) (farC D) L m := by
  have hn := milesF_none (H := (D 1 8).toNat) (C := (D 1 9).toNat) (sup := D 4) (rm := D 9) (al := alC D) (ct := farC D) (fun h c => (farC_bd hL h c).1)
  rcases h with ⟨a1, a2, a3⟩ | ⟨-, a2, a3⟩
  · exact Or.inl ⟨hn.mp a1, a2, a3⟩
  · exact Or.inr ⟨a2.1, a2.2.2.1, a2.2.2.2, a3⟩
section
variable {g : G0} {d : Nat} {P : Option Value → List SC → DD → Prop} {D : DD}
theorem r_even {w : Int} (hL : MK D) (h1 : ∀ h, h < (D 57 1).toNat → 1 ≤ D 60 h) (hw : InR w) (kO : ¬ (0 ≤ w ∧ w ≤ 1) → P (some (iI (-2))) SH D) (kk : ∀ D' : DD, FrV D D' → ∀ L m, EvenG (D 57 1).toNat (D 57 5).toNat (D 60) (D 64) (alM D) (farM D) L m → (w = 0 → P (some (iI L)) SH D') ∧ (w = 1 → P (some (iI m)) SH D')) : TM g mX7_even (d + 4) P [.ref 57, iI w] D := by
  have hN := hL.1
  have hM := hL.2.1
  have inner : ∀ (h : Nat), h < (D 57 1).toNat → (∀ (D1 : DD) (b m : Int) (m5 m6 m7 : Option Value), FrV D D1 → EvP (D 57 1).toNat (D 57 5).toNat (D 60) (D 64) (alM D) (farM D) (fun h' _ => h' < h + 1) b m → T g mX7_even (rmd (d + 4) 0 0) 0 0 (Qm g (rmd (d + 4) 0 0) P) 31 [some (.ref 57), some (iI w), some (iI b), some (iI m), some (iI ((h + 1 : Nat) : Int)), m5, m6, m7] [] SH D1) → ∀ (q c : Nat) (D1 : DD) (b m : Int) (m6 m7 : Option Value), q + c = (D 57 5).toNat → FrV D D1 → EvP (D 57 1).toNat (D 57 5).toNat (D 60) (D 64) (alM D) (farM D) (fun h' c' => h' < h ∨ (h' = h ∧ c' < c)) b m → T g mX7_even (rmd (d + 4) 0 0) 0 0 (Qm g (rmd (d + 4) 0 0) P) 43 [some (.ref 57), some (iI w), some (iI b), some (iI m), some (iI h), some (iI c), m6, m7] [] SH D1 := by
    intro h hh K q
    induction q with
    | zero =>
      intro c D1 b m m6 m7 hq fr hE
      have z2 : D1 57 5 = D 57 5 := by rw [fr 57 (by omega)]
      refine T_iload dX7_even_43 rfl ?_
      refine T_aload_n dX7_even_45 rfl ?_
      refine T_getI dX7_even_46 flX7_115 rfl rfl ?_
      refine T_icmp_ge 126 dX7_even_49 (by decide) (by first | (unfold InR; omega) | (simp [st2, InR]; omega)) (by first | (unfold InR; omega) | (simp [st2, InR]; omega)) (fun hc49 => ?_) (fun hc49 => (by exfalso; omega))
      refine T_iinc dX7_even_126 rfl (by decide) ?_
      refine T_goto (tgt := 31) dX7_even_129 (by decide) ?_
      exact K D1 b m _ _ _ fr (hE.weaken (fun h' c' hh' hc' z => by omega))
    | succ q ih =>
      intro c D1 b m m6 m7 hq fr hE
      have ml : ∀ a, 57 ≤ a → a ≤ 65 → D1 a = D a := fun a h1 h2 => fr a (by omega)
      have z57 : D1 57 = D 57 := ml 57 (by decide) (by decide)
      have z2 : D1 57 5 = D 57 5 := by rw [z57]
      have hL1 : MK D1 := MK_fr ml hL
      obtain ⟨-, -, ea, ef⟩ := mlM_of ml
      have eh : (h : Int).toNat = h := Int.toNat_natCast h
      have ec : (c : Int).toNat = c := Int.toNat_natCast c
      have e1 : farK (D1 61 (c : Int).toNat) (D1 58 (h : Int).toNat) (D1 59 (h : Int).toNat) (D1 62 (c : Int).toNat) (D1 63 (c : Int).toNat) (D1 57 11) = farM D h c := by rw [← ef, eh, ec]; rfl
      have bd := farM_bd hL h c
      have rg := hE.rg
      have hq' : ∀ h' c', h' < (D 57 1).toNat → c' < (D 57 5).toNat → (h' < h ∨ (h' = h ∧ c' < c + 1)) → (h' < h ∨ (h' = h ∧ c' < c)) ∨ (h' = h ∧ c' = c) := fun h' c' _ _ z => by omega
      have skip := fun hn => hE.skip (h0 := h) (c0 := c) hq' hn
      have take := fun hf hl => hE.take (h0 := h) (c0 := c) hq' bd hf hl
      refine T_iload dX7_even_43 rfl ?_
      refine T_aload_n dX7_even_45 rfl ?_
      refine T_getI dX7_even_46 flX7_115 rfl rfl ?_
      refine T_icmp_ge 126 dX7_even_49 (by decide) (by first | (unfold InR; omega) | (simp [st2, InR]; omega)) (by first | (unfold InR; omega) | (simp [st2, InR]; omega)) (fun hc49 => (by exfalso; omega)) (fun hc49 => ?_)
      refine T_aload_n dX7_even_52 rfl ?_
      refine T_aload_n dX7_even_53 rfl ?_
      refine T_getR dX7_even_54 flX7_7 rfl rfl ?_
      refine T_iload dX7_even_57 rfl ?_
      refine T_iald dX7_even_59 rfl (by first | decide | omega) (by first | omega | (simp [st2]; omega)) (by first | omega | (simp [st2]; omega)) ?_
      refine T_aload_n dX7_even_60 rfl ?_
      refine T_getR dX7_even_61 flX7_13 rfl rfl ?_
      refine T_iload dX7_even_64 rfl ?_
      refine T_iald dX7_even_66 rfl (by first | decide | omega) (by first | omega | (simp [st2]; omega)) (by first | omega | (simp [st2]; omega)) ?_
      refine T_iload dX7_even_67 rfl ?_
      refine T_cV_3 dX7_even_69 lkX7_181 rfl (Nat.le_of_ble_eq_true rfl) (RO_r (by decide)) (Nat.le_of_ble_eq_true rfl) ?_
      refine r_farOf hL1 (by omega) (hL1.2.2.2.1 _) (hL1.2.2.2.2.1 _) ?_
      rw [e1]
      refine T_istore dX7_even_72 (by decide) ?_
      refine T_iload_n dX7_even_74 rfl ?_
      refine T_if_lt 84 dX7_even_75 (by decide) (by unfold InR; omega) (fun hc75 => ?_) (fun hc75 => ?_)
      · refine T_aload_n dX7_even_84 rfl ?_
        refine T_iload dX7_even_85 rfl ?_
        refine T_cV_1 dX7_even_87 lkX7_200 rfl (Nat.le_of_ble_eq_true rfl) (RO_r (by decide)) (Nat.le_of_ble_eq_true rfl) ?_
        refine r_layCosts hL1 (by unfold InR; omega) (fun D2 f2 r68 r69 => ?_)
        have hH := laid hL1 f2 r68 r69
        refine T_aload_n dX7_even_90 rfl ?_
        refine T_cV_0 dX7_even_91 lkX7_203 rfl (Nat.le_of_ble_eq_true rfl) (RO_r (by decide)) (Nat.le_of_ble_eq_true rfl) ?_
        refine r_leastMilesR (hH.rnk hL1) (fun D3 r f3 hm => ?_)
        have hm2 := hH.miles hL1 hm
        rw [z57, ml 60 (by decide) (by decide), ml 64 (by decide) (by decide), ef] at hm2
        have hm3 : IsMiles (D 57 1).toNat (D 57 5).toNat (D 60) (D 64) (lim (alM D) (farM D) (farM D h c)) (farM D) r := hm2.cong (fun _ _ => rfl) (fun _ _ => rfl) (fun a b _ _ => by unfold alML lim; rw [ef]; have := congrFun (congrFun ea a) b; rw [this]) (fun _ _ _ _ _ => rfl)
        have rr := hm3.rng (by omega) (fun h _ => (hL.2.2.2.2.2.1 h).2) (fun h c _ _ _ => farM_bd hL h c)
        have em := hm3.eqF
        have fr3 : FrV D D3 := fun a ha => (f3 a (by omega) (by omega) (by omega) (by omega)).trans ((f2 a (by omega) (by omega)).trans (fr a ha))
        refine T_istore dX7_even_94 (by decide) ?_
        refine T_iload dX7_even_96 rfl ?_
        refine T_if_ge 105 dX7_even_98 (by decide) (by unfold InR; omega) (fun hc98 => ?_) (fun hc98 => ?_)
        · refine T_iload dX7_even_105 rfl ?_
          refine T_istore_n dX7_even_107 (by decide) ?_
          refine T_iload dX7_even_108 rfl ?_
          refine T_if_ge 117 dX7_even_110 (by decide) (by unfold InR; omega) (fun hc110 => ?_) (fun hc110 => ?_)
          · refine T_iload dX7_even_117 rfl ?_
            refine T_istore_n dX7_even_119 (by decide) ?_
            refine T_iinc dX7_even_120 rfl (by decide) ?_
            refine T_goto (tgt := 43) dX7_even_123 (by decide) ?_
            first
            | (exfalso; omega)
            | exact ih (c + 1) D1 b m _ _ (by omega) fr (skip (Or.inr (by omega)))
            | (have hno : ¬ FsG (D 57 1).toNat (D 57 5).toNat (D 60) (D 64) (alM D) (farM D) (farM D h c) := by
                 have hr9 : r = -9 := by omega
                 rw [hr9] at hm3
                 exact hm3.none (fun h c => (farM_bd hL h c).1)
               exact ih (c + 1) D3 b m _ _ (by omega) fr3 (skip (Or.inl hno)))
            | (have hyes : FsG (D 57 1).toNat (D 57 5).toNat (D 60) (D 64) (alM D) (farM D) (farM D h c) := by
                 rcases hm3 with ⟨x, hx, -⟩ | ⟨hx, -⟩
                 · exact ⟨x, hx⟩
                 · omega
               have z := take hyes (by omega)
               rw [em] at z
               exact ih (c + 1) D3 _ _ _ _ (by omega) fr3 z)
          · refine T_iload_n dX7_even_113 rfl ?_
            refine T_goto (tgt := 119) dX7_even_114 (by decide) ?_
            refine T_istore_n dX7_even_119 (by decide) ?_
            refine T_iinc dX7_even_120 rfl (by decide) ?_
            refine T_goto (tgt := 43) dX7_even_123 (by decide) ?_
            first
            | (exfalso; omega)
            | exact ih (c + 1) D1 b m _ _ (by omega) fr (skip (Or.inr (by omega)))
            | (have hno : ¬ FsG (D 57 1).toNat (D 57 5).toNat (D 60) (D 64) (alM D) (farM D) (farM D h c) := by
                 have hr9 : r = -9 := by omega
                 rw [hr9] at hm3
                 exact hm3.none (fun h c => (farM_bd hL h c).1)
               exact ih (c + 1) D3 b m _ _ (by omega) fr3 (skip (Or.inl hno)))
            | (have hyes : FsG (D 57 1).toNat (D 57 5).toNat (D 60) (D 64) (alM D) (farM D) (farM D h c) := by
                 rcases hm3 with ⟨x, hx, -⟩ | ⟨hx, -⟩
                 · exact ⟨x, hx⟩
                 · omega
               have z := take hyes (by omega)
               rw [em] at z
               exact ih (c + 1) D3 _ _ _ _ (by omega) fr3 z)
        · refine T_iload_n dX7_even_101 rfl ?_
          refine T_goto (tgt := 107) dX7_even_102 (by decide) ?_
          refine T_istore_n dX7_even_107 (by decide) ?_
          refine T_iload dX7_even_108 rfl ?_
          refine T_if_ge 117 dX7_even_110 (by decide) (by unfold InR; omega) (fun hc110 => ?_) (fun hc110 => ?_)
          · refine T_iload dX7_even_117 rfl ?_
            refine T_istore_n dX7_even_119 (by decide) ?_
            refine T_iinc dX7_even_120 rfl (by decide) ?_
            refine T_goto (tgt := 43) dX7_even_123 (by decide) ?_
            first
            | (exfalso; omega)
            | exact ih (c + 1) D1 b m _ _ (by omega) fr (skip (Or.inr (by omega)))
            | (have hno : ¬ FsG (D 57 1).toNat (D 57 5).toNat (D 60) (D 64) (alM D) (farM D) (farM D h c) := by
                 have hr9 : r = -9 := by omega
                 rw [hr9] at hm3
                 exact hm3.none (fun h c => (farM_bd hL h c).1)
               exact ih (c + 1) D3 b m _ _ (by omega) fr3 (skip (Or.inl hno)))
            | (have hyes : FsG (D 57 1).toNat (D 57 5).toNat (D 60) (D 64) (alM D) (farM D) (farM D h c) := by
                 rcases hm3 with ⟨x, hx, -⟩ | ⟨hx, -⟩
                 · exact ⟨x, hx⟩
                 · omega
               have z := take hyes (by omega)
               rw [em] at z
               exact ih (c + 1) D3 _ _ _ _ (by omega) fr3 z)
          · refine T_iload_n dX7_even_113 rfl ?_
            refine T_goto (tgt := 119) dX7_even_114 (by decide) ?_
            refine T_istore_n dX7_even_119 (by decide) ?_
            refine T_iinc dX7_even_120 rfl (by decide) ?_
            refine T_goto (tgt := 43) dX7_even_123 (by decide) ?_
            first
            | (exfalso; omega)
            | exact ih (c + 1) D1 b m _ _ (by omega) fr (skip (Or.inr (by omega)))
            | (have hno : ¬ FsG (D 57 1).toNat (D 57 5).toNat (D 60) (D 64) (alM D) (farM D) (farM D h c) := by
                 have hr9 : r = -9 := by omega
                 rw [hr9] at hm3
                 exact hm3.none (fun h c => (farM_bd hL h c).1)
               exact ih (c + 1) D3 b m _ _ (by omega) fr3 (skip (Or.inl hno)))
            | (have hyes : FsG (D 57 1).toNat (D 57 5).toNat (D 60) (D 64) (alM D) (farM D) (farM D h c) := by
                 rcases hm3 with ⟨x, hx, -⟩ | ⟨hx, -⟩
                 · exact ⟨x, hx⟩
                 · omega
               have z := take hyes (by omega)
               rw [em] at z
               exact ih (c + 1) D3 _ _ _ _ (by omega) fr3 z)
      · refine T_iload dX7_even_78 rfl ?_
        refine T_iload_n dX7_even_80 rfl ?_
        refine T_icmp_ge 120 dX7_even_81 (by decide) (by unfold InR; omega) (by unfold InR; omega) (fun hc81 => ?_) (fun hc81 => ?_)
        · refine T_iinc dX7_even_120 rfl (by decide) ?_
          refine T_goto (tgt := 43) dX7_even_123 (by decide) ?_
          first
          | (exfalso; omega)
          | exact ih (c + 1) D1 b m _ _ (by omega) fr (skip (Or.inr (by omega)))
          | (have hno : ¬ FsG (D 57 1).toNat (D 57 5).toNat (D 60) (D 64) (alM D) (farM D) (farM D h c) := by
               have hr9 : r = -9 := by omega
               rw [hr9] at hm3
               exact hm3.none (fun h c => (farM_bd hL h c).1)
             exact ih (c + 1) D3 b m _ _ (by omega) fr3 (skip (Or.inl hno)))
          | (have hyes : FsG (D 57 1).toNat (D 57 5).toNat (D 60) (D 64) (alM D) (farM D) (farM D h c) := by
               rcases hm3 with ⟨x, hx, -⟩ | ⟨hx, -⟩
               · exact ⟨x, hx⟩
               · omega
             have z := take hyes (by omega)
             rw [em] at z
             exact ih (c + 1) D3 _ _ _ _ (by omega) fr3 z)
        · refine T_aload_n dX7_even_84 rfl ?_
          refine T_iload dX7_even_85 rfl ?_
          refine T_cV_1 dX7_even_87 lkX7_200 rfl (Nat.le_of_ble_eq_true rfl) (RO_r (by decide)) (Nat.le_of_ble_eq_true rfl) ?_
          refine r_layCosts hL1 (by unfold InR; omega) (fun D2 f2 r68 r69 => ?_)
          have hH := laid hL1 f2 r68 r69
          refine T_aload_n dX7_even_90 rfl ?_
          refine T_cV_0 dX7_even_91 lkX7_203 rfl (Nat.le_of_ble_eq_true rfl) (RO_r (by decide)) (Nat.le_of_ble_eq_true rfl) ?_
          refine r_leastMilesR (hH.rnk hL1) (fun D3 r f3 hm => ?_)
          have hm2 := hH.miles hL1 hm
          rw [z57, ml 60 (by decide) (by decide), ml 64 (by decide) (by decide), ef] at hm2
          have hm3 : IsMiles (D 57 1).toNat (D 57 5).toNat (D 60) (D 64) (lim (alM D) (farM D) (farM D h c)) (farM D) r := hm2.cong (fun _ _ => rfl) (fun _ _ => rfl) (fun a b _ _ => by unfold alML lim; rw [ef]; have := congrFun (congrFun ea a) b; rw [this]) (fun _ _ _ _ _ => rfl)
          have rr := hm3.rng (by omega) (fun h _ => (hL.2.2.2.2.2.1 h).2) (fun h c _ _ _ => farM_bd hL h c)
          have em := hm3.eqF
          have fr3 : FrV D D3 := fun a ha => (f3 a (by omega) (by omega) (by omega) (by omega)).trans ((f2 a (by omega) (by omega)).trans (fr a ha))
          refine T_istore dX7_even_94 (by decide) ?_
          refine T_iload dX7_even_96 rfl ?_
          refine T_if_ge 105 dX7_even_98 (by decide) (by unfold InR; omega) (fun hc98 => ?_) (fun hc98 => ?_)
          · refine T_iload dX7_even_105 rfl ?_
            refine T_istore_n dX7_even_107 (by decide) ?_
            refine T_iload dX7_even_108 rfl ?_
            refine T_if_ge 117 dX7_even_110 (by decide) (by unfold InR; omega) (fun hc110 => ?_) (fun hc110 => ?_)
            · refine T_iload dX7_even_117 rfl ?_
              refine T_istore_n dX7_even_119 (by decide) ?_
              refine T_iinc dX7_even_120 rfl (by decide) ?_
              refine T_goto (tgt := 43) dX7_even_123 (by decide) ?_
              first
              | (exfalso; omega)
              | exact ih (c + 1) D1 b m _ _ (by omega) fr (skip (Or.inr (by omega)))
              | (have hno : ¬ FsG (D 57 1).toNat (D 57 5).toNat (D 60) (D 64) (alM D) (farM D) (farM D h c) := by
                   have hr9 : r = -9 := by omega
                   rw [hr9] at hm3
                   exact hm3.none (fun h c => (farM_bd hL h c).1)
                 exact ih (c + 1) D3 b m _ _ (by omega) fr3 (skip (Or.inl hno)))
              | (have hyes : FsG (D 57 1).toNat (D 57 5).toNat (D 60) (D 64) (alM D) (farM D) (farM D h c) := by
                   rcases hm3 with ⟨x, hx, -⟩ | ⟨hx, -⟩
                   · exact ⟨x, hx⟩
                   · omega
                 have z := take hyes (by omega)
                 rw [em] at z
                 exact ih (c + 1) D3 _ _ _ _ (by omega) fr3 z)
            · refine T_iload_n dX7_even_113 rfl ?_
              refine T_goto (tgt := 119) dX7_even_114 (by decide) ?_
              refine T_istore_n dX7_even_119 (by decide) ?_
              refine T_iinc dX7_even_120 rfl (by decide) ?_
              refine T_goto (tgt := 43) dX7_even_123 (by decide) ?_
              first
              | (exfalso; omega)
              | exact ih (c + 1) D1 b m _ _ (by omega) fr (skip (Or.inr (by omega)))
              | (have hno : ¬ FsG (D 57 1).toNat (D 57 5).toNat (D 60) (D 64) (alM D) (farM D) (farM D h c) := by
                   have hr9 : r = -9 := by omega
                   rw [hr9] at hm3
                   exact hm3.none (fun h c => (farM_bd hL h c).1)
                 exact ih (c + 1) D3 b m _ _ (by omega) fr3 (skip (Or.inl hno)))
              | (have hyes : FsG (D 57 1).toNat (D 57 5).toNat (D 60) (D 64) (alM D) (farM D) (farM D h c) := by
                   rcases hm3 with ⟨x, hx, -⟩ | ⟨hx, -⟩
                   · exact ⟨x, hx⟩
                   · omega
                 have z := take hyes (by omega)
                 rw [em] at z
                 exact ih (c + 1) D3 _ _ _ _ (by omega) fr3 z)
          · refine T_iload_n dX7_even_101 rfl ?_
            refine T_goto (tgt := 107) dX7_even_102 (by decide) ?_
            refine T_istore_n dX7_even_107 (by decide) ?_
            refine T_iload dX7_even_108 rfl ?_
            refine T_if_ge 117 dX7_even_110 (by decide) (by unfold InR; omega) (fun hc110 => ?_) (fun hc110 => ?_)
            · refine T_iload dX7_even_117 rfl ?_
              refine T_istore_n dX7_even_119 (by decide) ?_
              refine T_iinc dX7_even_120 rfl (by decide) ?_
              refine T_goto (tgt := 43) dX7_even_123 (by decide) ?_
              first
              | (exfalso; omega)
              | exact ih (c + 1) D1 b m _ _ (by omega) fr (skip (Or.inr (by omega)))
              | (have hno : ¬ FsG (D 57 1).toNat (D 57 5).toNat (D 60) (D 64) (alM D) (farM D) (farM D h c) := by
                   have hr9 : r = -9 := by omega
                   rw [hr9] at hm3
                   exact hm3.none (fun h c => (farM_bd hL h c).1)
                 exact ih (c + 1) D3 b m _ _ (by omega) fr3 (skip (Or.inl hno)))
              | (have hyes : FsG (D 57 1).toNat (D 57 5).toNat (D 60) (D 64) (alM D) (farM D) (farM D h c) := by
                   rcases hm3 with ⟨x, hx, -⟩ | ⟨hx, -⟩
                   · exact ⟨x, hx⟩
                   · omega
                 have z := take hyes (by omega)
                 rw [em] at z
                 exact ih (c + 1) D3 _ _ _ _ (by omega) fr3 z)
            · refine T_iload_n dX7_even_113 rfl ?_
              refine T_goto (tgt := 119) dX7_even_114 (by decide) ?_
              refine T_istore_n dX7_even_119 (by decide) ?_
              refine T_iinc dX7_even_120 rfl (by decide) ?_
              refine T_goto (tgt := 43) dX7_even_123 (by decide) ?_
              first
              | (exfalso; omega)
              | exact ih (c + 1) D1 b m _ _ (by omega) fr (skip (Or.inr (by omega)))
              | (have hno : ¬ FsG (D 57 1).toNat (D 57 5).toNat (D 60) (D 64) (alM D) (farM D) (farM D h c) := by
                   have hr9 : r = -9 := by omega
                   rw [hr9] at hm3
                   exact hm3.none (fun h c => (farM_bd hL h c).1)
                 exact ih (c + 1) D3 b m _ _ (by omega) fr3 (skip (Or.inl hno)))
              | (have hyes : FsG (D 57 1).toNat (D 57 5).toNat (D 60) (D 64) (alM D) (farM D) (farM D h c) := by
                   rcases hm3 with ⟨x, hx, -⟩ | ⟨hx, -⟩
                   · exact ⟨x, hx⟩
                   · omega
                 have z := take hyes (by omega)
                 rw [em] at z
                 exact ih (c + 1) D3 _ _ _ _ (by omega) fr3 z)
  have outer : 0 < (D 57 1).toNat → ∀ (q h : Nat) (D1 : DD) (b m : Int) (m5 m6 m7 : Option Value), q + h = (D 57 1).toNat → FrV D D1 → EvP (D 57 1).toNat (D 57 5).toNat (D 60) (D 64) (alM D) (farM D) (fun h' _ => h' < h) b m → (0 ≤ w ∧ w ≤ 1) → T g mX7_even (rmd (d + 4) 0 0) 0 0 (Qm g (rmd (d + 4) 0 0) P) 31 [some (.ref 57), some (iI w), some (iI b), some (iI m), some (iI h), m5, m6, m7] [] SH D1 := by
    intro hpos q
    induction q with
    | zero =>
      intro h D1 b m m5 m6 m7 hq fr hE hw01
      have z2 : D1 57 1 = D 57 1 := by rw [fr 57 (by omega)]
      have hE2 : EvP (D 57 1).toNat (D 57 5).toNat (D 60) (D 64) (alM D) (farM D) (fun _ _ => True) b m := hE.weaken (fun h' c' hh' hc' _ => by omega)
      have K := kk D1 fr b m (hE2.done hpos (h1 0 hpos) (fun h c => farM_bd hL h c))
      refine T_iload dX7_even_31 rfl ?_
      refine T_aload_n dX7_even_33 rfl ?_
      refine T_getI dX7_even_34 flX7_112 rfl rfl ?_
      refine T_icmp_ge 132 dX7_even_37 (by decide) (by first | (unfold InR; omega) | (simp [st2, InR]; omega)) (by first | (unfold InR; omega) | (simp [st2, InR]; omega)) (fun hc37 => ?_) (fun hc37 => (by exfalso; omega))
      refine T_iload_n dX7_even_132 rfl ?_
      refine T_if_ne 140 dX7_even_133 (by decide) hw (fun hc133 => ?_) (fun hc133 => ?_)
      · refine T_iload_n dX7_even_140 rfl ?_
        refine T_iret dX7_even_141 rfl ?_
        first | exact K.1 (by omega) | exact K.2 (by omega)
      · refine T_iload_n dX7_even_136 rfl ?_
        refine T_goto (tgt := 141) dX7_even_137 (by decide) ?_
        refine T_iret dX7_even_141 rfl ?_
        first | exact K.1 (by omega) | exact K.2 (by omega)
    | succ q ih =>
      intro h D1 b m m5 m6 m7 hq fr hE hw01
      have z2 : D1 57 1 = D 57 1 := by rw [fr 57 (by omega)]
      have hE2 : EvP (D 57 1).toNat (D 57 5).toNat (D 60) (D 64) (alM D) (farM D) (fun h' c' => h' < h ∨ (h' = h ∧ c' < 0)) b m := hE.weaken (fun h' c' hh' hc' _ => by omega)
      refine T_iload dX7_even_31 rfl ?_
      refine T_aload_n dX7_even_33 rfl ?_
      refine T_getI dX7_even_34 flX7_112 rfl rfl ?_
      refine T_icmp_ge 132 dX7_even_37 (by decide) (by first | (unfold InR; omega) | (simp [st2, InR]; omega)) (by first | (unfold InR; omega) | (simp [st2, InR]; omega)) (fun hc37 => (by exfalso; omega)) (fun hc37 => ?_)
      refine T_iconst dX7_even_40 ?_
      refine T_istore dX7_even_41 (by decide) ?_
      exact inner h (by omega) (fun D2 b2 m2 m5 m6 m7 w1 w2 => ih (h + 1) D2 b2 m2 m5 m6 m7 (by omega) w1 w2 hw01) (D 57 5).toNat 0 D1 b m _ _ (by omega) fr hE2
  refine T_iload_n dX7_even_0 rfl ?_
  refine T_i2l dX7_even_1 hw ?_
  refine T_lconst (a := 0) dX7_even_2 (by decide) ?_
  refine T_lconst (a := 1) dX7_even_3 (by decide) ?_
  refine T_cS_3 dX7_even_4 lkX7_88 (Nat.le_of_ble_eq_true rfl) (RO_r (by decide)) (Nat.le_of_ble_eq_true rfl) ?_
  refine r_in (in64_of hw) (by first | (unfold In64; omega) | (simp [st2, In64]; omega)) (by first | (unfold In64; omega) | (simp [st2, In64]; omega)) (fun h5 h6 => ?_) (fun h5 => ?_)
  · refine T_if_ne 13 dX7_even_7 (by decide) (by unfold InR; decide) (fun _ => ?_) (fun h => absurd (by decide) h)
    refine T_bipush dX7_even_13 (by decide) ?_
    refine T_istore_n dX7_even_15 (by decide) ?_
    refine T_bipush dX7_even_16 (by decide) ?_
    refine T_istore_n dX7_even_18 (by decide) ?_
    refine T_aload_n dX7_even_19 rfl ?_
    refine T_getI dX7_even_20 flX7_112 rfl rfl ?_
    refine T_if_ne 28 dX7_even_23 (by decide) (by first | (unfold InR; omega) | (simp [st2, InR]; omega)) (fun hc23 => ?_) (fun hc23 => ?_)
    · refine T_iconst dX7_even_28 ?_
      refine T_istore dX7_even_29 (by decide) ?_
      exact outer (by omega) (D 57 1).toNat 0 D (-9) (-9) none none none (by omega) (fun _ _ => rfl) (Or.inl ⟨rfl, rfl, fun h' c' _ _ z => by omega⟩) (by omega)
    · refine T_iconst dX7_even_26 ?_
      refine T_iret dX7_even_27 rfl ?_
      first
      | exact kO (by omega)
      | (have K := kk D (fun _ _ => rfl) 0 0 (EvenG.zero (by omega) (fun c _ => (hL.2.2.2.2.2.2.2.2.2.1 c).1))
         by_cases e : w = 0
         · exact K.1 e
         · exact K.2 (by omega))
  · refine T_if_ne 13 dX7_even_7 (by decide) (by unfold InR; decide) (fun h => absurd h (by decide)) (fun _ => ?_)
    refine T_bipush dX7_even_10 (by decide) ?_
    refine T_iret dX7_even_12 rfl ?_
    first
    | exact kO (by omega)
    | (have K := kk D (fun _ _ => rfl) 0 0 (EvenG.zero (by omega) (fun c _ => (hL.2.2.2.2.2.2.2.2.2.1 c).1))
       by_cases e : w = 0
       · exact K.1 e
       · exact K.2 (by omega))
end

