/-- homes before h sit whole, k heads of h; the best way for these -/
abbrev alO (D : DD) (o : Nat) (g c : Nat) : Prop := fO D o g c < 500000000
def supO (D : DD) (o h : Nat) (k : Int) (g : Nat) : Int := if g < h then D (o + 3) g else if g = h then k else 0
def PSt (D : DD) (o h : Nat) (k : Int) : Prop := (∃ p, Feas (D o 10).toNat (D o 11).toNat (supO D o h k) (D (o + 4)) (alO D o) (xO D o) ∧ Cert (D o 10).toNat (D o 11).toNat (D (o + 4)) (alO D o) (fO D o) (xO D o) p) ∧ (∀ c, c < (D o 11).toNat → D (o + 5) c = sm (D o 10).toNat (fun g => xO D o g c)) ∧ ∀ j, j < 50 → (∀ h c, h < (D o 10).toNat → c < (D o 11).toNat → j ≠ h * 5 + c) → D (o + 2) j = 0
theorem PSt.sit {D : DD} {o h : Nat} {k : Int} (hK : SnK D o) (hk : 0 ≤ k ∧ k ≤ 5) (hP : PSt D o h k) : SitI D o := by
  obtain ⟨⟨p, hF, -⟩, -⟩ := hP
  intro g c hg hc
  have h1 := hF.1 g hg c hc
  have h2 := sm_ge1 (f := xO D o g) (n := (D o 11).toNat) (k := c) (fun j hj => (hF.1 g hg j hj).1) hc
  have h3 := hF.2.1 g hg
  have h4 := hK.2.2.2.1 g hg
  have h5 : supO D o h k g ≤ 5 := by unfold supO; (split <;> first | omega | (split <;> omega))
  exact ⟨h1.1, by show xO D o g c ≤ 5; omega, h1.2⟩
/-- the rows that stay while heads are seated -/
def keepO (o : Nat) (D D1 : DD) : Prop := Fr o D D1 ∧ D1 o = D o ∧ D1 (o + 1) = D (o + 1) ∧ D1 (o + 3) = D (o + 3) ∧ D1 (o + 4) = D (o + 4)
theorem keepO.of {o : Nat} {D D1 : DD} (h : ∀ r, r ≠ o + 2 → r ≠ o + 5 → r ≠ o + 6 → r ≠ o + 7 → r ≠ o + 8 → r ≠ o + 9 → D1 r = D r) : keepO o D D1 := ⟨fun a ha => h a (by omega) (by omega) (by omega) (by omega) (by omega) (by omega), h o (by omega) (by omega) (by omega) (by omega) (by omega) (by omega), h (o + 1) (by omega) (by omega) (by omega) (by omega) (by omega) (by omega), h (o + 3) (by omega) (by omega) (by omega) (by omega) (by omega) (by omega), h (o + 4) (by omega) (by omega) (by omega) (by omega) (by omega) (by omega)⟩
theorem keepO.tr {o : Nat} {D D1 D2 : DD} (h1 : keepO o D D1) (h2 : keepO o D1 D2) : keepO o D D2 := ⟨h1.1.tr h2.1, h2.2.1.trans h1.2.1, h2.2.2.1.trans h1.2.2.1, h2.2.2.2.1.trans h1.2.2.2.1, h2.2.2.2.2.trans h1.2.2.2.2⟩
/-- the first distances of home h -/
theorem bf_start {D D2 : DD} {o h : Nat} {ex : Nat → Nat → Prop} {w : Nat → Nat → Int} {p : Nat → Int} (hK : SnK D o) (hh : h < (D o 10).toNat) (h2 : ∀ c, c < (D o 11).toNat → D2 (o + 8) c = fO D o h c ∧ D2 (o + 9) c = -1) : BfI (D o 11).toNat ex w p (fun c v => alO D o h c ∧ v = fO D o h c) 500000000 0 (fun _ => 0) (D2 (o + 8)) (D2 (o + 9)) := by
  refine ⟨fun c hc v hv => ?_, fun c hc hB => Or.inl ?_, fun c hc hB => ?_, fun c hc => Nat.le_refl _, fun c hc hB => ?_⟩
  · rw [(h2 c hc).1]; omega
  · rw [(h2 c hc).1] at hB ⊢
    exact ⟨⟨by rw [(h2 c hc).2]; decide, by rw [(h2 c hc).2]; decide⟩, hB, rfl⟩
  · rw [(h2 c hc).1] at hB ⊢
    have := hK.2.2.1 h c hh hc
    simp only [fO] at *
    omega
  · rw [(h2 c hc).1] at hB ⊢
    have := hK.2.2.1 h c hh hc
    simp only [fO] at *
    omega

