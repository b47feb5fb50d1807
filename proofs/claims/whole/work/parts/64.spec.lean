/-! MILES as a number; the first of the least -/
noncomputable def milesF (H C : Nat) (sup rm : Nat → Int) (al : Nat → Nat → Prop) (ct : Nat → Nat → Int) : Int := Classical.epsilon (IsMiles H C sup rm al ct)
theorem IsMiles.eqF {H C : Nat} {sup rm : Nat → Int} {al : Nat → Nat → Prop} {ct : Nat → Nat → Int} {r : Int} (h : IsMiles H C sup rm al ct r) : milesF H C sup rm al ct = r := (Classical.epsilon_spec (p := IsMiles H C sup rm al ct) ⟨r, h⟩).uniq h
theorem milesF_cong {H C : Nat} {sup sup' rm rm' : Nat → Int} {al al' : Nat → Nat → Prop} {ct ct' : Nat → Nat → Int} (e1 : ∀ h, h < H → sup h = sup' h) (e2 : ∀ c, c < C → rm c = rm' c) (e3 : ∀ h c, h < H → c < C → (al h c ↔ al' h c)) (e4 : ∀ h c, h < H → c < C → al h c → ct h c = ct' h c) : milesF H C sup rm al ct = milesF H C sup' rm' al' ct' := by
  have e : IsMiles H C sup rm al ct = IsMiles H C sup' rm' al' ct' := by
    funext r
    exact propext ⟨fun h => h.cong e1 e2 e3 e4, fun h => h.cong (fun x hx => (e1 x hx).symm) (fun x hx => (e2 x hx).symm) (fun x y hx hy => (e3 x y hx hy).symm) (fun x y hx hy ha => (e4 x y hx hy ((e3 x y hx hy).mpr ha)).symm)⟩
  unfold milesF
  rw [e]
theorem IsMiles.rng {H C : Nat} {sup rm : Nat → Int} {al : Nat → Nat → Prop} {ct : Nat → Nat → Int} {r : Int} (h : IsMiles H C sup rm al ct r) (hH : H ≤ 10) (hs : ∀ h, h < H → sup h ≤ 5) (hc : ∀ h c, h < H → c < C → al h c → 0 ≤ ct h c ∧ ct h c ≤ 7200) : r = -9 ∨ (0 ≤ r ∧ r ≤ 360000) := by
  rcases h with ⟨x, a1, a2, -⟩ | ⟨a1, -⟩
  · refine Or.inr ?_
    have cell : ∀ h, h < H → ∀ c, c < C → 0 ≤ x h c * ct h c ∧ x h c * ct h c ≤ x h c * 7200 := by
      intro h hh c hcc
      have k := a1.1 h hh c hcc
      by_cases q : 0 < x h c
      · have b := hc h c hh hcc (k.2 q)
        exact ⟨Int.mul_nonneg k.1 b.1, Int.mul_le_mul_of_nonneg_left b.2 k.1⟩
      · rw [show x h c = 0 by omega, Int.zero_mul, Int.zero_mul]; exact ⟨Int.le_refl _, Int.le_refl _⟩
    have u1 : costX H C ct x ≤ sm H (fun _ => 36000) := by
      refine sm_le H (fun h hh => ?_)
      have z := sm_le (f := fun c => x h c * ct h c) (f' := fun c => x h c * 7200) C (fun c hcc => (cell h hh c hcc).2)
      rw [sm_mulc] at z
      have s1 := a1.2.1 h hh
      have s2 := hs h hh
      show sm C (fun c => x h c * ct h c) ≤ 36000
      omega
    have u2 : 0 ≤ costX H C ct x := sm_nn (fun h hh => sm_nn (fun c hcc => (cell h hh c hcc).1))
    have u3 := (sm_bd (f := fun _ => 36000) (a := 0) (b := 36000) H (fun j _ => ⟨by decide, Int.le_refl _⟩)).2
    have u4 : (H : Int) * 36000 ≤ 360000 := by omega
    omega
  · exact Or.inl a1
/-- the first of those below n at which f is least, of those that are ok; -9: none is -/
def ArgM (n : Nat) (ok : Nat → Prop) (f : Nat → Int) (r : Int) : Prop := (r = -9 ∧ ∀ c, c < n → ¬ ok c) ∨ ∃ i : Nat, r = (i : Int) ∧ i < n ∧ ok i ∧ ∀ c, c < n → ok c → f i < f c ∨ (f i = f c ∧ i ≤ c)
section
variable {n : Nat} {ok ok' : Nat → Prop} {f f' : Nat → Int} {r q : Int}
theorem ArgM.uniq (h1 : ArgM n ok f r) (h2 : ArgM n ok f q) : r = q := by
  rcases h1 with ⟨a1, a2⟩ | ⟨i, a1, a2, a3, a4⟩ <;> rcases h2 with ⟨b1, b2⟩ | ⟨j, b1, b2, b3, b4⟩
  · omega
  · exact absurd b3 (a2 j b2)
  · exact absurd a3 (b2 i a2)
  · have := a4 j b2 b3; have := b4 i a2 a3; omega
theorem ArgM.cong (h : ArgM n ok f r) (e : ∀ c, c < n → (ok c ↔ ok' c) ∧ (ok c → f c = f' c)) : ArgM n ok' f' r := by
  rcases h with ⟨a1, a2⟩ | ⟨i, a1, a2, a3, a4⟩
  · exact Or.inl ⟨a1, fun c hc k => a2 c hc ((e c hc).1.mpr k)⟩
  · refine Or.inr ⟨i, a1, a2, (e i a2).1.mp a3, fun c hc k => ?_⟩
    have k' := (e c hc).1.mpr k
    have z := a4 c hc k'
    rw [(e c hc).2 k', (e i a2).2 a3] at z
    exact z
theorem ArgM.zero : ArgM 0 ok f (-9) := Or.inl ⟨rfl, fun c hc => by omega⟩
theorem ArgM.skip (h : ArgM n ok f r) (hn : ok n → ∃ i : Nat, r = (i : Int) ∧ f i ≤ f n) : ArgM (n + 1) ok f r := by
  rcases h with ⟨a1, a2⟩ | ⟨i, a1, a2, a3, a4⟩
  · refine Or.inl ⟨a1, fun c hc k => ?_⟩
    by_cases e : c = n
    · subst e; obtain ⟨i, b, -⟩ := hn k; omega
    · exact a2 c (by omega) k
  · refine Or.inr ⟨i, a1, by omega, a3, fun c hc k => ?_⟩
    by_cases e : c = n
    · subst e; obtain ⟨j, b, b2⟩ := hn k
      obtain rfl : j = i := by omega
      omega
    · exact a4 c (by omega) k
theorem ArgM.take (h : ArgM n ok f r) (hk : ok n) (hn : ∀ i : Nat, i < n → r = (i : Int) → f n < f i) : ArgM (n + 1) ok f (n : Int) := by
  refine Or.inr ⟨n, rfl, by omega, hk, fun c hc k => ?_⟩
  by_cases e : c = n
  · subst e; omega
  · rcases h with ⟨a1, a2⟩ | ⟨i, a1, a2, a3, a4⟩
    · exact absurd k (a2 c (by omega))
    · have := hn i a2 a1
      have := a4 c (by omega) k
      omega
theorem ArgM.rng (h : ArgM n ok f r) : r = -9 ∨ (0 ≤ r ∧ r < n ∧ ok r.toNat) := by
  rcases h with ⟨a1, a2⟩ | ⟨i, a1, a2, a3, a4⟩
  · exact Or.inl a1
  · subst a1; exact Or.inr ⟨by omega, by omega, by rw [Int.toNat_natCast]; exact a3⟩
end
/-- sender o holds these heads, rooms, ways -/
def Holds (D : DD) (o H C : Nat) (sup rm : Nat → Int) (al : Nat → Nat → Prop) (ct : Nat → Nat → Int) : Prop := (D o 10 = H ∧ D o 11 = C ∧ H ≤ 10 ∧ C ≤ 5) ∧ (∀ h, h < H → D (o + 3) h = sup h ∧ 0 ≤ sup h ∧ sup h ≤ 5) ∧ (∀ c, c < C → D (o + 4) c = rm c ∧ 0 ≤ rm c ∧ rm c ≤ 50) ∧ ∀ h c, h < H → c < C → (al h c → fO D o h c = ct h c ∧ 0 ≤ ct h c ∧ ct h c ≤ 7200) ∧ (¬ al h c → fO D o h c = 500000000)
section
variable {D D1 : DD} {o H C : Nat} {sup rm : Nat → Int} {al : Nat → Nat → Prop} {ct : Nat → Nat → Int}
theorem Holds.snk (hh : Holds D o H C sup rm al ct) : SnK D o := by
  obtain ⟨⟨a1, a2, a3, a4⟩, b, c, f⟩ := hh
  refine ⟨by omega, by omega, fun h c' hh hc => ?_, fun h hh => ?_, fun c' hc => ?_⟩
  · obtain ⟨f1, f2⟩ := f h c' (by omega) (by omega)
    by_cases q : al h c'
    · have := f1 q; simp only [fO] at this; omega
    · have := f2 q; simp only [fO] at this; omega
  · have := b h (by omega); omega
  · have := c c' (by omega); omega
theorem Holds.alo (hh : Holds D o H C sup rm al ct) {h c : Nat} (h1 : h < H) (h2 : c < C) : alO D o h c ↔ al h c := by
  obtain ⟨f1, f2⟩ := hh.2.2.2 h c h1 h2
  constructor
  · intro q
    refine Classical.byContradiction fun z => ?_
    have := f2 z
    simp only [alO] at q
    omega
  · intro q
    have := f1 q
    simp only [alO]
    omega
theorem Holds.nH (hh : Holds D o H C sup rm al ct) : (D o 10).toNat = H := by have := hh.1; omega
theorem Holds.nC (hh : Holds D o H C sup rm al ct) : (D o 11).toNat = C := by have := hh.1; omega
theorem Holds.miles (hh : Holds D o H C sup rm al ct) {r : Int} (h : IsMiles (D o 10).toNat (D o 11).toNat (D (o + 3)) (D (o + 4)) (alO D o) (fO D o) r) : IsMiles H C sup rm al ct r := by
  rw [hh.nH, hh.nC] at h
  exact h.cong (fun h h1 => (hh.2.1 h h1).1) (fun c h1 => (hh.2.2.1 c h1).1) (fun h c h1 h2 => hh.alo h1 h2) (fun h c h1 h2 h3 => ((hh.2.2.2 h c h1 h2).1 ((hh.alo h1 h2).mp h3)).1)
theorem Holds.milesW (hh : Holds D o H C sup rm al ct) {c : Nat} (hc : c < C) {r : Int} (h : IsMiles (D o 10).toNat (D o 11).toNat (D (o + 3)) (fun c' => if c' = c then D (o + 4) c + 1 else D (o + 4) c') (alO D o) (fO D o) r) : IsMiles H C sup (fun c' => if c' = c then rm c + 1 else rm c') al ct r := by
  rw [hh.nH, hh.nC] at h
  refine h.cong (fun h h1 => (hh.2.1 h h1).1) (fun c' h1 => ?_) (fun h c h1 h2 => hh.alo h1 h2) (fun h c h1 h2 h3 => ((hh.2.2.2 h c h1 h2).1 ((hh.alo h1 h2).mp h3)).1)
  by_cases e : c' = c
  · subst e; rw [if_pos rfl, if_pos rfl, (hh.2.2.1 c' h1).1]
  · rw [if_neg e, if_neg e, (hh.2.2.1 c' h1).1]
theorem Holds.of (hh : Holds D o H C sup rm al ct) (e0 : D1 o = D o) (e1 : D1 (o + 1) = D (o + 1)) (e3 : D1 (o + 3) = D (o + 3)) (e4 : D1 (o + 4) = D (o + 4)) : Holds D1 o H C sup rm al ct := by
  unfold Holds fO
  rw [e0, e1, e3, e4]
  exact hh
theorem Holds.keep (hh : Holds D o H C sup rm al ct) (k : keepO o D D1) : Holds D1 o H C sup rm al ct := hh.of k.2.1 k.2.2.1 k.2.2.2.1 k.2.2.2.2
end
abbrev alC (D : DD) (h c : Nat) : Prop := ¬ bit (D 5 h) c
/-- MILES of the land, and with a seat more at c -/
noncomputable def mlC (D : DD) : Int := milesF (D 1 8).toNat (D 1 9).toNat (D 4) (D 9) (alC D) (farC D)
noncomputable def mpC (D : DD) (c : Nat) : Int := milesF (D 1 8).toNat (D 1 9).toNat (D 4) (fun c' => if c' = c then D 9 c + 1 else D 9 c') (alC D) (farC D)
theorem Loaded.holds {D D' : DD} {o : Nat} (hL : LK D) (h : Loaded D D' o) : Holds D' o (D 1 8).toNat (D 1 9).toNat (D 4) (D 9) (alC D) (farC D) := by
  obtain ⟨a1, a2, a3, a4, a5⟩ := h
  have hN := hL.1
  have hM := hL.2.1
  refine ⟨by omega, fun h hh => ⟨a3 h hh, hL.2.2.2.2.2.2.1 h⟩, fun c hc => ⟨a4 c hc, hL.2.2.2.2.2.2.2.2.2.2.2 c⟩, fun h c hh hc => ⟨fun q => ⟨?_, farC_bd hL h c⟩, fun q => ?_⟩⟩
  · show D' (o + 1) (h * 5 + c) = _
    rw [a5 h c hh hc]
    unfold farS
    rw [cif_neg q]
    rfl
  · show D' (o + 1) (h * 5 + c) = _
    rw [a5 h c hh hc]
    unfold farS
    rw [cif_pos (Classical.not_not.mp q)]
/-- what is held of the land since it was sent -/
def NowOK (D : DD) : Prop := D 0 14 = mlC D ∧ (D 0 14 = -9 ∨ (0 ≤ D 0 14 ∧ D 0 14 ≤ 360000)) ∧ (mlC D ≠ -9 → Holds D 16 (D 1 8).toNat (D 1 9).toNat (D 4) (D 9) (alC D) (farC D) ∧ PSt D 16 (D 1 8).toNat 0 ∧ mlC D = costX (D 1 8).toNat (D 1 9).toNat (fO D 16) (xO D 16) ∧ ∀ c, c < (D 1 9).toNat → 0 ≤ D 26 c ∧ D 26 c ≤ 2000000 ∧ D 26 c = mlC D - mpC D c)
def CacheN (D : DD) : Prop := -1 ≤ D 0 11 ∧ D 0 11 ≤ D 1 11 ∧ (D 0 11 = D 1 11 → NowOK D)
theorem mlC_of {D D1 : DD} (h : ∀ a, 1 ≤ a → a ≤ 9 → D1 a = D a) : mlC D1 = mlC D ∧ mpC D1 = mpC D ∧ alC D1 = alC D ∧ farC D1 = farC D := by
  have e1 : alC D1 = alC D := by unfold alC; rw [h 5 (by decide) (by decide)]
  have e2 : farC D1 = farC D := by funext x y; unfold farC; rw [h 1 (by decide) (by decide), h 2 (by decide) (by decide), h 3 (by decide) (by decide), h 6 (by decide) (by decide), h 7 (by decide) (by decide), h 8 (by decide) (by decide)]
  refine ⟨?_, ?_, e1, e2⟩
  · unfold mlC; rw [e1, e2, h 1 (by decide) (by decide), h 4 (by decide) (by decide), h 9 (by decide) (by decide)]
  · funext c; unfold mpC; rw [e1, e2, h 1 (by decide) (by decide), h 4 (by decide) (by decide), h 9 (by decide) (by decide)]
theorem NowOK.of {D D1 : DD} (hN : NowOK D) (h : ∀ a, 1 ≤ a → a ≤ 26 → (a ≤ 9 ∨ 16 ≤ a) → D1 a = D a) (h0 : D1 0 14 = D 0 14) : NowOK D1 := by
  obtain ⟨e1, e2, e3, e4⟩ := mlC_of (D := D) (D1 := D1) (fun a h1 h2 => h a h1 (by omega) (Or.inl h2))
  have z0 : D1 16 = D 16 := h 16 (by decide) (by decide) (by decide)
  have z1 : D1 17 = D 17 := h 17 (by decide) (by decide) (by decide)
  have z2 : D1 18 = D 18 := h 18 (by decide) (by decide) (by decide)
  have z3 : D1 19 = D 19 := h 19 (by decide) (by decide) (by decide)
  have z4 : D1 20 = D 20 := h 20 (by decide) (by decide) (by decide)
  have z5 : D1 21 = D 21 := h 21 (by decide) (by decide) (by decide)
  have z10 : D1 26 = D 26 := h 26 (by decide) (by decide) (by decide)
  have f : fO D1 16 = fO D 16 := by unfold fO; rw [z1]
  have x : xO D1 16 = xO D 16 := by unfold xO; rw [z2]
  have al : alO D1 16 = alO D 16 := by unfold alO; rw [f]
  have su : supO D1 16 = supO D 16 := by unfold supO; rw [z3]
  unfold NowOK PSt at *
  rw [e1, e2, e3, e4, h0, h 1 (by decide) (by decide) (by decide), h 4 (by decide) (by decide) (by decide), h 9 (by decide) (by decide) (by decide), f, x, al, su, z0, z4, z5, z10, z2]
  exact ⟨hN.1, hN.2.1, fun q => ⟨((hN.2.2 q).1).of z0 z1 z3 z4, (hN.2.2 q).2⟩⟩

