/-! a text of a land; co p is the code at place p, -1 behind the end -/
abbrev dgt (c : Int) : Prop := 48 ≤ c ∧ c ≤ 57
def nLen (co : Nat → Int) (p : Nat) : Nat := if dgt (co p) then (if dgt (co (p + 1)) then 2 else 1) else 0
def nVal (co : Nat → Int) (p : Nat) : Int := if dgt (co p) then (if dgt (co (p + 1)) then 10 * (co p - 48) + co (p + 1) - 48 else co p - 48) else 0
abbrev nOk (co : Nat → Int) (p : Nat) (lo hi : Int) : Prop := dgt (co p) ∧ lo ≤ nVal co p ∧ nVal co p ≤ hi
theorem nLen_le (co : Nat → Int) (p : Nat) : nLen co p ≤ 2 := by unfold nLen; split <;> first | omega | (split <;> omega)
theorem nLen_pos {co : Nat → Int} {p : Nat} {lo hi : Int} (h : nOk co p lo hi) : 1 ≤ nLen co p := by unfold nLen; rw [if_pos h.1]; split <;> omega
theorem nVal_bd (co : Nat → Int) (p : Nat) : 0 ≤ nVal co p ∧ nVal co p ≤ 99 := by unfold nVal; split <;> first | omega | (split <;> omega)
def kdR (c : Int) : Int := if c = 113 then 0 else if c = 115 then 1 else if c = 102 then 2 else if c = 104 then 3 else -1
theorem kdR_bd (c : Int) : -1 ≤ kdR c ∧ kdR c ≤ 3 := by unfold kdR; split <;> first | omega | (split <;> first | omega | (split <;> first | omega | (split <;> omega)))
/-- the first fault so far (-1: none) -/
noncomputable def fs (F : Int) (c : Prop) (q : Nat) : Int := cif (F = -1 ∧ ¬ c) q F
theorem fs_bad {F : Int} {c : Prop} {q : Nat} (h : F ≠ -1) : fs F c q = F := by unfold fs; rw [cif_neg (fun z => h z.1)]
theorem fs_go {c : Prop} {q : Nat} (h : c) : fs (-1) c q = -1 := by unfold fs; rw [cif_neg (fun z => z.2 h)]
theorem fs_no {c : Prop} {q : Nat} (h : ¬ c) : fs (-1) c q = q := by unfold fs; rw [cif_pos ⟨rfl, h⟩]
theorem fs_ok {F : Int} {c : Prop} {q : Nat} (h : fs F c q = -1) : F = -1 ∧ c := by
  by_cases e : F = -1
  · subst e
    refine ⟨rfl, Classical.byContradiction fun z => ?_⟩
    rw [fs_no z] at h; omega
  · rw [fs_bad e] at h; exact absurd h e
theorem fs_bd {F : Int} {c : Prop} {q : Nat} {m : Int} (h : -1 ≤ F ∧ F ≤ m) (hq : (q : Int) ≤ m) : -1 ≤ fs F c q ∧ fs F c q ≤ m := by
  unfold fs
  by_cases e : F = -1 ∧ ¬ c
  · rw [cif_pos e]; omega
  · rw [cif_neg e]; exact h
abbrev kOk (k : Int) (hc cc : Nat) : Prop := (k = 3 ∧ hc < 10) ∨ (0 ≤ k ∧ k ≤ 2 ∧ cc < 5)
def sgn (k : Int) : Int := if k = 3 then 42 else 61
def loT (k : Int) : Int := if k = 3 then 1 else 0
def hiT (k : Int) : Int := if k = 3 then 5 else 50
def q2 (co : Nat → Int) (p : Nat) : Nat := p + 1 + nLen co (p + 1)
def q4 (co : Nat → Int) (p : Nat) : Nat := q2 co p + 1 + nLen co (q2 co p + 1)
def itE (co : Nat → Int) (p : Nat) : Nat := q4 co p + 1 + nLen co (q4 co p + 1)
noncomputable def itF3 (co : Nat → Int) (p hc cc : Nat) : Int := fs (fs (fs (-1) (kOk (kdR (co p)) hc cc) p) (nOk co (p + 1) 0 60) (p + 1)) (co (q2 co p) = 44) (q2 co p)
noncomputable def itF (co : Nat → Int) (p hc cc : Nat) : Int := fs (fs (fs (itF3 co p hc cc) (nOk co (q2 co p + 1) 0 60) (q2 co p + 1)) (co (q4 co p) = sgn (kdR (co p))) (q4 co p)) (nOk co (q4 co p + 1) (loT (kdR (co p))) (hiT (kdR (co p)))) (q4 co p + 1)
theorem itE_le (co : Nat → Int) (p : Nat) : p + 3 ≤ itE co p ∧ itE co p ≤ p + 9 ∧ p + 1 ≤ q2 co p ∧ q2 co p ≤ p + 3 ∧ q2 co p + 1 ≤ q4 co p ∧ q4 co p ≤ p + 6 := by
  have a := nLen_le co (p + 1)
  have b := nLen_le co (q2 co p + 1)
  have c := nLen_le co (q4 co p + 1)
  unfold itE
  unfold q4 at *
  unfold q2 at *
  omega
theorem itF_ok {co : Nat → Int} {p hc cc : Nat} (h : itF co p hc cc = -1) : kOk (kdR (co p)) hc cc ∧ nOk co (p + 1) 0 60 ∧ nOk co (q2 co p + 1) 0 60 ∧ nOk co (q4 co p + 1) (loT (kdR (co p))) (hiT (kdR (co p))) := by
  unfold itF itF3 at h
  obtain ⟨h, a6⟩ := fs_ok h
  obtain ⟨h, a5⟩ := fs_ok h
  obtain ⟨h, a4⟩ := fs_ok h
  obtain ⟨h, a3⟩ := fs_ok h
  obtain ⟨h, a2⟩ := fs_ok h
  obtain ⟨h, a1⟩ := fs_ok h
  exact ⟨a1, a2, a4, a6⟩
theorem itF_6 {co : Nat → Int} {p hc cc : Nat} (h : itF co p hc cc = -1) : p + 6 ≤ itE co p := by
  obtain ⟨-, a, b, c⟩ := itF_ok h
  have a := nLen_pos a
  have b := nLen_pos b
  have c := nLen_pos c
  unfold itE
  unfold q4 at *
  unfold q2 at *
  omega
theorem itF_bd (co : Nat → Int) (p hc cc : Nat) : -1 ≤ itF co p hc cc ∧ itF co p hc cc ≤ p + 9 := by
  have e := itE_le co p
  unfold itF itF3
  exact fs_bd (fs_bd (fs_bd (fs_bd (fs_bd (fs_bd (by omega) (by omega)) (by omega)) (by omega)) (by omega)) (by omega)) (by omega)
def psT (co : Nat → Int) : Nat → Nat
  | 0 => 0
  | m + 1 => itE co (psT co m) + 1
def kT (co : Nat → Int) (m : Nat) : Int := kdR (co (psT co m))
def hcT (co : Nat → Int) : Nat → Nat
  | 0 => 0
  | m + 1 => hcT co m + (if kT co m = 3 then 1 else 0)
theorem hcT_le (co : Nat → Int) : ∀ m, hcT co m ≤ m
  | 0 => Nat.le_refl _
  | m + 1 => by have := hcT_le co m; simp only [hcT]; split <;> omega
noncomputable def fT (co : Nat → Int) (m : Nat) : Int := itF co (psT co m) (hcT co m) (m - hcT co m)
def eT (co : Nat → Int) (m : Nat) : Nat := itE co (psT co m)
def xT (co : Nat → Int) (m : Nat) : Int := nVal co (psT co m + 1)
def yT (co : Nat → Int) (m : Nat) : Int := nVal co (q2 co (psT co m) + 1)
def nT (co : Nat → Int) (m : Nat) : Int := nVal co (q4 co (psT co m) + 1)
/-- item m is read, and a further one follows -/
def GoT (co : Nat → Int) (m : Nat) : Prop := fT co m = -1 ∧ co (eT co m) = 59
/-- m items are read with ; behind each; at the next the reading ends -/
def EndT (co : Nat → Int) (m : Nat) : Prop := (∀ j, j < m → GoT co j) ∧ ¬ GoT co m
theorem EndT.uniq {co : Nat → Int} {m k : Nat} (h1 : EndT co m) (h2 : EndT co k) : m = k := by
  rcases Nat.lt_trichotomy m k with h | h | h
  · exact absurd (h2.1 m h) h1.2
  · exact h
  · exact absurd (h1.1 k h) h2.2
section
variable {co : Nat → Int} {n m : Nat}
theorem psT_ge : ∀ m, (∀ j, j < m → GoT co j) → 7 * m ≤ psT co m
  | 0, _ => by omega
  | m + 1, h => by
    have i := psT_ge m (fun j hj => h j (by omega))
    have := itF_6 (h m (by omega)).1
    simp only [psT]
    omega
/-- the text is short: at most eleven items -/
theorem go_le (hn : n ≤ 80) (he : ∀ p, n ≤ p → co p = -1) (h : ∀ j, j < m → GoT co j) : m ≤ 11 ∧ psT co m ≤ 80 := by
  rcases Nat.eq_zero_or_pos m with e | e
  · subst e; exact ⟨by omega, by simp only [psT]; omega⟩
  · obtain ⟨k, rfl⟩ : ∃ k, m = k + 1 := ⟨m - 1, by omega⟩
    have a := psT_ge (co := co) (k + 1) h
    have b := (h k (by omega)).2
    have c : eT co k < n := Classical.byContradiction fun z => by
      have := he (eT co k) (by omega)
      omega
    unfold eT at c
    simp only [psT] at a ⊢
    omega
theorem hcT_bd : ∀ m, (∀ j, j < m → fT co j = -1) → hcT co m ≤ 10 ∧ m - hcT co m ≤ 5
  | 0, _ => by simp [hcT]
  | m + 1, h => by
    have i := hcT_bd m (fun j hj => h j (by omega))
    have k := (itF_ok (h m (by omega))).1
    have l := hcT_le co m
    unfold kOk at k
    simp only [hcT]
    show hcT co m + (if kdR (co (psT co m)) = 3 then 1 else 0) ≤ 10 ∧ m + 1 - (hcT co m + (if kdR (co (psT co m)) = 3 then 1 else 0)) ≤ 5
    split <;> omega
/-- where items go in a land -/
def Laid (co : Nat → Int) (j : Nat) (hx hy hd kd cx cy se : Nat → Int) : Prop := ∀ t, t < j → (kT co t = 3 → hx (hcT co t) = xT co t ∧ hy (hcT co t) = yT co t ∧ hd (hcT co t) = nT co t) ∧ (kT co t ≠ 3 → kd (t - hcT co t) = kT co t ∧ cx (t - hcT co t) = xT co t ∧ cy (t - hcT co t) = yT co t ∧ se (t - hcT co t) = nT co t)
theorem hcT_sur : ∀ j h, h < hcT co j → ∃ t, t < j ∧ kT co t = 3 ∧ hcT co t = h
  | 0, h, hh => by simp [hcT] at hh
  | j + 1, h, hh => by
    by_cases e : h < hcT co j
    · obtain ⟨t, a, b, c⟩ := hcT_sur j h e
      exact ⟨t, by omega, b, c⟩
    · simp only [hcT] at hh
      by_cases k : kT co j = 3
      · rw [if_pos k] at hh; exact ⟨j, by omega, k, by omega⟩
      · rw [if_neg k] at hh; omega
theorem ccT_sur : ∀ j c, c < j - hcT co j → ∃ t, t < j ∧ kT co t ≠ 3 ∧ t - hcT co t = c
  | 0, c, hh => by omega
  | j + 1, c, hh => by
    have l := hcT_le co j
    by_cases e : c < j - hcT co j
    · obtain ⟨t, a, b, d⟩ := ccT_sur j c e
      exact ⟨t, by omega, b, d⟩
    · simp only [hcT] at hh
      by_cases k : kT co j = 3
      · rw [if_pos k] at hh; omega
      · rw [if_neg k] at hh; exact ⟨j, by omega, k, by omega⟩
theorem Laid.same {j : Nat} {hx hy hd kd cx cy se hx' hy' hd' kd' cx' cy' se' : Nat → Int} (h1 : Laid co j hx hy hd kd cx cy se) (h2 : Laid co j hx' hy' hd' kd' cx' cy' se') : (∀ h, h < hcT co j → hx h = hx' h ∧ hy h = hy' h ∧ hd h = hd' h) ∧ ∀ c, c < j - hcT co j → kd c = kd' c ∧ cx c = cx' c ∧ cy c = cy' c ∧ se c = se' c := by
  refine ⟨fun h hh => ?_, fun c hc => ?_⟩
  · obtain ⟨t, a, b, e⟩ := hcT_sur j h hh
    have x := (h1 t a).1 b
    have y := (h2 t a).1 b
    rw [e] at x y
    exact ⟨x.1.trans y.1.symm, x.2.1.trans y.2.1.symm, x.2.2.trans y.2.2.symm⟩
  · obtain ⟨t, a, b, e⟩ := ccT_sur j c hc
    have x := (h1 t a).2 b
    have y := (h2 t a).2 b
    rw [e] at x y
    exact ⟨x.1.trans y.1.symm, x.2.1.trans y.2.1.symm, x.2.2.1.trans y.2.2.1.symm, x.2.2.2.trans y.2.2.2.symm⟩
end

