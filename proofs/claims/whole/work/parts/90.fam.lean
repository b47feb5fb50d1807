/-! families kept together: rows of churches, as numbers -/
def dg (C H row h : Nat) : Nat := row / C ^ (H - 1 - h) % C
theorem dg_pre {C H h row q : Nat} (hh : h ≤ H) (e : row / C ^ (H - h) = q) {h' : Nat} (h1 : h' < h) : dg C H row h' = dg C h q h' := by
  unfold dg
  rw [← e, Nat.div_div_eq_div_mul, ← Nat.pow_add, show H - h + (h - 1 - h') = H - 1 - h' by omega]
theorem dg_child {C h q c : Nat} (hc : c < C) {h' : Nat} (h1 : h' < h) : dg C (h + 1) (q * C + c) h' = dg C h q h' := by
  refine dg_pre (H := h + 1) (by omega) ?_ h1
  rw [show h + 1 - h = 1 by omega, Nat.pow_one, Nat.add_comm, Nat.add_mul_div_right _ _ (by omega), Nat.div_eq_of_lt hc, Nat.zero_add]
theorem dg_last {C h q c : Nat} (hc : c < C) : dg C (h + 1) (q * C + c) h = c := by
  unfold dg
  rw [show h + 1 - 1 - h = 0 by omega, Nat.pow_zero, Nat.div_one, Nat.add_comm, Nat.add_mul_mod_self_right, Nat.mod_eq_of_lt hc]
theorem div_at {M q row : Nat} (h1 : q * M ≤ row) (h2 : row < (q + 1) * M) : row / M = q := by
  have hM : 0 < M := by
    rcases Nat.eq_zero_or_pos M with e | e
    · subst e; omega
    · exact e
  exact Nat.div_eq_of_lt_le h1 h2
theorem ArgM.skips {ok : Nat → Prop} {f : Nat → Int} {r : Int} {n : Nat} (h : ArgM n ok f r) : ∀ (k : Nat), (∀ j, n ≤ j → j < n + k → ok j → ∃ i : Nat, r = (i : Int) ∧ f i ≤ f j) → ArgM (n + k) ok f r
  | 0, _ => h
  | k + 1, hs => (ArgM.skips h k (fun j h1 h2 => hs j h1 (by omega))).skip (fun q => hs (n + k) (by omega) (by omega) q)
def lvG (se hd : Nat → Int) (s : Nat → Nat) (h c : Nat) : Int := se c - sm h (fun h' => if s h' = c then hd h' else 0)
def okG (C : Nat) (al : Nat → Nat → Prop) (se hd : Nat → Int) (n : Nat) (s : Nat → Nat) : Prop := ∀ h, h < n → s h < C ∧ al h (s h) ∧ hd h ≤ lvG se hd s h (s h)
def csG (hd : Nat → Int) (ct : Nat → Nat → Int) (n : Nat) (s : Nat → Nat) : Int := sm n (fun h => hd h * ct h (s h))
theorem lvG_cong {se hd : Nat → Int} {s s' : Nat → Nat} {h : Nat} (e : ∀ h', h' < h → s h' = s' h') (c : Nat) : lvG se hd s h c = lvG se hd s' h c := by
  unfold lvG
  rw [sm_cong h (fun j hj => by rw [e j hj])]
theorem okG_cong {C : Nat} {al : Nat → Nat → Prop} {se hd : Nat → Int} {s s' : Nat → Nat} {n : Nat} (e : ∀ h', h' < n → s h' = s' h') (h : okG C al se hd n s) : okG C al se hd n s' := by
  intro j hj
  have z := h j hj
  rw [lvG_cong (s' := s') (fun h' hh => e h' (by omega)), e j hj] at z
  exact z
theorem csG_cong {hd : Nat → Int} {ct : Nat → Nat → Int} {s s' : Nat → Nat} {n : Nat} (e : ∀ h', h' < n → s h' = s' h') : csG hd ct n s = csG hd ct n s' := sm_cong n (fun j hj => by rw [e j hj])
theorem csG_bd {hd : Nat → Int} {ct : Nat → Nat → Int} (b1 : ∀ h, 0 ≤ hd h ∧ hd h ≤ 5) (b2 : ∀ h c, 0 ≤ ct h c ∧ ct h c ≤ 7200) (n : Nat) (s : Nat → Nat) : 0 ≤ csG hd ct n s ∧ csG hd ct n s ≤ n * 36000 := by
  have := sm_bd (f := fun h => hd h * ct h (s h)) (a := 0) (b := 36000) n (fun j _ => by
    have x := b1 j
    have y := b2 j (s j)
    exact ⟨Int.mul_nonneg x.1 y.1, Int.le_trans (Int.mul_le_mul x.2 y.2 y.1 (by decide)) (by decide)⟩)
  unfold csG
  omega
/-- rows that send every home whole; what a row costs -/
def okRow (C H : Nat) (al : Nat → Nat → Prop) (se hd : Nat → Int) (row : Nat) : Prop := okG C al se hd H (dg C H row)
def csRow (C H : Nat) (hd : Nat → Int) (ct : Nat → Nat → Int) (row : Nat) : Int := csG hd ct H (dg C H row)
/-- the best row among the first n is kept (least at 8 of cell 38, its churches in cell 44) -/
def FamI (D : DD) (C H : Nat) (al : Nat → Nat → Prop) (se hd : Nat → Int) (ct : Nat → Nat → Int) (n : Nat) : Prop := ∃ r, ArgM n (okRow C H al se hd) (csRow C H hd ct) r ∧ ((r = -9 ∧ D 38 8 = 500000000) ∨ (0 ≤ r ∧ D 38 8 = csRow C H hd ct r.toNat ∧ ∀ h, h < H → D 44 h = (dg C H r.toNat h : Nat)))
def FmK (D : DD) (C H : Nat) (al : Nat → Nat → Prop) (hd : Nat → Int) (ct : Nat → Nat → Int) : Prop := D 38 6 = H ∧ D 38 7 = C ∧ (∀ h, h < H → D 40 h = hd h) ∧ (∀ h c, h < H → c < C → (al h c → D 39 (h * 5 + c) = hd h * ct h c) ∧ (¬ al h c → D 39 (h * 5 + c) = 500000000)) ∧ (∀ h, h ≤ H → (0 ≤ D 42 h ∧ D 42 h ≤ 500000000) ∧ ∀ s : Nat → Nat, (∀ h', h' < H → s h' < C ∧ al h' (s h')) → D 42 h ≤ csG hd ct H s - csG hd ct h s) ∧ D 42 H = 0
/-- homes before h go by the digits of q -/
def PreI (D : DD) (C : Nat) (al : Nat → Nat → Prop) (se hd : Nat → Int) (ct : Nat → Nat → Int) (h q : Nat) (sum : Int) : Prop := sum = csG hd ct h (dg C h q) ∧ (∀ h', h' < h → D 43 h' = (dg C h q h' : Nat)) ∧ (∀ c, c < C → D 41 c = lvG se hd (dg C h q) h c) ∧ okG C al se hd h (dg C h q)
def FrF (C h : Nat) (D D' : DD) : Prop := (∀ r, r ≠ 38 → r ≠ 41 → r ≠ 43 → r ≠ 44 → D' r = D r) ∧ (∀ j, j ≠ 8 → D' 38 j = D 38 j) ∧ (∀ c, c < C → D' 41 c = D 41 c) ∧ ∀ h', h' < h → D' 43 h' = D 43 h'
theorem FrF.rf {C h : Nat} {D : DD} : FrF C h D D := ⟨fun _ _ _ _ _ => rfl, fun _ _ => rfl, fun _ _ => rfl, fun _ _ => rfl⟩
theorem FmK.of {D D1 : DD} {C H h : Nat} {al : Nat → Nat → Prop} {hd : Nat → Int} {ct : Nat → Nat → Int} (k : FmK D C H al hd ct) (f : FrF C h D D1) : FmK D1 C H al hd ct := by
  unfold FmK
  rw [f.2.1 6 (by decide), f.2.1 7 (by decide), f.1 39 (by decide) (by decide) (by decide) (by decide), f.1 40 (by decide) (by decide) (by decide) (by decide), f.1 42 (by decide) (by decide) (by decide) (by decide)]
  exact k
theorem PreI.of {D D1 : DD} {C h q : Nat} {al : Nat → Nat → Prop} {se hd : Nat → Int} {ct : Nat → Nat → Int} {sum : Int} (k : PreI D C al se hd ct h q sum) (f : FrF C h D D1) : PreI D1 C al se hd ct h q sum := ⟨k.1, fun h' hh => (f.2.2.2 h' hh).trans (k.2.1 h' hh), fun c hc => (f.2.2.1 c hc).trans (k.2.2.1 c hc), k.2.2.2⟩
section
variable {D : DD} {C H h q k : Nat} {al : Nat → Nat → Prop} {se hd : Nat → Int} {ct : Nat → Nat → Int} {sum : Int}
/-- a row of the interval begins as q says -/
theorem row_pre (hk : h + k = H) {row : Nat} (h1 : q * C ^ k ≤ row) (h2 : row < (q + 1) * C ^ k) {h' : Nat} (hh : h' < h) : dg C H row h' = dg C h q h' := dg_pre (by omega) (by rw [show H - h = k by omega]; exact div_at h1 h2) hh
theorem FamI.skips {n m : Nat} (hF : FamI D C H al se hd ct n) (hm : n ≤ m) (hs : ∀ j, n ≤ j → j < m → okRow C H al se hd j → D 38 8 ≤ csRow C H hd ct j ∧ csRow C H hd ct j < 500000000) : FamI D C H al se hd ct m := by
  obtain ⟨r, hA, hr⟩ := hF
  refine ⟨r, ?_, hr⟩
  have z := ArgM.skips hA (m - n) (fun j h1 h2 ok => ?_)
  · rw [show n + (m - n) = m by omega] at z; exact z
  · have y := hs j h1 (by omega) ok
    rcases hr with ⟨a, b⟩ | ⟨a, b, -⟩
    · omega
    · exact ⟨r.toNat, by omega, by omega⟩
theorem FamI.none {n m : Nat} (hF : FamI D C H al se hd ct n) (hm : n ≤ m) (hs : ∀ j, n ≤ j → j < m → ¬ okRow C H al se hd j) : FamI D C H al se hd ct m := hF.skips hm (fun j h1 h2 ok => absurd ok (hs j h1 h2))
/-- nothing below the bound in this interval -/
theorem FamI.prune (hF : FamI D C H al se hd ct (q * C ^ k)) (hk : h + k = H) (hK : FmK D C H al hd ct) (hP : PreI D C al se hd ct h q sum) (b1 : ∀ h, 0 ≤ hd h ∧ hd h ≤ 5) (b2 : ∀ h c, 0 ≤ ct h c ∧ ct h c ≤ 7200) (hH : H ≤ 7) (hge : D 38 8 ≤ sum + D 42 h) : FamI D C H al se hd ct ((q + 1) * C ^ k) := by
  refine hF.skips (Nat.mul_le_mul_right _ (by omega)) (fun j h1 h2 ok => ?_)
  have a := (hK.2.2.2.2.1 h (by omega)).2 (dg C H j) (fun h' hh => ⟨(ok h' hh).1, (ok h' hh).2.1⟩)
  have e : csG hd ct h (dg C H j) = sum := by rw [hP.1]; exact csG_cong (fun h' hh => row_pre hk h1 h2 hh)
  have b := csG_bd b1 b2 H (dg C H j)
  have b' : (H : Int) * 36000 ≤ 252000 := by omega
  show D 38 8 ≤ csG hd ct H (dg C H j) ∧ csG hd ct H (dg C H j) < 500000000
  omega
/-- church c of home h is shut to it, or has not room for it -/
theorem FamI.shut {c : Nat} (hF : FamI D C H al se hd ct ((q * C + c) * C ^ k)) (hk : h + 1 + k = H) (hP : PreI D C al se hd ct h q sum) (hc : c < C) (hn : ¬ al h c ∨ D 41 c < hd h) : FamI D C H al se hd ct ((q * C + (c + 1)) * C ^ k) := by
  refine hF.none (Nat.mul_le_mul_right _ (by omega)) (fun j h1 h2 ok => ?_)
  rw [show q * C + (c + 1) = q * C + c + 1 by omega] at h2
  have p : ∀ h', h' < h + 1 → dg C H j h' = dg C (h + 1) (q * C + c) h' := fun h' hh => row_pre hk h1 h2 hh
  have o := ok h (by omega)
  rw [p h (by omega), dg_last hc, lvG_cong (s' := dg C h q) (fun h' hh => (p h' (by omega)).trans (dg_child hc hh)), ← hP.2.2.1 c hc] at o
  rcases hn with z | z
  · exact z o.2.1
  · omega
theorem FamI.keep {D' : DD} (hF : FamI D C H al se hd ct q) (hP : PreI D C al se hd ct H q sum) (hlt : sum < D 38 8) (e8 : D' 38 8 = sum) (e44 : ∀ h, h < H → D' 44 h = D 43 h) : FamI D' C H al se hd ct (q + 1) := by
  obtain ⟨r, hA, hr⟩ := hF
  have ec : csRow C H hd ct q = sum := hP.1.symm
  refine ⟨(q : Int), hA.take hP.2.2.2 (fun i hi e => ?_), Or.inr ⟨by omega, by rw [Int.toNat_natCast, ec]; exact e8, fun h hh => by rw [Int.toNat_natCast, e44 h hh]; exact hP.2.1 h hh⟩⟩
  rw [ec]
  rcases hr with ⟨a, b⟩ | ⟨a, b, -⟩
  · omega
  · subst e; rw [Int.toNat_natCast] at b; omega
end

