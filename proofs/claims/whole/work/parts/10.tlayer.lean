def nestW : List Cond := [(Jvm.Cond.methodLinkNest "NearSeats" (11 : Nat) ({ cls := "NearSeats$Land", name := "<init>", desc := "()V" } : Jvm.MethodName) "NearSeats"), (Jvm.Cond.methodLinkNest "NearSeats" (20 : Nat) ({ cls := "NearSeats$LandText", name := "<init>", desc := "()V" } : Jvm.MethodName) "NearSeats"), (Jvm.Cond.methodLinkNest "NearSeats" (27 : Nat) ({ cls := "NearSeats$Sender", name := "<init>", desc := "()V" } : Jvm.MethodName) "NearSeats"), (Jvm.Cond.methodLinkNest "NearSeats" (37 : Nat) ({ cls := "NearSeats$Families", name := "<init>", desc := "()V" } : Jvm.MethodName) "NearSeats"), (Jvm.Cond.methodLinkNest "NearSeats" (44 : Nat) ({ cls := "NearSeats$Teller", name := "<init>", desc := "()V" } : Jvm.MethodName) "NearSeats"), (Jvm.Cond.methodLinkNest "NearSeats" (72 : Nat) ({ cls := "NearSeats$Sheet", name := "<init>", desc := "()V" } : Jvm.MethodName) "NearSeats"), (Jvm.Cond.methodLinkNest "NearSeats$LandText" (96 : Nat) ({ cls := "NearSeats", name := "isWithin", desc := "(III)Z" } : Jvm.MethodName) "NearSeats")]
/-! T: the judgement of this proof. A method's state is seen as: the cells made since the base (their shapes S, whose references are numbers of cells), the ints in them (D: cell, place), the locals L, the stack st. -/
def tw : List Cond := lw_tbl.filter goodWord
theorem tw_good {w : Cond} (h : w ∈ tw) : goodWord w = true := (List.mem_filter.mp h).2
theorem tw_t {w : Cond} (i : Nat) (h : tables_1[i]? = some w) (hg : goodWord w = true) : w ∈ tw := List.mem_filter.mpr ⟨List.mem_append_right _ (List.mem_of_getElem? h), hg⟩
theorem tw_s {w : Cond} (i : Nat) (h : (k2_sels lw_privs)[i]? = some w) (hg : goodWord w = true) : w ∈ tw := List.mem_filter.mpr ⟨List.mem_append_left _ (List.mem_of_getElem? h), hg⟩
theorem tw_hts {args : Array Value} {s : State} (h : ∀ w ∈ lw_tbl, w.before args s = true) : ∀ w ∈ tw, w.before args s = true := fun w hw => h w (List.mem_filter.mp hw).1
theorem tw_in {w : Cond} (hw : w ∈ tw) : GoodIn tw (w :: tw) := fun v hv => by
  rcases List.mem_cons.mp hv with rfl | h
  · exact ⟨hw, good_of_word (tw_good hw)⟩
  · exact ⟨h, good_of_word (tw_good h)⟩
abbrev G0 : Type := Nat × (Nat × Nat × (Nat → Int32)) × va_G × ClassId × ClassId × ClassId
abbrev DD : Type := Nat → Nat → Int
abbrev SC : Type := Nat × Nat × List (Option Value)
abbrev MI : Type := String × ByteArray × Nat × Option FieldType × Bool
def iI (a : Int) : Value := .int (Int32.ofInt a)
def lI (a : Int) : Value := .long (Int64.ofInt a)
def cv (g : G0) : Value → Value
  | .ref i => .ref (g.1 + i)
  | .float _ => .ref g.2.1.1
  | v => v
theorem cv_cat (g : G0) (v : Value) : (cv g v).category = v.category := by cases v <;> rfl
def fv (g : G0) (D : DD) (i : Nat) : Nat → List (Option Value) → List Value
  | _, [] => []
  | k, some v :: r => cv g v :: fv g D i (k + 1) r
  | k, none :: r => iI (D i k) :: fv g D i (k + 1) r
def rf (g : G0) (fs : List (Option Value)) (j : Nat) : Option Nat := match fs[j]? with
  | some (some (.ref a)) => some (g.1 + a)
  | _ => none
def ce (g : G0) (D : DD) (i : Nat) (x : SC) : va_E := match x.1 with
  | 0 => .inr (x.2.1, fv g D i 0 x.2.2)
  | 1 => .inl (g.2.2.2.1, (x.2.1, .inl (fun j => Int32.ofInt (D i j))))
  | 2 => .inl (g.2.2.2.2.1, (x.2.1, .inl (fun j => Int32.ofInt (D i j))))
  | _ => .inl (g.2.2.2.2.2, (x.2.1, .inr (.inr (.inr (.inr (rf g x.2.2))))))
def wsO (g : G0) (D : DD) : Nat → List SC → va_W
  | _, [] => []
  | i, x :: r => (g.1 + i, ce g D i x) :: wsO g D (i + 1) r
theorem wsO_get (g : G0) (D : DD) : ∀ (S : List SC) (i k : Nat) (x : SC), S[k]? = some x → (wsO g D i S)[k]? = some (g.1 + (i + k), ce g D (i + k) x)
  | [], i, k, x, h => by simp at h
  | y :: r, i, 0, x, h => by
    simp only [List.getElem?_cons_zero, Option.some.injEq] at h
    subst h
    rfl
  | y :: r, i, k + 1, x, h => by
    simp only [List.getElem?_cons_succ] at h
    have h1 := wsO_get g D r (i + 1) k x h
    rw [show i + 1 + k = i + (k + 1) by omega] at h1
    exact h1
theorem wsO_fst (g : G0) (D : DD) : ∀ (S : List SC) (i k : Nat) (q : Nat × va_E), (wsO g D i S)[k]? = some q → q.1 = g.1 + (i + k) ∧ k < S.length
  | [], i, k, q, h => by simp [wsO] at h
  | y :: r, i, 0, q, h => by
    simp only [wsO, List.getElem?_cons_zero, Option.some.injEq] at h
    subst h
    exact ⟨rfl, by simp⟩
  | y :: r, i, k + 1, q, h => by
    simp only [wsO, List.getElem?_cons_succ] at h
    have h1 := wsO_fst g D r (i + 1) k q h
    exact ⟨by rw [h1.1]; omega, by simp only [List.length_cons]; omega⟩
theorem wsO_D (g : G0) (D : DD) (S : List SC) : va_D (fun q => g.1 ≤ q) (wsO g D 0 S) := by
  refine ⟨fun i j p q hi hj hpq => ?_, fun k q hk => ?_⟩
  · have h1 := (wsO_fst g D S 0 i p hi).1
    have h2 := (wsO_fst g D S 0 j q hj).1
    omega
  · have h1 := (wsO_fst g D S 0 k q hk).1
    show g.1 ≤ q.1
    omega
theorem fv_cong (g : G0) {D D' : DD} {i : Nat} (h : D i = D' i) : ∀ (fs : List (Option Value)) (k : Nat), fv g D i k fs = fv g D' i k fs
  | [], _ => rfl
  | some v :: r, k => by simp only [fv, fv_cong g h r (k + 1)]
  | none :: r, k => by simp only [fv, fv_cong g h r (k + 1), h]
theorem ce_cong (g : G0) {D D' : DD} {i : Nat} (h : D i = D' i) (x : SC) : ce g D i x = ce g D' i x := by
  unfold ce
  rw [fv_cong g h, h]
theorem wsO_cong (g : G0) {D D' : DD} : ∀ (S : List SC) (i : Nat), (∀ r, i ≤ r → D r = D' r) → wsO g D i S = wsO g D' i S
  | [], _, _ => rfl
  | x :: r, i, h => by
    simp only [wsO]
    rw [ce_cong g (h i (Nat.le_refl _)), wsO_cong g r (i + 1) (fun r hr => h r (by omega))]
theorem wsO_set (g : G0) {D D' : DD} : ∀ (S : List SC) (i k : Nat) (x : SC), k < S.length → (∀ r, r ≠ i + k → D' r = D r) → (wsO g D i S).set k (g.1 + (i + k), ce g D' (i + k) x) = wsO g D' i (S.set k x)
  | [], i, k, x, h, _ => by simp at h
  | y :: r, i, 0, x, h, hr => by
    show (g.1 + (i + 0), ce g D' (i + 0) x) :: wsO g D (i + 1) r = (g.1 + i, ce g D' i x) :: wsO g D' (i + 1) r
    rw [wsO_cong g (D := D) (D' := D') r (i + 1) (fun q hq => (hr q (by omega)).symm)]
    rfl
  | y :: r, i, k + 1, x, h, hr => by
    show (g.1 + i, ce g D i y) :: (wsO g D (i + 1) r).set k (g.1 + (i + (k + 1)), ce g D' (i + (k + 1)) x) = (g.1 + i, ce g D' i y) :: wsO g D' (i + 1) (r.set k x)
    have h1 := wsO_set g (D := D) (D' := D') r (i + 1) k x (by simpa using h) (fun q hq => hr q (by omega))
    rw [show i + 1 + k = i + (k + 1) by omega] at h1
    rw [h1, ce_cong g (D := D) (D' := D') (hr i (by omega)).symm y]
theorem set_same {α : Type} : ∀ (S : List α) (k : Nat) (x : α), S[k]? = some x → S.set k x = S
  | [], k, x, h => by simp at h
  | y :: r, 0, x, h => by simp only [List.getElem?_cons_zero, Option.some.injEq] at h; subst h; rfl
  | y :: r, k + 1, x, h => by
    simp only [List.getElem?_cons_succ] at h
    show y :: r.set k x = y :: r
    rw [set_same r k x h]
theorem wsO_upd (g : G0) {D D' : DD} {S : List SC} {k : Nat} {x : SC} (h : S[k]? = some x) (hr : ∀ r, r ≠ k → D' r = D r) : (wsO g D 0 S).set k (g.1 + k, ce g D' k x) = wsO g D' 0 S := by
  have h1 := wsO_set g (D := D) (D' := D') S 0 k x (List.getElem?_eq_some_iff.mp h).1 (fun r hq => hr r (by omega))
  rw [Nat.zero_add, set_same S k x h] at h1
  exact h1
theorem wsO_push (g : G0) (D : DD) : ∀ (S : List SC) (i : Nat) (x : SC), wsO g D i (S ++ [x]) = wsO g D i S ++ [(g.1 + (i + S.length), ce g D (i + S.length) x)]
  | [], i, x => rfl
  | y :: r, i, x => by
    show (g.1 + i, ce g D i y) :: wsO g D (i + 1) (r ++ [x]) = (g.1 + i, ce g D i y) :: (wsO g D (i + 1) r ++ _)
    rw [wsO_push g D r (i + 1) x, show i + 1 + r.length = i + (y :: r).length by simp only [List.length_cons]; omega]
theorem fv_get (g : G0) (D : DD) (i : Nat) : ∀ (fs : List (Option Value)) (k j : Nat) (o : Option Value), fs[j]? = some o → (fv g D i k fs)[j]? = some (match o with | some v => cv g v | none => iI (D i (k + j)))
  | [], k, j, o, h => by simp at h
  | some v :: r, k, 0, o, h => by simp only [List.getElem?_cons_zero, Option.some.injEq] at h; subst h; rfl
  | none :: r, k, 0, o, h => by simp only [List.getElem?_cons_zero, Option.some.injEq] at h; subst h; rfl
  | some v :: r, k, j + 1, o, h => by
    simp only [List.getElem?_cons_succ] at h
    have h1 := fv_get g D i r (k + 1) j o h
    rw [show k + 1 + j = k + (j + 1) by omega] at h1
    exact h1
  | none :: r, k, j + 1, o, h => by
    simp only [List.getElem?_cons_succ] at h
    have h1 := fv_get g D i r (k + 1) j o h
    rw [show k + 1 + j = k + (j + 1) by omega] at h1
    exact h1
theorem fv_len (g : G0) (D : DD) (i : Nat) : ∀ (fs : List (Option Value)) (k : Nat), (fv g D i k fs).length = fs.length
  | [], _ => rfl
  | some v :: r, k => by simp only [fv, List.length_cons, fv_len g D i r (k + 1)]
  | none :: r, k => by simp only [fv, List.length_cons, fv_len g D i r (k + 1)]
def st2 (D : DD) (i j : Nat) (v : Int) : DD := fun a b => if a = i ∧ b = j then v else D a b
theorem st2_row {D : DD} {i j a : Nat} {v : Int} (h : a ≠ i) : st2 D i j v a = D a := by funext b; simp [st2, h]
theorem st2_at {D : DD} {i j : Nat} {v : Int} : st2 D i j v i j = v := by simp [st2]
theorem st2_ne {D : DD} {i j b : Nat} {v : Int} (h : b ≠ j) : st2 D i j v i b = D i b := by simp [st2, h]
theorem fv_st (g : G0) (D : DD) (i : Nat) (v : Int) : ∀ (fs : List (Option Value)) (k j : Nat), fs[j]? = some none → fv g (st2 D i (k + j) v) i k fs = (fv g D i k fs).set j (iI v)
  | [], k, j, h => by simp at h
  | some w :: r, k, 0, h => by simp at h
  | none :: r, k, 0, h => by
    show iI (st2 D i (k + 0) v i k) :: fv g (st2 D i (k + 0) v) i (k + 1) r = iI v :: fv g D i (k + 1) r
    have h1 : ∀ (r : List (Option Value)) (q : Nat), k < q → fv g (st2 D i (k + 0) v) i q r = fv g D i q r := by
      intro r
      induction r with
      | nil => intro q _; rfl
      | cons o r ih =>
        intro q hq
        cases o with
        | some w => show cv g w :: _ = cv g w :: _; rw [ih (q + 1) (by omega)]
        | none =>
          show iI (st2 D i (k + 0) v i q) :: _ = iI (D i q) :: _
          rw [ih (q + 1) (by omega), st2_ne (by omega)]
    rw [h1 r (k + 1) (by omega)]
    simp [st2]
  | some w :: r, k, j + 1, h => by
    simp only [List.getElem?_cons_succ] at h
    show cv g w :: fv g (st2 D i (k + (j + 1)) v) i (k + 1) r = cv g w :: (fv g D i (k + 1) r).set j (iI v)
    rw [show k + (j + 1) = k + 1 + j by omega, fv_st g D i v r (k + 1) j h]
  | none :: r, k, j + 1, h => by
    simp only [List.getElem?_cons_succ] at h
    show iI (st2 D i (k + (j + 1)) v i k) :: fv g (st2 D i (k + (j + 1)) v) i (k + 1) r = iI (D i k) :: (fv g D i (k + 1) r).set j (iI v)
    rw [st2_ne (by omega), show k + (j + 1) = k + 1 + j by omega, fv_st g D i v r (k + 1) j h]
theorem fv_stR (g : G0) (D : DD) (i : Nat) (v : Value) : ∀ (fs : List (Option Value)) (k j : Nat), j < fs.length → fv g D i k (fs.set j (some v)) = (fv g D i k fs).set j (cv g v)
  | [], k, j, h => by simp at h
  | some w :: r, k, 0, h => rfl
  | none :: r, k, 0, h => rfl
  | some w :: r, k, j + 1, h => by
    show cv g w :: fv g D i (k + 1) (r.set j (some v)) = cv g w :: (fv g D i (k + 1) r).set j (cv g v)
    rw [fv_stR g D i v r (k + 1) j (by simpa using h)]
  | none :: r, k, j + 1, h => by
    show iI (D i k) :: fv g D i (k + 1) (r.set j (some v)) = iI (D i k) :: (fv g D i (k + 1) r).set j (cv g v)
    rw [fv_stR g D i v r (k + 1) j (by simpa using h)]
/-! locals -/
def isW : Value → Bool
  | .long _ => true
  | .double _ => true
  | _ => false
def lup (k i : Nat) (v : Value) (o : Option Value) : Option Value :=
  if k = i then some v else if k + 1 = i then (match o with | some (.long _) => none | some (.double _) => none | o => o) else if k = i + 1 then (match v with | .long _ => none | .double _ => none | _ => o) else o
def lset : Nat → Nat → Value → List (Option Value) → List (Option Value)
  | _, _, _, [] => []
  | k, i, v, o :: r => lup k i v o :: lset (k + 1) i v r
def lp (g : G0) : Nat → List (Option Value) → List (Nat × Value)
  | _, [] => []
  | k, some v :: r => (k, cv g v) :: lp g (k + 1) r
  | k, none :: r => lp g (k + 1) r
theorem lp_mem (g : G0) : ∀ (L : List (Option Value)) (k : Nat) (q : Nat × Value), q ∈ lp g k L ↔ ∃ (j : Nat) (v : Value), L[j]? = some (some v) ∧ q = (k + j, cv g v)
  | [], k, q => by simp [lp]
  | some w :: r, k, q => by
    simp only [lp, List.mem_cons, lp_mem g r (k + 1) q]
    constructor
    · rintro (rfl | ⟨j, v, h1, rfl⟩)
      · exact ⟨0, w, rfl, rfl⟩
      · exact ⟨j + 1, v, h1, by rw [show k + 1 + j = k + (j + 1) by omega]⟩
    · rintro ⟨j, v, h1, rfl⟩
      cases j with
      | zero => simp only [List.getElem?_cons_zero, Option.some.injEq] at h1; subst h1; exact Or.inl rfl
      | succ j => exact Or.inr ⟨j, v, h1, by rw [show k + 1 + j = k + (j + 1) by omega]⟩
  | none :: r, k, q => by
    simp only [lp, lp_mem g r (k + 1) q]
    constructor
    · rintro ⟨j, v, h1, rfl⟩
      exact ⟨j + 1, v, h1, by rw [show k + 1 + j = k + (j + 1) by omega]⟩
    · rintro ⟨j, v, h1, rfl⟩
      cases j with
      | zero => simp at h1
      | succ j => exact ⟨j, v, h1, by rw [show k + 1 + j = k + (j + 1) by omega]⟩
theorem lset_get : ∀ (L : List (Option Value)) (k i : Nat) (v : Value) (j : Nat), (lset k i v L)[j]? = (L[j]?).map (lup (k + j) i v)
  | [], k, i, v, j => by simp [lset]
  | o :: r, k, i, v, 0 => by simp [lset]
  | o :: r, k, i, v, j + 1 => by
    simp only [lset, List.getElem?_cons_succ, lset_get r (k + 1) i v j]
    rw [show k + 1 + j = k + (j + 1) by omega]
def lh (g : G0) (ls : Array Slot) (n : Nat) (L : List (Option Value)) : Prop := lv_has ls n (lp g 0 L)
theorem lh_at {g : G0} {ls : Array Slot} {n i : Nat} {L : List (Option Value)} {v : Value} (h : lh g ls n L) (hi : L[i]? = some (some v)) : ls[i]? = some (.val (cv g v)) := by
  have h1 := h.2.2 (i, cv g v) ((lp_mem g L 0 _).mpr ⟨i, v, hi, by rw [Nat.zero_add]⟩)
  exact h1
theorem lup_cases {k i : Nat} {v w : Value} {o : Option Value} (h : lup k i v o = some w) : (k = i ∧ w = v) ∨ (o = some w ∧ k ≠ i ∧ ¬ (k + 1 = i ∧ w.category = 2) ∧ ¬ (k = i + 1 ∧ v.category = 2)) := by
  unfold lup at h
  by_cases h1 : k = i
  · rw [if_pos h1] at h
    exact Or.inl ⟨h1, (Option.some.inj h).symm⟩
  · rw [if_neg h1] at h
    by_cases h2 : k + 1 = i
    · rw [if_pos h2] at h
      refine Or.inr ?_
      cases o with
      | none => cases h
      | some x => cases x <;> first | (cases h; done) | (cases h; refine ⟨rfl, h1, fun q => ?_, fun q => by omega⟩; exact absurd q.2 (by decide)) | (cases h; exact ⟨rfl, h1, fun q => by simp [Value.category] at q, fun q => by omega⟩)
    · rw [if_neg h2] at h
      by_cases h3 : k = i + 1
      · rw [if_pos h3] at h
        refine Or.inr ?_
        cases v <;> first | (cases h; done) | exact ⟨h, h1, fun q => h2 q.1, fun q => by simp [Value.category] at q⟩
      · rw [if_neg h3] at h
        exact Or.inr ⟨h, h1, fun q => h2 q.1, fun q => h3 q.1⟩
theorem lh_st1 {g : G0} {ls' : Array Slot} {n i : Nat} {L : List (Option Value)} {v : Value} (h : lv_has ls' n ((i, cv g v) :: (lp g 0 L).filter (fun q => !(q.1 == i) && !(q.1 + 1 == i && q.2.category == 2)))) : lh g ls' n (lset 0 i v L) := by
  refine ⟨h.1, h.2.1, fun q hq => ?_⟩
  obtain ⟨j, w, hj, rfl⟩ := (lp_mem g _ 0 q).mp hq
  rw [lset_get, Option.map_eq_some_iff] at hj
  obtain ⟨o, ho, hw⟩ := hj
  rw [Nat.zero_add] at hw ⊢
  rcases lup_cases hw with ⟨rfl, rfl⟩ | ⟨rfl, h1, h2, -⟩
  · exact h.2.2 _ List.mem_cons_self
  · refine h.2.2 _ (List.mem_cons_of_mem _ (List.mem_filter.mpr ⟨(lp_mem g L 0 _).mpr ⟨j, w, ho, by rw [Nat.zero_add]⟩, ?_⟩))
    simp only [Bool.and_eq_true, Bool.not_eq_true', beq_eq_false_iff_ne, Bool.and_eq_false_iff]
    refine ⟨h1, ?_⟩
    rw [cv_cat]
    by_cases h3 : j + 1 = i
    · exact Or.inr (fun h4 => h2 ⟨h3, h4⟩)
    · exact Or.inl h3
theorem lh_st2 {g : G0} {ls' : Array Slot} {n i : Nat} {L : List (Option Value)} {v : Value} (hv : v.category = 2) (h : lv_has ls' n ((i, cv g v) :: (lp g 0 L).filter (fun q => !(q.1 == i) && (!(q.1 == i + 1) && !(q.1 + 1 == i && q.2.category == 2))))) : lh g ls' n (lset 0 i v L) := by
  refine ⟨h.1, h.2.1, fun q hq => ?_⟩
  obtain ⟨j, w, hj, rfl⟩ := (lp_mem g _ 0 q).mp hq
  rw [lset_get, Option.map_eq_some_iff] at hj
  obtain ⟨o, ho, hw⟩ := hj
  rw [Nat.zero_add] at hw ⊢
  rcases lup_cases hw with ⟨rfl, rfl⟩ | ⟨rfl, h1, h2, h5⟩
  · exact h.2.2 _ List.mem_cons_self
  · refine h.2.2 _ (List.mem_cons_of_mem _ (List.mem_filter.mpr ⟨(lp_mem g L 0 _).mpr ⟨j, w, ho, by rw [Nat.zero_add]⟩, ?_⟩))
    simp only [Bool.and_eq_true, Bool.not_eq_true', beq_eq_false_iff_ne, Bool.and_eq_false_iff]
    refine ⟨h1, fun h6 => h5 ⟨h6, hv⟩, ?_⟩
    rw [cv_cat]
    by_cases h3 : j + 1 = i
    · exact Or.inr (fun h4 => h2 ⟨h3, h4⟩)
    · exact Or.inl h3
def la : List Value → List (Option Value)
  | [] => []
  | v :: r => match v with
    | .long _ => some v :: none :: la r
    | .double _ => some v :: none :: la r
    | _ => some v :: la r
def le0 (n : Nat) (vs : List Value) : List (Option Value) := la vs ++ List.replicate (n - (la vs).length) none
theorem la_len (g : G0) : ∀ vs : List Value, (la vs).length = (lg_sl (vs.map (cv g))).length
  | [] => rfl
  | v :: r => by
    have ih := la_len g r
    cases v <;> simp only [la, List.length_cons, List.map_cons, lg_sl, List.flatMap_cons, List.length_append, cv, Value.category] at ih ⊢ <;> simp [ih] <;> omega
theorem la_args (g : G0) : ∀ (vs : List Value) (k : Nat) (t : List (Option Value)) (q : Nat × Value), (∀ o ∈ t, o = none) → q ∈ lp g k (la vs ++ t) → q ∈ lv_args k (vs.map (cv g))
  | [], k, t, q, ht, h => by
    obtain ⟨j, v, h1, -⟩ := (lp_mem g t k q).mp h
    exact absurd (ht _ (List.mem_of_getElem? h1)) (by simp)
  | v :: r, k, t, q, ht, h => by
    have ih := la_args g r
    cases v <;> simp only [la, List.cons_append, lp, List.mem_cons, List.map_cons, lv_args, cv, Value.category] at h ⊢ <;>
      (rcases h with h | h
       · exact Or.inl h
       · exact Or.inr (ih _ t q ht h))
theorem lh_entry (g : G0) (vs : List Value) {n : Nat} (h : (la vs).length ≤ n) : lh g ((lg_sl (vs.map (cv g)) ++ List.replicate (n - (lg_sl (vs.map (cv g))).length) Slot.unset).toArray) n (le0 n vs) := by
  have h1 := lv_entry (vs.map (cv g)) (n := n) (by rw [← la_len]; exact h)
  exact ⟨h1.1, h1.2.1, fun q hq => h1.2.2 q (la_args g vs 0 _ q (fun o ho => (List.mem_replicate.mp ho).2) hq)⟩

def tys (g : G0) : List (ClassId × FieldType) := [(g.2.2.2.1, .int), (g.2.2.2.2.1, .boolean), (g.2.2.2.2.2, .object RX4)]
def KK (g : G0) (s : State) : Prop := va_K g.2.2.1 vwCl (tys g) s ∧ (∀ w ∈ nestW, va_Nw w s) ∧ va_AO RX4 s
theorem nestW_ok : ∀ w ∈ nestW, ∃ (a : String) (i : Nat) (x : MethodName) (h : String), w = .methodLinkNest a i x h := by
  intro w hw
  simp only [nestW, List.mem_cons, List.not_mem_nil, or_false] at hw
  rcases hw with rfl | rfl | rfl | rfl | rfl | rfl | rfl <;> exact ⟨_, _, _, _, rfl⟩
theorem KK.warm {g : G0} {s U : State} (hW : s.WarmedH U.vm) (h : KK g s) : KK g U := ⟨va_K.moved hW.alike h.1, fun w hw => by
  obtain ⟨a, i, x, h0, rfl⟩ := nestW_ok w hw
  exact va_Nw.warmM hW (h.2.1 _ hw), va_AO.moved hW.alike h.2.2⟩
theorem KK.calling {g : G0} {u : State} {f : JFrame} {mk : MethodId} {a : Array Value} (h : KK g u) : KK g (u.calling f mk a) := ⟨va_K.moved (u := u) (U := u.calling f mk a) (Vm.Alike.refl u.vm) h.1, fun w hw => by
  obtain ⟨a, i, x, h0, rfl⟩ := nestW_ok w hw
  exact va_Nw.same rfl rfl (h.2.1 _ hw), va_AO.moved (Vm.Alike.refl u.vm) h.2.2⟩
def Rl (g : G0) (S : List SC) (D : DD) (H : Heap) : Prop := va_P g.2.2.1 vwCl (wsO g D 0 S) H
def Cx (g : G0) (M : MI) (R : Room) (nc ns : Nat) (L : List (Option Value)) (S : List SC) (D : DD) (p : Program) (s : State) (m : MethodId) (args : Array Value) (meth : Method) (c : Code) (H : Heap) (locs : List Loc) (cells slots : Nat) (ls : Array Slot) : Prop :=
  (p.tables.exec = Jvm.exec ∧ c.code = M.2.1 ∧ c.maxLocals = M.2.2.1 ∧ meth.sig.returnType = M.2.2.2.1 ∧ s.vm.findClass M.1 = some m.cls ∧ (∀ w ∈ tw, w.before args s = true) ∧ meth.locks = false ∧ (M.2.2.2.2 = true → meth.name = "<init>") ∧ KK g s ∧ g.1 ≤ s.heap.size ∧ (M.1 = RL → va_X g.2.1.1 g.2.1.2.1 g.2.1.2.2 s s.heap ∧ g.2.1.1 < g.1)) ∧
  Rl g S D H ∧ va_S (fun q => g.1 ≤ q) s.heap H locs ∧ lh g ls M.2.2.1 L ∧ cells + nc = R.cells ∧ slots + ns = R.slots ∧ s.heap.size + cells = g.1 + S.length
def T (g : G0) (M : MI) (R : Room) (nc ns : Nat) (Qf : List Frame → Array Value → State → State → Prop) (pc : Nat) (L : List (Option Value)) (st : List Value) (S : List SC) (D : DD) : Prop :=
  ∀ (p : Program) (l : Launch) (e : Env) (s : State) (m : MethodId) (args : Array Value) (below : List Frame) (meth : Method) (c : Code) (H : Heap) (locs : List Loc) (cells slots : Nat) (ls : Array Slot), Cx g M R nc ns L S D p s m args meth c H locs cells slots ls → W p l e R s m args below meth c H locs cells slots (Qf below args s) (F0 m pc ls (st.map (cv g)))
def InR (a : Int) : Prop := -2147483648 ≤ a ∧ a < 2147483648
def In64 (a : Int) : Prop := -9223372036854775808 ≤ a ∧ a < 9223372036854775808
theorem i_ti {a : Int} (h : InR a) : (Int32.ofInt a).toInt = a := Int32.toInt_ofInt_of_le (by have := h.1; omega) (by have := h.2; omega)
theorem l_ti {a : Int} (h : In64 a) : (Int64.ofInt a).toInt = a := Int64.toInt_ofInt_of_le (by have := h.1; omega) (by have := h.2; omega)
theorem i_lt {a b : Int} (ha : InR a) (hb : InR b) : Int32.ofInt a < Int32.ofInt b ↔ a < b := by rw [Int32.lt_iff_toInt_lt, i_ti ha, i_ti hb]
theorem i_le {a b : Int} (ha : InR a) (hb : InR b) : Int32.ofInt a ≤ Int32.ofInt b ↔ a ≤ b := by rw [Int32.le_iff_toInt_le, i_ti ha, i_ti hb]
theorem i_eq {a b : Int} (ha : InR a) (hb : InR b) : Int32.ofInt a = Int32.ofInt b ↔ a = b := by rw [← Int32.toInt_inj, i_ti ha, i_ti hb]
theorem l_lt {a b : Int} (ha : In64 a) (hb : In64 b) : Int64.ofInt a < Int64.ofInt b ↔ a < b := by rw [Int64.lt_iff_toInt_lt, l_ti ha, l_ti hb]
theorem l_eq {a b : Int} (ha : In64 a) (hb : In64 b) : Int64.ofInt a = Int64.ofInt b ↔ a = b := by rw [← Int64.toInt_inj, l_ti ha, l_ti hb]
theorem inR_0 : InR 0 := ⟨by decide, by decide⟩
theorem i_0 : (0 : Int32) = Int32.ofInt 0 := by decide
theorem i_in {j : Int} {n : Nat} (h0 : 0 ≤ j) (h1 : j < n) (hn : n < 2147483648) : vp_in (Int32.ofInt j) n := by
  have hj : InR j := ⟨by omega, by omega⟩
  rw [vp_in_iff, i_ti hj]
  exact ⟨h0, h1⟩
theorem i_cl {j : Int} (h0 : 0 ≤ j) (h1 : j < 2147483648) : (Int32.ofInt j).toNatClampNeg = j.toNat := by
  show (Int32.ofInt j).toInt.toNat = j.toNat
  rw [i_ti ⟨by omega, h1⟩]
def iand (a b : Int) : Int := (Int32.ofInt a &&& Int32.ofInt b).toInt
def ior (a b : Int) : Int := (Int32.ofInt a ||| Int32.ofInt b).toInt
def ixor (a b : Int) : Int := (Int32.ofInt a ^^^ Int32.ofInt b).toInt
def ishl (a b : Int) : Int := (Int32.ofInt a <<< (Int32.ofInt b &&& 31)).toInt
def ishr (a b : Int) : Int := (Int32.ofInt a >>> (Int32.ofInt b &&& 31)).toInt
def iushr (a b : Int) : Int := ((Int32.ofInt a).toUInt32 >>> ((Int32.ofInt b).toUInt32 &&& Int32.toUInt32 31)).toInt32.toInt
def lshl (a b : Int) : Int := (Int64.ofInt a <<< ((Int32.ofInt b).toInt64 &&& 63)).toInt
def i2b (a : Int) : Int := (Int32.ofInt a).toInt8.toInt32.toInt
def i2s (a : Int) : Int := (Int32.ofInt a).toInt16.toInt32.toInt
def lc (a b : Int) : Int := if b < a then 1 else if a = b then 0 else -1
theorem inR_lc (a b : Int) : InR (lc a b) := by unfold lc InR; (split <;> first | omega | (split <;> omega))
theorem lc_lt {a b : Int} : lc a b < 0 ↔ a < b := by unfold lc; (split <;> first | omega | (split <;> omega))
theorem lc_le {a b : Int} : lc a b ≤ 0 ↔ a ≤ b := by unfold lc; (split <;> first | omega | (split <;> omega))
theorem lc_eq {a b : Int} : lc a b = 0 ↔ a = b := by unfold lc; (split <;> first | omega | (split <;> omega))
theorem i_of (x : Int32) : Int32.ofInt x.toInt = x := Int32.ofInt_toInt x
theorem l_of (x : Int64) : Int64.ofInt x.toInt = x := Int64.ofInt_toInt x
section
variable {g : G0} {M : MI} {R : Room} {nc ns : Nat} {Qf : List Frame → Array Value → State → State → Prop} {pc : Nat} {L : List (Option Value)} {st : List Value} {S : List SC} {D : DD}

theorem T_iconst {n : Int} (hd : decode M.2.1 pc = .ok (.iconst n, 1)) (k : T g M R nc ns Qf (pc + 1) L (iI n :: st) S D) : T g M R nc ns Qf pc L (st) S D := by
  intro p l e s m args below meth c H locs cells slots ls X
  exact lv_iconst X.1.1 X.1.2.1 hd rfl (k p l e s m args below meth c H locs cells slots ls X)
theorem T_bipush {n : Int} (hd : decode M.2.1 pc = .ok (.bipush n, 2)) (hv : (Int8.ofInt n).toInt32 = Int32.ofInt n) (k : T g M R nc ns Qf (pc + 2) L (iI n :: st) S D) : T g M R nc ns Qf pc L (st) S D := by
  intro p l e s m args below meth c H locs cells slots ls X
  exact lv_bipush X.1.1 X.1.2.1 hd hv (k p l e s m args below meth c H locs cells slots ls X)
theorem T_sipush {n : Int} (hd : decode M.2.1 pc = .ok (.sipush n, 3)) (hv : (Int16.ofInt n).toInt32 = Int32.ofInt n) (k : T g M R nc ns Qf (pc + 3) L (iI n :: st) S D) : T g M R nc ns Qf pc L (st) S D := by
  intro p l e s m args below meth c H locs cells slots ls X
  exact lv_sipush X.1.1 X.1.2.1 hd hv (k p l e s m args below meth c H locs cells slots ls X)
theorem T_lconst {n : Fin 2} (hd : decode M.2.1 pc = .ok (.lconst n, 1)) {a : Int} (hv : Int64.ofNat (n : Nat) = Int64.ofInt a) (k : T g M R nc ns Qf (pc + 1) L (lI a :: st) S D) : T g M R nc ns Qf pc L (st) S D := by
  intro p l e s m args below meth c H locs cells slots ls X
  exact lv_lconst X.1.1 X.1.2.1 hd hv (k p l e s m args below meth c H locs cells slots ls X)
theorem T_ldc {i : Nat} {n : Int} (hd : decode M.2.1 pc = .ok (.ldc i, 2)) (hw : Cond.constant M.1 i (Int32.ofInt n) ∈ tw) (k : T g M R nc ns Qf (pc + 2) L (iI n :: st) S D) : T g M R nc ns Qf pc L (st) S D := by
  intro p l e s m args below meth c H locs cells slots ls X
  exact lv_ldc X.1.1 X.1.2.1 X.1.2.2.2.2.1 (X.1.2.2.2.2.2.1 _ hw) hd (k p l e s m args below meth c H locs cells slots ls X)
theorem T_ldcw {i : Nat} {n : Int} (hd : decode M.2.1 pc = .ok (.ldc_w i, 3)) (hw : Cond.constant M.1 i (Int32.ofInt n) ∈ tw) (k : T g M R nc ns Qf (pc + 3) L (iI n :: st) S D) : T g M R nc ns Qf pc L (st) S D := by
  intro p l e s m args below meth c H locs cells slots ls X
  exact lv_ldcw X.1.1 X.1.2.1 X.1.2.2.2.2.1 (X.1.2.2.2.2.2.1 _ hw) hd (k p l e s m args below meth c H locs cells slots ls X)
theorem T_ldc2 {i : Nat} {n : Int} (hd : decode M.2.1 pc = .ok (.ldc2_w i, 3)) (hw : Cond.constantLong M.1 i (Int64.ofInt n) ∈ tw) (k : T g M R nc ns Qf (pc + 3) L (lI n :: st) S D) : T g M R nc ns Qf pc L (st) S D := by
  intro p l e s m args below meth c H locs cells slots ls X
  exact lv_ldc2 X.1.1 X.1.2.1 X.1.2.2.2.2.1 (X.1.2.2.2.2.2.1 _ hw) hd (k p l e s m args below meth c H locs cells slots ls X)
theorem T_iload_n {a : Int} {i : Fin 4} (hd : decode M.2.1 pc = .ok (.iload_n i, 1)) (hl : L[(i : Nat)]? = some (some (iI a))) (k : T g M R nc ns Qf (pc + 1) L (iI a :: st) S D) : T g M R nc ns Qf pc L (st) S D := by
  intro p l e s m args below meth c H locs cells slots ls X
  exact lv_iload_n X.1.1 X.1.2.1 hd rfl (lh_at X.2.2.2.1 hl) (k p l e s m args below meth c H locs cells slots ls X)
theorem T_iload {a : Int} {i : Nat} (hd : decode M.2.1 pc = .ok (.iload i, 2)) (hl : L[i]? = some (some (iI a))) (k : T g M R nc ns Qf (pc + 2) L (iI a :: st) S D) : T g M R nc ns Qf pc L (st) S D := by
  intro p l e s m args below meth c H locs cells slots ls X
  exact lv_iload X.1.1 X.1.2.1 hd (lh_at X.2.2.2.1 hl) (k p l e s m args below meth c H locs cells slots ls X)
theorem T_lload_n {a : Int} {i : Fin 4} (hd : decode M.2.1 pc = .ok (.lload_n i, 1)) (hl : L[(i : Nat)]? = some (some (lI a))) (k : T g M R nc ns Qf (pc + 1) L (lI a :: st) S D) : T g M R nc ns Qf pc L (st) S D := by
  intro p l e s m args below meth c H locs cells slots ls X
  exact lv_lload_n X.1.1 X.1.2.1 hd rfl (lh_at X.2.2.2.1 hl) (k p l e s m args below meth c H locs cells slots ls X)
theorem T_lload {a : Int} {i : Nat} (hd : decode M.2.1 pc = .ok (.lload i, 2)) (hl : L[i]? = some (some (lI a))) (k : T g M R nc ns Qf (pc + 2) L (lI a :: st) S D) : T g M R nc ns Qf pc L (st) S D := by
  intro p l e s m args below meth c H locs cells slots ls X
  exact lv_lload X.1.1 X.1.2.1 hd (lh_at X.2.2.2.1 hl) (k p l e s m args below meth c H locs cells slots ls X)
theorem T_aload_n {a : Nat} {i : Fin 4} (hd : decode M.2.1 pc = .ok (.aload_n i, 1)) (hl : L[(i : Nat)]? = some (some (.ref a))) (k : T g M R nc ns Qf (pc + 1) L (.ref a :: st) S D) : T g M R nc ns Qf pc L (st) S D := by
  intro p l e s m args below meth c H locs cells slots ls X
  exact lv_aload_n X.1.1 X.1.2.1 hd rfl (lh_at X.2.2.2.1 hl) (k p l e s m args below meth c H locs cells slots ls X)
theorem T_aload {a : Nat} {i : Nat} (hd : decode M.2.1 pc = .ok (.aload i, 2)) (hl : L[i]? = some (some (.ref a))) (k : T g M R nc ns Qf (pc + 2) L (.ref a :: st) S D) : T g M R nc ns Qf pc L (st) S D := by
  intro p l e s m args below meth c H locs cells slots ls X
  exact lv_aload X.1.1 X.1.2.1 hd (lh_at X.2.2.2.1 hl) (k p l e s m args below meth c H locs cells slots ls X)
theorem T_aloadS {x : UInt32} {i : Fin 4} (hd : decode M.2.1 pc = .ok (.aload_n i, 1)) (hl : L[(i : Nat)]? = some (some (.float x))) (k : T g M R nc ns Qf (pc + 1) L (.float x :: st) S D) : T g M R nc ns Qf pc L (st) S D := by
  intro p l e s m args below meth c H locs cells slots ls X
  exact lv_aload_n X.1.1 X.1.2.1 hd rfl (lh_at (v := .float x) X.2.2.2.1 hl) (k p l e s m args below meth c H locs cells slots ls X)
theorem T_istore_n {a : Int} {i : Fin 4} (hd : decode M.2.1 pc = .ok (.istore_n i, 1)) (hn : (i : Nat) < M.2.2.1) (k : T g M R nc ns Qf (pc + 1) (lset 0 (i : Nat) (iI a) L) st S D) : T g M R nc ns Qf pc L (iI a :: st) S D := by
  intro p l e s m args below meth c H locs cells slots ls X
  refine lv_istore_n X.1.1 X.1.2.1 hd rfl X.2.2.2.1 hn rfl (fun ls hl => ?_)
  exact k p l e s m args below meth c H locs cells slots ls ⟨X.1, X.2.1, X.2.2.1, lh_st1 hl, X.2.2.2.2⟩
theorem T_istore {a : Int} {i : Nat} (hd : decode M.2.1 pc = .ok (.istore i, 2)) (hn : i < M.2.2.1) (k : T g M R nc ns Qf (pc + 2) (lset 0 i (iI a) L) st S D) : T g M R nc ns Qf pc L (iI a :: st) S D := by
  intro p l e s m args below meth c H locs cells slots ls X
  refine lv_istore X.1.1 X.1.2.1 hd X.2.2.2.1 hn rfl (fun ls hl => ?_)
  exact k p l e s m args below meth c H locs cells slots ls ⟨X.1, X.2.1, X.2.2.1, lh_st1 hl, X.2.2.2.2⟩
theorem T_lstore_n {a : Int} {i : Fin 4} (hd : decode M.2.1 pc = .ok (.lstore_n i, 1)) (hn : (i : Nat) + 1 < M.2.2.1) (k : T g M R nc ns Qf (pc + 1) (lset 0 (i : Nat) (lI a) L) st S D) : T g M R nc ns Qf pc L (lI a :: st) S D := by
  intro p l e s m args below meth c H locs cells slots ls X
  refine lv_lstore_n X.1.1 X.1.2.1 hd rfl X.2.2.2.1 hn rfl (fun ls hl => ?_)
  exact k p l e s m args below meth c H locs cells slots ls ⟨X.1, X.2.1, X.2.2.1, lh_st2 rfl hl, X.2.2.2.2⟩
theorem T_lstore {a : Int} {i : Nat} (hd : decode M.2.1 pc = .ok (.lstore i, 2)) (hn : i + 1 < M.2.2.1) (k : T g M R nc ns Qf (pc + 2) (lset 0 i (lI a) L) st S D) : T g M R nc ns Qf pc L (lI a :: st) S D := by
  intro p l e s m args below meth c H locs cells slots ls X
  refine lv_lstore X.1.1 X.1.2.1 hd X.2.2.2.1 hn rfl (fun ls hl => ?_)
  exact k p l e s m args below meth c H locs cells slots ls ⟨X.1, X.2.1, X.2.2.1, lh_st2 rfl hl, X.2.2.2.2⟩
theorem T_astore_n {a : Nat} {i : Fin 4} (hd : decode M.2.1 pc = .ok (.astore_n i, 1)) (hn : (i : Nat) < M.2.2.1) (k : T g M R nc ns Qf (pc + 1) (lset 0 (i : Nat) (.ref a) L) st S D) : T g M R nc ns Qf pc L (.ref a :: st) S D := by
  intro p l e s m args below meth c H locs cells slots ls X
  refine lv_astore_n X.1.1 X.1.2.1 hd rfl X.2.2.2.1 hn rfl (fun ls hl => ?_)
  exact k p l e s m args below meth c H locs cells slots ls ⟨X.1, X.2.1, X.2.2.1, lh_st1 hl, X.2.2.2.2⟩
theorem T_astore {a : Nat} {i : Nat} (hd : decode M.2.1 pc = .ok (.astore i, 2)) (hn : i < M.2.2.1) (k : T g M R nc ns Qf (pc + 2) (lset 0 i (.ref a) L) st S D) : T g M R nc ns Qf pc L (.ref a :: st) S D := by
  intro p l e s m args below meth c H locs cells slots ls X
  refine lv_astore X.1.1 X.1.2.1 hd X.2.2.2.1 hn rfl (fun ls hl => ?_)
  exact k p l e s m args below meth c H locs cells slots ls ⟨X.1, X.2.1, X.2.2.1, lh_st1 hl, X.2.2.2.2⟩
theorem T_iinc {a n : Int} {i : Nat} (hd : decode M.2.1 pc = .ok (.iinc i n, 3)) (hl : L[i]? = some (some (iI a))) (hn : i < M.2.2.1) (k : T g M R nc ns Qf (pc + 3) (lset 0 i (iI (a + n)) L) st S D) : T g M R nc ns Qf pc L st S D := by
  intro p l e s m args below meth c H locs cells slots ls X
  obtain ⟨k0, hk0⟩ := List.getElem?_of_mem ((lp_mem g L 0 (i, iI a)).mpr ⟨i, iI a, hl, by rw [Nat.zero_add]; rfl⟩)
  refine lv_iinc (v := Int32.ofInt (a + n)) X.1.1 X.1.2.1 hd X.2.2.2.1 hk0 (Int32.ofInt_add a n).symm hn rfl (fun ls hl => ?_)
  exact k p l e s m args below meth c H locs cells slots ls ⟨X.1, X.2.1, X.2.2.1, lh_st1 (v := iI (a + n)) hl, X.2.2.2.2⟩
theorem T_iadd {a b : Int} (hd : decode M.2.1 pc = .ok (.iadd, 1)) (k : T g M R nc ns Qf (pc + 1) L (iI (a + b) :: st) S D) : T g M R nc ns Qf pc L (iI b :: iI a :: st) S D := by
  intro p l e s m args below meth c H locs cells slots ls X
  have h := k p l e s m args below meth c H locs cells slots ls X
  simp only [List.map_cons, iI, cv, Int32.ofInt_add] at h ⊢
  exact lv_iadd X.1.1 X.1.2.1 hd h
theorem T_isub {a b : Int} (hd : decode M.2.1 pc = .ok (.isub, 1)) (k : T g M R nc ns Qf (pc + 1) L (iI (a - b) :: st) S D) : T g M R nc ns Qf pc L (iI b :: iI a :: st) S D := by
  intro p l e s m args below meth c H locs cells slots ls X
  have h := k p l e s m args below meth c H locs cells slots ls X
  simp only [List.map_cons, iI, cv, Int32.ofInt_sub] at h ⊢
  exact lv_isub X.1.1 X.1.2.1 hd h
theorem T_imul {a b : Int} (hd : decode M.2.1 pc = .ok (.imul, 1)) (k : T g M R nc ns Qf (pc + 1) L (iI (a * b) :: st) S D) : T g M R nc ns Qf pc L (iI b :: iI a :: st) S D := by
  intro p l e s m args below meth c H locs cells slots ls X
  have h := k p l e s m args below meth c H locs cells slots ls X
  simp only [List.map_cons, iI, cv, Int32.ofInt_mul] at h ⊢
  exact lv_imul X.1.1 X.1.2.1 hd h
theorem T_ladd {a b : Int} (hd : decode M.2.1 pc = .ok (.ladd, 1)) (k : T g M R nc ns Qf (pc + 1) L (lI (a + b) :: st) S D) : T g M R nc ns Qf pc L (lI b :: lI a :: st) S D := by
  intro p l e s m args below meth c H locs cells slots ls X
  have h := k p l e s m args below meth c H locs cells slots ls X
  simp only [List.map_cons, lI, cv, Int64.ofInt_add] at h ⊢
  exact lv_ladd X.1.1 X.1.2.1 hd h
theorem T_lsub {a b : Int} (hd : decode M.2.1 pc = .ok (.lsub, 1)) (k : T g M R nc ns Qf (pc + 1) L (lI (a - b) :: st) S D) : T g M R nc ns Qf pc L (lI b :: lI a :: st) S D := by
  intro p l e s m args below meth c H locs cells slots ls X
  have h := k p l e s m args below meth c H locs cells slots ls X
  simp only [List.map_cons, lI, cv, Int64.ofInt_sub] at h ⊢
  exact lv_lsub X.1.1 X.1.2.1 hd h
theorem T_lmul {a b : Int} (hd : decode M.2.1 pc = .ok (.lmul, 1)) (k : T g M R nc ns Qf (pc + 1) L (lI (a * b) :: st) S D) : T g M R nc ns Qf pc L (lI b :: lI a :: st) S D := by
  intro p l e s m args below meth c H locs cells slots ls X
  have h := k p l e s m args below meth c H locs cells slots ls X
  simp only [List.map_cons, lI, cv, Int64.ofInt_mul] at h ⊢
  exact lv_lmul X.1.1 X.1.2.1 hd h
theorem T_iand {a b : Int} (hd : decode M.2.1 pc = .ok (.iand, 1)) (k : T g M R nc ns Qf (pc + 1) L (iI (iand a b) :: st) S D) : T g M R nc ns Qf pc L (iI b :: iI a :: st) S D := by
  intro p l e s m args below meth c H locs cells slots ls X
  have h := k p l e s m args below meth c H locs cells slots ls X
  simp only [List.map_cons, iI, cv, iand, i_of] at h ⊢
  exact lv_iand X.1.1 X.1.2.1 hd h
theorem T_ior {a b : Int} (hd : decode M.2.1 pc = .ok (.ior, 1)) (k : T g M R nc ns Qf (pc + 1) L (iI (ior a b) :: st) S D) : T g M R nc ns Qf pc L (iI b :: iI a :: st) S D := by
  intro p l e s m args below meth c H locs cells slots ls X
  have h := k p l e s m args below meth c H locs cells slots ls X
  simp only [List.map_cons, iI, cv, ior, i_of] at h ⊢
  exact lv_ior X.1.1 X.1.2.1 hd h
theorem T_ixor {a b : Int} (hd : decode M.2.1 pc = .ok (.ixor, 1)) (k : T g M R nc ns Qf (pc + 1) L (iI (ixor a b) :: st) S D) : T g M R nc ns Qf pc L (iI b :: iI a :: st) S D := by
  intro p l e s m args below meth c H locs cells slots ls X
  have h := k p l e s m args below meth c H locs cells slots ls X
  simp only [List.map_cons, iI, cv, ixor, i_of] at h ⊢
  exact lv_ixor X.1.1 X.1.2.1 hd h
theorem T_ishl {a b : Int} (hd : decode M.2.1 pc = .ok (.ishl, 1)) (k : T g M R nc ns Qf (pc + 1) L (iI (ishl a b) :: st) S D) : T g M R nc ns Qf pc L (iI b :: iI a :: st) S D := by
  intro p l e s m args below meth c H locs cells slots ls X
  have h := k p l e s m args below meth c H locs cells slots ls X
  simp only [List.map_cons, iI, cv, ishl, i_of] at h ⊢
  exact lv_ishl X.1.1 X.1.2.1 hd h
theorem T_ishr {a b : Int} (hd : decode M.2.1 pc = .ok (.ishr, 1)) (k : T g M R nc ns Qf (pc + 1) L (iI (ishr a b) :: st) S D) : T g M R nc ns Qf pc L (iI b :: iI a :: st) S D := by
  intro p l e s m args below meth c H locs cells slots ls X
  have h := k p l e s m args below meth c H locs cells slots ls X
  simp only [List.map_cons, iI, cv, ishr, i_of] at h ⊢
  exact lv_ishr X.1.1 X.1.2.1 hd h
theorem T_iushr {a b : Int} (hd : decode M.2.1 pc = .ok (.iushr, 1)) (k : T g M R nc ns Qf (pc + 1) L (iI (iushr a b) :: st) S D) : T g M R nc ns Qf pc L (iI b :: iI a :: st) S D := by
  intro p l e s m args below meth c H locs cells slots ls X
  have h := k p l e s m args below meth c H locs cells slots ls X
  simp only [List.map_cons, iI, cv, iushr, i_of] at h ⊢
  exact lv_iushr X.1.1 X.1.2.1 hd rfl h
theorem T_lshl {a b : Int} (hd : decode M.2.1 pc = .ok (.lshl, 1)) (k : T g M R nc ns Qf (pc + 1) L (lI (lshl a b) :: st) S D) : T g M R nc ns Qf pc L (iI b :: lI a :: st) S D := by
  intro p l e s m args below meth c H locs cells slots ls X
  have h := k p l e s m args below meth c H locs cells slots ls X
  simp only [List.map_cons, iI, lI, cv, lshl, l_of] at h ⊢
  exact lv_lshl X.1.1 X.1.2.1 hd rfl h
theorem T_ineg {a : Int} (hd : decode M.2.1 pc = .ok (.ineg, 1)) (k : T g M R nc ns Qf (pc + 1) L (iI (-a) :: st) S D) : T g M R nc ns Qf pc L (iI a :: st) S D := by
  intro p l e s m args below meth c H locs cells slots ls X
  have h := k p l e s m args below meth c H locs cells slots ls X
  simp only [List.map_cons, iI, cv, Int32.ofInt_neg] at h ⊢
  exact lv_ineg X.1.1 X.1.2.1 hd h
theorem T_lneg {a : Int} (hd : decode M.2.1 pc = .ok (.lneg, 1)) (k : T g M R nc ns Qf (pc + 1) L (lI (-a) :: st) S D) : T g M R nc ns Qf pc L (lI a :: st) S D := by
  intro p l e s m args below meth c H locs cells slots ls X
  have h := k p l e s m args below meth c H locs cells slots ls X
  simp only [List.map_cons, lI, cv, Int64.ofInt_neg] at h ⊢
  exact lv_lneg X.1.1 X.1.2.1 hd h
theorem T_i2b {a : Int} (hd : decode M.2.1 pc = .ok (.i2b, 1)) (k : T g M R nc ns Qf (pc + 1) L (iI (i2b a) :: st) S D) : T g M R nc ns Qf pc L (iI a :: st) S D := by
  intro p l e s m args below meth c H locs cells slots ls X
  have h := k p l e s m args below meth c H locs cells slots ls X
  simp only [List.map_cons, iI, cv, i2b, i_of] at h ⊢
  exact lv_i2b X.1.1 X.1.2.1 hd rfl h
theorem T_i2s {a : Int} (hd : decode M.2.1 pc = .ok (.i2s, 1)) (k : T g M R nc ns Qf (pc + 1) L (iI (i2s a) :: st) S D) : T g M R nc ns Qf pc L (iI a :: st) S D := by
  intro p l e s m args below meth c H locs cells slots ls X
  have h := k p l e s m args below meth c H locs cells slots ls X
  simp only [List.map_cons, iI, cv, i2s, i_of] at h ⊢
  exact lv_i2s X.1.1 X.1.2.1 hd rfl h
theorem i2l_of {a : Int} (h : InR a) : (Int32.ofInt a).toInt64 = Int64.ofInt a := by
  rw [← Int64.toInt_inj, Int32.toInt_toInt64, i_ti h, l_ti ⟨by have := h.1; omega, by have := h.2; omega⟩]
theorem T_i2l {a : Int} (hd : decode M.2.1 pc = .ok (.i2l, 1)) (ha : InR a) (k : T g M R nc ns Qf (pc + 1) L (lI a :: st) S D) : T g M R nc ns Qf pc L (iI a :: st) S D := by
  intro p l e s m args below meth c H locs cells slots ls X
  exact lv_i2l X.1.1 X.1.2.1 hd (i2l_of ha) (k p l e s m args below meth c H locs cells slots ls X)
theorem idiv_of {a b : Int} (ha : InR a) (hb : InR b) : Int32.ofInt a / Int32.ofInt b = Int32.ofInt (a.tdiv b) := by
  rw [← Int32.toInt_inj, Int32.toInt_div, i_ti ha, i_ti hb, Int32.toInt_ofInt]
theorem ldiv_of {a b : Int} (ha : In64 a) (hb : In64 b) : Int64.ofInt a / Int64.ofInt b = Int64.ofInt (a.tdiv b) := by
  rw [← Int64.toInt_inj, Int64.toInt_div, l_ti ha, l_ti hb, Int64.toInt_ofInt]
theorem i_ne0 {b : Int} (hb : InR b) (h : b ≠ 0) : ¬ Int32.ofInt b = 0 := fun q => h ((i_eq hb inR_0).mp (q.trans i_0))
theorem l_ne0 {b : Int} (hb : In64 b) (h : b ≠ 0) : ¬ Int64.ofInt b = 0 := fun q => h ((l_eq hb ⟨by decide, by decide⟩).mp (q.trans (by decide)))
theorem T_idiv {a b : Int} (hd : decode M.2.1 pc = .ok (.idiv, 1)) (ha : InR a) (hb : InR b) (h0 : b ≠ 0) (k : T g M R nc ns Qf (pc + 1) L (iI (a.tdiv b) :: st) S D) : T g M R nc ns Qf pc L (iI b :: iI a :: st) S D := by
  intro p l e s m args below meth c H locs cells slots ls X
  have h := k p l e s m args below meth c H locs cells slots ls X
  simp only [List.map_cons, iI, cv, ← idiv_of ha hb] at h ⊢
  exact lv_idiv X.1.1 X.1.2.1 hd (i_ne0 hb h0) h
theorem T_irem {a b : Int} (hd : decode M.2.1 pc = .ok (.irem, 1)) (ha : InR a) (hb : InR b) (h0 : b ≠ 0) (k : T g M R nc ns Qf (pc + 1) L (iI (a.tmod b) :: st) S D) : T g M R nc ns Qf pc L (iI b :: iI a :: st) S D := by
  intro p l e s m args below meth c H locs cells slots ls X
  have h := k p l e s m args below meth c H locs cells slots ls X
  rw [show a.tmod b = a - a.tdiv b * b by rw [Int.tmod_def, Int.mul_comm]] at h
  simp only [List.map_cons, iI, cv, Int32.ofInt_sub, Int32.ofInt_mul, ← idiv_of ha hb] at h ⊢
  exact lv_irem X.1.1 X.1.2.1 hd (i_ne0 hb h0) h
theorem T_ldiv {a b : Int} (hd : decode M.2.1 pc = .ok (.ldiv, 1)) (ha : In64 a) (hb : In64 b) (h0 : b ≠ 0) (k : T g M R nc ns Qf (pc + 1) L (lI (a.tdiv b) :: st) S D) : T g M R nc ns Qf pc L (lI b :: lI a :: st) S D := by
  intro p l e s m args below meth c H locs cells slots ls X
  have h := k p l e s m args below meth c H locs cells slots ls X
  simp only [List.map_cons, lI, cv, ← ldiv_of ha hb] at h ⊢
  exact lv_ldiv X.1.1 X.1.2.1 hd (l_ne0 hb h0) h
theorem T_lrem {a b : Int} (hd : decode M.2.1 pc = .ok (.lrem, 1)) (ha : In64 a) (hb : In64 b) (h0 : b ≠ 0) (k : T g M R nc ns Qf (pc + 1) L (lI (a.tmod b) :: st) S D) : T g M R nc ns Qf pc L (lI b :: lI a :: st) S D := by
  intro p l e s m args below meth c H locs cells slots ls X
  have h := k p l e s m args below meth c H locs cells slots ls X
  rw [show a.tmod b = a - a.tdiv b * b by rw [Int.tmod_def, Int.mul_comm]] at h
  simp only [List.map_cons, lI, cv, Int64.ofInt_sub, Int64.ofInt_mul, ← ldiv_of ha hb] at h ⊢
  exact lv_lrem X.1.1 X.1.2.1 hd (l_ne0 hb h0) h
theorem lc_of {a b : Int} (ha : In64 a) (hb : In64 b) : lg_cmp (Int64.ofInt a) (Int64.ofInt b) = Int32.ofInt (lc a b) := by
  unfold lg_cmp lc
  by_cases h1 : b < a
  · rw [if_pos h1, if_pos ((l_lt hb ha).mpr h1)]; decide
  · rw [if_neg h1, if_neg (fun q => h1 ((l_lt hb ha).mp q))]
    by_cases h2 : a = b
    · rw [if_pos h2, if_pos (by rw [h2])]; decide
    · rw [if_neg h2, if_neg (fun q => h2 ((l_eq ha hb).mp q))]; decide
theorem T_lcmp {a b : Int} (hd : decode M.2.1 pc = .ok (.lcmp, 1)) (ha : In64 a) (hb : In64 b) (k : T g M R nc ns Qf (pc + 1) L (iI (lc a b) :: st) S D) : T g M R nc ns Qf pc L (lI b :: lI a :: st) S D := by
  intro p l e s m args below meth c H locs cells slots ls X
  have h := k p l e s m args below meth c H locs cells slots ls X
  simp only [List.map_cons, iI, lI, cv, ← lc_of ha hb] at h ⊢
  exact W.lcmp X.1.1 X.1.2.1 hd h
theorem T_dup {v : Value} (hd : decode M.2.1 pc = .ok (.dup, 1)) (hv : v.category = 1) (k : T g M R nc ns Qf (pc + 1) L (v :: v :: st) S D) : T g M R nc ns Qf pc L (v :: st) S D := by
  intro p l e s m args below meth c H locs cells slots ls X
  exact lv_dup X.1.1 X.1.2.1 hd (by rw [cv_cat]; exact hv) (k p l e s m args below meth c H locs cells slots ls X)
theorem T_pop {v : Value} (hd : decode M.2.1 pc = .ok (.pop, 1)) (hv : v.category = 1) (k : T g M R nc ns Qf (pc + 1) L (st) S D) : T g M R nc ns Qf pc L (v :: st) S D := by
  intro p l e s m args below meth c H locs cells slots ls X
  exact lv_pop X.1.1 X.1.2.1 hd (by rw [cv_cat]; exact hv) (k p l e s m args below meth c H locs cells slots ls X)
theorem T_dup2 {v u : Value} (hd : decode M.2.1 pc = .ok (.dup2, 1)) (hv : v.category = 1) (hu : u.category = 1) (k : T g M R nc ns Qf (pc + 1) L (v :: u :: v :: u :: st) S D) : T g M R nc ns Qf pc L (v :: u :: st) S D := by
  intro p l e s m args below meth c H locs cells slots ls X
  exact lv_dup2_11 X.1.1 X.1.2.1 hd (by rw [cv_cat]; exact hv) (by rw [cv_cat]; exact hu) (k p l e s m args below meth c H locs cells slots ls X)
theorem T_dup_x1 {v u : Value} (hd : decode M.2.1 pc = .ok (.dup_x1, 1)) (hv : v.category = 1) (hu : u.category = 1) (k : T g M R nc ns Qf (pc + 1) L (v :: u :: v :: st) S D) : T g M R nc ns Qf pc L (v :: u :: st) S D := by
  intro p l e s m args below meth c H locs cells slots ls X
  exact lv_dup_x1 X.1.1 X.1.2.1 hd (by rw [cv_cat]; exact hv) (by rw [cv_cat]; exact hu) (k p l e s m args below meth c H locs cells slots ls X)
theorem T_goto {off : Int} {tgt : Nat} (hd : decode M.2.1 pc = .ok (.goto off, 3)) (ht : (pc : Int) + off = (tgt : Int)) (k : T g M R nc ns Qf tgt L (st) S D) : T g M R nc ns Qf pc L (st) S D := by
  intro p l e s m args below meth c H locs cells slots ls X
  exact lv_goto X.1.1 X.1.2.1 hd ht (k p l e s m args below meth c H locs cells slots ls X)
theorem T_if_eq {a : Int} {off : Int} (tgt : Nat) (hd : decode M.2.1 pc = .ok (.ifCond .eq off, 3)) (ht : (pc : Int) + off = (tgt : Int)) (ha : InR a) (kt : a = 0 → T g M R nc ns Qf tgt L st S D) (kf : ¬ a = 0 → T g M R nc ns Qf (pc + 3) L st S D) : T g M R nc ns Qf pc L (iI a :: st) S D := by
  intro p l e s m args below meth c H locs cells slots ls X
  refine lv_if_eq X.1.1 X.1.2.1 hd ht (fun h => ?_) (fun h => ?_)
  · rw [i_0] at h
    exact kt ((i_eq ha inR_0).mp h) p l e s m args below meth c H locs cells slots ls X
  · rw [i_0] at h
    exact kf (fun q => h ((i_eq ha inR_0).mpr q)) p l e s m args below meth c H locs cells slots ls X
theorem T_icmp_eq {a b : Int} {off : Int} (tgt : Nat) (hd : decode M.2.1 pc = .ok (.if_icmp .eq off, 3)) (ht : (pc : Int) + off = (tgt : Int)) (ha : InR a) (hb : InR b) (kt : a = b → T g M R nc ns Qf tgt L st S D) (kf : ¬ a = b → T g M R nc ns Qf (pc + 3) L st S D) : T g M R nc ns Qf pc L (iI b :: iI a :: st) S D := by
  intro p l e s m args below meth c H locs cells slots ls X
  refine lv_icmp_eq X.1.1 X.1.2.1 hd ht (fun h => ?_) (fun h => ?_)
  · skip
    exact kt ((i_eq ha hb).mp h) p l e s m args below meth c H locs cells slots ls X
  · skip
    exact kf (fun q => h ((i_eq ha hb).mpr q)) p l e s m args below meth c H locs cells slots ls X
theorem T_if_ne {a : Int} {off : Int} (tgt : Nat) (hd : decode M.2.1 pc = .ok (.ifCond .ne off, 3)) (ht : (pc : Int) + off = (tgt : Int)) (ha : InR a) (kt : a ≠ 0 → T g M R nc ns Qf tgt L st S D) (kf : ¬ a ≠ 0 → T g M R nc ns Qf (pc + 3) L st S D) : T g M R nc ns Qf pc L (iI a :: st) S D := by
  intro p l e s m args below meth c H locs cells slots ls X
  refine lv_if_ne X.1.1 X.1.2.1 hd ht (fun h => ?_) (fun h => ?_)
  · rw [i_0] at h
    exact kt (fun q => h ((i_eq ha inR_0).mpr q)) p l e s m args below meth c H locs cells slots ls X
  · rw [i_0] at h
    exact kf (fun q => q ((i_eq ha inR_0).mp h)) p l e s m args below meth c H locs cells slots ls X
theorem T_icmp_ne {a b : Int} {off : Int} (tgt : Nat) (hd : decode M.2.1 pc = .ok (.if_icmp .ne off, 3)) (ht : (pc : Int) + off = (tgt : Int)) (ha : InR a) (hb : InR b) (kt : a ≠ b → T g M R nc ns Qf tgt L st S D) (kf : ¬ a ≠ b → T g M R nc ns Qf (pc + 3) L st S D) : T g M R nc ns Qf pc L (iI b :: iI a :: st) S D := by
  intro p l e s m args below meth c H locs cells slots ls X
  refine lv_icmp_ne X.1.1 X.1.2.1 hd ht (fun h => ?_) (fun h => ?_)
  · skip
    exact kt (fun q => h ((i_eq ha hb).mpr q)) p l e s m args below meth c H locs cells slots ls X
  · skip
    exact kf (fun q => q ((i_eq ha hb).mp h)) p l e s m args below meth c H locs cells slots ls X
theorem T_if_lt {a : Int} {off : Int} (tgt : Nat) (hd : decode M.2.1 pc = .ok (.ifCond .lt off, 3)) (ht : (pc : Int) + off = (tgt : Int)) (ha : InR a) (kt : a < 0 → T g M R nc ns Qf tgt L st S D) (kf : ¬ a < 0 → T g M R nc ns Qf (pc + 3) L st S D) : T g M R nc ns Qf pc L (iI a :: st) S D := by
  intro p l e s m args below meth c H locs cells slots ls X
  refine lv_if_lt X.1.1 X.1.2.1 hd ht (fun h => ?_) (fun h => ?_)
  · rw [i_0] at h
    exact kt ((i_lt ha inR_0).mp h) p l e s m args below meth c H locs cells slots ls X
  · rw [i_0] at h
    exact kf (fun q => h ((i_lt ha inR_0).mpr q)) p l e s m args below meth c H locs cells slots ls X
theorem T_icmp_lt {a b : Int} {off : Int} (tgt : Nat) (hd : decode M.2.1 pc = .ok (.if_icmp .lt off, 3)) (ht : (pc : Int) + off = (tgt : Int)) (ha : InR a) (hb : InR b) (kt : a < b → T g M R nc ns Qf tgt L st S D) (kf : ¬ a < b → T g M R nc ns Qf (pc + 3) L st S D) : T g M R nc ns Qf pc L (iI b :: iI a :: st) S D := by
  intro p l e s m args below meth c H locs cells slots ls X
  refine lv_icmp_lt X.1.1 X.1.2.1 hd ht (fun h => ?_) (fun h => ?_)
  · skip
    exact kt ((i_lt ha hb).mp h) p l e s m args below meth c H locs cells slots ls X
  · skip
    exact kf (fun q => h ((i_lt ha hb).mpr q)) p l e s m args below meth c H locs cells slots ls X
theorem T_if_ge {a : Int} {off : Int} (tgt : Nat) (hd : decode M.2.1 pc = .ok (.ifCond .ge off, 3)) (ht : (pc : Int) + off = (tgt : Int)) (ha : InR a) (kt : 0 ≤ a → T g M R nc ns Qf tgt L st S D) (kf : ¬ 0 ≤ a → T g M R nc ns Qf (pc + 3) L st S D) : T g M R nc ns Qf pc L (iI a :: st) S D := by
  intro p l e s m args below meth c H locs cells slots ls X
  refine lv_if_ge X.1.1 X.1.2.1 hd ht (fun h => ?_) (fun h => ?_)
  · rw [i_0] at h
    exact kt ((i_le inR_0 ha).mp h) p l e s m args below meth c H locs cells slots ls X
  · rw [i_0] at h
    exact kf (fun q => h ((i_le inR_0 ha).mpr q)) p l e s m args below meth c H locs cells slots ls X
theorem T_icmp_ge {a b : Int} {off : Int} (tgt : Nat) (hd : decode M.2.1 pc = .ok (.if_icmp .ge off, 3)) (ht : (pc : Int) + off = (tgt : Int)) (ha : InR a) (hb : InR b) (kt : b ≤ a → T g M R nc ns Qf tgt L st S D) (kf : ¬ b ≤ a → T g M R nc ns Qf (pc + 3) L st S D) : T g M R nc ns Qf pc L (iI b :: iI a :: st) S D := by
  intro p l e s m args below meth c H locs cells slots ls X
  refine lv_icmp_ge X.1.1 X.1.2.1 hd ht (fun h => ?_) (fun h => ?_)
  · skip
    exact kt ((i_le hb ha).mp h) p l e s m args below meth c H locs cells slots ls X
  · skip
    exact kf (fun q => h ((i_le hb ha).mpr q)) p l e s m args below meth c H locs cells slots ls X
theorem T_if_gt {a : Int} {off : Int} (tgt : Nat) (hd : decode M.2.1 pc = .ok (.ifCond .gt off, 3)) (ht : (pc : Int) + off = (tgt : Int)) (ha : InR a) (kt : 0 < a → T g M R nc ns Qf tgt L st S D) (kf : ¬ 0 < a → T g M R nc ns Qf (pc + 3) L st S D) : T g M R nc ns Qf pc L (iI a :: st) S D := by
  intro p l e s m args below meth c H locs cells slots ls X
  refine lv_if_gt X.1.1 X.1.2.1 hd ht (fun h => ?_) (fun h => ?_)
  · rw [i_0] at h
    exact kt ((i_lt inR_0 ha).mp h) p l e s m args below meth c H locs cells slots ls X
  · rw [i_0] at h
    exact kf (fun q => h ((i_lt inR_0 ha).mpr q)) p l e s m args below meth c H locs cells slots ls X
theorem T_icmp_gt {a b : Int} {off : Int} (tgt : Nat) (hd : decode M.2.1 pc = .ok (.if_icmp .gt off, 3)) (ht : (pc : Int) + off = (tgt : Int)) (ha : InR a) (hb : InR b) (kt : b < a → T g M R nc ns Qf tgt L st S D) (kf : ¬ b < a → T g M R nc ns Qf (pc + 3) L st S D) : T g M R nc ns Qf pc L (iI b :: iI a :: st) S D := by
  intro p l e s m args below meth c H locs cells slots ls X
  refine lv_icmp_gt X.1.1 X.1.2.1 hd ht (fun h => ?_) (fun h => ?_)
  · skip
    exact kt ((i_lt hb ha).mp h) p l e s m args below meth c H locs cells slots ls X
  · skip
    exact kf (fun q => h ((i_lt hb ha).mpr q)) p l e s m args below meth c H locs cells slots ls X
theorem T_if_le {a : Int} {off : Int} (tgt : Nat) (hd : decode M.2.1 pc = .ok (.ifCond .le off, 3)) (ht : (pc : Int) + off = (tgt : Int)) (ha : InR a) (kt : a ≤ 0 → T g M R nc ns Qf tgt L st S D) (kf : ¬ a ≤ 0 → T g M R nc ns Qf (pc + 3) L st S D) : T g M R nc ns Qf pc L (iI a :: st) S D := by
  intro p l e s m args below meth c H locs cells slots ls X
  refine lv_if_le X.1.1 X.1.2.1 hd ht (fun h => ?_) (fun h => ?_)
  · rw [i_0] at h
    exact kt ((i_le ha inR_0).mp h) p l e s m args below meth c H locs cells slots ls X
  · rw [i_0] at h
    exact kf (fun q => h ((i_le ha inR_0).mpr q)) p l e s m args below meth c H locs cells slots ls X
theorem T_icmp_le {a b : Int} {off : Int} (tgt : Nat) (hd : decode M.2.1 pc = .ok (.if_icmp .le off, 3)) (ht : (pc : Int) + off = (tgt : Int)) (ha : InR a) (hb : InR b) (kt : a ≤ b → T g M R nc ns Qf tgt L st S D) (kf : ¬ a ≤ b → T g M R nc ns Qf (pc + 3) L st S D) : T g M R nc ns Qf pc L (iI b :: iI a :: st) S D := by
  intro p l e s m args below meth c H locs cells slots ls X
  refine lv_icmp_le X.1.1 X.1.2.1 hd ht (fun h => ?_) (fun h => ?_)
  · skip
    exact kt ((i_le ha hb).mp h) p l e s m args below meth c H locs cells slots ls X
  · skip
    exact kf (fun q => h ((i_le ha hb).mpr q)) p l e s m args below meth c H locs cells slots ls X
theorem T_tsw {a dflt lo hi : Int} {offs : Array Int} {len : Nat} (hd : decode M.2.1 pc = .ok (.tableswitch dflt lo hi offs, len)) (ha : InR a) (ki : ∀ (off : Int), lo ≤ a → a ≤ hi → offs[(a - lo).toNat]? = some off → ∀ tgt : Nat, (pc : Int) + off = (tgt : Int) → T g M R nc ns Qf tgt L st S D)
    (hof : ∀ off ∈ offs.toList, 0 ≤ (pc : Int) + off) (hsz : (offs.size : Int) = hi - lo + 1) (tgtd : Nat) (htd : (pc : Int) + dflt = (tgtd : Int)) (ko : a < lo ∨ hi < a → T g M R nc ns Qf tgtd L st S D) : T g M R nc ns Qf pc L (iI a :: st) S D := by
  intro p l e s m args below meth c H locs cells slots ls X
  by_cases h : a < lo ∨ hi < a
  · exact lv_tableOut X.1.1 X.1.2.1 hd (by rw [i_ti ha]; exact h) htd (ko h p l e s m args below meth c H locs cells slots ls X)
  · have h1 : lo ≤ a := by omega
    have h2 : a ≤ hi := by omega
    have hlt : (a - lo).toNat < offs.size := by omega
    have ho : offs[(a - lo).toNat]? = some offs[(a - lo).toNat] := Array.getElem?_eq_getElem hlt
    have hm : 0 ≤ (pc : Int) + offs[(a - lo).toNat] := hof _ (by simp)
    obtain ⟨tgt, ht⟩ : ∃ tgt : Nat, (pc : Int) + offs[(a - lo).toNat] = (tgt : Int) := ⟨((pc : Int) + offs[(a - lo).toNat]).toNat, by omega⟩
    exact lv_tableIn X.1.1 X.1.2.1 hd (by rw [i_ti ha]; omega) (by rw [i_ti ha]; omega) (by rw [i_ti ha]; exact ho) ht (ki _ h1 h2 ho tgt ht p l e s m args below meth c H locs cells slots ls X)
theorem T_lsw {a dflt : Int} {ps : Array (Int × Int)} {len : Nat} (hd : decode M.2.1 pc = .ok (.lookupswitch dflt ps, len)) (ha : InR a) (hp : (ps.toList.zip (ps.toList.drop 1)).all (fun (a, next) => a.1 < next.1) = true) {off : Int} (ho : Op.lookupswitch.offset ps.toList dflt a = off) (tgt : Nat) (ht : (pc : Int) + off = (tgt : Int)) (k : T g M R nc ns Qf tgt L st S D) : T g M R nc ns Qf pc L (iI a :: st) S D := by
  intro p l e s m args below meth c H locs cells slots ls X
  exact lv_lookup X.1.1 X.1.2.1 hd hp (by rw [i_ti ha]; exact ho) ht (k p l e s m args below meth c H locs cells slots ls X)

def CK (ci : Nat) (C : String) (Tt : u_T) (N : Nat) (ty0 : Nat → FieldType) : Prop := vwCl[ci]? = some (C, Tt, N) ∧ (∀ w ∈ u_ws C Tt N, w ∈ tw) ∧ (∀ k, k < N → parseFieldDescriptor (Tt k).2.2.1 = some (ty0 k)) ∧ (∀ a, a < N → ∀ b, b < N → a ≠ b → (Tt a).2.1 ≠ (Tt b).2.1)
def FL (own : String) (idx ci k : Nat) (ty : FieldType) (fin : Bool) : Prop := ∃ (C : String) (Tt : u_T) (N : Nat) (ty0 : Nat → FieldType), CK ci C Tt N ty0 ∧ k < N ∧ Cond.fieldLink own idx C (Tt k).2.1 (Tt k).2.2.1 ∈ tw ∧ (Tt k).1 = C ∧ ty0 k = ty ∧ (Tt k).2.2.2 = fin
theorem T_getI {idx ci k i : Nat} {ty : FieldType} {fin : Bool} {fs : List (Option Value)} (hd : decode M.2.1 pc = .ok (.getfield idx, 3)) (hF : FL M.1 idx ci k ty fin) (hS : S[i]? = some (0, ci, fs)) (hf : fs[k]? = some none) (kk : T g M R nc ns Qf (pc + 3) L (iI (D i k) :: st) S D) : T g M R nc ns Qf pc L (.ref i :: st) S D := by
  intro p l e s m args below meth c H locs cells slots ls X
  obtain ⟨C, Tt, N, ty0, ⟨hc, hin, hty, hnm⟩, hk, hl, hC, -, -⟩ := hF
  have hg := wsO_get g D S 0 i _ hS
  rw [Nat.zero_add] at hg
  have hv := fv_get g D i fs 0 k none hf
  rw [Nat.zero_add] at hv
  exact va_get X.1.1 X.1.2.1 X.1.2.2.2.2.2.1 hin X.1.2.2.2.2.1 X.1.2.2.2.2.2.2.2.2.1.1 X.2.1 i hg hc k hk (X.1.2.2.2.2.2.1 _ hl) (fun x hx => by rw [hC] at hx; exact hx) hv hd (kk p l e s m args below meth c H locs cells slots ls X)
theorem T_getR {idx ci k i : Nat} {ty : FieldType} {fin : Bool} {fs : List (Option Value)} {v : Value} (hd : decode M.2.1 pc = .ok (.getfield idx, 3)) (hF : FL M.1 idx ci k ty fin) (hS : S[i]? = some (0, ci, fs)) (hf : fs[k]? = some (some v)) (kk : T g M R nc ns Qf (pc + 3) L (v :: st) S D) : T g M R nc ns Qf pc L (.ref i :: st) S D := by
  intro p l e s m args below meth c H locs cells slots ls X
  obtain ⟨C, Tt, N, ty0, ⟨hc, hin, hty, hnm⟩, hk, hl, hC, -, -⟩ := hF
  have hg := wsO_get g D S 0 i _ hS
  rw [Nat.zero_add] at hg
  have hv := fv_get g D i fs 0 k (some v) hf
  exact va_get X.1.1 X.1.2.1 X.1.2.2.2.2.2.1 hin X.1.2.2.2.2.1 X.1.2.2.2.2.2.2.2.2.1.1 X.2.1 i hg hc k hk (X.1.2.2.2.2.2.1 _ hl) (fun x hx => by rw [hC] at hx; exact hx) hv hd (kk p l e s m args below meth c H locs cells slots ls X)
theorem T_putG {idx ci k i : Nat} {ty : FieldType} {fs : List (Option Value)} {x : Int} (hd : decode M.2.1 pc = .ok (.putfield idx, 3)) (hF : FL M.1 idx ci k ty false) (hS : S[i]? = some (0, ci, fs)) (hf : fs[k]? = some none) (hn : narrow ty (iI x) = iI x) (hfit : fits ty (iI x) = true) (kk : T g M R nc ns Qf (pc + 3) L st S (st2 D i k x)) : T g M R nc ns Qf pc L (iI x :: .ref i :: st) S D := by
  intro p l e s m args below meth c H locs cells slots ls X
  obtain ⟨C, Tt, N, ty0, ⟨hc, hin, hty, hnm⟩, hk, hl, hC, hT, hfin⟩ := hF
  have hg := wsO_get g D S 0 i _ hS
  rw [Nat.zero_add] at hg
  refine va_put (v := iI x) (ty := ty) X.1.1 X.1.2.1 X.1.2.2.2.2.2.1 hin ty0 hty hnm X.1.2.2.2.2.1 X.1.2.2.2.2.2.2.2.2.1.1 X.2.1 (wsO_D g D S) X.2.2.1 i hg hc k hk (X.1.2.2.2.2.2.1 _ hl) (fun x hx => by rw [hC] at hx; exact hx) hfin (by rw [hty k hk, hT]) hn hfit (by rw [fv_len]; exact (List.getElem?_eq_some_iff.mp hf).1) hd (fun H1 locs1 hP hD hS1 => ?_)
  have e1 : (wsO g D 0 S).set i (g.1 + i, .inr (ci, (fv g D i 0 fs).set k (iI x))) = wsO g (st2 D i k x) 0 S := by
    have h2 := wsO_upd g (D := D) (D' := st2 D i k x) hS (fun r hr => st2_row hr)
    have h3 := fv_st g D i x fs 0 k hf
    rw [Nat.zero_add] at h3
    rw [← h2]
    show _ = (wsO g D 0 S).set i (g.1 + i, .inr (ci, fv g (st2 D i k x) i 0 fs))
    rw [h3]
  rw [e1] at hP
  exact kk p l e s m args below meth c H1 locs1 cells slots ls ⟨X.1, hP, hS1, X.2.2.2⟩
theorem T_putI {idx ci k i : Nat} {fs : List (Option Value)} {x : Int} (hd : decode M.2.1 pc = .ok (.putfield idx, 3)) (hF : FL M.1 idx ci k .int false) (hS : S[i]? = some (0, ci, fs)) (hf : fs[k]? = some none) (kk : T g M R nc ns Qf (pc + 3) L st S (st2 D i k x)) : T g M R nc ns Qf pc L (iI x :: .ref i :: st) S D :=
  T_putG hd hF hS hf rfl rfl kk
theorem T_putZ {idx ci k i : Nat} {fs : List (Option Value)} {x : Int} (hd : decode M.2.1 pc = .ok (.putfield idx, 3)) (hF : FL M.1 idx ci k .boolean false) (hS : S[i]? = some (0, ci, fs)) (hf : fs[k]? = some none) (hx : x = 0 ∨ x = 1) (kk : T g M R nc ns Qf (pc + 3) L st S (st2 D i k x)) : T g M R nc ns Qf pc L (iI x :: .ref i :: st) S D :=
  T_putG hd hF hS hf (by rcases hx with rfl | rfl <;> decide) (by rcases hx with rfl | rfl <;> decide) kk
theorem T_putR {idx ci k i a : Nat} {ty : FieldType} {fs : List (Option Value)} (hd : decode M.2.1 pc = .ok (.putfield idx, 3)) (hF : FL M.1 idx ci k ty true) (hM : M.2.2.2.2 = true) (hO : ∀ (C : String) (Tt : u_T) (N : Nat), vwCl[ci]? = some (C, Tt, N) → C = M.1) (hS : S[i]? = some (0, ci, fs)) (hf : k < fs.length) (hn : ∀ b, narrow ty (.ref b) = .ref b) (hfit : ∀ b, fits ty (.ref b) = true) (kk : T g M R nc ns Qf (pc + 3) L st (S.set i (0, ci, fs.set k (some (.ref a)))) D) : T g M R nc ns Qf pc L (.ref a :: .ref i :: st) S D := by
  intro p l e s m args below meth c H locs cells slots ls X
  obtain ⟨C, Tt, N, ty0, ⟨hc, hin, hty, hnm⟩, hk, hl, hC, hT, hfin⟩ := hF
  have hg := wsO_get g D S 0 i _ hS
  rw [Nat.zero_add] at hg
  refine va_putF (v := .ref (g.1 + a)) (ty := ty) X.1.1 X.1.2.1 X.1.2.2.2.2.2.1 hin ty0 hty hnm X.1.2.2.2.2.1 X.1.2.2.2.2.2.2.2.2.1.1 X.2.1 (wsO_D g D S) X.2.2.1 i hg hc k hk (X.1.2.2.2.2.2.1 _ hl) (fun x hx => by rw [hC] at hx; exact hx) hfin (X.1.2.2.2.2.2.2.2.1 hM) (by rw [hC]; exact hO C Tt N hc) (by rw [hty k hk, hT]) (hn _) (hfit _) (by rw [fv_len]; exact hf) hd (fun H1 locs1 hP hD hS1 => ?_)
  have hi := (List.getElem?_eq_some_iff.mp hS).1
  have e1 : (wsO g D 0 S).set i (g.1 + i, .inr (ci, (fv g D i 0 fs).set k (.ref (g.1 + a)))) = wsO g D 0 (S.set i (0, ci, fs.set k (some (.ref a)))) := by
    have h2 := wsO_set g (D := D) (D' := D) S 0 i (0, ci, fs.set k (some (.ref a))) hi (fun r hr => rfl)
    rw [Nat.zero_add] at h2
    rw [← h2]
    show _ = (wsO g D 0 S).set i (g.1 + i, .inr (ci, fv g D i 0 (fs.set k (some (.ref a)))))
    rw [fv_stR g D i _ fs 0 k hf]
    rfl
  rw [e1] at hP
  exact kk p l e s m args below meth c H1 locs1 cells slots ls ⟨X.1, hP, hS1, X.2.2.2.1, X.2.2.2.2.1, X.2.2.2.2.2.1, by rw [List.length_set]; exact X.2.2.2.2.2.2⟩
theorem T_iald {i n : Nat} {j : Int} {fs : List (Option Value)} (hd : decode M.2.1 pc = .ok (.iaload, 1)) (hS : S[i]? = some (1, n, fs)) (hn : n < 2147483648) (h0 : 0 ≤ j) (h1 : j < n) (kk : T g M R nc ns Qf (pc + 1) L (iI (D i j.toNat) :: st) S D) : T g M R nc ns Qf pc L (iI j :: .ref i :: st) S D := by
  intro p l e s m args below meth c H locs cells slots ls X
  have hg := wsO_get g D S 0 i _ hS
  rw [Nat.zero_add] at hg
  refine va_iald X.1.1 X.1.2.1 X.1.2.2.2.2.2.2.2.2.1.1 X.2.1 i 0 hg rfl (i_in h0 h1 hn) hd ?_
  rw [i_cl h0 (by omega)]
  exact kk p l e s m args below meth c H locs cells slots ls X
theorem T_zald {i n : Nat} {j : Int} {fs : List (Option Value)} (hd : decode M.2.1 pc = .ok (.baload, 1)) (hS : S[i]? = some (2, n, fs)) (hn : n < 2147483648) (h0 : 0 ≤ j) (h1 : j < n) (kk : T g M R nc ns Qf (pc + 1) L (iI (D i j.toNat) :: st) S D) : T g M R nc ns Qf pc L (iI j :: .ref i :: st) S D := by
  intro p l e s m args below meth c H locs cells slots ls X
  have hg := wsO_get g D S 0 i _ hS
  rw [Nat.zero_add] at hg
  refine va_zald X.1.1 X.1.2.1 X.1.2.2.2.2.2.2.2.2.1.1 X.2.1 i 1 hg rfl (i_in h0 h1 hn) hd ?_
  rw [i_cl h0 (by omega)]
  exact kk p l e s m args below meth c H locs cells slots ls X
theorem ce_st {i j : Nat} {x : Int} : (fun q => Int32.ofInt (st2 D i j x i q)) = upd (fun q => Int32.ofInt (D i q)) j (Int32.ofInt x) := by
  funext q
  by_cases h : q = j
  · subst h; simp [upd, st2]
  · simp [upd, st2, h]
theorem T_iast {i n : Nat} {j x : Int} {fs : List (Option Value)} (hd : decode M.2.1 pc = .ok (.iastore, 1)) (hS : S[i]? = some (1, n, fs)) (hn : n < 2147483648) (h0 : 0 ≤ j) (h1 : j < n) (kk : T g M R nc ns Qf (pc + 1) L st S (st2 D i j.toNat x)) : T g M R nc ns Qf pc L (iI x :: iI j :: .ref i :: st) S D := by
  intro p l e s m args below meth c H locs cells slots ls X
  have hg := wsO_get g D S 0 i _ hS
  rw [Nat.zero_add] at hg
  refine va_iast (x := Int32.ofInt x) X.1.1 X.1.2.1 X.1.2.2.2.2.2.2.2.2.1.1 X.2.1 (wsO_D g D S) X.2.2.1 i 0 hg rfl (i_in h0 h1 hn) hd (fun H1 locs1 hP hD hS1 => ?_)
  rw [i_cl h0 (by omega), ← ce_st] at hP
  have h2 := wsO_upd g (D := D) (D' := st2 D i j.toNat x) hS (fun r hr => st2_row hr)
  exact kk p l e s m args below meth c H1 locs1 cells slots ls ⟨X.1, (by rw [Rl, ← h2]; exact hP), hS1, X.2.2.2⟩
theorem T_zast {i n : Nat} {j x : Int} {fs : List (Option Value)} (hd : decode M.2.1 pc = .ok (.bastore, 1)) (hS : S[i]? = some (2, n, fs)) (hn : n < 2147483648) (h0 : 0 ≤ j) (h1 : j < n) (hx : x = 0 ∨ x = 1) (kk : T g M R nc ns Qf (pc + 1) L st S (st2 D i j.toNat x)) : T g M R nc ns Qf pc L (iI x :: iI j :: .ref i :: st) S D := by
  intro p l e s m args below meth c H locs cells slots ls X
  have hg := wsO_get g D S 0 i _ hS
  rw [Nat.zero_add] at hg
  refine va_zast (x := Int32.ofInt x) X.1.1 X.1.2.1 X.1.2.2.2.2.2.2.2.2.1.1 X.2.1 (wsO_D g D S) X.2.2.1 i 1 hg rfl (i_in h0 h1 hn) hd (fun H1 locs1 hP hD hS1 => ?_)
  rw [i_cl h0 (by omega), show vp_nar .boolean (Int32.ofInt x) = Int32.ofInt x by rcases hx with rfl | rfl <;> decide, ← ce_st] at hP
  have h2 := wsO_upd g (D := D) (D' := st2 D i j.toNat x) hS (fun r hr => st2_row hr)
  exact kk p l e s m args below meth c H1 locs1 cells slots ls ⟨X.1, (by rw [Rl, ← h2]; exact hP), hS1, X.2.2.2⟩
theorem T_aald {i n a : Nat} {j : Int} {fs : List (Option Value)} (hd : decode M.2.1 pc = .ok (.aaload, 1)) (hS : S[i]? = some (3, n, fs)) (hn : n < 2147483648) (h0 : 0 ≤ j) (h1 : j < n) (hf : fs[j.toNat]? = some (some (.ref a))) (kk : T g M R nc ns Qf (pc + 1) L (.ref a :: st) S D) : T g M R nc ns Qf pc L (iI j :: .ref i :: st) S D := by
  intro p l e s m args below meth c H locs cells slots ls X
  have hg := wsO_get g D S 0 i _ hS
  rw [Nat.zero_add] at hg
  refine va_aldq X.1.1 X.1.2.1 X.1.2.2.2.2.2.2.2.2.1.1 X.2.1 i 2 hg rfl (i_in h0 h1 hn) hd ?_
  rw [i_cl h0 (by omega), show rf g fs j.toNat = some (g.1 + a) by unfold rf; rw [hf]]
  exact kk p l e s m args below meth c H locs cells slots ls X
theorem T_alen {i n t : Nat} {fs : List (Option Value)} (hd : decode M.2.1 pc = .ok (.arraylength, 1)) (hS : S[i]? = some (t + 1, n, fs)) (kk : T g M R nc ns Qf (pc + 1) L (iI n :: st) S D) : T g M R nc ns Qf pc L (.ref i :: st) S D := by
  intro p l e s m args below meth c H locs cells slots ls X
  have hg := wsO_get g D S 0 i _ hS
  rw [Nat.zero_add] at hg
  have hk := kk p l e s m args below meth c H locs cells slots ls X
  have e : Int32.ofNat n = Int32.ofInt n := (Int32.ofInt_eq_ofNat (n := n)).symm
  match t, hg with
  | 0, hg => exact va_alen X.1.1 X.1.2.1 X.1.2.2.2.2.2.2.2.2.1.1 X.2.1 i 0 hg rfl e hd hk
  | 1, hg => exact va_alen X.1.1 X.1.2.1 X.1.2.2.2.2.2.2.2.2.1.1 X.2.1 i 1 hg rfl e hd hk
  | _ + 2, hg => exact va_alen X.1.1 X.1.2.1 X.1.2.2.2.2.2.2.2.2.1.1 X.2.1 i 2 hg rfl e hd hk
theorem T_slen {x : UInt32} (hd : decode M.2.1 pc = .ok (.arraylength, 1)) (hM : M.1 = RL) (kk : T g M R nc ns Qf (pc + 1) L (iI g.2.1.2.1 :: st) S D) : T g M R nc ns Qf pc L (.float x :: st) S D := by
  intro p l e s m args below meth c H locs cells slots ls X
  have hk := kk p l e s m args below meth c H locs cells slots ls X
  have e : Int32.ofNat g.2.1.2.1 = Int32.ofInt g.2.1.2.1 := (Int32.ofInt_eq_ofNat (n := g.2.1.2.1)).symm
  obtain ⟨hX, hb⟩ := X.1.2.2.2.2.2.2.2.2.2.2 hM
  refine va_slen X.1.1 X.1.2.1 hX (Nat.lt_of_lt_of_le hb X.1.2.2.2.2.2.2.2.2.2.1) (A := fun q => g.1 ≤ q) (Nat.not_le.mpr hb) X.2.2.1 hd ?_
  rw [e]
  exact hk
theorem T_sld {x : UInt32} {j : Int} (hd : decode M.2.1 pc = .ok (.iaload, 1)) (hM : M.1 = RL) (hn : g.2.1.2.1 < 2147483648) (h0 : 0 ≤ j) (h1 : j < g.2.1.2.1) (kk : T g M R nc ns Qf (pc + 1) L (iI (g.2.1.2.2 j.toNat).toInt :: st) S D) : T g M R nc ns Qf pc L (iI j :: .float x :: st) S D := by
  intro p l e s m args below meth c H locs cells slots ls X
  have hk := kk p l e s m args below meth c H locs cells slots ls X
  obtain ⟨hX, hb⟩ := X.1.2.2.2.2.2.2.2.2.2.2 hM
  refine va_sld X.1.1 X.1.2.1 hX (Nat.lt_of_lt_of_le hb X.1.2.2.2.2.2.2.2.2.2.1) (A := fun q => g.1 ≤ q) (Nat.not_le.mpr hb) X.2.2.1 (i_in h0 h1 hn) hd ?_
  rw [i_cl h0 (by omega)]
  simp only [List.map_cons, iI, cv, i_of] at hk
  exact hk
end
section
variable {g : G0} {M : MI} {R : Room} {nc ns : Nat} {Qf : List Frame → Array Value → State → State → Prop} {pc : Nat} {L : List (Option Value)} {st : List Value} {S : List SC} {D : DD}
theorem T_objInit {idx i : Nat} (hd : decode M.2.1 pc = .ok (.invokespecial idx, 3)) (h1 : Cond.methodLink M.1 idx objectInit ∈ tw) (h2 : Cond.instanceMethod objectInit ∈ tw) (h3 : Cond.code objectInit ⟨#[0xb1]⟩ 1 none ∈ tw) (hst : (st.map fun v => v.category).sum ≤ 8) (hf : 1 ≤ R.frames) (hlo : 20 ≤ R.locals) (kk : T g M R nc ns Qf (pc + 3) L st S D) : T g M R nc ns Qf pc L (.ref i :: st) S D := by
  intro p l e s m args below meth c H locs cells slots ls X
  refine W.objInit (rest := st.map (cv g)) X.1.1 X.1.2.1 X.1.2.2.2.2.1 (X.1.2.2.2.2.2.1 _ h1) (X.1.2.2.2.2.2.1 _ h2) (X.1.2.2.2.2.2.1 _ h3) rfl (by rw [X.1.2.2.1]; exact X.2.2.2.1.1) rfl hd hf ?_ (kk p l e s m args below meth c H locs cells slots ls X)
  show 2 * 0 + _ + 12 ≤ R.locals
  have e1 : ((st.map (cv g)).map fun v => v.category) = st.map fun v => v.category := by rw [List.map_map]; exact List.map_congr_left (fun v _ => cv_cat g v)
  rw [e1]
  omega
theorem W.fits {p : Program} {l : Launch} {e : Env} {R : Room} {s : State} {m : MethodId} {args : Array Value} {below : List Frame} {meth : Method} {c : Code} {H : Heap} {locs : List Loc} {cells slots : Nat} {Q : State → Prop} {f : JFrame} (h : H.size ≤ s.heap.size + cells → W p l e R s m args below meth c H locs cells slots Q f) : W p l e R s m args below meth c H locs cells slots Q f := by
  intro T hT X
  have h1 := X.same.2.2.1
  have h2 : (T.setVm s.vm).heap = H := hT
  rw [h2] at h1
  exact h h1 T hT X
theorem new_q {g : G0} {D : DD} {S : List SC} {q : Nat} {x : va_E} {H1 : Heap} {b : Nat} (hP : va_P g.2.2.1 vwCl (wsO g D 0 S ++ [(q, x)]) H1) (hD : va_D (fun q => g.1 ≤ q) (wsO g D 0 S ++ [(q, x)])) (hz : H1.size ≤ b) (hb : b = g.1 + S.length + 1) (hl : (wsO g D 0 S).length = S.length) : q = g.1 + S.length := by
  have hq : (wsO g D 0 S ++ [(q, x)])[S.length]? = some (q, x) := by rw [List.getElem?_append_right (by omega), hl, Nat.sub_self]; rfl
  have h1 := (hP _ _ hq).lt
  have h2 : g.1 ≤ q := hD.2 _ _ hq
  have h3 : q < H1.size := h1
  rcases Nat.lt_or_ge q (g.1 + S.length) with h | h
  · exfalso
    have hi : q - g.1 < S.length := by omega
    have hg := wsO_get g D S 0 (q - g.1) S[q - g.1] (List.getElem?_eq_getElem hi)
    have hg2 : (wsO g D 0 S ++ [(q, x)])[q - g.1]? = some (g.1 + (0 + (q - g.1)), ce g D (0 + (q - g.1)) S[q - g.1]) := by rw [List.getElem?_append_left (by omega)]; exact hg
    have := hD.1 _ _ _ _ hg2 hq (by show g.1 + (0 + (q - g.1)) = q; omega)
    omega
  · omega
theorem wsO_len (g : G0) (D : DD) : ∀ (S : List SC) (i : Nat), (wsO g D i S).length = S.length
  | [], _ => rfl
  | x :: r, i => by simp only [wsO, List.length_cons, wsO_len g D r (i + 1)]
def nul (N : Nat) (ty0 : Nat → FieldType) : List (Option Value) := (List.range N).map (fun k => match ty0 k with | .int => none | .boolean => none | _ => some .null)
def NW (own : String) (idx ci : Nat) (N : Nat) (fs : List (Option Value)) : Prop := ∃ (C : String) (Tt : u_T) (ty0 : Nat → FieldType), CK ci C Tt N ty0 ∧ Cond.classLink own idx C ∈ tw ∧ Cond.instantiable C N ∈ tw ∧ Cond.initialized C ∈ tw ∧ fs.length = N ∧ ∀ k, k < N → (fs[k]? = some none ∧ defaultValue (ty0 k) = iI 0) ∨ (fs[k]? = some (some .null) ∧ defaultValue (ty0 k) = .null)
theorem T_new {idx ci N : Nat} {fs : List (Option Value)} (hd : decode M.2.1 pc = .ok (.new idx, 3)) (hN : NW M.1 idx ci N fs) (hz : ∀ j, D S.length j = 0) (kk : T g M R nc ns Qf (pc + 3) L (.ref S.length :: st) (S ++ [(0, ci, fs)]) D) : T g M R (nc + 1) (ns + N) Qf pc L st S D := by
  intro p l e s m args below meth c H locs cells slots ls X
  obtain ⟨C, Tt, ty0, ⟨hc, hin, hty, hnm⟩, h1, h2, h3, hlen, hfs⟩ := hN
  refine va_new (fs := fv g D S.length 0 fs) X.1.1 X.1.2.1 X.1.2.2.2.2.2.1 hin ty0 hty X.1.2.2.2.2.1 (X.1.2.2.2.2.2.1 _ h1) (X.1.2.2.2.2.2.1 _ h2) (X.1.2.2.2.2.2.1 _ h3) X.1.2.2.2.2.2.2.2.2.1.1 X.2.1 (wsO_D g D S) X.2.2.1 (fun q hq => Nat.le_trans X.1.2.2.2.2.2.2.2.2.2.1 hq) hc ?_ (by have := X.2.2.2.2.1; omega) (by have := X.2.2.2.2.2.1; omega) hd (fun q H1 hP hD hS1 => ?_)
  · intro j hj
    show _ = (fv g D S.length 0 fs).getD j .null
    rcases hfs j hj with ⟨a1, a2⟩ | ⟨a1, a2⟩
    · have := fv_get g D S.length fs 0 j none a1
      rw [List.getD_eq_getElem?_getD, this, a2]
      show iI 0 = iI (D S.length (0 + j))
      rw [hz]
    · have := fv_get g D S.length fs 0 j (some .null) a1
      rw [List.getD_eq_getElem?_getD, this, a2]
      rfl
  · refine W.fits (fun hz1 => ?_)
    have hq := new_q hP hD hz1 (by have := X.2.2.2.2.2.2; omega) (wsO_len g D S 0)
    subst hq
    have e1 := wsO_push g D S 0 (0, ci, fs)
    rw [Nat.zero_add] at e1
    have hP2 : Rl g (S ++ [(0, ci, fs)]) D H1 := by rw [Rl, e1]; exact hP
    exact kk p l e s m args below meth c H1 locs (cells + 1) (slots + N) ls ⟨X.1, hP2, hS1, X.2.2.2.1, by have := X.2.2.2.2.1; omega, by have := X.2.2.2.2.2.1; omega, by have := X.2.2.2.2.2.2; simp only [List.length_append, List.length_singleton]; omega⟩
theorem T_newI {n : Nat} (hd : decode M.2.1 pc = .ok (.newarray .int, 2)) (hw : Cond.arrayClass .int ∈ tw) (hn : n ≤ 1000) (hz : ∀ j, D S.length j = 0) (kk : T g M R nc ns Qf (pc + 2) L (.ref S.length :: st) (S ++ [(1, n, [])]) D) : T g M R (nc + 1) (ns + n) Qf pc L (iI n :: st) S D := by
  intro p l e s m args below meth c H locs cells slots ls X
  refine va_newa (atype := .int) (N' := n) (a0 := (n, .inl (fun _ => Int32.ofInt 0))) (ty := .int) X.1.1 X.1.2.1 (X.1.2.2.2.2.2.1 _ hw) rfl X.1.2.2.2.2.2.2.2.2.1.1 X.2.1 (wsO_D g D S) X.2.2.1 (fun q hq => Nat.le_trans X.1.2.2.2.2.2.2.2.2.2.1 hq) (fun cA => rfl) ?_ ?_ ?_ (by have := X.2.2.2.2.1; omega) (by have := X.2.2.2.2.2.1; omega) hd (fun q cA H1 hK hP hD hS1 => ?_)
  · rw [i_0, i_lt ⟨by omega, by omega⟩ inR_0]; omega
  · rw [i_cl (by omega) (by omega)]; rfl
  · show n * 4 ≤ _; omega
  · refine W.fits (fun hz1 => ?_)
    have hq := new_q hP hD hz1 (by have := X.2.2.2.2.2.2; omega) (wsO_len g D S 0)
    subst hq
    have hc : cA = g.2.2.2.1 := by
      have h1 := (hK.2 3 _ rfl).2
      have h2 := (X.1.2.2.2.2.2.2.2.2.1.1.2 0 _ rfl).2
      exact Option.some.inj (h1.symm.trans h2)
    subst hc
    have e1 := wsO_push g D S 0 (1, n, [])
    rw [Nat.zero_add] at e1
    have hP2 : Rl g (S ++ [(1, n, [])]) D H1 := by
      rw [Rl, e1]
      show va_P _ _ (wsO g D 0 S ++ [(g.1 + S.length, .inl (g.2.2.2.1, (n, .inl (fun j => Int32.ofInt (D S.length j)))))]) H1
      rw [show (fun j => Int32.ofInt (D S.length j)) = (fun _ => Int32.ofInt 0) from funext fun j => by rw [hz]]
      exact hP
    exact kk p l e s m args below meth c H1 locs (cells + 1) (slots + n) ls ⟨X.1, hP2, hS1, X.2.2.2.1, by have := X.2.2.2.2.1; omega, by have := X.2.2.2.2.2.1; omega, by have := X.2.2.2.2.2.2; simp only [List.length_append, List.length_singleton]; omega⟩
theorem T_newZ {n : Nat} (hd : decode M.2.1 pc = .ok (.newarray .boolean, 2)) (hw : Cond.arrayClass .boolean ∈ tw) (hn : n ≤ 1000) (hz : ∀ j, D S.length j = 0) (kk : T g M R nc ns Qf (pc + 2) L (.ref S.length :: st) (S ++ [(2, n, [])]) D) : T g M R (nc + 1) (ns + n) Qf pc L (iI n :: st) S D := by
  intro p l e s m args below meth c H locs cells slots ls X
  refine va_newa (atype := .boolean) (N' := n) (a0 := (n, .inl (fun _ => Int32.ofInt 0))) (ty := .boolean) X.1.1 X.1.2.1 (X.1.2.2.2.2.2.1 _ hw) rfl X.1.2.2.2.2.2.2.2.2.1.1 X.2.1 (wsO_D g D S) X.2.2.1 (fun q hq => Nat.le_trans X.1.2.2.2.2.2.2.2.2.2.1 hq) (fun cA => rfl) ?_ ?_ ?_ (by have := X.2.2.2.2.1; omega) (by have := X.2.2.2.2.2.1; omega) hd (fun q cA H1 hK hP hD hS1 => ?_)
  · rw [i_0, i_lt ⟨by omega, by omega⟩ inR_0]; omega
  · rw [i_cl (by omega) (by omega)]; rfl
  · show n * 1 ≤ _; omega
  · refine W.fits (fun hz1 => ?_)
    have hq := new_q hP hD hz1 (by have := X.2.2.2.2.2.2; omega) (wsO_len g D S 0)
    subst hq
    have hc : cA = g.2.2.2.2.1 := by
      have h1 := (hK.2 3 _ rfl).2
      have h2 := (X.1.2.2.2.2.2.2.2.2.1.1.2 1 _ rfl).2
      exact Option.some.inj (h1.symm.trans h2)
    subst hc
    have e1 := wsO_push g D S 0 (2, n, [])
    rw [Nat.zero_add] at e1
    have hP2 : Rl g (S ++ [(2, n, [])]) D H1 := by
      rw [Rl, e1]
      show va_P _ _ (wsO g D 0 S ++ [(g.1 + S.length, .inl (g.2.2.2.2.1, (n, .inl (fun j => Int32.ofInt (D S.length j)))))]) H1
      rw [show (fun j => Int32.ofInt (D S.length j)) = (fun _ => Int32.ofInt 0) from funext fun j => by rw [hz]]
      exact hP
    exact kk p l e s m args below meth c H1 locs (cells + 1) (slots + n) ls ⟨X.1, hP2, hS1, X.2.2.2.1, by have := X.2.2.2.2.1; omega, by have := X.2.2.2.2.2.1; omega, by have := X.2.2.2.2.2.2; simp only [List.length_append, List.length_singleton]; omega⟩
theorem T_newS {idx n : Nat} (hd : decode M.2.1 pc = .ok (.anewarray idx, 3)) (hw : Cond.classLink M.1 idx RX4 ∈ tw) (hn : n ≤ 1000) (kk : T g M R nc ns Qf (pc + 3) L (.ref S.length :: st) (S ++ [(3, n, List.replicate n (some .null))]) D) : T g M R (nc + 1) (ns + n) Qf pc L (iI n :: st) S D := by
  intro p l e s m args below meth c H locs cells slots ls X
  refine va_newq (C := RX4) (N' := n) X.1.1 X.1.2.1 X.1.2.2.2.2.1 (X.1.2.2.2.2.2.1 _ hw) X.1.2.2.2.2.2.2.2.2.1.2.2 X.1.2.2.2.2.2.2.2.2.1.1 X.2.1 (wsO_D g D S) X.2.2.1 (fun q hq => Nat.le_trans X.1.2.2.2.2.2.2.2.2.2.1 hq) ?_ ?_ ?_ (by have := X.2.2.2.2.1; omega) (by have := X.2.2.2.2.2.1; omega) hd (fun q cA H1 hK hP hD hS1 => ?_)
  · rw [i_0, i_lt ⟨by omega, by omega⟩ inR_0]; omega
  · rw [i_cl (by omega) (by omega)]; rfl
  · omega
  · refine W.fits (fun hz1 => ?_)
    have hq := new_q hP hD hz1 (by have := X.2.2.2.2.2.2; omega) (wsO_len g D S 0)
    subst hq
    have hc : cA = g.2.2.2.2.2 := by
      obtain ⟨_, _, -, -, -, h1⟩ := (hK.2 3 _ rfl).2
      obtain ⟨_, _, -, -, -, h2⟩ := (X.1.2.2.2.2.2.2.2.2.1.1.2 2 _ rfl).2
      exact Option.some.inj (h1.symm.trans h2)
    subst hc
    have e1 := wsO_push g D S 0 (3, n, List.replicate n (some .null))
    rw [Nat.zero_add] at e1
    have hP2 : Rl g (S ++ [(3, n, List.replicate n (some .null))]) D H1 := by
      rw [Rl, e1]
      show va_P _ _ (wsO g D 0 S ++ [(g.1 + S.length, .inl (g.2.2.2.2.2, (n, .inr (.inr (.inr (.inr (rf g (List.replicate n (some .null)))))))))]) H1
      rw [show rf g (List.replicate n (some .null)) = (fun _ => none) from funext fun j => by
        unfold rf
        rw [List.getElem?_replicate]
        split
        · next h => split at h <;> simp at h
        · rfl]
      exact hP
    exact kk p l e s m args below meth c H1 locs (cells + 1) (slots + n) ls ⟨X.1, hP2, hS1, X.2.2.2.1, by have := X.2.2.2.2.1; omega, by have := X.2.2.2.2.2.1; omega, by have := X.2.2.2.2.2.2; simp only [List.length_append, List.length_singleton]; omega⟩
theorem T_aast {i n a : Nat} {j : Int} {fs fa : List (Option Value)} (hd : decode M.2.1 pc = .ok (.aastore, 1)) (hS : S[i]? = some (3, n, fs)) (ha : S[a]? = some (0, 4, fa)) (hn : n < 2147483648) (hl : fs.length = n) (h0 : 0 ≤ j) (h1 : j < n) (kk : T g M R nc ns Qf (pc + 1) L st (S.set i (3, n, fs.set j.toNat (some (.ref a)))) D) : T g M R nc ns Qf pc L (.ref a :: iI j :: .ref i :: st) S D := by
  intro p l e s m args below meth c H locs cells slots ls X
  have hg := wsO_get g D S 0 i _ hS
  rw [Nat.zero_add] at hg
  have ha2 := wsO_get g D S 0 a _ ha
  rw [Nat.zero_add] at ha2
  refine va_astq (r := (RX4, TX4, 4)) (i := Int32.ofInt j) X.1.1 X.1.2.1 X.1.2.2.2.2.2.2.2.2.1.1 X.2.1 (wsO_D g D S) X.2.2.1 i 2 a 4 hg rfl ha2 rfl (i_in h0 h1 hn) hd (fun H1 locs1 hP hD hS1 => ?_)
  rw [i_cl h0 (by omega)] at hP
  have hi := (List.getElem?_eq_some_iff.mp hS).1
  have e1 : (wsO g D 0 S).set i (g.1 + i, .inl (g.2.2.2.2.2, n, .inr (.inr (.inr (.inr (va_up (rf g fs) j.toNat (some (g.1 + a)))))))) = wsO g D 0 (S.set i (3, n, fs.set j.toNat (some (.ref a)))) := by
    have h2 := wsO_set g (D := D) (D' := D) S 0 i (3, n, fs.set j.toNat (some (.ref a))) hi (fun r hr => rfl)
    rw [Nat.zero_add] at h2
    rw [← h2]
    show _ = (wsO g D 0 S).set i (g.1 + i, .inl (g.2.2.2.2.2, (n, .inr (.inr (.inr (.inr (rf g (fs.set j.toNat (some (.ref a))))))))))
    have e2 : va_up (rf g fs) j.toNat (some (g.1 + a)) = rf g (fs.set j.toNat (some (.ref a))) := by
      funext q
      unfold va_up rf
      by_cases hq : q = j.toNat
      · subst hq
        rw [if_pos rfl, List.getElem?_set_self (by omega)]
      · rw [if_neg hq, List.getElem?_set_ne (Ne.symm hq)]
    rw [e2]
  have hP2 : Rl g (S.set i (3, n, fs.set j.toNat (some (.ref a)))) D H1 := by rw [Rl, ← e1]; exact hP
  exact kk p l e s m args below meth c H1 locs1 cells slots ls ⟨X.1, hP2, hS1, X.2.2.2.1, X.2.2.2.2.1, X.2.2.2.2.2.1, by rw [List.length_set]; exact X.2.2.2.2.2.2⟩
end

def pst (r : Option Value) (st : List Value) : List Value := match r with
  | none => st
  | some v => v :: st
def Pq (g : G0) (R : Room) (P : Option Value → List SC → DD → Prop) : Array Value → State → Outcome → State → Prop := fun _ st oc t => ∃ (r : Option Value) (S' : List SC) (D' : DD), oc = .returned (r.map (cv g)) ∧ P r S' D' ∧ Rl g S' D' t.heap ∧ va_F (fun q => g.1 ≤ q) st t ∧ st.heap.size + R.cells = g.1 + S'.length
def Qm (g : G0) (R : Room) (P : Option Value → List SC → DD → Prop) : List Frame → Array Value → State → State → Prop := fun below args s => MQ below (Pq g R P) args s R.cells R.slots (fun q => g.1 ≤ q)
def PcT (g : G0) (vs : List Value) (S : List SC) (D : DD) : Array Value → State → Prop := fun a U => a = (vs.map (cv g)).toArray ∧ Rl g S D U.heap ∧ KK g U ∧ U.heap.size = g.1 + S.length
theorem PcT_blind (g : G0) (vs : List Value) (S : List SC) (D : DD) : FrameBlind (PcT g vs S D) := fun a U f mk q => ⟨q.1, q.2.1, KK.calling q.2.2.1, q.2.2.2⟩
def rmd (d a b : Nat) : Room := { frames := d + 1, cells := a, slots := b, locals := 64 * (d + 1) }
def RO (d ml : Nat) (R : Room) : Prop := d + 2 ≤ R.frames ∧ 19 + ml + 64 * (d + 1) ≤ R.locals
theorem RO_r {d a b ml : Nat} (h : ml ≤ 40) : RO d ml (rmd (d + 1) a b) := ⟨Nat.le_refl _, by show 19 + ml + 64 * (d + 1) ≤ 64 * (d + 1 + 1); omega⟩
section
variable {g : G0} {M : MI} {R : Room} {nc ns : Nat} {Qf : List Frame → Array Value → State → State → Prop} {pc : Nat} {L : List (Option Value)} {st : List Value} {S : List SC} {D : DD} {P : Option Value → List SC → DD → Prop}
theorem T_vret (hd : decode M.2.1 pc = .ok (.return_, 1)) (hr : M.2.2.2.1 = none) (h : P none S D) : T g M R 0 0 (Qm g R P) pc L [] S D := by
  intro p l e s m args below meth c H locs cells slots ls X
  refine W.cs (cells' := R.cells) (slots' := R.slots) X.2.2.2.2.1 X.2.2.2.2.2.1 ?_
  exact W.vret X.1.1 X.1.2.1 (by rw [X.1.2.2.2.1]; exact hr) (fun t ht hW => ⟨none, S, D, rfl, h, by rw [ht]; exact X.2.1, X.2.2.1.F ht, by have h1 := X.2.2.2.2.1; have h2 := X.2.2.2.2.2.2; omega⟩) X.2.2.1.2.2 hd (hlocks := X.1.2.2.2.2.2.2.1)
theorem T_iret {a : Int} (hd : decode M.2.1 pc = .ok (.ireturn, 1)) (hr : M.2.2.2.1 = some .int) (h : P (some (iI a)) S D) : T g M R 0 0 (Qm g R P) pc L [iI a] S D := by
  intro p l e s m args below meth c H locs cells slots ls X
  refine W.cs (cells' := R.cells) (slots' := R.slots) X.2.2.2.2.1 X.2.2.2.2.2.1 ?_
  exact W.iret X.1.1 X.1.2.1 (by rw [X.1.2.2.2.1]; exact hr) (fun t ht hW => ⟨some (iI a), S, D, rfl, h, by rw [ht]; exact X.2.1, X.2.2.1.F ht, by have h1 := X.2.2.2.2.1; have h2 := X.2.2.2.2.2.2; omega⟩) X.2.2.1.2.2 hd (hlocks := X.1.2.2.2.2.2.2.1)
theorem T_zret {a : Int} (hd : decode M.2.1 pc = .ok (.ireturn, 1)) (hr : M.2.2.2.1 = some .boolean) (ha : a = 0 ∨ a = 1) (h : P (some (iI a)) S D) : T g M R 0 0 (Qm g R P) pc L [iI a] S D := by
  intro p l e s m args below meth c H locs cells slots ls X
  refine W.cs (cells' := R.cells) (slots' := R.slots) X.2.2.2.2.1 X.2.2.2.2.2.1 ?_
  exact W.zret (ty := .boolean) X.1.1 X.1.2.1 (by rw [X.1.2.2.2.1]; exact hr) (by rcases ha with rfl | rfl <;> decide) (fun t ht hW => ⟨some (iI a), S, D, rfl, h, by rw [ht]; exact X.2.1, X.2.2.1.F ht, by have h1 := X.2.2.2.2.1; have h2 := X.2.2.2.2.2.2; omega⟩) X.2.2.1.2.2 hd (hlocks := X.1.2.2.2.2.2.2.1)
theorem T_lret {a : Int} (hd : decode M.2.1 pc = .ok (.lreturn, 1)) (hr : M.2.2.2.1 = some .long) (h : P (some (lI a)) S D) : T g M R 0 0 (Qm g R P) pc L [lI a] S D := by
  intro p l e s m args below meth c H locs cells slots ls X
  refine W.cs (cells' := R.cells) (slots' := R.slots) X.2.2.2.2.1 X.2.2.2.2.2.1 ?_
  exact W.lret X.1.1 X.1.2.1 (by rw [X.1.2.2.2.1]; exact hr) (fun t ht hW => ⟨some (lI a), S, D, rfl, h, by rw [ht]; exact X.2.1, X.2.2.1.F ht, by have h1 := X.2.2.2.2.1; have h2 := X.2.2.2.2.2.2; omega⟩) X.2.2.1.2.2 hd (hlocks := X.1.2.2.2.2.2.2.1)
theorem T_met {y : MethodName} {l : Launch} {vs : List Value} (hy : plainName y.cls = true) (hM1 : M.1 = y.cls) (hi : M.2.2.2.2 = true → y.name = "<init>") (hla : (la vs).length ≤ M.2.2.1) (hnl : M.1 ≠ RL) (k : T g M R R.cells R.slots (Qm g R P) 0 (le0 M.2.2.1 vs) [] S D) : Met l y (Cond.code y M.2.1 M.2.2.1 M.2.2.2.1 :: tw) R (PcT g vs S D) (Pq g R P) R.cells R.slots (fun q => g.1 ≤ q) := by
  refine Met.ofW (cc := M.2.1) (maxL := M.2.2.1) (ret := M.2.2.2.1) hy rfl ?_
  intro p e s m args below meth c s₁ B hml hv
  obtain ⟨rfl, hP, hK, hsz⟩ := hv
  have hts := atoms_spec (ws := Cond.code y M.2.1 M.2.2.1 M.2.2.2.1 :: tw) B.pre
  rw [lg_entry_eq]
  exact k p l e s m _ below meth c s.heap [] 0 0 _ ⟨⟨B.exec, B.bytes, hml, B.returns, by rw [hM1]; exact findClass_of_methodNamed B.named, fun w hw => hts w (List.mem_cons_of_mem _ hw), B.notSynchronized, fun h => by rw [(name_of_methodNamed B.named B.method).1]; exact hi h, hK, by omega, fun h => absurd h hnl⟩, hP, va_S.rf, lh_entry g vs hla, Nat.zero_add _, Nat.zero_add _, hsz⟩
theorem map_cat (g : G0) (st : List Value) : ((st.map (cv g)).map fun v => v.category) = st.map fun v => v.category := by rw [List.map_map]; exact List.map_congr_left (fun v _ => cv_cat g v)
/-- behind a call -/
theorem W.after {p : Program} {l : Launch} {e : Env} {s : State} {m : MethodId} {args : Array Value} {below : List Frame} {meth : Method} {c : Code} {H : Heap} {locs : List Loc} {cells slots : Nat} {ls : Array Slot} {R' : Room} {st0 : List Value} {a : Array Value} (X : Cx g M R (nc + R'.cells) (ns + R'.slots) L S D p s m args meth c H locs cells slots ls) (hz : H.size = g.1 + S.length)
    (hr : va_Run p l e R s m args below meth c H locs cells slots R'.cells R'.slots (F0 m pc ls st0) (st.map (cv g)) (Pq g R' (fun r S' D' => T g M R nc ns Qf (pc + 3) L (pst r st) S' D') a) (fun q => g.1 ≤ q)) : W p l e R s m args below meth c H locs cells slots (Qf below args s) (F0 m pc ls st0) := by
  intro T hT Y
  obtain ⟨v, st₀, t, T', L', h0, Y', hL', e1, e2, ⟨r, S', D', hv, hp, hP, hF, hn⟩, go⟩ := hr T hT Y
  have hv2 : v = r.map (cv g) := by simpa using hv
  subst hv2
  rw [h0] at hn
  have hF2 : va_S (fun q => g.1 ≤ q) s.heap T'.heap (locs ++ L') := by
    refine ⟨?_, fun q h1 h2 => ?_, fun q hq => ?_⟩
    · have := hF.1
      rw [h0] at this
      rw [e1]
      exact Nat.le_trans X.2.2.1.1 this
    · have := hF.2 q (by rw [h0]; exact Nat.lt_of_lt_of_le h1 X.2.2.1.1) h2
      rw [e1, this, h0]
      exact X.2.2.1.2.1 q h1 h2
    · rcases List.mem_append.mp hq with h | h
      · exact X.2.2.1.2.2 q h
      · exact hL' q h
  have hc := X.2.2.2.2.1
  have hs := X.2.2.2.2.2.1
  have hh := X.2.2.2.2.2.2
  obtain ⟨t2, a1, b1⟩ := hp p l e s m args below meth c T'.heap (locs ++ L') (cells + R'.cells) (slots + R'.slots) ls ⟨X.1, by rw [e1]; exact hP, hF2, X.2.2.2.1, by omega, by omega, by omega⟩ T' rfl Y'
  refine ⟨t2, go t2 ?_, b1⟩
  cases r <;> exact a1
theorem sz_of {p : Program} {s : State} {m : MethodId} {args : Array Value} {meth : Method} {c : Code} {H : Heap} {locs : List Loc} {cells slots : Nat} {ls : Array Slot} (X : Cx g M R nc ns L S D p s m args meth c H locs cells slots ls) (h : H.size ≤ s.heap.size + cells) : H.size = g.1 + S.length := by
  have h1 := X.2.2.2.2.2.2
  have h2 : s.heap.size ≤ H.size := X.2.2.1.1
  have h3 : g.1 ≤ s.heap.size := X.1.2.2.2.2.2.2.2.2.2.1
  rcases Nat.eq_zero_or_pos S.length with h4 | h4
  · omega
  · have h5 := wsO_get g D S 0 (S.length - 1) S[S.length - 1] (List.getElem?_eq_getElem (by omega))
    have h6 := (X.2.1 _ _ h5).lt
    have h7 : g.1 + (0 + (S.length - 1)) < H.size := h6
    omega
def LB (y : MethodName) (M' : MI) (n : Nat) : Prop := (Cond.initialized y.cls ∈ tw ∧ Cond.code y M'.2.1 M'.2.2.1 M'.2.2.2.1 ∈ tw) ∧ (y.cls ≠ "java/lang/invoke/MethodHandle" ∧ y.cls ≠ "java/lang/invoke/VarHandle" ∧ (parseMethodDescriptor y.desc).map (fun d => d.parameters.length) = some n) ∧ plainName y.cls = true ∧ M'.1 = y.cls ∧ (M'.2.2.2.2 = true → y.name = "<init>") ∧ M'.1 ≠ RL
def LV (own : String) (idx : Nat) (y : MethodName) (M' : MI) (n ci : Nat) : Prop := LB y M' n ∧ Cond.methodLink own idx y ∈ tw ∧ Cond.instanceMethod y ∈ tw ∧ Cond.selects y.cls y y ∈ tw ∧ ∃ (Tt : u_T) (N : Nat), vwCl[ci]? = some (y.cls, Tt, N)
def LSs (own : String) (idx : Nat) (y : MethodName) (M' : MI) (n : Nat) : Prop := LB y M' n ∧ Cond.methodLink own idx y ∈ tw ∧ Cond.static y ∈ tw
def LSN (own : String) (idx : Nat) (y : MethodName) (M' : MI) (n : Nat) (host : String) : Prop := LB y M' n ∧ Cond.methodLinkNest own idx y host ∈ nestW ∧ Cond.static y ∈ tw
def LI (own : String) (idx : Nat) (y : MethodName) (M' : MI) (n : Nat) : Prop := LB y M' n ∧ Cond.methodLink own idx y ∈ tw ∧ Cond.instanceMethod y ∈ tw ∧ y.name = "<init>" ∧ M'.2.2.2.1 = none
def LIN (own : String) (idx : Nat) (y : MethodName) (M' : MI) (n : Nat) (host : String) : Prop := LB y M' n ∧ Cond.methodLinkNest own idx y host ∈ nestW ∧ Cond.instanceMethod y ∈ tw ∧ y.name = "<init>" ∧ M'.2.2.2.1 = none
theorem T_cV0 {idx n d b ci : Nat} {y : MethodName} {M' : MI} {R' : Room} {As : List Value} {fs : List (Option Value)} (hd : decode M.2.1 pc = .ok (.invokevirtual idx, 3)) (hL : LV M.1 idx y M' n ci) (hn : As.length = n) (hS : S[b]? = some (0, ci, fs)) (hst : (st.map fun v => v.category).sum ≤ 8) (hRr : R'.frames = d + 1 ∧ R'.locals = 64 * (d + 1)) (hR : RO d M'.2.2.1 R) (hla : (la (.ref b :: As)).length ≤ M'.2.2.1) {st0 : List Value} (hst0 : st0 = As.reverse ++ .ref b :: st) (k : T g M' R' R'.cells R'.slots (Qm g R' (fun r S' D' => T g M R nc ns Qf (pc + 3) L (pst r st) S' D')) 0 (le0 M'.2.2.1 (.ref b :: As)) [] S D) : T g M R (nc + R'.cells) (ns + R'.slots) Qf pc L st0 S D := by
  intro p l e s m args below meth c H locs cells slots ls X
  subst hst0
  refine W.fits (fun hz => ?_)
  have hz := sz_of X hz
  have hts := X.1.2.2.2.2.2.1
  obtain ⟨⟨⟨hw1, hw2⟩, hdd, hy, hM1, hi, hnl⟩, hrest⟩ := hL
  have hMet := T_met (l := l) (y := y) (vs := .ref b :: As) hy hM1 hi hla hnl k
  have hcc : cells + R'.cells ≤ R.cells ∧ slots + R'.slots ≤ R.slots := ⟨by have := X.2.2.2.2.1; omega, by have := X.2.2.2.2.2.1; omega⟩
  have hfr : R'.frames + 1 ≤ R.frames ∧ 8 + (M'.2.2.1 + 11) + R'.locals ≤ R.locals := ⟨by rw [hRr.1]; exact hR.1, by rw [hRr.2]; have := hR.2; omega⟩
  have hgo : GoodIn tw (Cond.code y M'.2.1 M'.2.2.1 M'.2.2.2.1 :: tw) := tw_in hw2
  have hpre : ∀ U : State, U.heap = H → s.WarmedH U.vm → PcT g (.ref b :: As) S D ((.ref b :: As).map (cv g)).toArray U := fun U hU hW => ⟨rfl, by rw [hU]; exact X.2.1, KK.warm hW X.1.2.2.2.2.2.2.2.2.1, by rw [hU]; exact hz⟩
  have hstk : ((As.reverse ++ .ref b :: st).map (cv g)) = (As.map (cv g)).reverse ++ .ref (g.1 + b) :: st.map (cv g) := by simp [cv]
  have hww : 2 * (F0 m pc ls ((As.reverse ++ .ref b :: st).map (cv g))).monitorRoom + ((st.map (cv g)).map fun v => v.category).sum ≤ 8 := by rw [map_cat]; exact lv_room hst
  refine W.after (st := st) (R' := R') (a := ((.ref b :: As).map (cv g)).toArray) X hz ?_
  obtain ⟨h1, h2, h3, Tt, N, hcl⟩ := hrest
  have hg := wsO_get g D S 0 b _ hS
  rw [Nat.zero_add] at hg
  exact va_runV (As := As.map (cv g)) (b := g.1 + b) (C := y.cls) (Ts := tw) (ret := M'.2.2.2.1) ⟨X.1.1, X.1.2.1, X.1.2.2.1, X.1.2.2.2.2.1, hts⟩ hMet ⟨callB_of n hts hgo rfl rfl rfl (hts _ hw1) (hts _ h1) hdd hfr, hts _ h2, hts _ h3⟩ ⟨PcT_blind g _ S D, va_recv X.1.2.2.2.2.2.2.2.2.1.1 X.2.1 hcl hg, hpre⟩ rfl (by rw [List.length_map]; exact hn) X.2.2.2.1.1 hstk hww hd hcc
theorem T_cS0 {idx n d  : Nat} {y : MethodName} {M' : MI} {R' : Room} {As : List Value} (hd : decode M.2.1 pc = .ok (.invokestatic idx, 3)) (hL : LSs M.1 idx y M' n) (hn : As.length = n) (hst : (st.map fun v => v.category).sum ≤ 8) (hRr : R'.frames = d + 1 ∧ R'.locals = 64 * (d + 1)) (hR : RO d M'.2.2.1 R) (hla : (la (As)).length ≤ M'.2.2.1) {st0 : List Value} (hst0 : st0 = As.reverse ++ st) (k : T g M' R' R'.cells R'.slots (Qm g R' (fun r S' D' => T g M R nc ns Qf (pc + 3) L (pst r st) S' D')) 0 (le0 M'.2.2.1 (As)) [] S D) : T g M R (nc + R'.cells) (ns + R'.slots) Qf pc L st0 S D := by
  intro p l e s m args below meth c H locs cells slots ls X
  subst hst0
  refine W.fits (fun hz => ?_)
  have hz := sz_of X hz
  have hts := X.1.2.2.2.2.2.1
  obtain ⟨⟨⟨hw1, hw2⟩, hdd, hy, hM1, hi, hnl⟩, hrest⟩ := hL
  have hMet := T_met (l := l) (y := y) (vs := As) hy hM1 hi hla hnl k
  have hcc : cells + R'.cells ≤ R.cells ∧ slots + R'.slots ≤ R.slots := ⟨by have := X.2.2.2.2.1; omega, by have := X.2.2.2.2.2.1; omega⟩
  have hfr : R'.frames + 1 ≤ R.frames ∧ 8 + (M'.2.2.1 + 11) + R'.locals ≤ R.locals := ⟨by rw [hRr.1]; exact hR.1, by rw [hRr.2]; have := hR.2; omega⟩
  have hgo : GoodIn tw (Cond.code y M'.2.1 M'.2.2.1 M'.2.2.2.1 :: tw) := tw_in hw2
  have hpre : ∀ U : State, U.heap = H → s.WarmedH U.vm → PcT g (As) S D ((As).map (cv g)).toArray U := fun U hU hW => ⟨rfl, by rw [hU]; exact X.2.1, KK.warm hW X.1.2.2.2.2.2.2.2.2.1, by rw [hU]; exact hz⟩
  have hstk : ((As.reverse ++ st).map (cv g)) = (As.map (cv g)).reverse ++ st.map (cv g) := by simp [cv]
  have hww : 2 * (F0 m pc ls ((As.reverse ++ st).map (cv g))).monitorRoom + ((st.map (cv g)).map fun v => v.category).sum ≤ 8 := by rw [map_cat]; exact lv_room hst
  refine W.after (st := st) (R' := R') (a := ((As).map (cv g)).toArray) X hz ?_
  obtain ⟨h1, h2⟩ := hrest
  exact va_runS (As := As.map (cv g)) (Ts := tw) (ret := M'.2.2.2.1) ⟨X.1.1, X.1.2.1, X.1.2.2.1, X.1.2.2.2.2.1, hts⟩ hMet ⟨callB_of n hts hgo rfl rfl rfl (hts _ hw1) (hts _ h1) hdd hfr, hts _ h2⟩ ⟨PcT_blind g _ S D, hpre⟩ rfl (by rw [List.length_map]; exact hn) X.2.2.2.1.1 hstk hww hd hcc
theorem T_cSN0 {idx n d  : Nat} {y : MethodName} {M' : MI} {R' : Room} {As : List Value} {host : String} (hd : decode M.2.1 pc = .ok (.invokestatic idx, 3)) (hL : LSN M.1 idx y M' n host) (hn : As.length = n) (hst : (st.map fun v => v.category).sum ≤ 8) (hRr : R'.frames = d + 1 ∧ R'.locals = 64 * (d + 1)) (hR : RO d M'.2.2.1 R) (hla : (la (As)).length ≤ M'.2.2.1) {st0 : List Value} (hst0 : st0 = As.reverse ++ st) (k : T g M' R' R'.cells R'.slots (Qm g R' (fun r S' D' => T g M R nc ns Qf (pc + 3) L (pst r st) S' D')) 0 (le0 M'.2.2.1 (As)) [] S D) : T g M R (nc + R'.cells) (ns + R'.slots) Qf pc L st0 S D := by
  intro p l e s m args below meth c H locs cells slots ls X
  subst hst0
  refine W.fits (fun hz => ?_)
  have hz := sz_of X hz
  have hts := X.1.2.2.2.2.2.1
  obtain ⟨⟨⟨hw1, hw2⟩, hdd, hy, hM1, hi, hnl⟩, hrest⟩ := hL
  have hMet := T_met (l := l) (y := y) (vs := As) hy hM1 hi hla hnl k
  have hcc : cells + R'.cells ≤ R.cells ∧ slots + R'.slots ≤ R.slots := ⟨by have := X.2.2.2.2.1; omega, by have := X.2.2.2.2.2.1; omega⟩
  have hfr : R'.frames + 1 ≤ R.frames ∧ 8 + (M'.2.2.1 + 11) + R'.locals ≤ R.locals := ⟨by rw [hRr.1]; exact hR.1, by rw [hRr.2]; have := hR.2; omega⟩
  have hgo : GoodIn tw (Cond.code y M'.2.1 M'.2.2.1 M'.2.2.2.1 :: tw) := tw_in hw2
  have hpre : ∀ U : State, U.heap = H → s.WarmedH U.vm → PcT g (As) S D ((As).map (cv g)).toArray U := fun U hU hW => ⟨rfl, by rw [hU]; exact X.2.1, KK.warm hW X.1.2.2.2.2.2.2.2.2.1, by rw [hU]; exact hz⟩
  have hstk : ((As.reverse ++ st).map (cv g)) = (As.map (cv g)).reverse ++ st.map (cv g) := by simp [cv]
  have hww : 2 * (F0 m pc ls ((As.reverse ++ st).map (cv g))).monitorRoom + ((st.map (cv g)).map fun v => v.category).sum ≤ 8 := by rw [map_cat]; exact lv_room hst
  refine W.after (st := st) (R' := R') (a := ((As).map (cv g)).toArray) X hz ?_
  obtain ⟨h1, h2⟩ := hrest
  exact va_runSN (As := As.map (cv g)) (Ts := tw) (ret := M'.2.2.2.1) ⟨X.1.1, X.1.2.1, X.1.2.2.1, X.1.2.2.2.2.1, hts⟩ hMet ⟨va_cnB n hts hgo rfl rfl rfl (X.1.2.2.2.2.2.2.2.2.1.2.1 _ h1) (hts _ hw1) hdd hfr, hts _ h2, trivial⟩ ⟨PcT_blind g _ S D, hpre⟩ rfl (by rw [List.length_map]; exact hn) X.2.2.2.1.1 hstk hww hd hcc
theorem T_cI0 {idx n d b : Nat} {y : MethodName} {M' : MI} {R' : Room} {As : List Value} (hd : decode M.2.1 pc = .ok (.invokespecial idx, 3)) (hL : LI M.1 idx y M' n) (hn : As.length = n) (hst : (st.map fun v => v.category).sum ≤ 8) (hRr : R'.frames = d + 1 ∧ R'.locals = 64 * (d + 1)) (hR : RO d M'.2.2.1 R) (hla : (la (.ref b :: As)).length ≤ M'.2.2.1) {st0 : List Value} (hst0 : st0 = As.reverse ++ .ref b :: st) (k : T g M' R' R'.cells R'.slots (Qm g R' (fun r S' D' => T g M R nc ns Qf (pc + 3) L (pst r st) S' D')) 0 (le0 M'.2.2.1 (.ref b :: As)) [] S D) : T g M R (nc + R'.cells) (ns + R'.slots) Qf pc L st0 S D := by
  intro p l e s m args below meth c H locs cells slots ls X
  subst hst0
  refine W.fits (fun hz => ?_)
  have hz := sz_of X hz
  have hts := X.1.2.2.2.2.2.1
  obtain ⟨⟨⟨hw1, hw2⟩, hdd, hy, hM1, hi, hnl⟩, hrest⟩ := hL
  have hMet := T_met (l := l) (y := y) (vs := .ref b :: As) hy hM1 hi hla hnl k
  have hcc : cells + R'.cells ≤ R.cells ∧ slots + R'.slots ≤ R.slots := ⟨by have := X.2.2.2.2.1; omega, by have := X.2.2.2.2.2.1; omega⟩
  have hfr : R'.frames + 1 ≤ R.frames ∧ 8 + (M'.2.2.1 + 11) + R'.locals ≤ R.locals := ⟨by rw [hRr.1]; exact hR.1, by rw [hRr.2]; have := hR.2; omega⟩
  have hgo : GoodIn tw (Cond.code y M'.2.1 M'.2.2.1 M'.2.2.2.1 :: tw) := tw_in hw2
  have hpre : ∀ U : State, U.heap = H → s.WarmedH U.vm → PcT g (.ref b :: As) S D ((.ref b :: As).map (cv g)).toArray U := fun U hU hW => ⟨rfl, by rw [hU]; exact X.2.1, KK.warm hW X.1.2.2.2.2.2.2.2.2.1, by rw [hU]; exact hz⟩
  have hstk : ((As.reverse ++ .ref b :: st).map (cv g)) = (As.map (cv g)).reverse ++ .ref (g.1 + b) :: st.map (cv g) := by simp [cv]
  have hww : 2 * (F0 m pc ls ((As.reverse ++ .ref b :: st).map (cv g))).monitorRoom + ((st.map (cv g)).map fun v => v.category).sum ≤ 8 := by rw [map_cat]; exact lv_room hst
  refine W.after (st := st) (R' := R') (a := ((.ref b :: As).map (cv g)).toArray) X hz ?_
  obtain ⟨h1, h2, h3, h4⟩ := hrest
  rw [h4] at hMet hw2 hgo
  exact va_runI (As := As.map (cv g)) (b := g.1 + b) (Ts := tw) ⟨X.1.1, X.1.2.1, X.1.2.2.1, X.1.2.2.2.2.1, hts⟩ hMet ⟨callB_of n hts hgo rfl rfl rfl (hts _ hw1) (hts _ h1) hdd hfr, h3, hts _ h2⟩ ⟨PcT_blind g _ S D, hpre⟩ rfl (by rw [List.length_map]; exact hn) X.2.2.2.1.1 hstk hww hd hcc
theorem T_cIN0 {idx n d b : Nat} {y : MethodName} {M' : MI} {R' : Room} {As : List Value} {host : String} (hd : decode M.2.1 pc = .ok (.invokespecial idx, 3)) (hL : LIN M.1 idx y M' n host) (hn : As.length = n) (hst : (st.map fun v => v.category).sum ≤ 8) (hRr : R'.frames = d + 1 ∧ R'.locals = 64 * (d + 1)) (hR : RO d M'.2.2.1 R) (hla : (la (.ref b :: As)).length ≤ M'.2.2.1) {st0 : List Value} (hst0 : st0 = As.reverse ++ .ref b :: st) (k : T g M' R' R'.cells R'.slots (Qm g R' (fun r S' D' => T g M R nc ns Qf (pc + 3) L (pst r st) S' D')) 0 (le0 M'.2.2.1 (.ref b :: As)) [] S D) : T g M R (nc + R'.cells) (ns + R'.slots) Qf pc L st0 S D := by
  intro p l e s m args below meth c H locs cells slots ls X
  subst hst0
  refine W.fits (fun hz => ?_)
  have hz := sz_of X hz
  have hts := X.1.2.2.2.2.2.1
  obtain ⟨⟨⟨hw1, hw2⟩, hdd, hy, hM1, hi, hnl⟩, hrest⟩ := hL
  have hMet := T_met (l := l) (y := y) (vs := .ref b :: As) hy hM1 hi hla hnl k
  have hcc : cells + R'.cells ≤ R.cells ∧ slots + R'.slots ≤ R.slots := ⟨by have := X.2.2.2.2.1; omega, by have := X.2.2.2.2.2.1; omega⟩
  have hfr : R'.frames + 1 ≤ R.frames ∧ 8 + (M'.2.2.1 + 11) + R'.locals ≤ R.locals := ⟨by rw [hRr.1]; exact hR.1, by rw [hRr.2]; have := hR.2; omega⟩
  have hgo : GoodIn tw (Cond.code y M'.2.1 M'.2.2.1 M'.2.2.2.1 :: tw) := tw_in hw2
  have hpre : ∀ U : State, U.heap = H → s.WarmedH U.vm → PcT g (.ref b :: As) S D ((.ref b :: As).map (cv g)).toArray U := fun U hU hW => ⟨rfl, by rw [hU]; exact X.2.1, KK.warm hW X.1.2.2.2.2.2.2.2.2.1, by rw [hU]; exact hz⟩
  have hstk : ((As.reverse ++ .ref b :: st).map (cv g)) = (As.map (cv g)).reverse ++ .ref (g.1 + b) :: st.map (cv g) := by simp [cv]
  have hww : 2 * (F0 m pc ls ((As.reverse ++ .ref b :: st).map (cv g))).monitorRoom + ((st.map (cv g)).map fun v => v.category).sum ≤ 8 := by rw [map_cat]; exact lv_room hst
  refine W.after (st := st) (R' := R') (a := ((.ref b :: As).map (cv g)).toArray) X hz ?_
  obtain ⟨h1, h2, h3, h4⟩ := hrest
  rw [h4] at hMet hw2 hgo
  exact va_runIN (As := As.map (cv g)) (b := g.1 + b) (Ts := tw) ⟨X.1.1, X.1.2.1, X.1.2.2.1, X.1.2.2.2.2.1, hts⟩ hMet ⟨va_cnB n hts hgo rfl rfl rfl (X.1.2.2.2.2.2.2.2.2.1.2.1 _ h1) (hts _ hw1) hdd hfr, h3, hts _ h2⟩ ⟨PcT_blind g _ S D, hpre⟩ rfl (by rw [List.length_map]; exact hn) X.2.2.2.1.1 hstk hww hd hcc
theorem T_cV {idx n d b ci : Nat} {y : MethodName} {M' : MI} {As : List Value} {fs : List (Option Value)} (hd : decode M.2.1 pc = .ok (.invokevirtual idx, 3)) (hL : LV M.1 idx y M' n ci) (hn : As.length = n) (hS : S[b]? = some (0, ci, fs)) (hst : (st.map fun v => v.category).sum ≤ 8) (hR : RO d M'.2.2.1 R) (hla : (la (.ref b :: As)).length ≤ M'.2.2.1) {st0 : List Value} (hst0 : st0 = As.reverse ++ .ref b :: st) (k : T g M' (rmd d 0 0) 0 0 (Qm g (rmd d 0 0) (fun r S' D' => T g M R nc ns Qf (pc + 3) L (pst r st) S' D')) 0 (le0 M'.2.2.1 (.ref b :: As)) [] S D) : T g M R nc ns Qf pc L st0 S D :=
  T_cV0 (R' := rmd d 0 0) (nc := nc) (ns := ns) hd hL hn hS hst ⟨rfl, rfl⟩ hR hla hst0 k
theorem T_cS {idx n d  : Nat} {y : MethodName} {M' : MI} {As : List Value} (hd : decode M.2.1 pc = .ok (.invokestatic idx, 3)) (hL : LSs M.1 idx y M' n) (hn : As.length = n) (hst : (st.map fun v => v.category).sum ≤ 8) (hR : RO d M'.2.2.1 R) (hla : (la (As)).length ≤ M'.2.2.1) {st0 : List Value} (hst0 : st0 = As.reverse ++ st) (k : T g M' (rmd d 0 0) 0 0 (Qm g (rmd d 0 0) (fun r S' D' => T g M R nc ns Qf (pc + 3) L (pst r st) S' D')) 0 (le0 M'.2.2.1 (As)) [] S D) : T g M R nc ns Qf pc L st0 S D :=
  T_cS0 (R' := rmd d 0 0) (nc := nc) (ns := ns) hd hL hn hst ⟨rfl, rfl⟩ hR hla hst0 k
theorem T_cSN {idx n d  : Nat} {y : MethodName} {M' : MI} {As : List Value} {host : String} (hd : decode M.2.1 pc = .ok (.invokestatic idx, 3)) (hL : LSN M.1 idx y M' n host) (hn : As.length = n) (hst : (st.map fun v => v.category).sum ≤ 8) (hR : RO d M'.2.2.1 R) (hla : (la (As)).length ≤ M'.2.2.1) {st0 : List Value} (hst0 : st0 = As.reverse ++ st) (k : T g M' (rmd d 0 0) 0 0 (Qm g (rmd d 0 0) (fun r S' D' => T g M R nc ns Qf (pc + 3) L (pst r st) S' D')) 0 (le0 M'.2.2.1 (As)) [] S D) : T g M R nc ns Qf pc L st0 S D :=
  T_cSN0 (R' := rmd d 0 0) (nc := nc) (ns := ns) hd hL hn hst ⟨rfl, rfl⟩ hR hla hst0 k
end

section
variable {g : G0} {M : MI} {R : Room} {nc ns : Nat} {Qf : List Frame → Array Value → State → State → Prop} {pc : Nat} {L : List (Option Value)} {st : List Value} {S : List SC} {D : DD}
def LM (own : String) (idx : Nat) (y : MethodName) (bytes : ByteArray) (ml : Nat) : Prop := Cond.methodLink own idx y ∈ tw ∧ Cond.static y ∈ tw ∧ Cond.initialized "java/lang/Math" ∈ tw ∧ Cond.code y bytes ml (some .int) ∈ tw
theorem T_abs {idx : Nat} {a : Int} (hd : decode M.2.1 pc = .ok (.invokestatic idx, 3)) (hL : LM M.1 idx Lib.Math.abs.name Lib.Math.abs.code 1) (ha : InR a) (hst : (st.map fun v => v.category).sum ≤ 8) (hR : 1 ≤ R.frames ∧ 40 ≤ R.locals) (k : T g M R nc ns Qf (pc + 3) L (iI (if 0 ≤ a then a else -a) :: st) S D) : T g M R nc ns Qf pc L (iI a :: st) S D := by
  intro p l e s m args below meth c H locs cells slots ls X
  have h := k p l e s m args below meth c H locs cells slots ls X
  have hts := X.1.2.2.2.2.2.1
  refine va_mabs X.1.1 X.1.2.1 (by rw [X.1.2.2.1]; exact X.2.2.2.1.1.symm) X.1.2.2.2.2.1 (hts _ hL.1) (hts _ hL.2.1) (hts _ hL.2.2.1) (hts _ hL.2.2.2) hR.1 (by rw [map_cat]; have := hR.2; omega) (by have := X.2.2.2.2.1; omega) (by have := X.2.2.2.2.2.1; omega) hd ?_
  have e1 : (if 0 ≤ Int32.ofInt a then Int32.ofInt a else 0 - Int32.ofInt a) = Int32.ofInt (if 0 ≤ a then a else -a) := by
    by_cases h0 : 0 ≤ a
    · rw [if_pos h0, if_pos (by rw [i_0]; exact (i_le inR_0 ha).mpr h0)]
    · rw [if_neg h0, if_neg (by rw [i_0]; exact fun q => h0 ((i_le inR_0 ha).mp q)), i_0, ← Int32.ofInt_sub, Int.zero_sub]
  rw [e1]
  exact h
theorem T_max {idx : Nat} {a b : Int} (hd : decode M.2.1 pc = .ok (.invokestatic idx, 3)) (hL : LM M.1 idx Lib.Math.max.name Lib.Math.max.code 2) (ha : InR a) (hb : InR b) (hst : (st.map fun v => v.category).sum ≤ 8) (hR : 1 ≤ R.frames ∧ 40 ≤ R.locals) (k : T g M R nc ns Qf (pc + 3) L (iI (if a < b then b else a) :: st) S D) : T g M R nc ns Qf pc L (iI b :: iI a :: st) S D := by
  intro p l e s m args below meth c H locs cells slots ls X
  have h := k p l e s m args below meth c H locs cells slots ls X
  have hts := X.1.2.2.2.2.2.1
  refine va_mmax X.1.1 X.1.2.1 (by rw [X.1.2.2.1]; exact X.2.2.2.1.1.symm) X.1.2.2.2.2.1 (hts _ hL.1) (hts _ hL.2.1) (hts _ hL.2.2.1) (hts _ hL.2.2.2) hR.1 (by rw [map_cat]; have := hR.2; omega) (by have := X.2.2.2.2.1; omega) (by have := X.2.2.2.2.2.1; omega) hd ?_
  have e1 : (if Int32.ofInt a < Int32.ofInt b then Int32.ofInt b else Int32.ofInt a) = Int32.ofInt (if a < b then b else a) := by
    by_cases h0 : a < b
    · rw [if_pos h0, if_pos ((i_lt ha hb).mpr h0)]
    · rw [if_neg h0, if_neg (fun q => h0 ((i_lt ha hb).mp q))]
  rw [e1]
  exact h
theorem T_min {idx : Nat} {a b : Int} (hd : decode M.2.1 pc = .ok (.invokestatic idx, 3)) (hL : LM M.1 idx Lib.Math.min.name Lib.Math.min.code 2) (ha : InR a) (hb : InR b) (hst : (st.map fun v => v.category).sum ≤ 8) (hR : 1 ≤ R.frames ∧ 40 ≤ R.locals) (k : T g M R nc ns Qf (pc + 3) L (iI (if b < a then b else a) :: st) S D) : T g M R nc ns Qf pc L (iI b :: iI a :: st) S D := by
  intro p l e s m args below meth c H locs cells slots ls X
  have h := k p l e s m args below meth c H locs cells slots ls X
  have hts := X.1.2.2.2.2.2.1
  refine va_mmin X.1.1 X.1.2.1 (by rw [X.1.2.2.1]; exact X.2.2.2.1.1.symm) X.1.2.2.2.2.1 (hts _ hL.1) (hts _ hL.2.1) (hts _ hL.2.2.1) (hts _ hL.2.2.2) hR.1 (by rw [map_cat]; have := hR.2; omega) (by have := X.2.2.2.2.1; omega) (by have := X.2.2.2.2.2.1; omega) hd ?_
  have e1 : (if Int32.ofInt b < Int32.ofInt a then Int32.ofInt b else Int32.ofInt a) = Int32.ofInt (if b < a then b else a) := by
    by_cases h0 : b < a
    · rw [if_pos h0, if_pos ((i_lt hb ha).mpr h0)]
    · rw [if_neg h0, if_neg (fun q => h0 ((i_lt hb ha).mp q))]
  rw [e1]
  exact h
def cpD (D : DD) (i0 sp i1 dp n : Nat) : DD := fun a b => if a = i1 ∧ dp ≤ b ∧ b < dp + n then D i0 (sp + (b - dp)) else D a b
theorem cpD_row {D : DD} {i0 sp i1 dp n a : Nat} (h : a ≠ i1) : cpD D i0 sp i1 dp n a = D a := by funext b; simp [cpD, h]
theorem T_copy {idx i0 i1 n0 n1 : Nat} {sp dp n : Int} {f0 f1 : List (Option Value)} (hd : decode M.2.1 pc = .ok (.invokestatic idx, 3)) (hL : Cond.methodLink M.1 idx arraycopyName ∈ tw ∧ Cond.native arraycopyName ∈ tw ∧ Cond.static arraycopyName ∈ tw ∧ Cond.initialized "java/lang/System" ∈ tw) (hS0 : S[i0]? = some (1, n0, f0)) (hS1 : S[i1]? = some (1, n1, f1)) (hn0 : n0 ≤ 1000) (hn1 : n1 ≤ 1000) (h1 : 0 ≤ sp) (h2 : 0 ≤ dp) (h3 : 0 ≤ n) (h4 : sp + n ≤ n0) (h5 : dp + n ≤ n1) (hst : (st.map fun v => v.category).sum ≤ 8) (hR : 1 ≤ R.frames ∧ 40 ≤ R.locals)
    (k : T g M R nc ns Qf (pc + 3) L st S (cpD D i0 sp.toNat i1 dp.toNat n.toNat)) : T g M R nc ns Qf pc L (iI n :: iI dp :: .ref i1 :: iI sp :: .ref i0 :: st) S D := by
  intro p l e s m args below meth c H locs cells slots ls X
  have hts := X.1.2.2.2.2.2.1
  have hg0 := wsO_get g D S 0 i0 _ hS0
  have hg1 := wsO_get g D S 0 i1 _ hS1
  rw [Nat.zero_add] at hg0 hg1
  have nl : ∀ z : Int, 0 ≤ z → z < 2147483648 → ¬ Int32.ofInt z < 0 := fun z hz hz2 => by rw [i_0, i_lt ⟨by omega, hz2⟩ inR_0]; omega
  refine va_copyi (ty := .int) X.1.1 X.1.2.1 (by rw [X.1.2.2.1]; exact X.2.2.2.1.1.symm) X.1.2.2.2.2.1 (hts _ hL.1) (hts _ hL.2.1) (hts _ hL.2.2.1) (hts _ hL.2.2.2) X.1.2.2.2.2.2.2.2.2.1.1 X.2.1 (wsO_D g D S) X.2.2.1 i0 i1 0 0 hg0 hg1 rfl rfl rfl (nl sp h1 (by omega)) (nl dp h2 (by omega)) (nl n h3 (by omega)) ?_ ?_ (fun i _ => rfl) hR.1 ?_ hd (fun H1 locs1 hP hD hS2 => ?_)
  · rw [i_cl h1 (by omega), i_cl h3 (by omega)]; show sp.toNat + n.toNat ≤ n0; omega
  · rw [i_cl h2 (by omega), i_cl h3 (by omega)]; show dp.toNat + n.toNat ≤ n1; omega
  · rw [map_cat, show nativeFrameWords "java/lang/System" "arraycopy" 5 = 7 by decide]; have := hR.2; omega
  · rw [i_cl h1 (by omega), i_cl h2 (by omega), i_cl h3 (by omega)] at hP
    have h6 := wsO_upd g (D := D) (D' := cpD D i0 sp.toNat i1 dp.toNat n.toNat) hS1 (fun r hr => cpD_row hr)
    refine k p l e s m args below meth c H1 locs1 cells slots ls ⟨X.1, ?_, hS2, X.2.2.2⟩
    rw [Rl, ← h6]
    show va_P _ _ ((wsO g D 0 S).set i1 (g.1 + i1, .inl (g.2.2.2.1, (n1, .inl (fun j => Int32.ofInt (cpD D i0 sp.toNat i1 dp.toNat n.toNat i1 j)))))) H1
    rw [show (fun j => Int32.ofInt (cpD D i0 sp.toNat i1 dp.toNat n.toNat i1 j)) = va_cpy (fun j => Int32.ofInt (D i0 j)) (fun j => Int32.ofInt (D i1 j)) sp.toNat dp.toNat n.toNat from funext fun j => by
      unfold cpD va_cpy
      by_cases hj : dp.toNat ≤ j ∧ j < dp.toNat + n.toNat
      · rw [if_pos hj, if_pos ⟨rfl, hj.1, hj.2⟩]
      · rw [if_neg hj, if_neg (fun q => hj q.2)]]
    exact hP
end
