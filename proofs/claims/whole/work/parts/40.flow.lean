/-! SENDINGS: the pure part -/
theorem sm_add {f f' : Nat → Int} : ∀ n : Nat, sm n (fun j => f j + f' j) = sm n f + sm n f'
  | 0 => rfl
  | n + 1 => by simp only [sm]; rw [sm_add n]; omega
theorem sm_zero : ∀ n : Nat, sm n (fun _ => 0) = 0
  | 0 => rfl
  | n + 1 => by simp only [sm]; rw [sm_zero n]; rfl
theorem sm_le {f f' : Nat → Int} : ∀ n : Nat, (∀ j, j < n → f j ≤ f' j) → sm n f ≤ sm n f'
  | 0, _ => Int.le_refl _
  | n + 1, h => by
    have h1 := sm_le n (fun j hj => h j (by omega))
    have h2 := h n (by omega)
    simp only [sm]
    omega
theorem sm_swap {f : Nat → Nat → Int} (m : Nat) : ∀ n : Nat, sm n (fun i => sm m (fun j => f i j)) = sm m (fun j => sm n (fun i => f i j))
  | 0 => by simp only [sm]; exact (sm_zero m).symm
  | n + 1 => by
    simp only [sm]
    rw [sm_swap m n, ← sm_add]
theorem sm_mulc {f : Nat → Int} {k : Int} : ∀ n : Nat, sm n (fun j => f j * k) = sm n f * k
  | 0 => by simp [sm]
  | n + 1 => by simp only [sm]; rw [sm_mulc n, Int.add_mul]
theorem sm_nn {f : Nat → Int} {n : Nat} (h : ∀ j, j < n → 0 ≤ f j) : 0 ≤ sm n f := by
  have := sm_le (f := fun _ => 0) (f' := f) n h
  rw [sm_zero] at this
  exact this
theorem sm_ge1 {f : Nat → Int} {n k : Nat} (h : ∀ j, j < n → 0 ≤ f j) (hk : k < n) : f k ≤ sm n f := by
  have h1 := sm_mono (k := k + 1) n h (by omega)
  have h2 := sm_nn (f := f) (n := k) (fun j hj => h j (by omega))
  simp only [sm] at h1
  omega
theorem sm_eq0 {f : Nat → Int} {n : Nat} (h : ∀ j, j < n → 0 ≤ f j) (h0 : sm n f = 0) {k : Nat} (hk : k < n) : f k = 0 := by
  have h1 := sm_ge1 h hk
  have h2 := h k hk
  omega
theorem sm_pos {f : Nat → Int} : ∀ n : Nat, 0 < sm n f → ∃ k, k < n ∧ 0 < f k
  | 0, h => by simp [sm] at h
  | n + 1, h => by
    simp only [sm] at h
    by_cases h1 : 0 < f n
    · exact ⟨n, by omega, h1⟩
    · obtain ⟨k, a, b⟩ := sm_pos (f := f) n (by omega)
      exact ⟨k, by omega, b⟩
/-- a sending of the heads sup in the rooms rm, along what is allowed -/
def Feas (H C : Nat) (sup rm : Nat → Int) (al : Nat → Nat → Prop) (x : Nat → Nat → Int) : Prop := (∀ h, h < H → ∀ c, c < C → 0 ≤ x h c ∧ (0 < x h c → al h c)) ∧ (∀ h, h < H → sm C (x h) = sup h) ∧ ∀ c, c < C → sm H (fun h => x h c) ≤ rm c
def costX (H C : Nat) (ct x : Nat → Nat → Int) : Int := sm H (fun h => sm C (fun c => x h c * ct h c))
def Cert (H C : Nat) (rm : Nat → Int) (al : Nat → Nat → Prop) (ct x : Nat → Nat → Int) (p : Nat → Int) : Prop := (∀ c, c < C → 0 ≤ p c) ∧ (∀ c, c < C → sm H (fun h => x h c) < rm c → p c = 0) ∧ ∀ h, h < H → ∀ a, a < C → ∀ b, b < C → 0 < x h a → al h b → ct h a + p a ≤ ct h b + p b
theorem home_le {C : Nat} {al : Nat → Prop} {x y f : Nat → Int} (hx : ∀ c, c < C → 0 ≤ x c ∧ (0 < x c → al c)) (hy : ∀ c, c < C → 0 ≤ y c ∧ (0 < y c → al c)) (hs : sm C x = sm C y) (hm : ∀ a, a < C → ∀ b, b < C → 0 < x a → al b → f a ≤ f b) : sm C (fun c => x c * f c) ≤ sm C (fun c => y c * f c) := by
  by_cases h0 : sm C x = 0
  · have e1 : sm C (fun c => x c * f c) = 0 := by
      rw [sm_cong (f' := fun _ => 0) C (fun j hj => by rw [sm_eq0 (fun k hk => (hx k hk).1) h0 hj, Int.zero_mul]), sm_zero]
    have e2 : sm C (fun c => y c * f c) = 0 := by
      rw [sm_cong (f' := fun _ => 0) C (fun j hj => by rw [sm_eq0 (fun k hk => (hy k hk).1) (by omega) hj, Int.zero_mul]), sm_zero]
    omega
  · have hn := sm_nn (f := x) (n := C) (fun j hj => (hx j hj).1)
    obtain ⟨a, ha, hxa⟩ := sm_pos C (show 0 < sm C x by omega)
    have hala := (hx a ha).2 hxa
    have e1 : sm C (fun c => x c * f c) = sm C x * f a := by
      rw [← sm_mulc]
      refine sm_cong C (fun j hj => ?_)
      by_cases hj0 : 0 < x j
      · have a1 := hm a ha j hj hxa ((hx j hj).2 hj0)
        have a2 := hm j hj a ha hj0 hala
        rw [show f j = f a by omega]
      · have : x j = 0 := by have := (hx j hj).1; omega
        rw [this, Int.zero_mul, Int.zero_mul]
    have e2 : sm C y * f a ≤ sm C (fun c => y c * f c) := by
      rw [← sm_mulc]
      refine sm_le C (fun j hj => ?_)
      by_cases hj0 : 0 < y j
      · exact Int.mul_le_mul_of_nonneg_left (hm a ha j hj hxa ((hy j hj).2 hj0)) (by omega)
      · have : y j = 0 := by have := (hy j hj).1; omega
        rw [this, Int.zero_mul, Int.zero_mul]; exact Int.le_refl _
    rw [e1, hs]
    exact e2
/-- a certificate bounds every sending, in other rooms too -/
theorem cert_bound {H C : Nat} {sup rm rm' : Nat → Int} {al : Nat → Nat → Prop} {ct x y : Nat → Nat → Int} {p : Nat → Int} (hx : Feas H C sup rm al x) (hc : Cert H C rm al ct x p) (hy : Feas H C sup rm' al y) : costX H C ct x + sm C (fun c => p c * rm c) ≤ costX H C ct y + sm C (fun c => p c * rm' c) := by
  have key : ∀ z : Nat → Nat → Int, sm H (fun h => sm C (fun c => z h c * (ct h c + p c))) = costX H C ct z + sm C (fun c => p c * sm H (fun h => z h c)) := by
    intro z
    have e1 : sm H (fun h => sm C (fun c => z h c * (ct h c + p c))) = sm H (fun h => sm C (fun c => z h c * ct h c) + sm C (fun c => z h c * p c)) := by
      refine sm_cong H (fun h _ => ?_)
      rw [← sm_add]
      exact sm_cong C (fun c _ => Int.mul_add _ _ _)
    have e2 : sm H (fun h => sm C (fun c => z h c * p c)) = sm C (fun c => p c * sm H (fun h => z h c)) := by
      rw [sm_swap]
      refine sm_cong C (fun c _ => ?_)
      rw [sm_mulc, Int.mul_comm]
    rw [e1, sm_add, e2]
    rfl
  have h1 : sm H (fun h => sm C (fun c => x h c * (ct h c + p c))) ≤ sm H (fun h => sm C (fun c => y h c * (ct h c + p c))) := by
    refine sm_le H (fun h hh => ?_)
    exact home_le (al := al h) (hx.1 h hh) (hy.1 h hh) (by rw [hx.2.1 h hh, hy.2.1 h hh]) (hc.2.2 h hh)
  rw [key x, key y] at h1
  have h2 : sm C (fun c => p c * rm c) = sm C (fun c => p c * sm H (fun h => x h c)) := by
    refine sm_cong C (fun c hcc => ?_)
    have a := hx.2.2 c hcc
    by_cases b : sm H (fun h => x h c) < rm c
    · rw [hc.2.1 c hcc b, Int.zero_mul, Int.zero_mul]
    · rw [show sm H (fun h => x h c) = rm c by omega]
  have h3 : sm C (fun c => p c * sm H (fun h => y h c)) ≤ sm C (fun c => p c * rm' c) := sm_le C (fun c hcc => Int.mul_le_mul_of_nonneg_left (hy.2.2 c hcc) (hc.1 c hcc))
  omega
/-- MILES, as a number, of the heads sup in the rooms rm: -9 where there is no sending -/
def IsMiles (H C : Nat) (sup rm : Nat → Int) (al : Nat → Nat → Prop) (ct : Nat → Nat → Int) (r : Int) : Prop := (∃ x, Feas H C sup rm al x ∧ costX H C ct x = r ∧ ∀ y, Feas H C sup rm al y → r ≤ costX H C ct y) ∨ (r = -9 ∧ ¬ ∃ x, Feas H C sup rm al x)
theorem costX_nn {H C : Nat} {sup rm : Nat → Int} {al : Nat → Nat → Prop} {ct x : Nat → Nat → Int} (hx : Feas H C sup rm al x) (hct : ∀ h c, 0 ≤ ct h c) : 0 ≤ costX H C ct x := sm_nn (fun h hh => sm_nn (fun c hc => Int.mul_nonneg (hx.1 h hh c hc).1 (hct h c)))
theorem IsMiles.uniq {H C : Nat} {sup rm : Nat → Int} {al : Nat → Nat → Prop} {ct : Nat → Nat → Int} {r q : Int} (h1 : IsMiles H C sup rm al ct r) (h2 : IsMiles H C sup rm al ct q) : r = q := by
  rcases h1 with ⟨x, a1, a2, a3⟩ | ⟨a1, a2⟩ <;> rcases h2 with ⟨y, b1, b2, b3⟩ | ⟨b1, b2⟩
  · have := a3 y b1; have := b3 x a1; omega
  · exact absurd ⟨x, a1⟩ b2
  · exact absurd ⟨y, b1⟩ a2
  · omega
theorem Feas.cong {H C : Nat} {sup sup' rm rm' : Nat → Int} {al al' : Nat → Nat → Prop} {x : Nat → Nat → Int} (e1 : ∀ h, h < H → sup h = sup' h) (e2 : ∀ c, c < C → rm c = rm' c) (e3 : ∀ h c, h < H → c < C → (al h c ↔ al' h c)) (hx : Feas H C sup rm al x) : Feas H C sup' rm' al' x :=
  ⟨fun h hh c hc => ⟨(hx.1 h hh c hc).1, fun q => (e3 h c hh hc).mp ((hx.1 h hh c hc).2 q)⟩, fun h hh => by rw [hx.2.1 h hh, e1 h hh], fun c hc => by rw [← e2 c hc]; exact hx.2.2 c hc⟩
theorem costX_cong {H C : Nat} {al : Nat → Nat → Prop} {ct ct' x : Nat → Nat → Int} (hx : ∀ h, h < H → ∀ c, c < C → 0 ≤ x h c ∧ (0 < x h c → al h c)) (e : ∀ h c, h < H → c < C → al h c → ct h c = ct' h c) : costX H C ct x = costX H C ct' x := by
  refine sm_cong H (fun h hh => sm_cong C (fun c hc => ?_))
  by_cases q : 0 < x h c
  · rw [e h c hh hc ((hx h hh c hc).2 q)]
  · rw [show x h c = 0 by have := (hx h hh c hc).1; omega, Int.zero_mul, Int.zero_mul]
theorem IsMiles.cong {H C : Nat} {sup sup' rm rm' : Nat → Int} {al al' : Nat → Nat → Prop} {ct ct' : Nat → Nat → Int} {r : Int} (e1 : ∀ h, h < H → sup h = sup' h) (e2 : ∀ c, c < C → rm c = rm' c) (e3 : ∀ h c, h < H → c < C → (al h c ↔ al' h c)) (e4 : ∀ h c, h < H → c < C → al h c → ct h c = ct' h c) (hr : IsMiles H C sup rm al ct r) : IsMiles H C sup' rm' al' ct' r := by
  rcases hr with ⟨x, a1, a2, a3⟩ | ⟨a1, a2⟩
  · refine Or.inl ⟨x, a1.cong e1 e2 e3, by rw [← costX_cong a1.1 e4]; exact a2, fun y hy => ?_⟩
    have hy2 : Feas H C sup rm al y := hy.cong (fun h hh => (e1 h hh).symm) (fun c hc => (e2 c hc).symm) (fun h c hh hc => (e3 h c hh hc).symm)
    rw [← costX_cong hy2.1 e4]
    exact a3 y hy2
  · exact Or.inr ⟨a1, fun ⟨x, hx⟩ => a2 ⟨x, hx.cong (fun h hh => (e1 h hh).symm) (fun c hc => (e2 c hc).symm) (fun h c hh hc => (e3 h c hh hc).symm)⟩⟩
theorem miles_of_cert {H C : Nat} {sup rm : Nat → Int} {al : Nat → Nat → Prop} {ct x : Nat → Nat → Int} {p : Nat → Int} (hx : Feas H C sup rm al x) (hc : Cert H C rm al ct x p) : IsMiles H C sup rm al ct (costX H C ct x) :=
  Or.inl ⟨x, hx, rfl, fun y hy => by have := cert_bound hx hc hy; omega⟩

