/-! cheapest chains, by rounds -/
theorem sm_lt {f f' : Nat → Int} {k : Nat} : ∀ n : Nat, (∀ j, j < n → f j ≤ f' j) → k < n → f k < f' k → sm n f < sm n f'
  | 0, _, hk, _ => by omega
  | n + 1, h, hk, hf => by
    have h2 := h n (by omega)
    simp only [sm]
    by_cases e : k = n
    · subst e
      have := sm_le k (fun j hj => h j (by omega))
      omega
    · have := sm_lt n (fun j hj => h j (by omega)) (show k < n by omega) hf
      omega
theorem sm_one : ∀ n : Nat, sm n (fun _ => 1) = n
  | 0 => rfl
  | n + 1 => by simp only [sm]; rw [sm_one n]; omega
def up1 (f : Nat → Int) (k : Nat) (v : Int) : Nat → Int := fun j => if j = k then v else f j
theorem up1_at {f : Nat → Int} {k : Nat} {v : Int} : up1 f k v k = v := by simp [up1]
theorem up1_ne {f : Nat → Int} {k j : Nat} {v : Int} (h : j ≠ k) : up1 f k v j = f j := by simp [up1, h]
def upN (f : Nat → Nat) (k v : Nat) : Nat → Nat := fun j => if j = k then v else f j
theorem upN_at {f : Nat → Nat} {k v : Nat} : upN f k v k = v := by simp [upN]
theorem upN_ne {f : Nat → Nat} {k j v : Nat} (h : j ≠ k) : upN f k v j = f j := by simp [upN, h]
/-- steps from church to church: ex a b there is one, of the least cost w a b, by the home mv a b -/
def EdgeOK (H C : Nat) (al : Nat → Nat → Prop) (ct x : Nat → Nat → Int) (ex : Nat → Nat → Prop) (w : Nat → Nat → Int) (mv : Nat → Nat → Nat) : Prop := (∀ a, a < C → ∀ b, b < C → ex a b → mv a b < H ∧ 0 < x (mv a b) a ∧ al (mv a b) b ∧ w a b = ct (mv a b) b - ct (mv a b) a) ∧ ∀ a, a < C → ∀ b, b < C → ∀ g, g < H → 0 < x g a → al g b → ex a b ∧ w a b ≤ ct g b - ct g a
def PW (C : Nat) (ex : Nat → Nat → Prop) (w : Nat → Nat → Int) (p : Nat → Int) : Prop := ∀ a, a < C → ∀ b, b < C → ex a b → p a - p b ≤ w a b ∧ -7200 ≤ w a b ∧ w a b ≤ 7200
def lexl (d p : Nat → Int) (τ : Nat → Nat) (a c : Nat) : Prop := d a + p a < d c + p c ∨ (d a + p a = d c + p c ∧ τ a < τ c)
def par (C : Nat) (ex : Nat → Nat → Prop) (w : Nat → Nat → Int) (p : Nat → Int) (B : Int) (τ : Nat → Nat) (d pr : Nat → Int) (c a : Nat) : Prop := a < C ∧ pr c = a ∧ ex a c ∧ d a < B ∧ d a + w a c ≤ d c ∧ lexl d p τ a c
def BfI (C : Nat) (ex : Nat → Nat → Prop) (w : Nat → Nat → Int) (p : Nat → Int) (Sr : Nat → Int → Prop) (B : Int) (t : Nat) (τ : Nat → Nat) (d pr : Nat → Int) : Prop := (∀ c, c < C → ∀ v, Sr c v → d c ≤ v) ∧ (∀ c, c < C → d c < B → ((-9 ≤ pr c ∧ pr c < 0) ∧ Sr c (d c)) ∨ ∃ a, par C ex w p B τ d pr c a) ∧ (∀ c, c < C → ¬ d c < B → d c = B) ∧ (∀ c, c < C → τ c ≤ t) ∧ ∀ c, c < C → d c < B → -(7200 * ((t : Int) + 1)) ≤ d c ∧ d c ≤ 7200 * ((t : Int) + 1)
section
variable {C : Nat} {ex : Nat → Nat → Prop} {w : Nat → Nat → Int} {p : Nat → Int} {Sr : Nat → Int → Prop} {B : Int} {t : Nat} {τ : Nat → Nat} {d pr : Nat → Int}
theorem BfI.relax (hI : BfI C ex w p Sr B t τ d pr) (hP : PW C ex w p) (hB : 7200 * ((t : Int) + 2) < B) {a b : Nat} (ha : a < C) (hb : b < C) (he : ex a b) (hd : d a < B) (hlt : d a + w a b < d b) : BfI C ex w p Sr B (t + 1) (upN τ b (t + 1)) (up1 d b (d a + w a b)) (up1 pr b a) := by
  obtain ⟨h1, h2, h3, h4, h5⟩ := hI
  obtain ⟨hw1, hw2, hw3⟩ := hP a ha b hb he
  have hda := h5 a ha hd
  have hab : a ≠ b := fun e => by subst e; omega
  have hc1 : ((t + 1 : Nat) : Int) = (t : Int) + 1 := by omega
  refine ⟨fun c hc v hv => ?_, fun c hc hcB => ?_, fun c hc hcB => ?_, fun c hc => ?_, fun c hc hcB => ?_⟩
  · have := h1 c hc v hv
    by_cases e : c = b
    · subst e; rw [up1_at]; omega
    · rw [up1_ne e]; exact this
  · by_cases e : c = b
    · subst e
      refine Or.inr ⟨a, ha, up1_at, he, by rw [up1_ne hab]; exact hd, by rw [up1_ne hab, up1_at]; exact Int.le_refl _, ?_⟩
      unfold lexl
      rw [up1_ne hab, up1_at, upN_ne hab, upN_at]
      have := h4 a ha
      omega
    · have z1 : up1 d b (d a + w a b) c = d c := up1_ne e
      have z2 : up1 pr b a c = pr c := up1_ne e
      rw [z1] at hcB
      rw [z1, z2]
      rcases h2 c hc hcB with ⟨q1, q2⟩ | ⟨a0, q1, q2, q3, q4, q5, q6⟩
      · exact Or.inl ⟨q1, q2⟩
      · refine Or.inr ⟨a0, q1, by rw [z2]; exact q2, q3, ?_⟩
        by_cases e0 : a0 = b
        · subst e0
          rw [up1_at, up1_ne e]
          refine ⟨by omega, by omega, ?_⟩
          unfold lexl at q6 ⊢
          rw [up1_at, up1_ne e]
          left
          rcases q6 with q6 | q6 <;> omega
        · rw [up1_ne e0, up1_ne e]
          refine ⟨q4, q5, ?_⟩
          unfold lexl at q6 ⊢
          rw [up1_ne e0, up1_ne e, upN_ne e0, upN_ne e]
          exact q6
  · by_cases e : c = b
    · subst e; rw [up1_at] at hcB; omega
    · rw [up1_ne e] at hcB ⊢; exact h3 c hc hcB
  · by_cases e : c = b
    · subst e; rw [upN_at]; omega
    · rw [upN_ne e]; have := h4 c hc; omega
  · rw [hc1]
    by_cases e : c = b
    · subst e; rw [up1_at]; omega
    · rw [up1_ne e] at hcB ⊢; have := h5 c hc hcB; omega
theorem BfI.later (hI : BfI C ex w p Sr B t τ d pr) : BfI C ex w p Sr B (t + 1) τ d pr := by
  obtain ⟨h1, h2, h3, h4, h5⟩ := hI
  refine ⟨h1, h2, h3, fun c hc => by have := h4 c hc; omega, fun c hc hB => ?_⟩
  have := h5 c hc hB
  omega
def Rlx (C : Nat) (ex : Nat → Nat → Prop) (w : Nat → Nat → Int) (B : Int) (d : Nat → Int) (a : Nat) : Prop := ∀ b, b < C → ex a b → d a < B → d b ≤ d a + w a b
def AllR (C : Nat) (ex : Nat → Nat → Prop) (w : Nat → Nat → Int) (B : Int) (d : Nat → Int) : Prop := ∀ a, a < C → Rlx C ex w B d a
/-- a rank that falls along the chain -/
theorem BfI.rank (hI : BfI C ex w p Sr B t τ d pr) : ∃ ρ : Nat → Nat, (∀ c, c < C → ρ c < C) ∧ ∀ c a, c < C → a < C → lexl d p τ a c → ρ a < ρ c := by
  have tr : ∀ i a c, lexl d p τ i a → lexl d p τ a c → lexl d p τ i c := by intro i a c; unfold lexl; omega
  have ir : ∀ a, ¬ lexl d p τ a a := by intro a; unfold lexl; omega
  have nn : ∀ c, 0 ≤ sm C (fun i => cif (lexl d p τ i c) 1 0) := fun c => sm_nn (fun j _ => by
    by_cases h : lexl d p τ j c
    · rw [cif_pos h]; decide
    · rw [cif_neg h]; decide)
  refine ⟨fun c => (sm C (fun i => cif (lexl d p τ i c) 1 0)).toNat, fun c hc => ?_, fun c a hc ha hl => ?_⟩
  · have h1 := sm_lt (f := fun i => cif (lexl d p τ i c) 1 0) (f' := fun _ => 1) (k := c) C (fun j _ => by
      by_cases h : lexl d p τ j c
      · rw [cif_pos h]; decide
      · rw [cif_neg h]; decide) hc (by rw [cif_neg (ir c)]; decide)
    rw [sm_one] at h1
    have := nn c
    show (sm C (fun i => cif (lexl d p τ i c) 1 0)).toNat < C
    omega
  · have h1 := sm_lt (f := fun i => cif (lexl d p τ i a) 1 0) (f' := fun i => cif (lexl d p τ i c) 1 0) (k := a) C (fun j _ => by
      by_cases h : lexl d p τ j a
      · rw [cif_pos h, cif_pos (tr j a c h hl)]; decide
      · rw [cif_neg h]
        by_cases h2 : lexl d p τ j c
        · rw [cif_pos h2]; decide
        · rw [cif_neg h2]; decide) ha (by rw [cif_neg (ir a), cif_pos hl]; decide)
    have := nn a
    have := nn c
    show (sm C (fun i => cif (lexl d p τ i a) 1 0)).toNat < (sm C (fun i => cif (lexl d p τ i c) 1 0)).toNat
    omega
/-- the settled churches -/
noncomputable def cntF (C : Nat) (F : Nat → Prop) : Int := sm C (fun c => cif (F c) 1 0)
def RndI (C : Nat) (ex : Nat → Nat → Prop) (w : Nat → Nat → Int) (p : Nat → Int) (B : Int) (d : Nat → Int) (F : Nat → Prop) : Prop := (∀ a, a < C → F a → Rlx C ex w B d a) ∧ ∀ a, a < C → F a → ∀ b, b < C → ¬ F b → d a + p a ≤ d b + p b
def Setl (C : Nat) (ex : Nat → Nat → Prop) (w : Nat → Nat → Int) (p : Nat → Int) (B : Int) (d : Nat → Int) (k : Nat) : Prop := AllR C ex w B d ∨ ∃ F : Nat → Prop, (k : Int) ≤ cntF C F ∧ RndI C ex w p B d F
def Rnd (C : Nat) (ex : Nat → Nat → Prop) (w : Nat → Nat → Int) (p : Nat → Int) (B : Int) (d : Nat → Int) (k a : Nat) : Prop := AllR C ex w B d ∨ ∃ (F : Nat → Prop) (s : Nat), (k : Int) ≤ cntF C F ∧ RndI C ex w p B d F ∧ s < C ∧ ¬ F s ∧ (∀ b, b < C → ¬ F b → d s + p s ≤ d b + p b) ∧ (s < a → Rlx C ex w B d s)
theorem Setl.zero : Setl C ex w p B d 0 := Or.inr ⟨fun _ => False, sm_nn (fun j _ => by rw [cif_neg (fun h => h)]; exact Int.le_refl _), fun a _ h => h.elim, fun a _ h => h.elim⟩
theorem argmin {F : Nat → Prop} {f : Nat → Int} : ∀ n : Nat, (∃ s, s < n ∧ ¬ F s) → ∃ s, s < n ∧ ¬ F s ∧ ∀ b, b < n → ¬ F b → f s ≤ f b
  | 0, ⟨s, h, _⟩ => by omega
  | n + 1, h => by
    by_cases h1 : ∃ s, s < n ∧ ¬ F s
    · obtain ⟨s, a1, a2, a3⟩ := argmin (F := F) (f := f) n h1
      by_cases h2 : F n
      · exact ⟨s, by omega, a2, fun b hb hn => by
          by_cases e : b = n
          · subst e; exact absurd h2 hn
          · exact a3 b (by omega) hn⟩
      · by_cases h3 : f s ≤ f n
        · exact ⟨s, by omega, a2, fun b hb hn => by
            by_cases e : b = n
            · subst e; exact h3
            · exact a3 b (by omega) hn⟩
        · exact ⟨n, by omega, h2, fun b hb hn => by
            by_cases e : b = n
            · subst e; exact Int.le_refl _
            · have := a3 b (by omega) hn; omega⟩
    · obtain ⟨s, a1, a2⟩ := h
      have e : s = n := Classical.byContradiction fun e => h1 ⟨s, by omega, a2⟩
      subst e
      exact ⟨s, by omega, a2, fun b hb hn => by
        by_cases e : b = s
        · subst e; exact Int.le_refl _
        · exact absurd ⟨b, by omega, hn⟩ h1⟩
theorem Setl.start {k : Nat} (h : Setl C ex w p B d k) : Rnd C ex w p B d k 0 := by
  rcases h with h | ⟨F, h1, h2⟩
  · exact Or.inl h
  · by_cases hs : ∃ s, s < C ∧ ¬ F s
    · obtain ⟨s, a1, a2, a3⟩ := argmin (F := F) (f := fun c => d c + p c) C hs
      exact Or.inr ⟨F, s, h1, h2, a1, a2, a3, fun q => by omega⟩
    · exact Or.inl (fun a ha => h2.1 a ha (Classical.byContradiction fun q => hs ⟨a, ha, q⟩))
theorem Rnd.stop {k : Nat} (h : Rnd C ex w p B d k C) : Setl C ex w p B d (k + 1) := by
  rcases h with h | ⟨F, s, h1, h2, h3, h4, h5, h6⟩
  · exact Or.inl h
  · refine Or.inr ⟨fun c => F c ∨ c = s, ?_, fun a ha hF => ?_, fun a ha hF b hb hn => ?_⟩
    · have := sm_lt (f := fun c => cif (F c) 1 0) (f' := fun c => cif (F c ∨ c = s) 1 0) (k := s) C (fun j _ => by
        by_cases q : F j
        · rw [cif_pos q, cif_pos (Or.inl q)]; exact Int.le_refl _
        · rw [cif_neg q]
          by_cases q2 : F j ∨ j = s
          · rw [cif_pos q2]; decide
          · rw [cif_neg q2]; decide) h3 (by rw [cif_neg h4, cif_pos (Or.inr rfl)]; decide)
      unfold cntF at h1 ⊢
      show ((k + 1 : Nat) : Int) ≤ sm C (fun c => cif (F c ∨ c = s) 1 0)
      omega
    · rcases hF with hF | hF
      · exact h2.1 a ha hF
      · subst hF; exact h6 h3
    · rcases hF with hF | hF
      · exact h2.2 a ha hF b hb (fun q => hn (Or.inl q))
      · subst hF; exact h5 b hb (fun q => hn (Or.inl q))
theorem Setl.all (h : Setl C ex w p B d C) : AllR C ex w B d := by
  rcases h with h | ⟨F, h1, h2⟩
  · exact h
  · intro a ha
    refine h2.1 a ha (Classical.byContradiction fun q => ?_)
    have := sm_lt (f := fun c => cif (F c) 1 0) (f' := fun _ => 1) (k := a) C (fun j _ => by
      by_cases h : F j
      · rw [cif_pos h]; decide
      · rw [cif_neg h]; decide) ha (by rw [cif_neg q]; decide)
    rw [sm_one] at this
    unfold cntF at h1
    omega
theorem Rnd.relax {k a0 : Nat} (h : Rnd C ex w p B d k a0) (hP : PW C ex w p) {a b : Nat} (ha : a < C) (hb : b < C) (he : ex a b) (hd : d a < B) (hlt : d a + w a b < d b) : Rnd C ex w p B (up1 d b (d a + w a b)) k a0 := by
  have hw := (hP a ha b hb he).1
  rcases h with h | ⟨F, s, h1, h2, h3, h4, h5, h6⟩
  · have := h a ha b hb he hd; omega
  · have hFa : ¬ F a := fun q => by have := h2.1 a ha q b hb he hd; omega
    have hFb : ¬ F b := fun q => by have := h2.2 b hb q a ha hFa; omega
    have hsb : s ≠ b := fun e => by subst e; have := h5 a ha hFa; omega
    have hab : a ≠ b := fun e => by subst e; omega
    have low : ∀ c, up1 d b (d a + w a b) c ≤ d c := fun c => by
      by_cases e : c = b
      · subst e; rw [up1_at]; omega
      · rw [up1_ne e]; exact Int.le_refl _
    have rk : ∀ a', a' ≠ b → Rlx C ex w B d a' → Rlx C ex w B (up1 d b (d a + w a b)) a' := by
      intro a' h7 h8 b' hb' he' hd'
      rw [up1_ne h7] at hd' ⊢
      have := h8 b' hb' he' hd'
      have := low b'
      omega
    refine Or.inr ⟨F, s, h1, ⟨fun a' ha' hF' => rk a' (fun e => by subst e; exact hFb hF') (h2.1 a' ha' hF'), fun a' ha' hF' b' hb' hn' => ?_⟩, h3, h4, fun b' hb' hn' => ?_, fun q => rk s hsb (h6 q)⟩
    · have e1 : a' ≠ b := fun e => by subst e; exact hFb hF'
      rw [up1_ne e1]
      by_cases e : b' = b
      · subst e; rw [up1_at]; have := h2.2 a' ha' hF' a ha hFa; omega
      · rw [up1_ne e]; exact h2.2 a' ha' hF' b' hb' hn'
    · rw [up1_ne hsb]
      by_cases e : b' = b
      · subst e; rw [up1_at]; have := h5 a ha hFa; omega
      · rw [up1_ne e]; exact h5 b' hb' hn'
theorem Rnd.next {k a : Nat} (h : Rnd C ex w p B d k a) (hr : Rlx C ex w B d a) : Rnd C ex w p B d k (a + 1) := by
  rcases h with h | ⟨F, s, h1, h2, h3, h4, h5, h6⟩
  · exact Or.inl h
  · refine Or.inr ⟨F, s, h1, h2, h3, h4, h5, fun q => ?_⟩
    by_cases e : s = a
    · subst e; exact hr
    · exact h6 (by omega)
end

