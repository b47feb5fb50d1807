/-! a seat more -/
section
variable {H C : Nat} {al : Nat → Nat → Prop} {ct x0 x : Nat → Nat → Int} {ex : Nat → Nat → Prop} {w : Nat → Nat → Int} {mv : Nat → Nat → Nat} {p sup rm : Nat → Int} {Sr : Nat → Int → Prop} {B δ : Int} {d pr : Nat → Int} {ρ : Nat → Nat} {fin : Nat} {n : Int}
theorem walk_all (hE : EdgeOK H C al ct x0 ex w mv) (hT : TreeOK C ex w p Sr B d pr ρ) (hn : n = 1) : ∀ (k c : Nat) (x : Nat → Nat → Int), ρ c ≤ k → c < C → WkI H C ct x0 mv p B δ d pr ρ fin n c x → ∃ c' x', c' < C ∧ pr c' < 0 ∧ WkI H C ct x0 mv p B δ d pr ρ fin n c' x' := by
  intro k
  induction k with
  | zero =>
    intro c x hk hc hW
    obtain ⟨-, t⟩ := hT c hc hW.2.2.2.2.2.2.1
    rcases t with ⟨t, -⟩ | ⟨a, _, _, _, _, _, t, _⟩
    · exact ⟨c, x, hc, t.2, hW⟩
    · omega
  | succ k ih =>
    intro c x hk hc hW
    obtain ⟨-, t⟩ := hT c hc hW.2.2.2.2.2.2.1
    rcases t with ⟨t, -⟩ | ⟨a, t1, t2, t3, t4, t5, t6, t7⟩
    · exact ⟨c, x, hc, t.2, hW⟩
    · have e := (hE.1 a t1 c hc t3).2.1
      obtain ⟨s1, s2, s3, s4⟩ := hW.step hE hT hc t2 (by omega) (by omega)
      exact ih a _ (by omega) s1 s4
/-- what a seat more saves -/
def wtD (d : Nat → Int) (c : Nat) : Int := if d c < 0 then -d c else 0
theorem tree_nn (hT : TreeOK C ex w p Sr B d pr ρ) (hS : ∀ c v, Sr c v → v = 0) (hp : ∀ c, c < C → 0 ≤ p c) : ∀ (k c : Nat), ρ c ≤ k → c < C → d c < B → 0 ≤ d c + p c := by
  intro k
  induction k with
  | zero =>
    intro c hk hc hB
    obtain ⟨-, t⟩ := hT c hc hB
    rcases t with ⟨-, t⟩ | ⟨a, _, _, _, _, _, t, _⟩
    · have := hS c _ t; have := hp c hc; omega
    · omega
  | succ k ih =>
    intro c hk hc hB
    obtain ⟨-, t⟩ := hT c hc hB
    rcases t with ⟨-, t⟩ | ⟨a, t1, t2, t3, t4, t5, t6, t7⟩
    · have := hS c _ t; have := hp c hc; omega
    · have := ih a (by omega) t1 t4; omega
theorem wt_cert (hF : Feas H C sup rm al x0) (hCt : Cert H C rm al ct x0 p) (hE : EdgeOK H C al ct x0 ex w mv) (hA : AllR C ex w B d) (hT : TreeOK C ex w p (fun c v => 0 < sm H (fun h => x0 h c) ∧ v = 0) B d pr ρ) (hS : ∀ c, c < C → 0 < sm H (fun h => x0 h c) → d c ≤ 0) (hB : 0 < B) (hinf : ∀ c, c < C → ¬ d c < B → d c = B) : Cert H C rm al ct x0 (wtD d) := by
  refine ⟨fun c _ => by unfold wtD; split <;> omega, fun c hc hlt => ?_, fun g hg a ha b hb hx hal => ?_⟩
  · unfold wtD
    rw [if_neg]
    intro q
    have := tree_nn hT (fun c v h => h.2) hCt.1 (ρ c) c (Nat.le_refl _) hc (by omega)
    have := hCt.2.1 c hc hlt
    omega
  · have tk : 0 < sm H (fun h => x0 h a) := by
      have := sm_ge1 (f := fun h => x0 h a) (n := H) (k := g) (fun j hj => (hF.1 j hj a ha).1) hg
      omega
    have d0 := hS a ha tk
    obtain ⟨e1, e2⟩ := hE.2 a ha b hb g hg hx hal
    have := hA a ha b hb e1 (by omega)
    unfold wtD
    split <;> split <;> omega
theorem weight_ok (hF : Feas H C sup rm al x0) (hCt : Cert H C rm al ct x0 p) (hE : EdgeOK H C al ct x0 ex w mv) (hA : AllR C ex w B d) (hT : TreeOK C ex w p (fun c v => 0 < sm H (fun h => x0 h c) ∧ v = 0) B d pr ρ) (hS : ∀ c, c < C → 0 < sm H (fun h => x0 h c) → d c ≤ 0) (hB : 0 < B) (hinf : ∀ c, c < C → ¬ d c < B → d c = B) {c0 : Nat} (hc0 : c0 < C) : IsMiles H C sup (fun c => if c = c0 then rm c0 + 1 else rm c) al ct (costX H C ct x0 - wtD d c0) := by
  have hW := wt_cert hF hCt hE hA hT hS hB hinf
  have e1 : sm C (fun c => wtD d c * (if c = c0 then rm c0 + 1 else rm c)) = sm C (fun c => wtD d c * rm c) + wtD d c0 := by
    have := sm_up (f := fun c => wtD d c * rm c) (k := c0) (v := wtD d c0 * (rm c0 + 1)) C hc0
    rw [Int.mul_add, Int.mul_one] at this
    rw [← show sm C (fun c => wtD d c * rm c) + (wtD d c0 * rm c0 + wtD d c0 - wtD d c0 * rm c0) = sm C (fun c => wtD d c * rm c) + wtD d c0 by omega, ← this]
    refine sm_cong C (fun c _ => ?_)
    by_cases q : c = c0
    · subst q; rw [if_pos rfl, if_pos rfl, Int.mul_add, Int.mul_one]
    · rw [if_neg q, if_neg q]
  have low : ∀ y, Feas H C sup (fun c => if c = c0 then rm c0 + 1 else rm c) al y → costX H C ct x0 - wtD d c0 ≤ costX H C ct y := by
    intro y hy
    have := cert_bound hF hW hy
    rw [e1] at this
    omega
  by_cases hneg : d c0 < 0
  · -- push one head along the chain
    have hTs : TreeOK C ex w (fun c => p c - p c0) (fun c v => 0 < sm H (fun h => x0 h c) ∧ v = 0) B d pr ρ := by
      intro c hc hcB
      obtain ⟨t1, t2⟩ := hT c hc hcB
      refine ⟨t1, ?_⟩
      rcases t2 with t2 | ⟨a, q1, q2, q3, q4, q5, q6, q7⟩
      · exact Or.inl t2
      · exact Or.inr ⟨a, q1, q2, q3, q4, q5, q6, by show d a + (p a - p c0) ≤ d c + (p c - p c0); omega⟩
    obtain ⟨c', x', a1, a2, r1, r2, r3, r4, r5, r6, r7, r8⟩ := walk_all (n := 1) (fin := c0) (δ := d c0) hE hTs rfl (ρ c0) c0 x0 (Nat.le_refl _) hc0 (WkI.start (fun g hg b hb => (hF.1 g hg b hb).1) (by omega) (by show d c0 + (p c0 - p c0) ≤ d c0; omega) rfl)
    have root : d c' = 0 := by
      obtain ⟨-, t⟩ := hT c' a1 r7
      rcases t with ⟨-, t⟩ | ⟨a, t1, t2, _⟩
      · exact t.2
      · omega
    refine Or.inl ⟨x', ⟨fun g hg b hb => ⟨r3 g hg b hb, fun hpos => ?_⟩, fun g hg => by rw [r1 g hg]; exact hF.2.1 g hg, fun b hb => ?_⟩, ?_, low⟩
    · rcases r4 g hg b hb hpos with z | ⟨a, v1, v2, v3, v4, v5⟩
      · exact (hF.1 g hg b hb).2 z
      · obtain ⟨-, t⟩ := hT b hb v4
        rcases t with ⟨t, -⟩ | ⟨a', t3, t4, t5, -⟩
        · omega
        · obtain rfl : a' = a := by omega
          rw [v3]
          exact (hE.1 a' t3 b hb t5).2.2.1
    · have q0 := hF.2.2 b hb
      show sm H (fun h => x' h b) ≤ if b = c0 then rm c0 + 1 else rm b
      rw [r2 b hb]
      by_cases q : b = c0
      · subst q; rw [if_pos rfl, if_pos rfl]; split <;> omega
      · rw [if_neg q, if_neg q]; split <;> omega
    · rw [r6, root]
      unfold wtD
      rw [if_pos hneg]
      omega
  · have e0 : wtD d c0 = 0 := by unfold wtD; rw [if_neg hneg]
    rw [e0] at low ⊢
    refine Or.inl ⟨x0, ⟨hF.1, hF.2.1, fun b hb => ?_⟩, by omega, low⟩
    have q0 := hF.2.2 b hb
    show sm H (fun h => x0 h b) ≤ if b = c0 then rm c0 + 1 else rm b
    by_cases q : b = c0
    · subst q; rw [if_pos rfl]; omega
    · rw [if_neg q]; exact q0
end

