/-! heads seated along a cheapest chain -/
theorem sm_up {f : Nat → Int} {k : Nat} {v : Int} : ∀ n : Nat, k < n → sm n (fun j => if j = k then v else f j) = sm n f + (v - f k)
  | 0, h => by omega
  | n + 1, h => by
    simp only [sm]
    by_cases e : k = n
    · subst e
      rw [sm_cong (f' := f) k (fun j hj => by rw [if_neg (by omega)]), if_pos rfl]
      omega
    · rw [sm_up n (by omega), if_neg (by omega)]
      omega
def up2 (x : Nat → Nat → Int) (g b : Nat) (v : Int) : Nat → Nat → Int := fun g' b' => if g' = g ∧ b' = b then v else x g' b'
theorem up2_at {x : Nat → Nat → Int} {g b : Nat} {v : Int} : up2 x g b v g b = v := by simp [up2]
theorem up2_ne {x : Nat → Nat → Int} {g b g' b' : Nat} {v : Int} (h : ¬ (g' = g ∧ b' = b)) : up2 x g b v g' b' = x g' b' := by simp [up2, h]
theorem up2_row {C : Nat} {x : Nat → Nat → Int} {g b : Nat} {v : Int} (hb : b < C) (g' : Nat) : sm C (up2 x g b v g') = sm C (x g') + (if g' = g then v - x g b else 0) := by
  by_cases e : g' = g
  · subst e
    rw [if_pos rfl, ← sm_up C hb]
    exact sm_cong C (fun j _ => by unfold up2; by_cases q : j = b <;> simp [q])
  · rw [if_neg e, Int.add_zero]
    exact sm_cong C (fun j _ => up2_ne (fun q => e q.1))
theorem up2_col {H : Nat} {x : Nat → Nat → Int} {g b : Nat} {v : Int} (hg : g < H) (b' : Nat) : sm H (fun h => up2 x g b v h b') = sm H (fun h => x h b') + (if b' = b then v - x g b else 0) := by
  by_cases e : b' = b
  · subst e
    rw [if_pos rfl, ← sm_up (f := fun h => x h b') H hg]
    exact sm_cong H (fun j _ => by unfold up2; by_cases q : j = g <;> simp [q])
  · rw [if_neg e, Int.add_zero]
    exact sm_cong H (fun j _ => up2_ne (fun q => e q.2))
theorem up2_cost {H C : Nat} {ct x : Nat → Nat → Int} {g b : Nat} {v : Int} (hg : g < H) (hb : b < C) : costX H C ct (up2 x g b v) = costX H C ct x + (v - x g b) * ct g b := by
  unfold costX
  have e : ∀ h, h < H → sm C (fun c => up2 x g b v h c * ct h c) = if h = g then sm C (fun c => x g c * ct g c) + (v - x g b) * ct g b else sm C (fun c => x h c * ct h c) := by
    intro h _
    by_cases q : h = g
    · subst q
      rw [if_pos rfl, Int.sub_mul, ← sm_up (f := fun c => x h c * ct h c) (v := v * ct h b) C hb]
      exact sm_cong C (fun j _ => by unfold up2; by_cases q : j = b <;> simp [q])
    · rw [if_neg q]
      exact sm_cong C (fun j _ => by rw [up2_ne (fun z => q z.1)])
  rw [sm_cong H e, sm_up (f := fun h => sm C (fun c => x h c * ct h c)) H hg]
  omega
def TreeOK (C : Nat) (ex : Nat → Nat → Prop) (w : Nat → Nat → Int) (p : Nat → Int) (Sr : Nat → Int → Prop) (B : Int) (d pr : Nat → Int) (ρ : Nat → Nat) : Prop := ∀ c, c < C → d c < B → ρ c < C ∧ (((-9 ≤ pr c ∧ pr c < 0) ∧ Sr c (d c)) ∨ ∃ a, a < C ∧ pr c = a ∧ ex a c ∧ d a < B ∧ d c = d a + w a c ∧ ρ a < ρ c ∧ d a + p a ≤ d c + p c)
theorem BfI.tree {C : Nat} {ex : Nat → Nat → Prop} {w : Nat → Nat → Int} {p : Nat → Int} {Sr : Nat → Int → Prop} {B : Int} {t : Nat} {τ : Nat → Nat} {d pr : Nat → Int} (hI : BfI C ex w p Sr B t τ d pr) (hA : AllR C ex w B d) : ∃ ρ, TreeOK C ex w p Sr B d pr ρ := by
  obtain ⟨ρ, h1, h2⟩ := hI.rank
  refine ⟨ρ, fun c hc hB => ⟨h1 c hc, ?_⟩⟩
  rcases hI.2.1 c hc hB with q | ⟨a, q1, q2, q3, q4, q5, q6⟩
  · exact Or.inl q
  · have := hA a q1 c hc q3 q4
    refine Or.inr ⟨a, q1, q2, q3, q4, by omega, h2 c a hc q1 q6, ?_⟩
    unfold lexl at q6
    omega
def viaT (C : Nat) (mv : Nat → Nat → Nat) (p : Nat → Int) (B δ : Int) (d pr : Nat → Int) (g b : Nat) : Prop := ∃ a, a < C ∧ pr b = a ∧ g = mv a b ∧ d b < B ∧ d b + p b ≤ δ
/-- on the way back along the chain, at church c, n heads being moved -/
def WkI (H C : Nat) (ct x0 : Nat → Nat → Int) (mv : Nat → Nat → Nat) (p : Nat → Int) (B δ : Int) (d pr : Nat → Int) (ρ : Nat → Nat) (fin : Nat) (n : Int) (c : Nat) (x : Nat → Nat → Int) : Prop :=
  (∀ g, g < H → sm C (x g) = sm C (x0 g)) ∧ (∀ b, b < C → sm H (fun h => x h b) = sm H (fun h => x0 h b) + (if b = fin then n else 0) - (if b = c then n else 0)) ∧ (∀ g, g < H → ∀ b, b < C → 0 ≤ x g b) ∧ (∀ g, g < H → ∀ b, b < C → 0 < x g b → 0 < x0 g b ∨ viaT C mv p B δ d pr g b) ∧ (∀ g, g < H → ∀ b, b < C → ρ b < ρ c → x g b = x0 g b) ∧ costX H C ct x = costX H C ct x0 + n * (δ - d c) ∧ d c < B ∧ d c + p c ≤ δ
section
variable {H C : Nat} {al : Nat → Nat → Prop} {ct x0 x : Nat → Nat → Int} {ex : Nat → Nat → Prop} {w : Nat → Nat → Int} {mv : Nat → Nat → Nat} {p sup rm : Nat → Int} {Sr : Nat → Int → Prop} {B δ : Int} {d pr : Nat → Int} {ρ : Nat → Nat} {fin c : Nat} {n : Int}
theorem WkI.start (h0 : ∀ g, g < H → ∀ b, b < C → 0 ≤ x0 g b) (hB : d fin < B) (hp : d fin + p fin ≤ δ) (hδ : δ = d fin) : WkI H C ct x0 mv p B δ d pr ρ fin n fin x0 :=
  ⟨fun _ _ => rfl, fun b _ => by omega, h0, fun g _ b _ h => Or.inl h, fun _ _ _ _ _ => rfl, by rw [hδ, Int.sub_self, Int.mul_zero, Int.add_zero], hB, hp⟩
theorem WkI.step (hE : EdgeOK H C al ct x0 ex w mv) (hT : TreeOK C ex w p Sr B d pr ρ) (hc : c < C) (hW : WkI H C ct x0 mv p B δ d pr ρ fin n c x) {a : Nat} (ha : pr c = a) (hn : 0 ≤ n) (hbot : n ≤ x0 (mv a c) a) : a < C ∧ ρ a < ρ c ∧ mv a c < H ∧ WkI H C ct x0 mv p B δ d pr ρ fin n a (up2 (up2 x (mv a c) c (x (mv a c) c + n)) (mv a c) a (up2 x (mv a c) c (x (mv a c) c + n) (mv a c) a - n)) := by
  obtain ⟨r1, r2, r3, r4, r5, r6, r7, r8⟩ := hW
  obtain ⟨-, t2⟩ := hT c hc r7
  rcases t2 with ⟨t3, -⟩ | ⟨a', t3, t4, t5, t6, t7, t8, t9⟩
  · omega
  obtain rfl : a' = a := by omega
  obtain ⟨e1, e2, e3, e4⟩ := hE.1 a' t3 c hc t5
  have hca : c ≠ a' := fun e => by subst e; omega
  have hz : up2 x (mv a' c) c (x (mv a' c) c + n) (mv a' c) a' = x (mv a' c) a' := up2_ne (fun q => hca q.2.symm)
  rw [hz]
  have hxa := r5 (mv a' c) e1 a' t3 t8
  refine ⟨t3, t8, e1, fun g hg => ?_, fun b hb => ?_, fun g hg b hb => ?_, fun g hg b hb hpos => ?_, fun g hg b hb hr => ?_, ?_, t6, by omega⟩
  · rw [up2_row t3, up2_row hc, hz, ← r1 g hg]
    by_cases q : g = mv a' c
    · rw [if_pos q, if_pos q]; omega
    · rw [if_neg q, if_neg q]; omega
  · rw [up2_col e1, up2_col e1, hz, r2 b hb]
    by_cases q1 : b = a'
    · subst q1
      rw [if_pos rfl, if_pos rfl, if_neg (Ne.symm hca), if_neg (Ne.symm hca)]; omega
    · rw [if_neg q1, if_neg q1]
      by_cases q2 : b = c
      · subst q2; rw [if_pos rfl, if_pos rfl]; omega
      · rw [if_neg q2, if_neg q2]; omega
  · by_cases q1 : g = mv a' c ∧ b = a'
    · obtain ⟨rfl, rfl⟩ := q1
      rw [up2_at]; omega
    · rw [up2_ne q1]
      by_cases q2 : g = mv a' c ∧ b = c
      · obtain ⟨rfl, rfl⟩ := q2
        rw [up2_at]; have := r3 _ hg _ hb; omega
      · rw [up2_ne q2]; exact r3 g hg b hb
  · by_cases q1 : g = mv a' c ∧ b = a'
    · obtain ⟨rfl, rfl⟩ := q1
      rw [up2_at] at hpos
      exact r4 _ hg _ hb (by omega)
    · rw [up2_ne q1] at hpos
      by_cases q2 : g = mv a' c ∧ b = c
      · obtain ⟨rfl, rfl⟩ := q2
        exact Or.inr ⟨a', t3, t4, rfl, r7, r8⟩
      · rw [up2_ne q2] at hpos; exact r4 g hg b hb hpos
  · have q1 : b ≠ a' := fun e => by subst e; omega
    have q2 : b ≠ c := fun e => by subst e; omega
    rw [up2_ne (fun q => q1 q.2), up2_ne (fun q => q2 q.2)]
    exact r5 g hg b hb (by omega)
  · rw [up2_cost e1 t3, up2_cost e1 hc, hz, r6]
    have z1 : (x (mv a' c) c + n - x (mv a' c) c) = n := by omega
    have z2 : (x (mv a' c) a' - n - x (mv a' c) a') = -n := by omega
    rw [z1, z2, t7, e4]
    simp only [Int.mul_sub, Int.mul_add, Int.neg_mul]
    omega
/-- the church prices behind it -/
noncomputable def pNew (p d : Nat → Int) (δ : Int) (c : Nat) : Int := cif (p c ≤ δ - d c) (δ - d c) (p c)
theorem pNew_ge (p d : Nat → Int) (δ : Int) (c : Nat) : p c ≤ pNew p d δ c ∧ δ - d c ≤ pNew p d δ c ∧ (pNew p d δ c = p c ∨ pNew p d δ c = δ - d c) := by
  unfold pNew
  by_cases h : p c ≤ δ - d c
  · rw [cif_pos h]; omega
  · rw [cif_neg h]; omega
theorem aug_done {h0 : Nat} (hF : Feas H C sup rm al x0) (hCt : Cert H C rm al ct x0 p) (hE : EdgeOK H C al ct x0 ex w mv) (hA : AllR C ex w B d) (hT : TreeOK C ex w p (fun c v => al h0 c ∧ v = ct h0 c) B d pr ρ) (hS : ∀ c, c < C → al h0 c → d c ≤ ct h0 c) (hinf : ∀ c, c < C → ¬ d c < B → d c = B) (hh : h0 < H) (hfin : fin < C) (hn : 1 ≤ n) (hroom : sm H (fun h => x0 h fin) + n ≤ rm fin) (hfB : d fin < B) (hleast : ∀ c, c < C → sm H (fun h => x0 h c) < rm c → d c < B → d fin ≤ d c) (hδ : δ = d fin) (hc : c < C) (hroot : pr c < 0) (hW : WkI H C ct x0 mv p B δ d pr ρ fin n c x) :
    Feas H C (fun h => if h = h0 then sup h0 + n else sup h) rm al (up2 x h0 c (x h0 c + n)) ∧ Cert H C rm al ct (up2 x h0 c (x h0 c + n)) (pNew p d δ) ∧ costX H C ct (up2 x h0 c (x h0 c + n)) = costX H C ct x0 + n * δ ∧ ∀ b, b < C → sm H (fun h => up2 x h0 c (x h0 c + n) h b) = sm H (fun h => x0 h b) + (if b = fin then n else 0) := by
  obtain ⟨r1, r2, r3, r4, r5, r6, r7, r8⟩ := hW
  obtain ⟨-, t2⟩ := hT c hc r7
  have hroot2 : al h0 c ∧ d c = ct h0 c := by
    rcases t2 with ⟨-, t3⟩ | ⟨a, t3, t4, -⟩
    · exact t3
    · omega
  have col : ∀ b, b < C → sm H (fun h => up2 x h0 c (x h0 c + n) h b) = sm H (fun h => x0 h b) + (if b = fin then n else 0) := by
    intro b hb
    rw [up2_col hh, r2 b hb]
    by_cases q : b = c
    · rw [if_pos q, if_pos q]; omega
    · rw [if_neg q, if_neg q]; omega
  have sup3 : ∀ g, g < H → ∀ b, b < C → 0 < up2 x h0 c (x h0 c + n) g b → 0 < x0 g b ∨ viaT C mv p B δ d pr g b ∨ (g = h0 ∧ b = c) := by
    intro g hg b hb hpos
    by_cases q : g = h0 ∧ b = c
    · exact Or.inr (Or.inr q)
    · rw [up2_ne q] at hpos
      rcases r4 g hg b hb hpos with z | z
      · exact Or.inl z
      · exact Or.inr (Or.inl z)
  have via : ∀ g b, b < C → viaT C mv p B δ d pr g b → g < H ∧ al g b ∧ ∃ a, a < C ∧ 0 < x0 g a ∧ d a < B ∧ ct g b - d b = ct g a - d a := by
    intro g b hb hv
    obtain ⟨a, v1, v2, v3, v4, v5⟩ := hv
    obtain ⟨-, t⟩ := hT b hb v4
    rcases t with ⟨t3, -⟩ | ⟨a', t3, t4, t5, t6, t7, -, -⟩
    · omega
    · obtain rfl : a' = a := by omega
      obtain ⟨e1, e2, e3, e4⟩ := hE.1 a' t3 b hb t5
      subst v3
      exact ⟨e1, e3, a', t3, e2, t6, by omega⟩
  have old : ∀ g, g < H → ∀ a, a < C → ∀ b, b < C → 0 < x0 g a → al g b → ct g a + pNew p d δ a ≤ ct g b + pNew p d δ b := by
    intro g hg a ha b hb hx hal
    have k1 := pNew_ge p d δ a
    have k2 := pNew_ge p d δ b
    have k3 := hCt.2.2 g hg a ha b hb hx hal
    rcases k1.2.2 with z | z
    · omega
    · have hdB : d a < B := Classical.byContradiction fun q => by
        have := hinf a ha q
        have := hCt.1 a ha
        omega
      obtain ⟨e1, e2⟩ := hE.2 a ha b hb g hg hx hal
      have := hA a ha b hb e1 hdB
      omega
  have hpf : p fin = 0 := hCt.2.1 fin hfin (by omega)
  refine ⟨⟨fun g hg b hb => ⟨?_, fun hpos => ?_⟩, fun g hg => ?_, fun b hb => ?_⟩, ⟨fun b hb => ?_, fun b hb hlt => ?_, fun g hg a ha b hb hpos hal => ?_⟩, ?_, col⟩
  · by_cases q : g = h0 ∧ b = c
    · obtain ⟨rfl, rfl⟩ := q
      rw [up2_at]; have := r3 _ hg _ hb; omega
    · rw [up2_ne q]; exact r3 g hg b hb
  · rcases sup3 g hg b hb hpos with z | z | ⟨rfl, rfl⟩
    · exact (hF.1 g hg b hb).2 z
    · exact (via g b hb z).2.1
    · exact hroot2.1
  · rw [up2_row hc, r1 g hg, hF.2.1 g hg]
    show _ = if g = h0 then sup h0 + n else sup g
    by_cases q : g = h0
    · subst q; rw [if_pos rfl, if_pos rfl]; omega
    · rw [if_neg q, if_neg q]; omega
  · rw [col b hb]
    have := hF.2.2 b hb
    by_cases q : b = fin
    · subst q; rw [if_pos rfl]; exact hroom
    · rw [if_neg q]; omega
  · have := pNew_ge p d δ b; have := hCt.1 b hb; omega
  · rw [col b hb] at hlt
    have k := pNew_ge p d δ b
    by_cases q : b = fin
    · subst q; omega
    · rw [if_neg q] at hlt
      have p0 := hCt.2.1 b hb (by omega)
      by_cases z : d b < B
      · have := hleast b hb (by omega) z; omega
      · have := hinf b hb z; omega
  · have k2 := pNew_ge p d δ b
    rcases sup3 g hg a ha hpos with z | z | ⟨rfl, rfl⟩
    · exact old g hg a ha b hb z hal
    · obtain ⟨a', v1, v2, v3, v4, v5⟩ := id z
      obtain ⟨-, -, a0, u1, u2, u3, u4⟩ := via g a ha z
      have k1 := pNew_ge p d δ a
      have k0 := pNew_ge p d δ a0
      have := old g hg a0 u1 b hb u2 hal
      omega
    · have k1 := pNew_ge p d δ a
      have := hS b hb hal
      omega
  · rw [up2_cost hh hc, r6, hroot2.2]
    have z1 : (x h0 c + n - x h0 c) = n := by omega
    rw [z1]
    simp only [Int.mul_sub]
    omega
/-- no church with room can be reached: there is no sending -/
theorem no_sending {h0 : Nat} {hd : Nat → Int} (hF : Feas H C sup rm al x0) (hh : h0 < H) (hle : ∀ h, h < H → sup h ≤ hd h) (hlt : sup h0 < hd h0) (hcl : ∀ a, a < C → ∀ b, b < C → ∀ g, g < H → d a < B → 0 < x0 g a → al g b → d b < B) (hst : ∀ b, b < C → al h0 b → d b < B) (hfull : ∀ c, c < C → d c < B → ¬ sm H (fun h => x0 h c) < rm c) : ¬ ∃ y, Feas H C hd rm al y := by
  rintro ⟨y, hy⟩
  -- the homes that are stuck
  have e1 : ∀ g, g < H → cif (g = h0 ∨ ∃ a, a < C ∧ d a < B ∧ 0 < x0 g a) (hd g) 0 ≤ sm C (fun c => cif (d c < B) (y g c) 0) := by
    intro g hg
    by_cases q : g = h0 ∨ ∃ a, a < C ∧ d a < B ∧ 0 < x0 g a
    · rw [cif_pos q, ← hy.2.1 g hg]
      refine sm_le C (fun c hc => ?_)
      by_cases z : d c < B
      · rw [cif_pos z]; exact Int.le_refl _
      · rw [cif_neg z]
        have := hy.1 g hg c hc
        have : ¬ 0 < y g c := fun pos => by
          rcases q with q | ⟨a, q1, q2, q3⟩
          · subst q; exact z (hst c hc (this.2 pos))
          · exact z (hcl a q1 c hc g hg q2 q3 (this.2 pos))
        omega
    · rw [cif_neg q]
      refine sm_nn (fun c hc => ?_)
      by_cases z : d c < B
      · rw [cif_pos z]; exact (hy.1 g hg c hc).1
      · rw [cif_neg z]; exact Int.le_refl _
  have e2 : ∀ g, g < H → sm C (fun c => cif (d c < B) (x0 g c) 0) ≤ cif (g = h0 ∨ ∃ a, a < C ∧ d a < B ∧ 0 < x0 g a) (sup g) 0 := by
    intro g hg
    by_cases q : g = h0 ∨ ∃ a, a < C ∧ d a < B ∧ 0 < x0 g a
    · rw [cif_pos q, ← hF.2.1 g hg]
      refine sm_le C (fun c hc => ?_)
      by_cases z : d c < B
      · rw [cif_pos z]; exact Int.le_refl _
      · rw [cif_neg z]; exact (hF.1 g hg c hc).1
    · rw [cif_neg q]
      have z0 := sm_le (f := fun c => cif (d c < B) (x0 g c) 0) (f' := fun _ => 0) C (fun c hc => by
        by_cases z : d c < B
        · rw [cif_pos z]
          exact Int.not_lt.mp (fun pos => q (Or.inr ⟨c, hc, z, pos⟩))
        · rw [cif_neg z]; exact Int.le_refl _)
      rw [sm_zero] at z0
      exact z0
  have e3 := sm_le H e1
  have e4 := sm_le H e2
  have e5 : sm H (fun g => sm C (fun c => cif (d c < B) (y g c) 0)) ≤ sm H (fun g => sm C (fun c => cif (d c < B) (x0 g c) 0)) := by
    rw [sm_swap (f := fun g c => cif (d c < B) (y g c) 0), sm_swap (f := fun g c => cif (d c < B) (x0 g c) 0)]
    refine sm_le C (fun c hc => ?_)
    by_cases z : d c < B
    · rw [sm_cong H (fun g _ => cif_pos z), sm_cong (f := fun i => cif (d c < B) (x0 i c) 0) H (fun g _ => cif_pos z)]
      have := hy.2.2 c hc
      have := hfull c hc z
      omega
    · rw [sm_cong H (fun g _ => cif_neg z), sm_cong (f := fun i => cif (d c < B) (x0 i c) 0) H (fun g _ => cif_neg z)]
      exact Int.le_refl _
  have e6 : sm H (fun g => cif (g = h0 ∨ ∃ a, a < C ∧ d a < B ∧ 0 < x0 g a) (sup g) 0) < sm H (fun g => cif (g = h0 ∨ ∃ a, a < C ∧ d a < B ∧ 0 < x0 g a) (hd g) 0) := by
    refine sm_lt (k := h0) H (fun g hg => ?_) hh ?_
    · by_cases q : g = h0 ∨ ∃ a, a < C ∧ d a < B ∧ 0 < x0 g a
      · rw [cif_pos q, cif_pos q]; exact hle g hg
      · rw [cif_neg q, cif_neg q]; exact Int.le_refl _
    · rw [cif_pos (Or.inl rfl), cif_pos (Or.inl rfl)]; exact hlt
  omega
end

