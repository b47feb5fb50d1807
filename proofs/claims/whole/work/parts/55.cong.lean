/-! what is said of a sending looks at its homes and churches alone -/
section
variable {H C : Nat} {al : Nat → Nat → Prop} {ct x x' x0 : Nat → Nat → Int} {mv : Nat → Nat → Nat} {p sup rm : Nat → Int} {B δ : Int} {d pr : Nat → Int} {ρ : Nat → Nat} {fin c : Nat} {n : Int}
theorem rowc (e : ∀ h, h < H → ∀ c, c < C → x h c = x' h c) {h : Nat} (hh : h < H) : sm C (x h) = sm C (x' h) := sm_cong C (fun c hc => e h hh c hc)
theorem colc (e : ∀ h, h < H → ∀ c, c < C → x h c = x' h c) {c : Nat} (hc : c < C) : sm H (fun h => x h c) = sm H (fun h => x' h c) := sm_cong H (fun h hh => e h hh c hc)
theorem costc (e : ∀ h, h < H → ∀ c, c < C → x h c = x' h c) : costX H C ct x = costX H C ct x' := sm_cong H (fun h hh => sm_cong C (fun c hc => by rw [e h hh c hc]))
theorem Feas.congX (e : ∀ h, h < H → ∀ c, c < C → x h c = x' h c) (hF : Feas H C sup rm al x) : Feas H C sup rm al x' :=
  ⟨fun h hh c hc => by rw [← e h hh c hc]; exact hF.1 h hh c hc, fun h hh => by rw [← rowc e hh]; exact hF.2.1 h hh, fun c hc => by rw [← colc e hc]; exact hF.2.2 c hc⟩
theorem Cert.congX (e : ∀ h, h < H → ∀ c, c < C → x h c = x' h c) (hF : Cert H C rm al ct x p) : Cert H C rm al ct x' p :=
  ⟨hF.1, fun c hc => by rw [← colc e hc]; exact hF.2.1 c hc, fun h hh a ha b hb => by rw [← e h hh a ha]; exact hF.2.2 h hh a ha b hb⟩
theorem WkI.congX (hc : c < C) (e : ∀ h, h < H → ∀ c, c < C → x h c = x' h c) (hW : WkI H C ct x0 mv p B δ d pr ρ fin n c x) : WkI H C ct x0 mv p B δ d pr ρ fin n c x' := by
  obtain ⟨r1, r2, r3, r4, r5, r6, r7, r8⟩ := hW
  refine ⟨fun g hg => by rw [← rowc e hg]; exact r1 g hg, fun b hb => by rw [← colc e hb]; exact r2 b hb, fun g hg b hb => by rw [← e g hg b hb]; exact r3 g hg b hb, fun g hg b hb => by rw [← e g hg b hb]; exact r4 g hg b hb, fun g hg b hb => by rw [← e g hg b hb]; exact r5 g hg b hb, by rw [← costc e]; exact r6, r7, r8⟩
/-- a store into the row of a sending -/
theorem up2_st {D1 : DD} {o : Nat} (hC : C ≤ 5) {g b : Nat} (hb : b < C) {v : Int} : ∀ h, h < H → ∀ c, c < C → up2 (xO D1 o) g b v h c = xO (st2 D1 (o + 2) (g * 5 + b) v) o h c := by
  intro h _ c hc
  unfold up2 xO
  by_cases e : h = g ∧ c = b
  · obtain ⟨rfl, rfl⟩ := e
    rw [if_pos ⟨rfl, rfl⟩, st2_at]
  · rw [if_neg e, st2_ne (by omega)]
end

