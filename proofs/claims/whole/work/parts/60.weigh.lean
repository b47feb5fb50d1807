theorem bf_startW {D D2 : DD} {o : Nat} {ex : Nat → Nat → Prop} {w : Nat → Nat → Int} {p : Nat → Int} (h2 : ∀ c, c < (D o 11).toNat → D2 (o + 8) c = (if 0 < D (o + 5) c then 0 else 500000000) ∧ D2 (o + 9) c = -1) (htk : ∀ c, c < (D o 11).toNat → D (o + 5) c = sm (D o 10).toNat (fun g => xO D o g c)) : BfI (D o 11).toNat ex w p (fun c v => 0 < sm (D o 10).toNat (fun g => xO D o g c) ∧ v = 0) 500000000 0 (fun _ => 0) (D2 (o + 8)) (D2 (o + 9)) := by
  refine ⟨fun c hc v hv => ?_, fun c hc hB => Or.inl ?_, fun c hc hB => ?_, fun c hc => Nat.le_refl _, fun c hc hB => ?_⟩
  · rw [(h2 c hc).1, htk c hc, if_pos hv.1]; omega
  · rw [(h2 c hc).1] at hB ⊢
    rw [htk c hc] at hB ⊢
    by_cases q : 0 < sm (D o 10).toNat (fun g => xO D o g c)
    · rw [if_pos q]; exact ⟨⟨by rw [(h2 c hc).2]; decide, by rw [(h2 c hc).2]; decide⟩, q, rfl⟩
    · rw [if_neg q] at hB; omega
  · rw [(h2 c hc).1] at hB ⊢
    by_cases q : 0 < D (o + 5) c
    · rw [if_pos q] at hB; omega
    · rw [if_neg q]
  · rw [(h2 c hc).1] at hB ⊢
    by_cases q : 0 < D (o + 5) c
    · rw [if_pos q]; omega
    · rw [if_neg q] at hB; omega

