/-! the cells when both objects are made: their numbers, fields and lengths -/
def SH : List SC := [(0, 6, [some (.ref 1), some (.ref 10), some (.ref 16), some (.ref 27), some (.ref 38), some (.ref 45), some (.ref 46), some (.ref 47), some (.ref 48), none, none, none, none, none, none, none, none]),
  (0, 1, [some (.ref 2), some (.ref 3), some (.ref 4), some (.ref 5), some (.ref 6), some (.ref 7), some (.ref 8), some (.ref 9), none, none, none, none]),
  (1, 10, []),
  (1, 10, []),
  (1, 10, []),
  (1, 10, []),
  (1, 5, []),
  (1, 5, []),
  (1, 5, []),
  (1, 5, []),
  (0, 2, [some (.ref 11), some (.ref 12), some (.ref 13), some (.ref 14), some (.ref 15), none, none, none, none, none, none]),
  (1, 15, []),
  (1, 15, []),
  (1, 15, []),
  (1, 15, []),
  (1, 80, []),
  (0, 3, [some (.ref 17), some (.ref 18), some (.ref 19), some (.ref 20), some (.ref 21), some (.ref 22), some (.ref 23), some (.ref 24), some (.ref 25), some (.ref 26), none, none]),
  (1, 50, []),
  (1, 50, []),
  (1, 10, []),
  (1, 5, []),
  (1, 5, []),
  (1, 25, []),
  (1, 25, []),
  (1, 5, []),
  (1, 5, []),
  (1, 5, []),
  (0, 3, [some (.ref 28), some (.ref 29), some (.ref 30), some (.ref 31), some (.ref 32), some (.ref 33), some (.ref 34), some (.ref 35), some (.ref 36), some (.ref 37), none, none]),
  (1, 50, []),
  (1, 50, []),
  (1, 10, []),
  (1, 5, []),
  (1, 5, []),
  (1, 25, []),
  (1, 25, []),
  (1, 5, []),
  (1, 5, []),
  (1, 5, []),
  (0, 0, [some (.ref 39), some (.ref 40), some (.ref 41), some (.ref 42), some (.ref 43), some (.ref 44), none, none, none]),
  (1, 35, []),
  (1, 7, []),
  (1, 5, []),
  (1, 8, []),
  (1, 7, []),
  (1, 7, []),
  (0, 5, [none]),
  (3, 4, [some (.ref 49), some (.ref 51), some (.ref 53), some (.ref 55)]),
  (1, 8, []),
  (1, 8, []),
  (0, 4, [some (.ref 50), none, none, none]),
  (1, 80, []),
  (0, 4, [some (.ref 52), none, none, none]),
  (1, 80, []),
  (0, 4, [some (.ref 54), none, none, none]),
  (1, 80, []),
  (0, 4, [some (.ref 56), none, none, none]),
  (1, 80, []),
  (0, 7, [none, none, some (.ref 58), some (.ref 59), some (.ref 60), none, some (.ref 61), some (.ref 62), some (.ref 63), some (.ref 64), some (.ref 65), none, none, some (.ref 66), some (.ref 67), none, some (.ref 68), some (.ref 69), some (.ref 70), some (.ref 71), some (.ref 72), some (.ref 73), some (.ref 74), none, some (.ref 75), some (.ref 76), some (.ref 77), some (.ref 78), some (.ref 79), some (.ref 80), none]),
  (1, 10, []),
  (1, 10, []),
  (1, 10, []),
  (1, 5, []),
  (1, 5, []),
  (1, 5, []),
  (1, 5, []),
  (2, 50, []),
  (1, 16, []),
  (1, 48, []),
  (1, 5, []),
  (1, 50, []),
  (1, 50, []),
  (1, 5, []),
  (1, 5, []),
  (1, 5, []),
  (1, 5, []),
  (1, 8, []),
  (1, 8, []),
  (1, 4, []),
  (1, 4, []),
  (1, 320, []),
  (1, 80, [])]
theorem SH_len : SH.length = 81 := rfl
abbrev tk_I : Cond.arrayClass .int ∈ tw := tk_88
abbrev tk_Z : Cond.arrayClass .boolean ∈ tw := tk_871
abbrev TM (g : G0) (M : MI) (d : Nat) (P : Option Value → List SC → DD → Prop) (vs : List Value) (D : DD) : Prop := T g M (rmd d 0 0) 0 0 (Qm g (rmd d 0 0) P) 0 (le0 M.2.2.1 vs) [] SH D
/-- the land's cells, as the class has them -/
def LK (D : DD) : Prop := (0 ≤ D 1 8 ∧ D 1 8 ≤ 10) ∧ (0 ≤ D 1 9 ∧ D 1 9 ≤ 5) ∧ (0 ≤ D 1 10 ∧ D 1 10 ≤ 999) ∧ (0 ≤ D 1 11 ∧ D 1 11 ≤ 1000000) ∧ (∀ j, 0 ≤ D 2 j ∧ D 2 j ≤ 60) ∧ (∀ j, 0 ≤ D 3 j ∧ D 3 j ≤ 60) ∧ (∀ j, 0 ≤ D 4 j ∧ D 4 j ≤ 5) ∧ (∀ j, 0 ≤ D 5 j ∧ D 5 j ≤ 31) ∧ (∀ j, 0 ≤ D 6 j ∧ D 6 j ≤ 2) ∧ (∀ j, 0 ≤ D 7 j ∧ D 7 j ≤ 60) ∧ (∀ j, 0 ≤ D 8 j ∧ D 8 j ≤ 60) ∧ (∀ j, 0 ≤ D 9 j ∧ D 9 j ≤ 50)
section
variable {g : G0} {M : MI} {R : Room} {nc ns : Nat} {Qf : List Frame → Array Value → State → State → Prop} {pc : Nat} {L : List (Option Value)} {st : List Value} {S : List SC} {D : DD}
theorem T_tsw3 (t0 t1 t2 td : Nat) {a dflt o0 o1 o2 : Int} {len : Nat} (hd : decode M.2.1 pc = .ok (.tableswitch dflt 0 2 #[o0, o1, o2], len)) (ha : InR a) (ht : (pc : Int) + o0 = t0 ∧ (pc : Int) + o1 = t1 ∧ (pc : Int) + o2 = t2) (htd : (pc : Int) + dflt = td) (k0 : a = 0 → T g M R nc ns Qf t0 L st S D) (k1 : a = 1 → T g M R nc ns Qf t1 L st S D) (k2 : a = 2 → T g M R nc ns Qf t2 L st S D) (kd : a < 0 ∨ 2 < a → T g M R nc ns Qf td L st S D) : T g M R nc ns Qf pc L (iI a :: st) S D := by
  refine T_tsw hd ha (fun off h1 h2 ho tgt ht2 => ?_) ?_ rfl td htd kd
  · have hcs : a = 0 ∨ a = 1 ∨ a = 2 := by omega
    rcases hcs with h | h | h
    · subst h
      have e : o0 = off := by simpa using ho
      have e2 : tgt = t0 := by subst e; omega
      subst e2
      exact k0 rfl
    · subst h
      have e : o1 = off := by simpa using ho
      have e2 : tgt = t1 := by subst e; omega
      subst e2
      exact k1 rfl
    · subst h
      have e : o2 = off := by simpa using ho
      have e2 : tgt = t2 := by subst e; omega
      subst e2
      exact k2 rfl
  · intro off hm
    simp only [List.mem_cons, List.not_mem_nil, or_false] at hm
    rcases hm with h | h | h <;> subst h <;> omega
theorem T_tsw4 (t0 t1 t2 t3 td : Nat) {a dflt o0 o1 o2 o3 : Int} {len : Nat} (hd : decode M.2.1 pc = .ok (.tableswitch dflt 0 3 #[o0, o1, o2, o3], len)) (ha : InR a) (ht : (pc : Int) + o0 = t0 ∧ (pc : Int) + o1 = t1 ∧ (pc : Int) + o2 = t2 ∧ (pc : Int) + o3 = t3) (htd : (pc : Int) + dflt = td) (k0 : a = 0 → T g M R nc ns Qf t0 L st S D) (k1 : a = 1 → T g M R nc ns Qf t1 L st S D) (k2 : a = 2 → T g M R nc ns Qf t2 L st S D) (k3 : a = 3 → T g M R nc ns Qf t3 L st S D) (kd : a < 0 ∨ 3 < a → T g M R nc ns Qf td L st S D) : T g M R nc ns Qf pc L (iI a :: st) S D := by
  refine T_tsw hd ha (fun off h1 h2 ho tgt ht2 => ?_) ?_ rfl td htd kd
  · have hcs : a = 0 ∨ a = 1 ∨ a = 2 ∨ a = 3 := by omega
    rcases hcs with h | h | h | h
    · subst h
      have e : o0 = off := by simpa using ho
      have e2 : tgt = t0 := by subst e; omega
      subst e2
      exact k0 rfl
    · subst h
      have e : o1 = off := by simpa using ho
      have e2 : tgt = t1 := by subst e; omega
      subst e2
      exact k1 rfl
    · subst h
      have e : o2 = off := by simpa using ho
      have e2 : tgt = t2 := by subst e; omega
      subst e2
      exact k2 rfl
    · subst h
      have e : o3 = off := by simpa using ho
      have e2 : tgt = t3 := by subst e; omega
      subst e2
      exact k3 rfl
  · intro off hm
    simp only [List.mem_cons, List.not_mem_nil, or_false] at hm
    rcases hm with h | h | h | h <;> subst h <;> omega
theorem T_tsw5 (t0 t1 t2 t3 t4 td : Nat) {a dflt o0 o1 o2 o3 o4 : Int} {len : Nat} (hd : decode M.2.1 pc = .ok (.tableswitch dflt 0 4 #[o0, o1, o2, o3, o4], len)) (ha : InR a) (ht : (pc : Int) + o0 = t0 ∧ (pc : Int) + o1 = t1 ∧ (pc : Int) + o2 = t2 ∧ (pc : Int) + o3 = t3 ∧ (pc : Int) + o4 = t4) (htd : (pc : Int) + dflt = td) (k0 : a = 0 → T g M R nc ns Qf t0 L st S D) (k1 : a = 1 → T g M R nc ns Qf t1 L st S D) (k2 : a = 2 → T g M R nc ns Qf t2 L st S D) (k3 : a = 3 → T g M R nc ns Qf t3 L st S D) (k4 : a = 4 → T g M R nc ns Qf t4 L st S D) (kd : a < 0 ∨ 4 < a → T g M R nc ns Qf td L st S D) : T g M R nc ns Qf pc L (iI a :: st) S D := by
  refine T_tsw hd ha (fun off h1 h2 ho tgt ht2 => ?_) ?_ rfl td htd kd
  · have hcs : a = 0 ∨ a = 1 ∨ a = 2 ∨ a = 3 ∨ a = 4 := by omega
    rcases hcs with h | h | h | h | h
    · subst h
      have e : o0 = off := by simpa using ho
      have e2 : tgt = t0 := by subst e; omega
      subst e2
      exact k0 rfl
    · subst h
      have e : o1 = off := by simpa using ho
      have e2 : tgt = t1 := by subst e; omega
      subst e2
      exact k1 rfl
    · subst h
      have e : o2 = off := by simpa using ho
      have e2 : tgt = t2 := by subst e; omega
      subst e2
      exact k2 rfl
    · subst h
      have e : o3 = off := by simpa using ho
      have e2 : tgt = t3 := by subst e; omega
      subst e2
      exact k3 rfl
    · subst h
      have e : o4 = off := by simpa using ho
      have e2 : tgt = t4 := by subst e; omega
      subst e2
      exact k4 rfl
  · intro off hm
    simp only [List.mem_cons, List.not_mem_nil, or_false] at hm
    rcases hm with h | h | h | h | h <;> subst h <;> omega
theorem T_lsw2 (t0 t1 td : Nat) {a dflt v0 o0 v1 o1 : Int} {len : Nat} (hd : decode M.2.1 pc = .ok (.lookupswitch dflt #[(v0, o0), (v1, o1)], len)) (ha : InR a) (ht : (pc : Int) + o0 = t0 ∧ (pc : Int) + o1 = t1 ∧ (pc : Int) + dflt = td) (hsr : v0 < v1) (k0 : a = v0 → T g M R nc ns Qf t0 L st S D) (k1 : a = v1 → T g M R nc ns Qf t1 L st S D) (kd : a ≠ v0 ∧ a ≠ v1 → T g M R nc ns Qf td L st S D) : T g M R nc ns Qf pc L (iI a :: st) S D := by
  have hp : ((#[(v0, o0), (v1, o1)] : Array (Int × Int)).toList.zip ((#[(v0, o0), (v1, o1)] : Array (Int × Int)).toList.drop 1)).all (fun (a, next) => a.1 < next.1) = true := by simp; omega
  by_cases h0 : a = v0
  · exact T_lsw (off := o0) hd ha hp (by simp only [Op.lookupswitch.offset, h0]; try (repeat (first | rw [if_pos rfl] | rw [if_neg (by omega)])); try simp; try omega) t0 ht.1 (k0 h0)
  by_cases h1 : a = v1
  · exact T_lsw (off := o1) hd ha hp (by simp only [Op.lookupswitch.offset, h1]; try (repeat (first | rw [if_pos rfl] | rw [if_neg (by omega)])); try simp; try omega) t1 ht.2.1 (k1 h1)
  exact T_lsw (off := dflt) hd ha hp (by simp [Op.lookupswitch.offset, h0, Ne.symm h0, h1, Ne.symm h1]) td ht.2.2 (kd ⟨h0, h1⟩)
theorem T_lsw4 (t0 t1 t2 t3 td : Nat) {a dflt v0 o0 v1 o1 v2 o2 v3 o3 : Int} {len : Nat} (hd : decode M.2.1 pc = .ok (.lookupswitch dflt #[(v0, o0), (v1, o1), (v2, o2), (v3, o3)], len)) (ha : InR a) (ht : (pc : Int) + o0 = t0 ∧ (pc : Int) + o1 = t1 ∧ (pc : Int) + o2 = t2 ∧ (pc : Int) + o3 = t3 ∧ (pc : Int) + dflt = td) (hsr : v0 < v1 ∧ v1 < v2 ∧ v2 < v3) (k0 : a = v0 → T g M R nc ns Qf t0 L st S D) (k1 : a = v1 → T g M R nc ns Qf t1 L st S D) (k2 : a = v2 → T g M R nc ns Qf t2 L st S D) (k3 : a = v3 → T g M R nc ns Qf t3 L st S D) (kd : a ≠ v0 ∧ a ≠ v1 ∧ a ≠ v2 ∧ a ≠ v3 → T g M R nc ns Qf td L st S D) : T g M R nc ns Qf pc L (iI a :: st) S D := by
  have hp : ((#[(v0, o0), (v1, o1), (v2, o2), (v3, o3)] : Array (Int × Int)).toList.zip ((#[(v0, o0), (v1, o1), (v2, o2), (v3, o3)] : Array (Int × Int)).toList.drop 1)).all (fun (a, next) => a.1 < next.1) = true := by simp; omega
  by_cases h0 : a = v0
  · exact T_lsw (off := o0) hd ha hp (by simp only [Op.lookupswitch.offset, h0]; try (repeat (first | rw [if_pos rfl] | rw [if_neg (by omega)])); try simp; try omega) t0 ht.1 (k0 h0)
  by_cases h1 : a = v1
  · exact T_lsw (off := o1) hd ha hp (by simp only [Op.lookupswitch.offset, h1]; try (repeat (first | rw [if_pos rfl] | rw [if_neg (by omega)])); try simp; try omega) t1 ht.2.1 (k1 h1)
  by_cases h2 : a = v2
  · exact T_lsw (off := o2) hd ha hp (by simp only [Op.lookupswitch.offset, h2]; try (repeat (first | rw [if_pos rfl] | rw [if_neg (by omega)])); try simp; try omega) t2 ht.2.2.1 (k2 h2)
  by_cases h3 : a = v3
  · exact T_lsw (off := o3) hd ha hp (by simp only [Op.lookupswitch.offset, h3]; try (repeat (first | rw [if_pos rfl] | rw [if_neg (by omega)])); try simp; try omega) t3 ht.2.2.2.1 (k3 h3)
  exact T_lsw (off := dflt) hd ha hp (by simp [Op.lookupswitch.offset, h0, Ne.symm h0, h1, Ne.symm h1, h2, Ne.symm h2, h3, Ne.symm h3]) td ht.2.2.2.2 (kd ⟨h0, h1, h2, h3⟩)
end
/-! calls, by how many arguments -/
section
variable {g : G0} {M : MI} {R : Room} {nc ns : Nat} {Qf : List Frame → Array Value → State → State → Prop} {pc : Nat} {L : List (Option Value)} {st : List Value} {S : List SC} {D : DD}
theorem T_cV_0 {idx d b ci : Nat} {y : MethodName} {M' : MI} {fs : List (Option Value)} (hd : decode M.2.1 pc = .ok (.invokevirtual idx, 3)) (hL : LV M.1 idx y M' 0 ci) (hS : S[b]? = some (0, ci, fs)) (hst : (st.map fun v => v.category).sum ≤ 8) (hR : RO d M'.2.2.1 R) (hla : (la (.ref b :: [])).length ≤ M'.2.2.1) (k : T g M' (rmd d 0 0) 0 0 (Qm g (rmd d 0 0) (fun r S' D' => T g M R nc ns Qf (pc + 3) L (pst r st) S' D')) 0 (le0 M'.2.2.1 (.ref b :: [])) [] S D) : T g M R nc ns Qf pc L (.ref b :: st) S D :=
  T_cV (As := []) hd hL rfl hS hst hR hla rfl k
theorem T_cV_1 {idx d b ci : Nat} {y : MethodName} {M' : MI} {a0 : Value} {fs : List (Option Value)} (hd : decode M.2.1 pc = .ok (.invokevirtual idx, 3)) (hL : LV M.1 idx y M' 1 ci) (hS : S[b]? = some (0, ci, fs)) (hst : (st.map fun v => v.category).sum ≤ 8) (hR : RO d M'.2.2.1 R) (hla : (la (.ref b :: [a0])).length ≤ M'.2.2.1) (k : T g M' (rmd d 0 0) 0 0 (Qm g (rmd d 0 0) (fun r S' D' => T g M R nc ns Qf (pc + 3) L (pst r st) S' D')) 0 (le0 M'.2.2.1 (.ref b :: [a0])) [] S D) : T g M R nc ns Qf pc L (a0 :: .ref b :: st) S D :=
  T_cV (As := [a0]) hd hL rfl hS hst hR hla rfl k
theorem T_cV_2 {idx d b ci : Nat} {y : MethodName} {M' : MI} {a0 a1 : Value} {fs : List (Option Value)} (hd : decode M.2.1 pc = .ok (.invokevirtual idx, 3)) (hL : LV M.1 idx y M' 2 ci) (hS : S[b]? = some (0, ci, fs)) (hst : (st.map fun v => v.category).sum ≤ 8) (hR : RO d M'.2.2.1 R) (hla : (la (.ref b :: [a0, a1])).length ≤ M'.2.2.1) (k : T g M' (rmd d 0 0) 0 0 (Qm g (rmd d 0 0) (fun r S' D' => T g M R nc ns Qf (pc + 3) L (pst r st) S' D')) 0 (le0 M'.2.2.1 (.ref b :: [a0, a1])) [] S D) : T g M R nc ns Qf pc L (a1 :: a0 :: .ref b :: st) S D :=
  T_cV (As := [a0, a1]) hd hL rfl hS hst hR hla rfl k
theorem T_cV_3 {idx d b ci : Nat} {y : MethodName} {M' : MI} {a0 a1 a2 : Value} {fs : List (Option Value)} (hd : decode M.2.1 pc = .ok (.invokevirtual idx, 3)) (hL : LV M.1 idx y M' 3 ci) (hS : S[b]? = some (0, ci, fs)) (hst : (st.map fun v => v.category).sum ≤ 8) (hR : RO d M'.2.2.1 R) (hla : (la (.ref b :: [a0, a1, a2])).length ≤ M'.2.2.1) (k : T g M' (rmd d 0 0) 0 0 (Qm g (rmd d 0 0) (fun r S' D' => T g M R nc ns Qf (pc + 3) L (pst r st) S' D')) 0 (le0 M'.2.2.1 (.ref b :: [a0, a1, a2])) [] S D) : T g M R nc ns Qf pc L (a2 :: a1 :: a0 :: .ref b :: st) S D :=
  T_cV (As := [a0, a1, a2]) hd hL rfl hS hst hR hla rfl k
theorem T_cV_4 {idx d b ci : Nat} {y : MethodName} {M' : MI} {a0 a1 a2 a3 : Value} {fs : List (Option Value)} (hd : decode M.2.1 pc = .ok (.invokevirtual idx, 3)) (hL : LV M.1 idx y M' 4 ci) (hS : S[b]? = some (0, ci, fs)) (hst : (st.map fun v => v.category).sum ≤ 8) (hR : RO d M'.2.2.1 R) (hla : (la (.ref b :: [a0, a1, a2, a3])).length ≤ M'.2.2.1) (k : T g M' (rmd d 0 0) 0 0 (Qm g (rmd d 0 0) (fun r S' D' => T g M R nc ns Qf (pc + 3) L (pst r st) S' D')) 0 (le0 M'.2.2.1 (.ref b :: [a0, a1, a2, a3])) [] S D) : T g M R nc ns Qf pc L (a3 :: a2 :: a1 :: a0 :: .ref b :: st) S D :=
  T_cV (As := [a0, a1, a2, a3]) hd hL rfl hS hst hR hla rfl k
theorem T_cV_5 {idx d b ci : Nat} {y : MethodName} {M' : MI} {a0 a1 a2 a3 a4 : Value} {fs : List (Option Value)} (hd : decode M.2.1 pc = .ok (.invokevirtual idx, 3)) (hL : LV M.1 idx y M' 5 ci) (hS : S[b]? = some (0, ci, fs)) (hst : (st.map fun v => v.category).sum ≤ 8) (hR : RO d M'.2.2.1 R) (hla : (la (.ref b :: [a0, a1, a2, a3, a4])).length ≤ M'.2.2.1) (k : T g M' (rmd d 0 0) 0 0 (Qm g (rmd d 0 0) (fun r S' D' => T g M R nc ns Qf (pc + 3) L (pst r st) S' D')) 0 (le0 M'.2.2.1 (.ref b :: [a0, a1, a2, a3, a4])) [] S D) : T g M R nc ns Qf pc L (a4 :: a3 :: a2 :: a1 :: a0 :: .ref b :: st) S D :=
  T_cV (As := [a0, a1, a2, a3, a4]) hd hL rfl hS hst hR hla rfl k
theorem T_cS_0 {idx d  : Nat} {y : MethodName} {M' : MI} (hd : decode M.2.1 pc = .ok (.invokestatic idx, 3)) (hL : LSs M.1 idx y M' 0) (hst : (st.map fun v => v.category).sum ≤ 8) (hR : RO d M'.2.2.1 R) (hla : (la ([])).length ≤ M'.2.2.1) (k : T g M' (rmd d 0 0) 0 0 (Qm g (rmd d 0 0) (fun r S' D' => T g M R nc ns Qf (pc + 3) L (pst r st) S' D')) 0 (le0 M'.2.2.1 ([])) [] S D) : T g M R nc ns Qf pc L (st) S D :=
  T_cS (As := []) hd hL rfl hst hR hla rfl k
theorem T_cS_1 {idx d  : Nat} {y : MethodName} {M' : MI} {a0 : Value} (hd : decode M.2.1 pc = .ok (.invokestatic idx, 3)) (hL : LSs M.1 idx y M' 1) (hst : (st.map fun v => v.category).sum ≤ 8) (hR : RO d M'.2.2.1 R) (hla : (la ([a0])).length ≤ M'.2.2.1) (k : T g M' (rmd d 0 0) 0 0 (Qm g (rmd d 0 0) (fun r S' D' => T g M R nc ns Qf (pc + 3) L (pst r st) S' D')) 0 (le0 M'.2.2.1 ([a0])) [] S D) : T g M R nc ns Qf pc L (a0 :: st) S D :=
  T_cS (As := [a0]) hd hL rfl hst hR hla rfl k
theorem T_cS_2 {idx d  : Nat} {y : MethodName} {M' : MI} {a0 a1 : Value} (hd : decode M.2.1 pc = .ok (.invokestatic idx, 3)) (hL : LSs M.1 idx y M' 2) (hst : (st.map fun v => v.category).sum ≤ 8) (hR : RO d M'.2.2.1 R) (hla : (la ([a0, a1])).length ≤ M'.2.2.1) (k : T g M' (rmd d 0 0) 0 0 (Qm g (rmd d 0 0) (fun r S' D' => T g M R nc ns Qf (pc + 3) L (pst r st) S' D')) 0 (le0 M'.2.2.1 ([a0, a1])) [] S D) : T g M R nc ns Qf pc L (a1 :: a0 :: st) S D :=
  T_cS (As := [a0, a1]) hd hL rfl hst hR hla rfl k
theorem T_cS_3 {idx d  : Nat} {y : MethodName} {M' : MI} {a0 a1 a2 : Value} (hd : decode M.2.1 pc = .ok (.invokestatic idx, 3)) (hL : LSs M.1 idx y M' 3) (hst : (st.map fun v => v.category).sum ≤ 8) (hR : RO d M'.2.2.1 R) (hla : (la ([a0, a1, a2])).length ≤ M'.2.2.1) (k : T g M' (rmd d 0 0) 0 0 (Qm g (rmd d 0 0) (fun r S' D' => T g M R nc ns Qf (pc + 3) L (pst r st) S' D')) 0 (le0 M'.2.2.1 ([a0, a1, a2])) [] S D) : T g M R nc ns Qf pc L (a2 :: a1 :: a0 :: st) S D :=
  T_cS (As := [a0, a1, a2]) hd hL rfl hst hR hla rfl k
theorem T_cS_4 {idx d  : Nat} {y : MethodName} {M' : MI} {a0 a1 a2 a3 : Value} (hd : decode M.2.1 pc = .ok (.invokestatic idx, 3)) (hL : LSs M.1 idx y M' 4) (hst : (st.map fun v => v.category).sum ≤ 8) (hR : RO d M'.2.2.1 R) (hla : (la ([a0, a1, a2, a3])).length ≤ M'.2.2.1) (k : T g M' (rmd d 0 0) 0 0 (Qm g (rmd d 0 0) (fun r S' D' => T g M R nc ns Qf (pc + 3) L (pst r st) S' D')) 0 (le0 M'.2.2.1 ([a0, a1, a2, a3])) [] S D) : T g M R nc ns Qf pc L (a3 :: a2 :: a1 :: a0 :: st) S D :=
  T_cS (As := [a0, a1, a2, a3]) hd hL rfl hst hR hla rfl k
theorem T_cS_5 {idx d  : Nat} {y : MethodName} {M' : MI} {a0 a1 a2 a3 a4 : Value} (hd : decode M.2.1 pc = .ok (.invokestatic idx, 3)) (hL : LSs M.1 idx y M' 5) (hst : (st.map fun v => v.category).sum ≤ 8) (hR : RO d M'.2.2.1 R) (hla : (la ([a0, a1, a2, a3, a4])).length ≤ M'.2.2.1) (k : T g M' (rmd d 0 0) 0 0 (Qm g (rmd d 0 0) (fun r S' D' => T g M R nc ns Qf (pc + 3) L (pst r st) S' D')) 0 (le0 M'.2.2.1 ([a0, a1, a2, a3, a4])) [] S D) : T g M R nc ns Qf pc L (a4 :: a3 :: a2 :: a1 :: a0 :: st) S D :=
  T_cS (As := [a0, a1, a2, a3, a4]) hd hL rfl hst hR hla rfl k
theorem T_cSN_0 {idx d  : Nat} {y : MethodName} {M' : MI} {host : String} (hd : decode M.2.1 pc = .ok (.invokestatic idx, 3)) (hL : LSN M.1 idx y M' 0 host) (hst : (st.map fun v => v.category).sum ≤ 8) (hR : RO d M'.2.2.1 R) (hla : (la ([])).length ≤ M'.2.2.1) (k : T g M' (rmd d 0 0) 0 0 (Qm g (rmd d 0 0) (fun r S' D' => T g M R nc ns Qf (pc + 3) L (pst r st) S' D')) 0 (le0 M'.2.2.1 ([])) [] S D) : T g M R nc ns Qf pc L (st) S D :=
  T_cSN (As := []) hd hL rfl hst hR hla rfl k
theorem T_cSN_1 {idx d  : Nat} {y : MethodName} {M' : MI} {a0 : Value} {host : String} (hd : decode M.2.1 pc = .ok (.invokestatic idx, 3)) (hL : LSN M.1 idx y M' 1 host) (hst : (st.map fun v => v.category).sum ≤ 8) (hR : RO d M'.2.2.1 R) (hla : (la ([a0])).length ≤ M'.2.2.1) (k : T g M' (rmd d 0 0) 0 0 (Qm g (rmd d 0 0) (fun r S' D' => T g M R nc ns Qf (pc + 3) L (pst r st) S' D')) 0 (le0 M'.2.2.1 ([a0])) [] S D) : T g M R nc ns Qf pc L (a0 :: st) S D :=
  T_cSN (As := [a0]) hd hL rfl hst hR hla rfl k
theorem T_cSN_2 {idx d  : Nat} {y : MethodName} {M' : MI} {a0 a1 : Value} {host : String} (hd : decode M.2.1 pc = .ok (.invokestatic idx, 3)) (hL : LSN M.1 idx y M' 2 host) (hst : (st.map fun v => v.category).sum ≤ 8) (hR : RO d M'.2.2.1 R) (hla : (la ([a0, a1])).length ≤ M'.2.2.1) (k : T g M' (rmd d 0 0) 0 0 (Qm g (rmd d 0 0) (fun r S' D' => T g M R nc ns Qf (pc + 3) L (pst r st) S' D')) 0 (le0 M'.2.2.1 ([a0, a1])) [] S D) : T g M R nc ns Qf pc L (a1 :: a0 :: st) S D :=
  T_cSN (As := [a0, a1]) hd hL rfl hst hR hla rfl k
theorem T_cSN_3 {idx d  : Nat} {y : MethodName} {M' : MI} {a0 a1 a2 : Value} {host : String} (hd : decode M.2.1 pc = .ok (.invokestatic idx, 3)) (hL : LSN M.1 idx y M' 3 host) (hst : (st.map fun v => v.category).sum ≤ 8) (hR : RO d M'.2.2.1 R) (hla : (la ([a0, a1, a2])).length ≤ M'.2.2.1) (k : T g M' (rmd d 0 0) 0 0 (Qm g (rmd d 0 0) (fun r S' D' => T g M R nc ns Qf (pc + 3) L (pst r st) S' D')) 0 (le0 M'.2.2.1 ([a0, a1, a2])) [] S D) : T g M R nc ns Qf pc L (a2 :: a1 :: a0 :: st) S D :=
  T_cSN (As := [a0, a1, a2]) hd hL rfl hst hR hla rfl k
theorem T_cSN_4 {idx d  : Nat} {y : MethodName} {M' : MI} {a0 a1 a2 a3 : Value} {host : String} (hd : decode M.2.1 pc = .ok (.invokestatic idx, 3)) (hL : LSN M.1 idx y M' 4 host) (hst : (st.map fun v => v.category).sum ≤ 8) (hR : RO d M'.2.2.1 R) (hla : (la ([a0, a1, a2, a3])).length ≤ M'.2.2.1) (k : T g M' (rmd d 0 0) 0 0 (Qm g (rmd d 0 0) (fun r S' D' => T g M R nc ns Qf (pc + 3) L (pst r st) S' D')) 0 (le0 M'.2.2.1 ([a0, a1, a2, a3])) [] S D) : T g M R nc ns Qf pc L (a3 :: a2 :: a1 :: a0 :: st) S D :=
  T_cSN (As := [a0, a1, a2, a3]) hd hL rfl hst hR hla rfl k
theorem T_cSN_5 {idx d  : Nat} {y : MethodName} {M' : MI} {a0 a1 a2 a3 a4 : Value} {host : String} (hd : decode M.2.1 pc = .ok (.invokestatic idx, 3)) (hL : LSN M.1 idx y M' 5 host) (hst : (st.map fun v => v.category).sum ≤ 8) (hR : RO d M'.2.2.1 R) (hla : (la ([a0, a1, a2, a3, a4])).length ≤ M'.2.2.1) (k : T g M' (rmd d 0 0) 0 0 (Qm g (rmd d 0 0) (fun r S' D' => T g M R nc ns Qf (pc + 3) L (pst r st) S' D')) 0 (le0 M'.2.2.1 ([a0, a1, a2, a3, a4])) [] S D) : T g M R nc ns Qf pc L (a4 :: a3 :: a2 :: a1 :: a0 :: st) S D :=
  T_cSN (As := [a0, a1, a2, a3, a4]) hd hL rfl hst hR hla rfl k
end

