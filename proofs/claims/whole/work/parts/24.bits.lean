/-! bits (the first rows: kit/laws/BITS.to-paste) -/
def bt (x : Int32) (i : Nat) : Bool := x.toBitVec.getLsbD i
theorem b_ext {x y : Int32} (h : ∀ i, i < 32 → bt x i = bt y i) : x = y := Int32.toBitVec_inj.mp (BitVec.eq_of_getLsbD_eq (fun i hi => h i hi))
theorem b_or (x y : Int32) (i : Nat) : bt (x ||| y) i = (bt x i || bt y i) := by unfold bt; rw [Int32.toBitVec_or, BitVec.getLsbD_or]
theorem b_and (x y : Int32) (i : Nat) : bt (x &&& y) i = (bt x i && bt y i) := by unfold bt; rw [Int32.toBitVec_and, BitVec.getLsbD_and]
theorem b_xor (x y : Int32) (i : Nat) : bt (x ^^^ y) i = (bt x i ^^ bt y i) := by unfold bt; rw [Int32.toBitVec_xor, BitVec.getLsbD_xor]
theorem b_m1 : ∀ i, i < 32 → bt (-1) i = true := by decide +kernel
theorem b_0 (i : Nat) : bt 0 i = false := BitVec.getLsbD_zero
theorem s_l : ∀ n, n < 32 → ((nI n &&& 31).toBitVec.smod 32).toNat = n := by decide +kernel
theorem b_shl (n : Nat) (hn : n < 32) (x : Int32) {i : Nat} (hi : i < 32) : bt (x <<< (nI n &&& 31)) i = (decide (n ≤ i) && bt x (i - n)) := by
  unfold bt
  rw [Int32.toBitVec_shiftLeft]
  show (x.toBitVec <<< ((nI n &&& 31).toBitVec.smod 32).toNat).getLsbD i = _
  rw [s_l n hn, BitVec.getLsbD_shiftLeft]
  rcases Nat.lt_or_ge i n with h | h
  · simp [h, Nat.not_le.mpr h]
  · simp [hi, h, Nat.not_lt.mpr h]
theorem b_sshr (n : Nat) (hn : n < 32) (x : Int32) {i : Nat} (hi : i < 32) : bt (x >>> (nI n &&& 31)) i = if n + i < 32 then bt x (n + i) else bt x 31 := by
  unfold bt
  rw [Int32.toBitVec_shiftRight]
  show (x.toBitVec.sshiftRight ((nI n &&& 31).toBitVec.smod 32).toNat).getLsbD i = _
  rw [s_l n hn, BitVec.getLsbD_sshiftRight, BitVec.msb_eq_getLsbD_last]
  simp [hi]
theorem b_1 : ∀ i, i < 32 → bt 1 i = decide (i = 0) := by decide +kernel
theorem nI_of' (c : Nat) : Int32.ofInt (c : Int) = nI c := Int32.ofInt_eq_ofNat
theorem b_one (y : Int32) : y &&& 1 = if bt y 0 = true then 1 else 0 := by
  refine b_ext fun i hi => ?_
  rw [b_and, b_1 i hi]
  by_cases h0 : i = 0
  · subst h0
    by_cases h : bt y 0 = true
    · rw [if_pos h, h]; decide
    · rw [if_neg h]
      have h2 : bt y 0 = false := by simpa using h
      rw [h2]; decide
  · rw [decide_eq_false h0, Bool.and_false]
    by_cases h : bt y 0 = true
    · rw [if_pos h, b_1 i hi, decide_eq_false h0]
    · rw [if_neg h, b_0]
theorem iand1 (s : Int) (c : Nat) (hc : c < 32) : iand (ishr s c) 1 = if bt (Int32.ofInt s) c = true then 1 else 0 := by
  unfold iand ishr
  rw [i_of, nI_of', show Int32.ofInt 1 = 1 by decide, b_one, b_sshr c hc _ (by omega), if_pos (show c + 0 < 32 by omega), Nat.add_zero]
  by_cases h : bt (Int32.ofInt s) c = true
  · rw [if_pos h, if_pos h]; decide
  · rw [if_neg h, if_neg h]; decide
theorem bit_bt {s : Int} {c : Nat} (hc : c < 32) : bit s c ↔ bt (Int32.ofInt s) c = true := by
  show iand (ishr s c) 1 = 1 ↔ _
  rw [iand1 s c hc]
  by_cases h : bt (Int32.ofInt s) c = true
  · rw [if_pos h]; simp [h]
  · rw [if_neg h]; simp [h]
theorem bit0 {s : Int} {c : Nat} (hc : c < 32) : iand (ishr s c) 1 = 0 ↔ ¬ bit s c := by
  rw [bit_bt hc, iand1 s c hc]
  by_cases h : bt (Int32.ofInt s) c = true
  · rw [if_pos h]; simp [h]
  · rw [if_neg h]; simp [h]
theorem bit_iand {a b : Int} {c : Nat} (hc : c < 32) : bit (iand a b) c ↔ bit a c ∧ bit b c := by
  rw [bit_bt hc, bit_bt hc, bit_bt hc]
  unfold iand
  rw [i_of, b_and, Bool.and_eq_true]
theorem bit_m1 {c : Nat} (hc : c < 32) : bit (-1) c := (bit_bt hc).mpr (by rw [show Int32.ofInt (-1) = -1 by decide]; exact b_m1 c hc)
theorem b_pw {n : Nat} (hn : n < 32) {i : Nat} (hi : i < 32) : bt (1 <<< (nI n &&& 31)) i = decide (i = n) := by
  rw [b_shl n hn 1 hi]
  by_cases h : n ≤ i
  · rw [decide_eq_true h, b_1 _ (by omega), Bool.true_and]
    by_cases h2 : i = n
    · subst h2; simp
    · rw [decide_eq_false h2, decide_eq_false (by omega)]
  · rw [decide_eq_false h, decide_eq_false (by omega), Bool.false_and]
theorem bit_pw {n c : Nat} (hn : n < 32) (hc : c < 32) : bit (ishl 1 n) c ↔ c = n := by
  rw [bit_bt hc]
  unfold ishl
  rw [i_of, nI_of', show Int32.ofInt 1 = 1 by decide, b_pw hn hc, decide_eq_true_eq]
theorem bit_ixor {a b : Int} {c : Nat} (hc : c < 32) : bit (ixor a b) c ↔ ¬ (bit a c ↔ bit b c) := by
  rw [bit_bt hc, bit_bt hc, bit_bt hc]
  unfold ixor
  rw [i_of, b_xor]
  cases bt (Int32.ofInt a) c <;> cases bt (Int32.ofInt b) c <;> simp
theorem bit_ior {a b : Int} {c : Nat} (hc : c < 32) : bit (ior a b) c ↔ bit a c ∨ bit b c := by
  rw [bit_bt hc, bit_bt hc, bit_bt hc]
  unfold ior
  rw [i_of, b_or, Bool.or_eq_true]
theorem bit_0 {c : Nat} (hc : c < 32) : ¬ bit 0 c := by
  rw [bit_bt hc, show Int32.ofInt 0 = 0 by decide, b_0]; simp
theorem pw_small : ∀ n : Fin 11, ishl 1 (n.val : Int) = ((2 ^ n.val : Nat) : Int) := by decide +kernel
theorem ishl_pw {n : Int} (h0 : 0 ≤ n) (h1 : n ≤ 10) : ishl 1 n = ((2 ^ n.toNat : Nat) : Int) := by
  have := pw_small ⟨n.toNat, by omega⟩
  simp only at this
  rw [← this]
  congr 1
  omega
theorem pw_le {n : Nat} (h : n ≤ 10) : (2 ^ n : Nat) ≤ 1024 := Nat.pow_le_pow_right (by decide) h
theorem xor_small : ∀ (a : Fin 32) (c : Fin 5), 0 ≤ ixor (a.val : Int) (ishl 1 (c.val : Int)) ∧ ixor (a.val : Int) (ishl 1 (c.val : Int)) ≤ 31 := by decide +kernel
theorem ixor_bd {a c : Int} (ha : 0 ≤ a ∧ a ≤ 31) (hc : 0 ≤ c ∧ c < 5) : 0 ≤ ixor a (ishl 1 c) ∧ ixor a (ishl 1 c) ≤ 31 := by
  have h := xor_small ⟨a.toNat, by omega⟩ ⟨c.toNat, by omega⟩
  simp only at h
  rw [show ((a.toNat : Nat) : Int) = a by omega, show ((c.toNat : Nat) : Int) = c by omega] at h
  exact h
noncomputable def cif (p : Prop) (a b : Int) : Int := @ite _ p (Classical.propDecidable p) a b
theorem cif_pos {p : Prop} {a b : Int} (h : p) : cif p a b = a := by unfold cif; exact if_pos h
theorem cif_neg {p : Prop} {a b : Int} (h : ¬ p) : cif p a b = b := by unfold cif; exact if_neg h
theorem cif_iff {p q : Prop} {a b : Int} (h : p ↔ q) : cif p a b = cif q a b := by rw [propext h]
theorem sm_cong {f f' : Nat → Int} : ∀ n : Nat, (∀ j, j < n → f j = f' j) → sm n f = sm n f'
  | 0, _ => rfl
  | n + 1, h => by simp only [sm]; rw [sm_cong n (fun j hj => h j (by omega)), h n (by omega)]
/-- a set of homes with more heads than all seats of the churches from which some home of it is not barred -/
noncomputable def fewL (C H : Nat) (se : Nat → Int) (br : Nat → Nat → Prop) (s : Int) : Int := sm C (fun c => cif (∃ h, h < H ∧ bit s h ∧ ¬ br h c) (se c) 0)
noncomputable def fewR (H : Nat) (hd : Nat → Int) (s : Int) : Int := sm H (fun h => cif (bit s h) (hd h) 0)
def FewS (H C : Nat) (hd se : Nat → Int) (br : Nat → Nat → Prop) (s : Int) : Prop := fewL C H se br s < fewR H hd s
def IsFew (H C : Nat) (hd se : Nat → Int) (br : Nat → Nat → Prop) (r : Int) : Prop := (r = 0 ∧ ∀ s : Int, 1 ≤ s → s < ((2 ^ H : Nat) : Int) → ¬ FewS H C hd se br s) ∨ (1 ≤ r ∧ r < ((2 ^ H : Nat) : Int) ∧ FewS H C hd se br r ∧ ∀ s : Int, 1 ≤ s → s < r → ¬ FewS H C hd se br s)
theorem IsFew.uniq {H C : Nat} {hd se : Nat → Int} {br : Nat → Nat → Prop} {r q : Int} (h1 : IsFew H C hd se br r) (h2 : IsFew H C hd se br q) : r = q := by
  rcases h1 with ⟨a1, a2⟩ | ⟨a1, a2, a3, a4⟩ <;> rcases h2 with ⟨b1, b2⟩ | ⟨b1, b2, b3, b4⟩
  · omega
  · exact absurd b3 (a2 q b1 b2)
  · exact absurd a3 (b2 r a1 a2)
  · rcases Int.lt_trichotomy r q with h | h | h
    · exact absurd a3 (b4 r a1 h)
    · exact h
    · exact absurd b3 (a4 q b1 h)
theorem IsFew.cong {H C : Nat} {hd hd' se se' : Nat → Int} {br br' : Nat → Nat → Prop} (e1 : ∀ h, h < H → hd h = hd' h) (e2 : ∀ c, c < C → se c = se' c) (e3 : ∀ h c, h < H → c < C → (br h c ↔ br' h c)) {r : Int} (h : IsFew H C hd se br r) : IsFew H C hd' se' br' r := by
  have e : FewS H C hd se br = FewS H C hd' se' br' := by
    funext s
    unfold FewS fewL fewR
    rw [sm_cong (f := fun c => cif (∃ h, h < H ∧ bit s h ∧ ¬ br h c) (se c) 0) (f' := fun c => cif (∃ h, h < H ∧ bit s h ∧ ¬ br' h c) (se' c) 0) C (fun c hc => ?_), sm_cong (f := fun h => cif (bit s h) (hd h) 0) (f' := fun h => cif (bit s h) (hd' h) 0) H (fun h hh => by simp only [e1 h hh])]
    simp only [e2 c hc]
    refine cif_iff ⟨?_, ?_⟩
    · rintro ⟨h, a, b, c'⟩; exact ⟨h, a, b, fun q => c' ((e3 h c a hc).mpr q)⟩
    · rintro ⟨h, a, b, c'⟩; exact ⟨h, a, b, fun q => c' ((e3 h c a hc).mp q)⟩
  unfold IsFew at h ⊢
  rw [← e]
  exact h

