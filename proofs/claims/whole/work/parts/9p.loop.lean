section
variable {g : G0} {D : DD}
theorem law_at {n : Nat} {i : Int} (hI : IV n D) (hn : n ≤ 600) (hN : g.2.1.2.1 < 2147483648) (hi : 0 ≤ i ∧ i + 6 ≤ g.2.1.2.1) (K : ∀ D2, IV (n + 1) D2 → T g mL_law room_1 599919 7300437 lw_Z 1247 [some (.float 0), some (.ref 0), some (.ref 57), some (iI i)] [] SH D2) (K0 : T g mL_law room_1 599919 7300437 lw_Z 1247 [some (.float 0), some (.ref 0), some (.ref 57), some (iI i)] [] SH D) : T g mL_law room_1 599919 7300437 lw_Z 27 [some (.float 0), some (.ref 0), some (.ref 57), some (iI i)] [] SH D := by
  refine T_aloadS dL_law_27 rfl ?_
  refine T_iload_n dL_law_28 rfl ?_
  refine T_sld dL_law_29 rfl hN (by first | omega | (simp [st2]; omega)) (by first | omega | (simp [st2]; omega)) ?_
  refine T_bipush dL_law_30 (by decide) ?_
  refine T_iand dL_law_32 ?_
  refine T_tsw dL_law_33 (inR_iand _ _) (fun off h1 h2 ho tgt ht => ?_) (by decide) (by decide) 1247 (by decide) (fun _ => K0)
  generalize iand (g.2.1.2.2 i.toNat).toInt 63 = a at h1 h2 ho
  obtain ⟨j, rfl⟩ : ∃ j : Nat, a = j := ⟨a.toNat, by omega⟩
  have hj : j < 33 := by omega
  rw [show ((j : Int) - 0).toNat = j by omega] at ho
  clear h1 h2
  have cs : j = 0 ∨ j = 1 ∨ j = 2 ∨ j = 3 ∨ j = 4 ∨ j = 5 ∨ j = 6 ∨ j = 7 ∨ j = 8 ∨ j = 9 ∨ j = 10 ∨ j = 11 ∨ j = 12 ∨ j = 13 ∨ j = 14 ∨ j = 15 ∨ j = 16 ∨ j = 17 ∨ j = 18 ∨ j = 19 ∨ j = 20 ∨ j = 21 ∨ j = 22 ∨ j = 23 ∨ j = 24 ∨ j = 25 ∨ j = 26 ∨ j = 27 ∨ j = 28 ∨ j = 29 ∨ j = 30 ∨ j = 31 ∨ j = 32 := by omega
  rcases cs with rfl | rfl | rfl | rfl | rfl | rfl | rfl | rfl | rfl | rfl | rfl | rfl | rfl | rfl | rfl | rfl | rfl | rfl | rfl | rfl | rfl | rfl | rfl | rfl | rfl | rfl | rfl | rfl | rfl | rfl | rfl | rfl | rfl
  · have e : off = 147 := by cases ho; rfl
    subst e
    obtain rfl : tgt = 180 := by omega
    exact l_home hI hn hN hi K
  · have e : off = 190 := by cases ho; rfl
    subst e
    obtain rfl : tgt = 223 := by omega
    exact l_church hI hn hN hi K
  · have e : off = 243 := by cases ho; rfl
    subst e
    obtain rfl : tgt = 276 := by omega
    exact l_land hI hn hN hi K
  · have e : off = 296 := by cases ho; rfl
    subst e
    obtain rfl : tgt = 329 := by omega
    exact l_ofHome hI hn hN hi K
  · have e : off = 329 := by cases ho; rfl
    subst e
    obtain rfl : tgt = 362 := by omega
    exact l_ofChurch hI hn hN hi K
  · have e : off = 362 := by cases ho; rfl
    subst e
    obtain rfl : tgt = 395 := by omega
    exact l_bar hI hn hN hi K
  · have e : off = 421 := by cases ho; rfl
    subst e
    obtain rfl : tgt = 454 := by omega
    exact l_seats hI hn hN hi K
  · have e : off = 454 := by cases ho; rfl
    subst e
    obtain rfl : tgt = 487 := by omega
    exact l_toll hI hn hN hi K
  · have e : off = 477 := by cases ho; rfl
    subst e
    obtain rfl : tgt = 510 := by omega
    exact l_far hI hn hN hi K
  · have e : off = 520 := by cases ho; rfl
    subst e
    obtain rfl : tgt = 553 := by omega
    exact l_miles hI hn hN hi K
  · have e : off = 533 := by cases ho; rfl
    subst e
    obtain rfl : tgt = 566 := by omega
    exact l_few hI hn hN hi K
  · have e : off = 546 := by cases ho; rfl
    subst e
    obtain rfl : tgt = 579 := by omega
    exact l_weight hI hn hN hi K
  · have e : off = 569 := by cases ho; rfl
    subst e
    obtain rfl : tgt = 602 := by omega
    exact l_line hI hn hN hi K
  · have e : off = 592 := by cases ho; rfl
    subst e
    obtain rfl : tgt = 625 := by omega
    exact l_check hI hn hN hi K
  · have e : off = 645 := by cases ho; rfl
    subst e
    obtain rfl : tgt = 678 := by omega
    exact l_family hI hn hN hi K
  · have e : off = 668 := by cases ho; rfl
    subst e
    obtain rfl : tgt = 701 := by omega
    exact l_even hI hn hN hi K
  · have e : off = 691 := by cases ho; rfl
    subst e
    obtain rfl : tgt = 724 := by omega
    exact l_border hI hn hN hi K
  · have e : off = 735 := by cases ho; rfl
    subst e
    obtain rfl : tgt = 768 := by omega
    exact l_who hI hn hN hi K
  · have e : off = 768 := by cases ho; rfl
    subst e
    obtain rfl : tgt = 801 := by omega
    exact l_place hI hn hN hi K
  · have e : off = 801 := by cases ho; rfl
    subst e
    obtain rfl : tgt = 834 := by omega
    exact l_move hI hn hN hi K
  · have e : off = 824 := by cases ho; rfl
    subst e
    obtain rfl : tgt = 857 := by omega
    exact l_open hI hn hN hi K
  · have e : off = 847 := by cases ho; rfl
    subst e
    obtain rfl : tgt = 880 := by omega
    exact l_best hI hn hN hi K
  · have e : off = 870 := by cases ho; rfl
    subst e
    obtain rfl : tgt = 903 := by omega
    exact l_sheet hI hn hN hi K
  · have e : off = 913 := by cases ho; rfl
    subst e
    obtain rfl : tgt = 946 := by omega
    exact l_lose hI hn hN hi K
  · have e : off = 936 := by cases ho; rfl
    subst e
    obtain rfl : tgt = 969 := by omega
    exact l_put hI hn hN hi K
  · have e : off = 979 := by cases ho; rfl
    subst e
    obtain rfl : tgt = 1012 := by omega
    exact l_cell hI hn hN hi K
  · have e : off = 1023 := by cases ho; rfl
    subst e
    obtain rfl : tgt = 1056 := by omega
    exact l_copy hI hn hN hi K
  · have e : off = 1086 := by cases ho; rfl
    subst e
    obtain rfl : tgt = 1119 := by omega
    exact l_tell hI hn hN hi K
  · have e : off = 1109 := by cases ho; rfl
    subst e
    obtain rfl : tgt = 1142 := by omega
    exact l_ring hI hn hN hi K
  · have e : off = 1132 := by cases ho; rfl
    subst e
    obtain rfl : tgt = 1165 := by omega
    exact l_as hI hn hN hi K
  · have e : off = 1165 := by cases ho; rfl
    subst e
    obtain rfl : tgt = 1198 := by omega
    exact l_trace hI hn hN hi K
  · have e : off = 1178 := by cases ho; rfl
    subst e
    obtain rfl : tgt = 1211 := by omega
    exact l_fault hI hn hN hi K
  · have e : off = 1191 := by cases ho; rfl
    subst e
    obtain rfl : tgt = 1224 := by omega
    exact l_many hI hn hN hi K
theorem law_loop (hN : g.2.1.2.1 ≤ 3072) : ∀ (q n : Nat) (D : DD), IV n D → q + n = 600 → T g mL_law room_1 599919 7300437 lw_Z 18 [some (.float 0), some (.ref 0), some (.ref 57), some (iI (6 * (n : Int)))] [] SH D := by
  intro q
  induction q with
  | zero =>
    intro n D hI hq
    refine T_iload_n dL_law_18 rfl ?_
    refine T_aloadS dL_law_19 rfl ?_
    refine T_slen dL_law_20 rfl ?_
    refine T_bipush dL_law_21 (by decide) ?_
    refine T_isub dL_law_23 ?_
    refine T_icmp_gt 1253 dL_law_24 (by decide) (by unfold InR; omega) (by unfold InR; omega) (fun hc24 => ?_) (fun hc24 => (by exfalso; omega))
    refine T_iconst dL_law_1253 ?_
    exact T_end dL_law_1254
  | succ q ih =>
    intro n D hI hq
    have e : (6 * (n : Int)) + 6 = 6 * ((n + 1 : Nat) : Int) := by omega
    have go : ∀ D2, IV (n + 1) D2 → T g mL_law room_1 599919 7300437 lw_Z 1247 [some (.float 0), some (.ref 0), some (.ref 57), some (iI (6 * (n : Int)))] [] SH D2 := fun D2 h2 => by
      have i2 := ih (n + 1) D2 h2 (by omega)
      refine T_iinc dL_law_1247 rfl (by decide) ?_
      refine T_goto (tgt := 18) dL_law_1250 (by decide) ?_
      rw [← e] at i2
      exact i2
    refine T_iload_n dL_law_18 rfl ?_
    refine T_aloadS dL_law_19 rfl ?_
    refine T_slen dL_law_20 rfl ?_
    refine T_bipush dL_law_21 (by decide) ?_
    refine T_isub dL_law_23 ?_
    refine T_icmp_gt 1253 dL_law_24 (by decide) (by unfold InR; omega) (by unfold InR; omega) (fun hc24 => ?_) (fun hc24 => ?_)
    · refine T_iconst dL_law_1253 ?_
      exact T_end dL_law_1254
    · exact law_at hI (by omega) (by omega) (by omega) go (go D (hI.q2 hI.qs (fun _ _ => rfl)))
end

