def freeO (D : DD) (o c : Nat) : Prop := D (o + 5) c < D (o + 4) c ∧ D (o + 8) c < 500000000
def bestO (D : DD) (o n : Nat) (r : Int) : Prop := (r = -1 ∧ ∀ c, c < n → ¬ freeO D o c) ∨ (0 ≤ r ∧ r.toNat < n ∧ freeO D o r.toNat ∧ ∀ c, c < n → freeO D o c → D (o + 8) r.toNat ≤ D (o + 8) c)
theorem bestO.rng {D : DD} {o n : Nat} {r : Int} (h : bestO D o n r) : r = -1 ∨ (0 ≤ r ∧ r < n) := by
  rcases h with ⟨h, _⟩ | ⟨h1, h2, _⟩
  · exact Or.inl h
  · exact Or.inr ⟨h1, by omega⟩
theorem bestO.skip {D : DD} {o n : Nat} {r : Int} (h : bestO D o n r) (hn : ¬ freeO D o n ∨ (0 ≤ r ∧ D (o + 8) r.toNat ≤ D (o + 8) n)) : bestO D o (n + 1) r := by
  rcases h with ⟨h1, h2⟩ | ⟨h1, h2, h3, h4⟩
  · refine Or.inl ⟨h1, fun c hc => ?_⟩
    by_cases e : c = n
    · subst e
      rcases hn with hn | hn
      · exact hn
      · omega
    · exact h2 c (by omega)
  · refine Or.inr ⟨h1, by omega, h3, fun c hc hf => ?_⟩
    by_cases e : c = n
    · subst e
      rcases hn with hn | hn
      · exact absurd hf hn
      · exact hn.2
    · exact h4 c (by omega) hf
theorem bestO.take {D : DD} {o n : Nat} {r : Int} (h : bestO D o n r) (hf : freeO D o n) (hl : r < 0 ∨ D (o + 8) n < D (o + 8) r.toNat) : bestO D o (n + 1) (n : Int) := by
  refine Or.inr ⟨by omega, by rw [Int.toNat_natCast]; omega, by rw [Int.toNat_natCast]; exact hf, fun c hc hfc => ?_⟩
  rw [Int.toNat_natCast]
  by_cases e : c = n
  · subst e; exact Int.le_refl _
  · rcases h with ⟨h1, h2⟩ | ⟨h1, h2, h3, h4⟩
    · exact absurd hfc (h2 c (by omega))
    · have := h4 c (by omega) hfc
      omega
section
variable {g : G0} {d : Nat} {P : Option Value → List SC → DD → Prop} {D : DD}
theorem c_moverTo {o c : Nat} (hs : SnAt o) (hc : c < 5) (hb : 0 ≤ D (o + 9) c ∧ D (o + 9) c < 5) (hk : P (some (iI (D (o + 7) ((D (o + 9) c).toNat * 5 + c)))) SH D) : TM g mX3_moverTo d P [.ref o, iI c] D := by
  obtain ⟨hS, hA0, hA1, hA2, hA3, hA4, hA5, hA6, hA7, hA8, hA9, ho16⟩ := hs
  have ec : (c : Int).toNat = c := Int.toNat_natCast c
  have e9 : D (o + 9) (c : Int).toNat = D (o + 9) c := by rw [ec]
  have ix : (D (o + 9) c * 5 + (c : Int)).toNat = (D (o + 9) c).toNat * 5 + c := by omega
  refine T_aload_n dX3_moverTo_0 rfl ?_
  refine T_getR dX3_moverTo_1 flX3_30 hS rfl ?_
  refine T_aload_n dX3_moverTo_4 rfl ?_
  refine T_getR dX3_moverTo_5 flX3_36 hS rfl ?_
  refine T_iload_n dX3_moverTo_8 rfl ?_
  refine T_iald dX3_moverTo_9 hA8 (by first | decide | omega) (by first | omega | (simp [st2]; omega)) (by first | omega | (simp [st2]; omega)) ?_
  refine T_iconst dX3_moverTo_10 ?_
  refine T_imul dX3_moverTo_11 ?_
  refine T_iload_n dX3_moverTo_12 rfl ?_
  refine T_iadd dX3_moverTo_13 ?_
  refine T_iald dX3_moverTo_14 hA6 (by first | decide | omega) (by first | omega | (simp [st2]; omega)) (by first | omega | (simp [st2]; omega)) ?_
  refine T_iret dX3_moverTo_15 rfl ?_
  rw [e9, ix]; exact hk
theorem c_cheapestWithRoom {o : Nat} (hs : SnAt o) (hM : 0 ≤ D o 11 ∧ D o 11 ≤ 5) (h4 : ∀ c, c < (D o 11).toNat → InR (D (o + 4) c)) (h5 : ∀ c, c < (D o 11).toNat → InR (D (o + 5) c)) (h8 : ∀ c, c < (D o 11).toNat → InR (D (o + 8) c)) (hk : ∀ r, bestO D o (D o 11).toNat r → P (some (iI r)) SH D) : TM g mX3_cheapestWithRoom d P [.ref o] D := by
  obtain ⟨hS, hA0, hA1, hA2, hA3, hA4, hA5, hA6, hA7, hA8, hA9, ho16⟩ := hs
  have loop : ∀ (q c : Nat) (r : Int) (m3 : Option Value), q + c = (D o 11).toNat → bestO D o c r → T g mX3_cheapestWithRoom (rmd d 0 0) 0 0 (Qm g (rmd d 0 0) P) 4 [some (.ref o), some (iI r), some (iI c), m3] [] SH D := by
    intro q
    induction q with
    | zero =>
      intro c r m3 hq hb
      refine T_iload_n dX3_cheapestWithRoom_4 rfl ?_
      refine T_aload_n dX3_cheapestWithRoom_5 rfl ?_
      refine T_getI dX3_cheapestWithRoom_6 flX3_52 hS rfl ?_
      refine T_icmp_ge 75 dX3_cheapestWithRoom_9 (by decide) (by first | (unfold InR; omega) | (simp [st2, InR]; omega)) (by first | (unfold InR; omega) | (simp [st2, InR]; omega)) (fun hc9 => ?_) (fun hc9 => (by exfalso; omega))
      refine T_iload_n dX3_cheapestWithRoom_75 rfl ?_
      refine T_iret dX3_cheapestWithRoom_76 rfl ?_
      exact hk r (by rw [show (D o 11).toNat = c by omega]; exact hb)
    | succ q ih =>
      intro c r m3 hq hb
      have ec : (c : Int).toNat = c := Int.toNat_natCast c
      have rr := hb.rng
      have i4 := h4 c (by omega)
      have i5 := h5 c (by omega)
      have i8 := h8 c (by omega)
      have i8r : 0 ≤ r → InR (D (o + 8) r.toNat) := fun z => h8 r.toNat (by omega)
      have e4 : D (o + 4) (c : Int).toNat = D (o + 4) c := by rw [ec]
      have e5 : D (o + 5) (c : Int).toNat = D (o + 5) c := by rw [ec]
      have e8 : D (o + 8) (c : Int).toNat = D (o + 8) c := by rw [ec]
      have nofree : (¬ D (o + 5) c < D (o + 4) c ∨ ¬ D (o + 8) c < 500000000) → ¬ freeO D o c := fun z q => by unfold freeO at q; omega
      have isfree : D (o + 5) c < D (o + 4) c → D (o + 8) c < 500000000 → freeO D o c := fun z q => ⟨z, q⟩
      refine T_iload_n dX3_cheapestWithRoom_4 rfl ?_
      refine T_aload_n dX3_cheapestWithRoom_5 rfl ?_
      refine T_getI dX3_cheapestWithRoom_6 flX3_52 hS rfl ?_
      refine T_icmp_ge 75 dX3_cheapestWithRoom_9 (by decide) (by first | (unfold InR; omega) | (simp [st2, InR]; omega)) (by first | (unfold InR; omega) | (simp [st2, InR]; omega)) (fun hc9 => (by exfalso; omega)) (fun hc9 => ?_)
      refine T_aload_n dX3_cheapestWithRoom_12 rfl ?_
      refine T_getR dX3_cheapestWithRoom_13 flX3_24 hS rfl ?_
      refine T_iload_n dX3_cheapestWithRoom_16 rfl ?_
      refine T_iald dX3_cheapestWithRoom_17 hA4 (by first | decide | omega) (by first | omega | (simp [st2]; omega)) (by first | omega | (simp [st2]; omega)) ?_
      refine T_aload_n dX3_cheapestWithRoom_18 rfl ?_
      refine T_getR dX3_cheapestWithRoom_19 flX3_21 hS rfl ?_
      refine T_iload_n dX3_cheapestWithRoom_22 rfl ?_
      refine T_iald dX3_cheapestWithRoom_23 hA3 (by first | decide | omega) (by first | omega | (simp [st2]; omega)) (by first | omega | (simp [st2]; omega)) ?_
      refine T_icmp_ge 42 dX3_cheapestWithRoom_24 (by decide) (by rw [e5]; exact i5) (by rw [e4]; exact i4) (fun hc24 => ?_) (fun hc24 => ?_)
      · rw [e4, e5] at hc24
        refine T_iconst dX3_cheapestWithRoom_42 ?_
        refine T_istore_n dX3_cheapestWithRoom_43 (by decide) ?_
        refine T_iload_n dX3_cheapestWithRoom_44 rfl ?_
        refine T_if_eq 69 dX3_cheapestWithRoom_45 (by decide) (by unfold InR; decide) (fun _ => ?_) (fun h => absurd (by decide) h)
        refine T_iinc dX3_cheapestWithRoom_69 rfl (by decide) ?_
        refine T_goto (tgt := 4) dX3_cheapestWithRoom_72 (by decide) ?_
        clear hk h4 h5 h8
        first | exact ih (c + 1) r _ (by omega) (hb.skip (Or.inl (nofree (by omega)))) | exact ih (c + 1) r _ (by omega) (hb.skip (Or.inr ⟨by omega, by omega⟩)) | exact ih (c + 1) (c : Int) _ (by omega) (hb.take (isfree (by omega) (by omega)) (by omega))
      · rw [e4, e5] at hc24
        refine T_aload_n dX3_cheapestWithRoom_27 rfl ?_
        refine T_getR dX3_cheapestWithRoom_28 flX3_33 hS rfl ?_
        refine T_iload_n dX3_cheapestWithRoom_31 rfl ?_
        refine T_iald dX3_cheapestWithRoom_32 hA7 (by first | decide | omega) (by first | omega | (simp [st2]; omega)) (by first | omega | (simp [st2]; omega)) ?_
        refine T_ldc (n := 500000000) dX3_cheapestWithRoom_33 tk_469 ?_
        refine T_icmp_ge 42 dX3_cheapestWithRoom_35 (by decide) (by rw [e8]; exact i8) (by first | (unfold InR; omega) | (simp [st2, InR]; omega)) (fun hc35 => ?_) (fun hc35 => ?_)
        · rw [e8] at hc35
          refine T_iconst dX3_cheapestWithRoom_42 ?_
          refine T_istore_n dX3_cheapestWithRoom_43 (by decide) ?_
          refine T_iload_n dX3_cheapestWithRoom_44 rfl ?_
          refine T_if_eq 69 dX3_cheapestWithRoom_45 (by decide) (by unfold InR; decide) (fun _ => ?_) (fun h => absurd (by decide) h)
          refine T_iinc dX3_cheapestWithRoom_69 rfl (by decide) ?_
          refine T_goto (tgt := 4) dX3_cheapestWithRoom_72 (by decide) ?_
          clear hk h4 h5 h8
          first | exact ih (c + 1) r _ (by omega) (hb.skip (Or.inl (nofree (by omega)))) | exact ih (c + 1) r _ (by omega) (hb.skip (Or.inr ⟨by omega, by omega⟩)) | exact ih (c + 1) (c : Int) _ (by omega) (hb.take (isfree (by omega) (by omega)) (by omega))
        · rw [e8] at hc35
          refine T_iconst dX3_cheapestWithRoom_38 ?_
          refine T_goto (tgt := 43) dX3_cheapestWithRoom_39 (by decide) ?_
          refine T_istore_n dX3_cheapestWithRoom_43 (by decide) ?_
          refine T_iload_n dX3_cheapestWithRoom_44 rfl ?_
          refine T_if_eq 69 dX3_cheapestWithRoom_45 (by decide) (by unfold InR; decide) (fun h => absurd h (by decide)) (fun _ => ?_)
          refine T_iload_n dX3_cheapestWithRoom_48 rfl ?_
          refine T_if_lt 67 dX3_cheapestWithRoom_49 (by decide) (by first | (unfold InR; omega) | (simp [st2, InR]; omega)) (fun hc49 => ?_) (fun hc49 => ?_)
          · refine T_iload_n dX3_cheapestWithRoom_67 rfl ?_
            refine T_istore_n dX3_cheapestWithRoom_68 (by decide) ?_
            refine T_iinc dX3_cheapestWithRoom_69 rfl (by decide) ?_
            refine T_goto (tgt := 4) dX3_cheapestWithRoom_72 (by decide) ?_
            clear hk h4 h5 h8
            first | exact ih (c + 1) r _ (by omega) (hb.skip (Or.inl (nofree (by omega)))) | exact ih (c + 1) r _ (by omega) (hb.skip (Or.inr ⟨by omega, by omega⟩)) | exact ih (c + 1) (c : Int) _ (by omega) (hb.take (isfree (by omega) (by omega)) (by omega))
          · refine T_aload_n dX3_cheapestWithRoom_52 rfl ?_
            refine T_getR dX3_cheapestWithRoom_53 flX3_33 hS rfl ?_
            refine T_iload_n dX3_cheapestWithRoom_56 rfl ?_
            refine T_iald dX3_cheapestWithRoom_57 hA7 (by first | decide | omega) (by first | omega | (simp [st2]; omega)) (by first | omega | (simp [st2]; omega)) ?_
            refine T_aload_n dX3_cheapestWithRoom_58 rfl ?_
            refine T_getR dX3_cheapestWithRoom_59 flX3_33 hS rfl ?_
            refine T_iload_n dX3_cheapestWithRoom_62 rfl ?_
            refine T_iald dX3_cheapestWithRoom_63 hA7 (by first | decide | omega) (by first | omega | (simp [st2]; omega)) (by first | omega | (simp [st2]; omega)) ?_
            refine T_icmp_ge 69 dX3_cheapestWithRoom_64 (by decide) (by rw [e8]; exact i8) (i8r (by omega)) (fun hc64 => ?_) (fun hc64 => ?_)
            · rw [e8] at hc64
              refine T_iinc dX3_cheapestWithRoom_69 rfl (by decide) ?_
              refine T_goto (tgt := 4) dX3_cheapestWithRoom_72 (by decide) ?_
              clear hk h4 h5 h8
              first | exact ih (c + 1) r _ (by omega) (hb.skip (Or.inl (nofree (by omega)))) | exact ih (c + 1) r _ (by omega) (hb.skip (Or.inr ⟨by omega, by omega⟩)) | exact ih (c + 1) (c : Int) _ (by omega) (hb.take (isfree (by omega) (by omega)) (by omega))
            · rw [e8] at hc64
              refine T_iload_n dX3_cheapestWithRoom_67 rfl ?_
              refine T_istore_n dX3_cheapestWithRoom_68 (by decide) ?_
              refine T_iinc dX3_cheapestWithRoom_69 rfl (by decide) ?_
              refine T_goto (tgt := 4) dX3_cheapestWithRoom_72 (by decide) ?_
              clear hk h4 h5 h8
              first | exact ih (c + 1) r _ (by omega) (hb.skip (Or.inl (nofree (by omega)))) | exact ih (c + 1) r _ (by omega) (hb.skip (Or.inr ⟨by omega, by omega⟩)) | exact ih (c + 1) (c : Int) _ (by omega) (hb.take (isfree (by omega) (by omega)) (by omega))
  refine T_iconst dX3_cheapestWithRoom_0 ?_
  refine T_istore_n dX3_cheapestWithRoom_1 (by decide) ?_
  refine T_iconst dX3_cheapestWithRoom_2 ?_
  refine T_istore_n dX3_cheapestWithRoom_3 (by decide) ?_
  exact loop (D o 11).toNat 0 (-1) none (by omega) (Or.inl ⟨rfl, fun c hc => by omega⟩)
theorem c_sumOfMiles {o : Nat} (hs : SnAt o) (hN : 0 ≤ D o 10 ∧ D o 10 ≤ 10) (hM : 0 ≤ D o 11 ∧ D o 11 ≤ 5) (hk : P (some (iI (costX (D o 10).toNat (D o 11).toNat (fO D o) (xO D o)))) SH D) : TM g mX3_sumOfMiles d P [.ref o] D := by
  obtain ⟨hS, hA0, hA1, hA2, hA3, hA4, hA5, hA6, hA7, hA8, hA9, ho16⟩ := hs
  have inner : ∀ (h : Nat), h < (D o 10).toNat → (∀ m3 : Option Value, T g mX3_sumOfMiles (rmd d 0 0) 0 0 (Qm g (rmd d 0 0) P) 4 [some (.ref o), some (iI (costX (h + 1) (D o 11).toNat (fO D o) (xO D o))), some (iI ((h + 1 : Nat) : Int)), m3] [] SH D) → ∀ (q c : Nat), q + c = (D o 11).toNat → T g mX3_sumOfMiles (rmd d 0 0) 0 0 (Qm g (rmd d 0 0) P) 14 [some (.ref o), some (iI (costX h (D o 11).toNat (fO D o) (xO D o) + sm c (fun c => xO D o h c * fO D o h c))), some (iI h), some (iI c)] [] SH D := by
    intro h hh K q
    induction q with
    | zero =>
      intro c hq
      obtain rfl : c = (D o 11).toNat := by omega
      refine T_iload_n dX3_sumOfMiles_14 rfl ?_
      refine T_aload_n dX3_sumOfMiles_15 rfl ?_
      refine T_getI dX3_sumOfMiles_16 flX3_52 hS rfl ?_
      refine T_icmp_ge 52 dX3_sumOfMiles_19 (by decide) (by first | (unfold InR; omega) | (simp [st2, InR]; omega)) (by first | (unfold InR; omega) | (simp [st2, InR]; omega)) (fun hc19 => ?_) (fun hc19 => (by exfalso; omega))
      refine T_iinc dX3_sumOfMiles_52 rfl (by decide) ?_
      refine T_goto (tgt := 4) dX3_sumOfMiles_55 (by decide) ?_
      exact K _
    | succ q ih =>
      intro c hq
      have ix : ((h : Int) * 5 + c).toNat = h * 5 + c := by omega
      have e : costX h (D o 11).toNat (fO D o) (xO D o) + sm (c + 1) (fun c => xO D o h c * fO D o h c) = costX h (D o 11).toNat (fO D o) (xO D o) + sm c (fun c => xO D o h c * fO D o h c) + D (o + 2) ((h : Int) * 5 + c).toNat * D (o + 1) ((h : Int) * 5 + c).toNat := by
        rw [ix]; exact (Int.add_assoc _ _ _).symm
      refine T_iload_n dX3_sumOfMiles_14 rfl ?_
      refine T_aload_n dX3_sumOfMiles_15 rfl ?_
      refine T_getI dX3_sumOfMiles_16 flX3_52 hS rfl ?_
      refine T_icmp_ge 52 dX3_sumOfMiles_19 (by decide) (by first | (unfold InR; omega) | (simp [st2, InR]; omega)) (by first | (unfold InR; omega) | (simp [st2, InR]; omega)) (fun hc19 => (by exfalso; omega)) (fun hc19 => ?_)
      refine T_iload_n dX3_sumOfMiles_22 rfl ?_
      refine T_aload_n dX3_sumOfMiles_23 rfl ?_
      refine T_getR dX3_sumOfMiles_24 flX3_15 hS rfl ?_
      refine T_iload_n dX3_sumOfMiles_27 rfl ?_
      refine T_iconst dX3_sumOfMiles_28 ?_
      refine T_imul dX3_sumOfMiles_29 ?_
      refine T_iload_n dX3_sumOfMiles_30 rfl ?_
      refine T_iadd dX3_sumOfMiles_31 ?_
      refine T_iald dX3_sumOfMiles_32 hA1 (by first | decide | omega) (by first | omega | (simp [st2]; omega)) (by first | omega | (simp [st2]; omega)) ?_
      refine T_aload_n dX3_sumOfMiles_33 rfl ?_
      refine T_getR dX3_sumOfMiles_34 flX3_9 hS rfl ?_
      refine T_iload_n dX3_sumOfMiles_37 rfl ?_
      refine T_iconst dX3_sumOfMiles_38 ?_
      refine T_imul dX3_sumOfMiles_39 ?_
      refine T_iload_n dX3_sumOfMiles_40 rfl ?_
      refine T_iadd dX3_sumOfMiles_41 ?_
      refine T_iald dX3_sumOfMiles_42 hA0 (by first | decide | omega) (by first | omega | (simp [st2]; omega)) (by first | omega | (simp [st2]; omega)) ?_
      refine T_imul dX3_sumOfMiles_43 ?_
      refine T_iadd dX3_sumOfMiles_44 ?_
      refine T_istore_n dX3_sumOfMiles_45 (by decide) ?_
      refine T_iinc dX3_sumOfMiles_46 rfl (by decide) ?_
      refine T_goto (tgt := 14) dX3_sumOfMiles_49 (by decide) ?_
      rw [← e]
      exact ih (c + 1) (by omega)
  have outer : ∀ (q h : Nat) (m3 : Option Value), q + h = (D o 10).toNat → T g mX3_sumOfMiles (rmd d 0 0) 0 0 (Qm g (rmd d 0 0) P) 4 [some (.ref o), some (iI (costX h (D o 11).toNat (fO D o) (xO D o))), some (iI h), m3] [] SH D := by
    intro q
    induction q with
    | zero =>
      intro h m3 hq
      obtain rfl : h = (D o 10).toNat := by omega
      refine T_iload_n dX3_sumOfMiles_4 rfl ?_
      refine T_aload_n dX3_sumOfMiles_5 rfl ?_
      refine T_getI dX3_sumOfMiles_6 flX3_48 hS rfl ?_
      refine T_icmp_ge 58 dX3_sumOfMiles_9 (by decide) (by first | (unfold InR; omega) | (simp [st2, InR]; omega)) (by first | (unfold InR; omega) | (simp [st2, InR]; omega)) (fun hc9 => ?_) (fun hc9 => (by exfalso; omega))
      refine T_iload_n dX3_sumOfMiles_58 rfl ?_
      refine T_iret dX3_sumOfMiles_59 rfl ?_
      exact hk
    | succ q ih =>
      intro h m3 hq
      refine T_iload_n dX3_sumOfMiles_4 rfl ?_
      refine T_aload_n dX3_sumOfMiles_5 rfl ?_
      refine T_getI dX3_sumOfMiles_6 flX3_48 hS rfl ?_
      refine T_icmp_ge 58 dX3_sumOfMiles_9 (by decide) (by first | (unfold InR; omega) | (simp [st2, InR]; omega)) (by first | (unfold InR; omega) | (simp [st2, InR]; omega)) (fun hc9 => (by exfalso; omega)) (fun hc9 => ?_)
      refine T_iconst dX3_sumOfMiles_12 ?_
      refine T_istore_n dX3_sumOfMiles_13 (by decide) ?_
      have i := inner h (by omega) (fun m3 => ih (h + 1) m3 (by omega)) (D o 11).toNat 0 (by omega)
      rw [show sm 0 (fun c => xO D o h c * fO D o h c) = 0 from rfl, Int.add_zero] at i
      exact i
  refine T_iconst dX3_sumOfMiles_0 ?_
  refine T_istore_n dX3_sumOfMiles_1 (by decide) ?_
  refine T_iconst dX3_sumOfMiles_2 ?_
  refine T_istore_n dX3_sumOfMiles_3 (by decide) ?_
  exact outer (D o 10).toNat 0 none (by omega)
end

