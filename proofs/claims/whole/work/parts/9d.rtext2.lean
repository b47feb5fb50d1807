theorem fs_nat {q r : Nat} {c : Prop} : fs (q : Int) c r = q := fs_bad (by omega)
section
variable {co : Nat → Int} {p hc cc : Nat}
theorem itF_a (h : ¬ kOk (kdR (co p)) hc cc) : itF co p hc cc = p := by
  unfold itF itF3
  rw [fs_no h, fs_nat, fs_nat, fs_nat, fs_nat, fs_nat]
theorem itF_b (h : kOk (kdR (co p)) hc cc) (h2 : ¬ nOk co (p + 1) 0 60) : itF co p hc cc = ((p + 1 : Nat) : Int) := by
  unfold itF itF3
  rw [fs_go h, fs_no h2, fs_nat, fs_nat, fs_nat, fs_nat]
theorem itF_c (h : kOk (kdR (co p)) hc cc) (h2 : nOk co (p + 1) 0 60) (h3 : ¬ co (q2 co p) = 44) : itF co p hc cc = (q2 co p : Int) := by
  unfold itF itF3
  rw [fs_go h, fs_go h2, fs_no h3, fs_nat, fs_nat, fs_nat]
theorem itF_d (h : kOk (kdR (co p)) hc cc) (h2 : nOk co (p + 1) 0 60) (h3 : co (q2 co p) = 44) (h4 : ¬ nOk co (q2 co p + 1) 0 60) : itF co p hc cc = ((q2 co p + 1 : Nat) : Int) := by
  unfold itF itF3
  rw [fs_go h, fs_go h2, fs_go h3, fs_no h4, fs_nat, fs_nat]
theorem itF_e (h : kOk (kdR (co p)) hc cc) (h2 : nOk co (p + 1) 0 60) (h3 : co (q2 co p) = 44) (h4 : nOk co (q2 co p + 1) 0 60) (h5 : ¬ co (q4 co p) = sgn (kdR (co p))) : itF co p hc cc = (q4 co p : Int) := by
  unfold itF itF3
  rw [fs_go h, fs_go h2, fs_go h3, fs_go h4, fs_no h5, fs_nat]
theorem itF_f (h : kOk (kdR (co p)) hc cc) (h2 : nOk co (p + 1) 0 60) (h3 : co (q2 co p) = 44) (h4 : nOk co (q2 co p + 1) 0 60) (h5 : co (q4 co p) = sgn (kdR (co p))) (h6 : ¬ nOk co (q4 co p + 1) (loT (kdR (co p))) (hiT (kdR (co p)))) : itF co p hc cc = ((q4 co p + 1 : Nat) : Int) := by
  unfold itF itF3
  rw [fs_go h, fs_go h2, fs_go h3, fs_go h4, fs_go h5, fs_no h6]
theorem itF_g (h : kOk (kdR (co p)) hc cc) (h2 : nOk co (p + 1) 0 60) (h3 : co (q2 co p) = 44) (h4 : nOk co (q2 co p + 1) 0 60) (h5 : co (q4 co p) = sgn (kdR (co p))) (h6 : nOk co (q4 co p + 1) (loT (kdR (co p))) (hiT (kdR (co p)))) : itF co p hc cc = -1 := by
  unfold itF itF3
  rw [fs_go h, fs_go h2, fs_go h3, fs_go h4, fs_go h5, fs_go h6]
end
/-- what an item's reading changes in the reference -/
def FrR (D D' : DD) (m : Nat) : Prop := (∀ r, r ≠ 57 → r ≠ 66 → r ≠ 67 → D' r = D r) ∧ (∀ j, j ≠ 12 → j ≠ 15 → D' 57 j = D 57 j) ∧ (∀ j, j ≠ m → D' 66 j = D 66 j) ∧ ∀ j, j < 3 * m → D' 67 j = D 67 j
theorem FrN.r {D D' : DD} {to m : Nat} (h : FrN D D' to) (ht : 3 * m ≤ to) : FrR D D' m := ⟨fun r a _ c => h.1 r a c, fun j _ b => h.2.1 j b, fun j _ => by rw [h.1 66 (by decide) (by decide)], fun j hj => h.2.2 j (by omega)⟩
theorem FrG.r {D D' : DD} {m : Nat} (h : FrG D D') : FrR D D' m := ⟨fun r a _ _ => h.1 r a, fun j _ b => h.2 j b, fun j _ => by rw [h.1 66 (by decide)], fun j _ => by rw [h.1 67 (by decide)]⟩
theorem FrR.tr {D D1 D2 : DD} {m : Nat} (h1 : FrR D D1 m) (h2 : FrR D1 D2 m) : FrR D D2 m := ⟨fun r a b c => (h2.1 r a b c).trans (h1.1 r a b c), fun j a b => (h2.2.1 j a b).trans (h1.2.1 j a b), fun j a => (h2.2.2.1 j a).trans (h1.2.2.1 j a), fun j a => (h2.2.2.2 j a).trans (h1.2.2.2 j a)⟩
theorem FrR.many {D : DD} {m : Nat} {v : Int} : FrR D (st2 D 57 12 v) m := ⟨fun r a _ _ => st2_row a, fun j a _ => st2_ne a, fun j _ => by rw [st2_row (by decide)], fun j _ => by rw [st2_row (by decide)]⟩
def ItM (D : DD) (t : Nat) (k x y v : Int) : Prop := D 66 t = k ∧ D 67 (3 * t) = x ∧ D 67 (3 * t + 1) = y ∧ D 67 (3 * t + 2) = v
section
variable {g : G0} {d : Nat} {P : Option Value → List SC → DD → Prop} {D : DD} {fr n m : Nat} {co : Nat → Int}
theorem r_readsItem (hK : RxK D fr n co) (h15 : D 57 15 = psT co m) (h12 : D 57 12 = m) (hm : m ≤ 11) (hp : psT co m ≤ 80) (h66 : ∀ t, t < m → D 66 t = kT co t) (k1 : fT co m = -1 → ∀ D' : DD, FrR D D' m → D' 57 15 = eT co m → D' 57 12 = ((m + 1 : Nat) : Int) → ItM D' m (kT co m) (xT co m) (yT co m) (nT co m) → P (some (iI 1)) SH D') (k0 : fT co m ≠ -1 → ∀ D' : DD, FrR D D' m → D' 57 15 = fT co m → P (some (iI 0)) SH D') : TM g mX7_readsItem (d + 2) P [.ref 57, iI fr, iI n] D := by
  obtain ⟨c1, c2, c3, c4, c5⟩ := id hK
  have hl := hcT_le co m
  have kb := kdR_bd (co (psT co m))
  have le := itE_le co (psT co m)
  have emt : (m : Int).toNat = m := Int.toNat_natCast m
  have last : kOk (kT co m) (hcT co m) (m - hcT co m) → ∀ (a4 a5 : Int), T g mX7_readsItem (rmd (d + 2) 0 0) 0 0 (Qm g (rmd (d + 2) 0 0) P) 118 [some (.ref 57), some (iI fr), some (iI n), some (iI (kT co m)), some (iI a4), some (iI a5), none] [] SH D := by
    intro hok a4 a5
    have hok' : kOk (kdR (co (psT co m))) (hcT co m) (m - hcT co m) := hok
    generalize hD1 : st2 (st2 D 57 15 ((psT co m + 1 : Nat) : Int)) 66 m (kT co m) = D1
    have f1 : FrR D D1 m := by
      rw [← hD1]
      exact ⟨fun r a b _ => by rw [st2_row b, st2_row a], fun j _ b => by rw [st2_row (by decide), st2_ne b], fun j a => by rw [st2_ne a, st2_row (by decide)], fun j _ => by rw [st2_row (by decide), st2_row (by decide)]⟩
    have g15 : D1 57 15 = ((psT co m + 1 : Nat) : Int) := by rw [← hD1, st2_row (by decide), st2_at]
    have g12 : D1 57 12 = m := by rw [← hD1, st2_row (by decide), st2_ne (by decide)]; exact h12
    have g66 : D1 66 m = kT co m := by rw [← hD1, st2_at]
    have hK1 : RxK D1 fr n co := hK.of (f1.1 79 (by decide) (by decide) (by decide))
    have fail : ∀ (D2 : DD) (F : Int) (v6 : Option Value), FrR D D2 m → D2 57 15 = F → F = fT co m → F ≠ -1 → T g mX7_readsItem (rmd (d + 2) 0 0) 0 0 (Qm g (rmd (d + 2) 0 0) P) 262 [some (.ref 57), some (iI fr), some (iI n), some (iI (kT co m)), some (iI a4), some (iI a5), v6] [] SH D2 := by
      intro D2 F v6 f2 e15 hF hn
      refine T_iconst dX7_readsItem_262 ?_
      refine T_istore dX7_readsItem_263 (by decide) ?_
      refine T_aload_n dX7_readsItem_265 rfl ?_
      refine T_dup dX7_readsItem_266 rfl ?_
      refine T_getI dX7_readsItem_267 flX7_144 rfl rfl ?_
      refine T_iload dX7_readsItem_270 rfl ?_
      refine T_if_eq 279 dX7_readsItem_272 (by decide) (by unfold InR; decide) (fun _ => ?_) (fun h => absurd (by decide) h)
      refine T_iconst dX7_readsItem_279 ?_
      refine T_iadd dX7_readsItem_280 ?_
      refine T_putI dX7_readsItem_281 flX7_144 rfl rfl ?_
      refine T_iload dX7_readsItem_284 rfl ?_
      refine T_zret dX7_readsItem_286 rfl (by decide) ?_
      exact k0 (by rw [← hF]; exact hn) _ (f2.tr FrR.many) (by rw [st2_ne (by decide), e15, hF])
    have third : ∀ (D4 : DD) (v6 : Option Value), nOk co (psT co m + 1) 0 60 → co (q2 co (psT co m)) = 44 → nOk co (q2 co (psT co m) + 1) 0 60 → FrR D D4 m → D4 57 15 = (q4 co (psT co m) : Int) → D4 57 12 = m → D4 66 m = kT co m → D4 67 (3 * m) = xT co m → D4 67 (3 * m + 1) = yT co m → T g mX7_readsItem (rmd (d + 2) 0 0) 0 0 (Qm g (rmd (d + 2) 0 0) P) 199 [some (.ref 57), some (iI fr), some (iI n), some (iI (kT co m)), some (iI a4), some (iI a5), v6] [] SH D4 := by
      intro D4 v6 o1 o2 o3 f4 e15 e12 e66 ex ey
      have hK4 : RxK D4 fr n co := hK.of (f4.1 79 (by decide) (by decide) (by decide))
      have kk : kT co m = kdR (co (psT co m)) := rfl
      by_cases k3 : kT co m = 3
      · have s1 : sgn (kdR (co (psT co m))) = 42 := by unfold sgn; rw [← kk, if_pos k3]
        have s2 : loT (kdR (co (psT co m))) = 1 := by unfold loT; rw [← kk, if_pos k3]
        have s3 : hiT (kdR (co (psT co m))) = 5 := by unfold hiT; rw [← kk, if_pos k3]
        refine T_aload_n dX7_readsItem_199 rfl ?_
        refine T_iload_n dX7_readsItem_200 rfl ?_
        refine T_iconst dX7_readsItem_201 ?_
        refine T_icmp_ne 210 dX7_readsItem_202 (by decide) (by unfold InR; omega) (by first | (unfold InR; omega) | (simp [st2, InR]; omega)) (fun hc202 => (by exfalso; omega)) (fun hc202 => ?_)
        refine T_bipush dX7_readsItem_205 (by decide) ?_
        refine T_goto (tgt := 212) dX7_readsItem_207 (by decide) ?_
        refine T_iload_n dX7_readsItem_212 rfl ?_
        refine T_iload_n dX7_readsItem_213 rfl ?_
        refine T_cV_3 dX7_readsItem_214 lkX7_151 rfl (Nat.le_of_ble_eq_true rfl) (RO_r (by decide)) (Nat.le_of_ble_eq_true rfl) ?_
        refine r_readsSign hK4 e15 (by omega) (by omega) (fun o4 D5 f5 e5 => ?_) (fun o4 D5 f5 e5 => ?_)
        · refine T_if_eq 262 dX7_readsItem_217 (by decide) (by unfold InR; decide) (fun h => absurd h (by decide)) (fun _ => ?_)
          refine T_aload_n dX7_readsItem_220 rfl ?_
          refine T_iconst dX7_readsItem_221 ?_
          refine T_aload_n dX7_readsItem_222 rfl ?_
          refine T_getI dX7_readsItem_223 flX7_144 rfl rfl ?_
          rw [f5.2 12 (by decide), e12]
          refine T_imul dX7_readsItem_226 ?_
          refine T_iconst dX7_readsItem_227 ?_
          refine T_iadd dX7_readsItem_228 ?_
          refine T_iload_n dX7_readsItem_229 rfl ?_
          refine T_iload_n dX7_readsItem_230 rfl ?_
          refine T_iload_n dX7_readsItem_231 rfl ?_
          refine T_iconst dX7_readsItem_232 ?_
          refine T_icmp_ne 240 dX7_readsItem_233 (by decide) (by unfold InR; omega) (by first | (unfold InR; omega) | (simp [st2, InR]; omega)) (fun hc233 => (by exfalso; omega)) (fun hc233 => ?_)
          refine T_iconst dX7_readsItem_236 ?_
          refine T_goto (tgt := 241) dX7_readsItem_237 (by decide) ?_
          refine T_iload_n dX7_readsItem_241 rfl ?_
          refine T_iconst dX7_readsItem_242 ?_
          refine T_icmp_ne 250 dX7_readsItem_243 (by decide) (by unfold InR; omega) (by first | (unfold InR; omega) | (simp [st2, InR]; omega)) (fun hc243 => (by exfalso; omega)) (fun hc243 => ?_)
          refine T_iconst dX7_readsItem_246 ?_
          refine T_goto (tgt := 252) dX7_readsItem_247 (by decide) ?_
          rw [show 3 * (m : Int) + 2 = ((3 * m + 2 : Nat) : Int) by omega]
          refine T_cV_5 dX7_readsItem_252 lkX7_147 rfl (Nat.le_of_ble_eq_true rfl) (RO_r (by decide)) (Nat.le_of_ble_eq_true rfl) ?_
          refine r_readsNumber (hK4.of (f5.1 79 (by decide))) e5 (by omega) (by omega) (by omega) (by omega) (fun o5 D6 f6 e6 v6' => ?_) (fun o5 D6 f6 e6 => ?_)
          · refine T_if_eq 262 dX7_readsItem_255 (by decide) (by unfold InR; decide) (fun h => absurd h (by decide)) (fun _ => ?_)
            refine T_iconst dX7_readsItem_258 ?_
            refine T_goto (tgt := 263) dX7_readsItem_259 (by decide) ?_
            refine T_istore dX7_readsItem_263 (by decide) ?_
            refine T_aload_n dX7_readsItem_265 rfl ?_
            refine T_dup dX7_readsItem_266 rfl ?_
            refine T_getI dX7_readsItem_267 flX7_144 rfl rfl ?_
            refine T_iload dX7_readsItem_270 rfl ?_
            refine T_if_eq 279 dX7_readsItem_272 (by decide) (by unfold InR; decide) (fun h => absurd h (by decide)) (fun _ => ?_)
            refine T_iconst dX7_readsItem_275 ?_
            refine T_goto (tgt := 280) dX7_readsItem_276 (by decide) ?_
            refine T_iadd dX7_readsItem_280 ?_
            refine T_putI dX7_readsItem_281 flX7_144 rfl rfl ?_
            refine T_iload dX7_readsItem_284 rfl ?_
            refine T_zret dX7_readsItem_286 rfl (by decide) ?_
            have e12' : D6 57 12 = m := by rw [f6.2.1 12 (by decide), f5.2 12 (by decide)]; exact e12
            rw [e12']
            refine k1 (itF_g hok' o1 o2 o3 (by rw [s1]; exact o4) (by rw [s2, s3]; exact o5)) _ (((f4.tr f5.r).tr (f6.r (by omega))).tr FrR.many) (by rw [st2_ne (by decide), e6]; rfl) (by rw [st2_at]; omega) ⟨?_, ?_, ?_, ?_⟩
            · rw [st2_row (by decide), f6.1 66 (by decide) (by decide), f5.1 66 (by decide)]; exact e66
            · rw [st2_row (by decide), f6.2.2 _ (by omega), f5.1 67 (by decide)]; exact ex
            · rw [st2_row (by decide), f6.2.2 _ (by omega), f5.1 67 (by decide)]; exact ey
            · rw [st2_row (by decide)]; exact v6'
          · refine T_if_eq 262 dX7_readsItem_255 (by decide) (by unfold InR; decide) (fun _ => ?_) (fun h => absurd (by decide) h)
            first
            | exact fail D5 _ _ (f4.tr f5.r) e5 (itF_e hok' o1 o2 o3 (by rw [s1]; exact o4)).symm (by omega)
            | exact fail D6 _ _ ((f4.tr f5.r).tr (f6.r (by omega))) e6 (itF_f hok' o1 o2 o3 (by rw [s1]; exact o4) (by rw [s2, s3]; exact o5)).symm (by omega)
        · refine T_if_eq 262 dX7_readsItem_217 (by decide) (by unfold InR; decide) (fun _ => ?_) (fun h => absurd (by decide) h)
          first
          | exact fail D5 _ _ (f4.tr f5.r) e5 (itF_e hok' o1 o2 o3 (by rw [s1]; exact o4)).symm (by omega)
          | exact fail D6 _ _ ((f4.tr f5.r).tr (f6.r (by omega))) e6 (itF_f hok' o1 o2 o3 (by rw [s1]; exact o4) (by rw [s2, s3]; exact o5)).symm (by omega)
      · have s1 : sgn (kdR (co (psT co m))) = 61 := by unfold sgn; rw [← kk, if_neg k3]
        have s2 : loT (kdR (co (psT co m))) = 0 := by unfold loT; rw [← kk, if_neg k3]
        have s3 : hiT (kdR (co (psT co m))) = 50 := by unfold hiT; rw [← kk, if_neg k3]
        refine T_aload_n dX7_readsItem_199 rfl ?_
        refine T_iload_n dX7_readsItem_200 rfl ?_
        refine T_iconst dX7_readsItem_201 ?_
        refine T_icmp_ne 210 dX7_readsItem_202 (by decide) (by unfold InR; omega) (by first | (unfold InR; omega) | (simp [st2, InR]; omega)) (fun hc202 => ?_) (fun hc202 => (by exfalso; omega))
        refine T_bipush dX7_readsItem_210 (by decide) ?_
        refine T_iload_n dX7_readsItem_212 rfl ?_
        refine T_iload_n dX7_readsItem_213 rfl ?_
        refine T_cV_3 dX7_readsItem_214 lkX7_151 rfl (Nat.le_of_ble_eq_true rfl) (RO_r (by decide)) (Nat.le_of_ble_eq_true rfl) ?_
        refine r_readsSign hK4 e15 (by omega) (by omega) (fun o4 D5 f5 e5 => ?_) (fun o4 D5 f5 e5 => ?_)
        · refine T_if_eq 262 dX7_readsItem_217 (by decide) (by unfold InR; decide) (fun h => absurd h (by decide)) (fun _ => ?_)
          refine T_aload_n dX7_readsItem_220 rfl ?_
          refine T_iconst dX7_readsItem_221 ?_
          refine T_aload_n dX7_readsItem_222 rfl ?_
          refine T_getI dX7_readsItem_223 flX7_144 rfl rfl ?_
          rw [f5.2 12 (by decide), e12]
          refine T_imul dX7_readsItem_226 ?_
          refine T_iconst dX7_readsItem_227 ?_
          refine T_iadd dX7_readsItem_228 ?_
          refine T_iload_n dX7_readsItem_229 rfl ?_
          refine T_iload_n dX7_readsItem_230 rfl ?_
          refine T_iload_n dX7_readsItem_231 rfl ?_
          refine T_iconst dX7_readsItem_232 ?_
          refine T_icmp_ne 240 dX7_readsItem_233 (by decide) (by unfold InR; omega) (by first | (unfold InR; omega) | (simp [st2, InR]; omega)) (fun hc233 => ?_) (fun hc233 => (by exfalso; omega))
          refine T_iconst dX7_readsItem_240 ?_
          refine T_iload_n dX7_readsItem_241 rfl ?_
          refine T_iconst dX7_readsItem_242 ?_
          refine T_icmp_ne 250 dX7_readsItem_243 (by decide) (by unfold InR; omega) (by first | (unfold InR; omega) | (simp [st2, InR]; omega)) (fun hc243 => ?_) (fun hc243 => (by exfalso; omega))
          refine T_bipush dX7_readsItem_250 (by decide) ?_
          rw [show 3 * (m : Int) + 2 = ((3 * m + 2 : Nat) : Int) by omega]
          refine T_cV_5 dX7_readsItem_252 lkX7_147 rfl (Nat.le_of_ble_eq_true rfl) (RO_r (by decide)) (Nat.le_of_ble_eq_true rfl) ?_
          refine r_readsNumber (hK4.of (f5.1 79 (by decide))) e5 (by omega) (by omega) (by omega) (by omega) (fun o5 D6 f6 e6 v6' => ?_) (fun o5 D6 f6 e6 => ?_)
          · refine T_if_eq 262 dX7_readsItem_255 (by decide) (by unfold InR; decide) (fun h => absurd h (by decide)) (fun _ => ?_)
            refine T_iconst dX7_readsItem_258 ?_
            refine T_goto (tgt := 263) dX7_readsItem_259 (by decide) ?_
            refine T_istore dX7_readsItem_263 (by decide) ?_
            refine T_aload_n dX7_readsItem_265 rfl ?_
            refine T_dup dX7_readsItem_266 rfl ?_
            refine T_getI dX7_readsItem_267 flX7_144 rfl rfl ?_
            refine T_iload dX7_readsItem_270 rfl ?_
            refine T_if_eq 279 dX7_readsItem_272 (by decide) (by unfold InR; decide) (fun h => absurd h (by decide)) (fun _ => ?_)
            refine T_iconst dX7_readsItem_275 ?_
            refine T_goto (tgt := 280) dX7_readsItem_276 (by decide) ?_
            refine T_iadd dX7_readsItem_280 ?_
            refine T_putI dX7_readsItem_281 flX7_144 rfl rfl ?_
            refine T_iload dX7_readsItem_284 rfl ?_
            refine T_zret dX7_readsItem_286 rfl (by decide) ?_
            have e12' : D6 57 12 = m := by rw [f6.2.1 12 (by decide), f5.2 12 (by decide)]; exact e12
            rw [e12']
            refine k1 (itF_g hok' o1 o2 o3 (by rw [s1]; exact o4) (by rw [s2, s3]; exact o5)) _ (((f4.tr f5.r).tr (f6.r (by omega))).tr FrR.many) (by rw [st2_ne (by decide), e6]; rfl) (by rw [st2_at]; omega) ⟨?_, ?_, ?_, ?_⟩
            · rw [st2_row (by decide), f6.1 66 (by decide) (by decide), f5.1 66 (by decide)]; exact e66
            · rw [st2_row (by decide), f6.2.2 _ (by omega), f5.1 67 (by decide)]; exact ex
            · rw [st2_row (by decide), f6.2.2 _ (by omega), f5.1 67 (by decide)]; exact ey
            · rw [st2_row (by decide)]; exact v6'
          · refine T_if_eq 262 dX7_readsItem_255 (by decide) (by unfold InR; decide) (fun _ => ?_) (fun h => absurd (by decide) h)
            first
            | exact fail D5 _ _ (f4.tr f5.r) e5 (itF_e hok' o1 o2 o3 (by rw [s1]; exact o4)).symm (by omega)
            | exact fail D6 _ _ ((f4.tr f5.r).tr (f6.r (by omega))) e6 (itF_f hok' o1 o2 o3 (by rw [s1]; exact o4) (by rw [s2, s3]; exact o5)).symm (by omega)
        · refine T_if_eq 262 dX7_readsItem_217 (by decide) (by unfold InR; decide) (fun _ => ?_) (fun h => absurd (by decide) h)
          first
          | exact fail D5 _ _ (f4.tr f5.r) e5 (itF_e hok' o1 o2 o3 (by rw [s1]; exact o4)).symm (by omega)
          | exact fail D6 _ _ ((f4.tr f5.r).tr (f6.r (by omega))) e6 (itF_f hok' o1 o2 o3 (by rw [s1]; exact o4) (by rw [s2, s3]; exact o5)).symm (by omega)
    refine T_aload_n dX7_readsItem_118 rfl ?_
    refine T_dup dX7_readsItem_119 rfl ?_
    refine T_getI dX7_readsItem_120 flX7_134 rfl rfl ?_
    refine T_iconst dX7_readsItem_123 ?_
    refine T_iadd dX7_readsItem_124 ?_
    rw [h15, show (psT co m : Int) + 1 = ((psT co m + 1 : Nat) : Int) by omega]
    refine T_putI dX7_readsItem_125 flX7_134 rfl rfl ?_
    refine T_aload_n dX7_readsItem_128 rfl ?_
    refine T_getR dX7_readsItem_129 flX7_35 rfl rfl ?_
    refine T_aload_n dX7_readsItem_132 rfl ?_
    refine T_getI dX7_readsItem_133 flX7_144 rfl rfl ?_
    rw [st2_ne (show (12 : Nat) ≠ 15 by decide), h12]
    refine T_iload_n dX7_readsItem_136 rfl ?_
    refine T_iast dX7_readsItem_137 rfl (by first | decide | omega) (by first | omega | (simp [st2]; omega)) (by first | omega | (simp [st2]; omega)) ?_
    rw [emt, hD1]
    refine T_aload_n dX7_readsItem_138 rfl ?_
    refine T_iconst dX7_readsItem_139 ?_
    refine T_aload_n dX7_readsItem_140 rfl ?_
    refine T_getI dX7_readsItem_141 flX7_144 rfl rfl ?_
    rw [g12]
    refine T_imul dX7_readsItem_144 ?_
    refine T_iload_n dX7_readsItem_145 rfl ?_
    refine T_iload_n dX7_readsItem_146 rfl ?_
    refine T_iconst dX7_readsItem_147 ?_
    refine T_bipush dX7_readsItem_148 (by decide) ?_
    rw [show 3 * (m : Int) = ((3 * m : Nat) : Int) by omega]
    refine T_cV_5 dX7_readsItem_150 lkX7_147 rfl (Nat.le_of_ble_eq_true rfl) (RO_r (by decide)) (Nat.le_of_ble_eq_true rfl) ?_
    refine r_readsNumber hK1 g15 (by omega) (by omega) (by omega) (by omega) (fun o1 D2 f2 e2 v2 => ?_) (fun o1 D2 f2 e2 => ?_)
    · refine T_if_eq 191 dX7_readsItem_153 (by decide) (by unfold InR; decide) (fun h => absurd h (by decide)) (fun _ => ?_)
      refine T_aload_n dX7_readsItem_156 rfl ?_
      refine T_bipush dX7_readsItem_157 (by decide) ?_
      refine T_iload_n dX7_readsItem_159 rfl ?_
      refine T_iload_n dX7_readsItem_160 rfl ?_
      refine T_cV_3 dX7_readsItem_161 lkX7_151 rfl (Nat.le_of_ble_eq_true rfl) (RO_r (by decide)) (Nat.le_of_ble_eq_true rfl) ?_
      refine r_readsSign (p := q2 co (psT co m)) (hK1.of (f2.1 79 (by decide) (by decide))) e2 (by omega) (by omega) (fun o2 D3 f3 e3 => ?_) (fun o2 D3 f3 e3 => ?_)
      · refine T_if_eq 191 dX7_readsItem_164 (by decide) (by unfold InR; decide) (fun h => absurd h (by decide)) (fun _ => ?_)
        refine T_aload_n dX7_readsItem_167 rfl ?_
        refine T_iconst dX7_readsItem_168 ?_
        refine T_aload_n dX7_readsItem_169 rfl ?_
        refine T_getI dX7_readsItem_170 flX7_144 rfl rfl ?_
        rw [f3.2 12 (by decide), f2.2.1 12 (by decide), g12]
        refine T_imul dX7_readsItem_173 ?_
        refine T_iconst dX7_readsItem_174 ?_
        refine T_iadd dX7_readsItem_175 ?_
        refine T_iload_n dX7_readsItem_176 rfl ?_
        refine T_iload_n dX7_readsItem_177 rfl ?_
        refine T_iconst dX7_readsItem_178 ?_
        refine T_bipush dX7_readsItem_179 (by decide) ?_
        rw [show 3 * (m : Int) + 1 = ((3 * m + 1 : Nat) : Int) by omega]
        refine T_cV_5 dX7_readsItem_181 lkX7_147 rfl (Nat.le_of_ble_eq_true rfl) (RO_r (by decide)) (Nat.le_of_ble_eq_true rfl) ?_
        refine r_readsNumber ((hK1.of (f2.1 79 (by decide) (by decide))).of (f3.1 79 (by decide))) e3 (by omega) (by omega) (by omega) (by omega) (fun o3 D4 f4 e4 v4' => ?_) (fun o3 D4 f4 e4 => ?_)
        · refine T_if_eq 191 dX7_readsItem_184 (by decide) (by unfold InR; decide) (fun h => absurd h (by decide)) (fun _ => ?_)
          refine T_iconst dX7_readsItem_187 ?_
          refine T_goto (tgt := 192) dX7_readsItem_188 (by decide) ?_
          refine T_istore dX7_readsItem_192 (by decide) ?_
          refine T_iload dX7_readsItem_194 rfl ?_
          refine T_if_eq 262 dX7_readsItem_196 (by decide) (by unfold InR; decide) (fun h => absurd h (by decide)) (fun _ => ?_)
          refine third D4 _ o1 o2 o3 (((f1.tr (f2.r (by omega))).tr f3.r).tr (f4.r (by omega))) e4 (by rw [f4.2.1 12 (by decide), f3.2 12 (by decide), f2.2.1 12 (by decide)]; exact g12) (by rw [f4.1 66 (by decide) (by decide), f3.1 66 (by decide), f2.1 66 (by decide) (by decide)]; exact g66) (by rw [f4.2.2 _ (by omega), f3.1 67 (by decide)]; exact v2) v4'
        · refine T_if_eq 191 dX7_readsItem_184 (by decide) (by unfold InR; decide) (fun _ => ?_) (fun h => absurd (by decide) h)
          refine T_iconst dX7_readsItem_191 ?_
          refine T_istore dX7_readsItem_192 (by decide) ?_
          refine T_iload dX7_readsItem_194 rfl ?_
          refine T_if_eq 262 dX7_readsItem_196 (by decide) (by unfold InR; decide) (fun _ => ?_) (fun h => absurd (by decide) h)
          first
          | exact fail D2 _ _ (f1.tr (f2.r (by omega))) e2 (itF_b hok' o1).symm (by omega)
          | exact fail D3 _ _ ((f1.tr (f2.r (by omega))).tr f3.r) e3 (itF_c hok' o1 o2).symm (by omega)
          | exact fail D4 _ _ (((f1.tr (f2.r (by omega))).tr f3.r).tr (f4.r (by omega))) e4 (itF_d hok' o1 o2 o3).symm (by omega)
      · refine T_if_eq 191 dX7_readsItem_164 (by decide) (by unfold InR; decide) (fun _ => ?_) (fun h => absurd (by decide) h)
        refine T_iconst dX7_readsItem_191 ?_
        refine T_istore dX7_readsItem_192 (by decide) ?_
        refine T_iload dX7_readsItem_194 rfl ?_
        refine T_if_eq 262 dX7_readsItem_196 (by decide) (by unfold InR; decide) (fun _ => ?_) (fun h => absurd (by decide) h)
        first
        | exact fail D2 _ _ (f1.tr (f2.r (by omega))) e2 (itF_b hok' o1).symm (by omega)
        | exact fail D3 _ _ ((f1.tr (f2.r (by omega))).tr f3.r) e3 (itF_c hok' o1 o2).symm (by omega)
        | exact fail D4 _ _ (((f1.tr (f2.r (by omega))).tr f3.r).tr (f4.r (by omega))) e4 (itF_d hok' o1 o2 o3).symm (by omega)
    · refine T_if_eq 191 dX7_readsItem_153 (by decide) (by unfold InR; decide) (fun _ => ?_) (fun h => absurd (by decide) h)
      refine T_iconst dX7_readsItem_191 ?_
      refine T_istore dX7_readsItem_192 (by decide) ?_
      refine T_iload dX7_readsItem_194 rfl ?_
      refine T_if_eq 262 dX7_readsItem_196 (by decide) (by unfold InR; decide) (fun _ => ?_) (fun h => absurd (by decide) h)
      first
      | exact fail D2 _ _ (f1.tr (f2.r (by omega))) e2 (itF_b hok' o1).symm (by omega)
      | exact fail D3 _ _ ((f1.tr (f2.r (by omega))).tr f3.r) e3 (itF_c hok' o1 o2).symm (by omega)
      | exact fail D4 _ _ (((f1.tr (f2.r (by omega))).tr f3.r).tr (f4.r (by omega))) e4 (itF_d hok' o1 o2 o3).symm (by omega)
  have refuse : ¬ kOk (kT co m) (hcT co m) (m - hcT co m) → P (some (iI 0)) SH D := fun z => k0 (by rw [show fT co m = (psT co m : Int) from itF_a z]; omega) D (FrG.rf.r) (by rw [h15]; exact (itF_a z).symm)
  have count : ∀ (q t : Nat), q + t = m → T g mX7_readsItem (rmd (d + 2) 0 0) 0 0 (Qm g (rmd (d + 2) 0 0) P) 33 [some (.ref 57), some (iI fr), some (iI n), some (iI (kT co m)), some (iI (hcT co t)), some (iI t), none] [] SH D := by
    intro q
    induction q with
    | zero =>
      intro t hq
      obtain rfl : t = m := by omega
      have kk : -1 ≤ kT co t ∧ kT co t ≤ 3 := kb
      refine T_iload dX7_readsItem_33 rfl ?_
      refine T_aload_n dX7_readsItem_35 rfl ?_
      refine T_getI dX7_readsItem_36 flX7_144 rfl rfl ?_
      refine T_icmp_ge 69 dX7_readsItem_39 (by decide) (by first | (unfold InR; omega) | (simp [st2, InR]; omega)) (by first | (unfold InR; omega) | (simp [st2, InR]; omega)) (fun hc39 => ?_) (fun hc39 => (by exfalso; omega))
      refine T_iload_n dX7_readsItem_69 rfl ?_
      refine T_iconst dX7_readsItem_70 ?_
      refine T_icmp_ne 89 dX7_readsItem_71 (by decide) (by unfold InR; omega) (by first | (unfold InR; omega) | (simp [st2, InR]; omega)) (fun hc71 => ?_) (fun hc71 => ?_)
      · refine T_aload_n dX7_readsItem_89 rfl ?_
        refine T_getI dX7_readsItem_90 flX7_144 rfl rfl ?_
        refine T_iload dX7_readsItem_93 rfl ?_
        refine T_isub dX7_readsItem_95 ?_
        refine T_iconst dX7_readsItem_96 ?_
        refine T_icmp_ge 104 dX7_readsItem_97 (by decide) (by first | (unfold InR; omega) | (simp [st2, InR]; omega)) (by first | (unfold InR; omega) | (simp [st2, InR]; omega)) (fun hc97 => ?_) (fun hc97 => ?_)
        · refine T_iconst dX7_readsItem_104 ?_
          refine T_istore dX7_readsItem_105 (by decide) ?_
          refine T_iload_n dX7_readsItem_107 rfl ?_
          refine T_if_lt 116 dX7_readsItem_108 (by decide) (by unfold InR; omega) (fun hc108 => ?_) (fun hc108 => ?_)
          · refine T_iconst dX7_readsItem_116 ?_
            refine T_zret dX7_readsItem_117 rfl (by decide) ?_
            first
            | (exfalso; omega)
            | exact refuse (by unfold kOk; omega)
          · refine T_iload dX7_readsItem_111 rfl ?_
            refine T_if_ne 118 dX7_readsItem_113 (by decide) (by unfold InR; decide) (fun h => absurd h (by decide)) (fun _ => ?_)
            refine T_iconst dX7_readsItem_116 ?_
            refine T_zret dX7_readsItem_117 rfl (by decide) ?_
            first
            | (exfalso; omega)
            | exact refuse (by unfold kOk; omega)
        · refine T_iconst dX7_readsItem_100 ?_
          refine T_goto (tgt := 105) dX7_readsItem_101 (by decide) ?_
          refine T_istore dX7_readsItem_105 (by decide) ?_
          refine T_iload_n dX7_readsItem_107 rfl ?_
          refine T_if_lt 116 dX7_readsItem_108 (by decide) (by unfold InR; omega) (fun hc108 => ?_) (fun hc108 => ?_)
          · refine T_iconst dX7_readsItem_116 ?_
            refine T_zret dX7_readsItem_117 rfl (by decide) ?_
            first
            | (exfalso; omega)
            | exact refuse (by unfold kOk; omega)
          · refine T_iload dX7_readsItem_111 rfl ?_
            refine T_if_ne 118 dX7_readsItem_113 (by decide) (by unfold InR; decide) (fun _ => ?_) (fun h => absurd (by decide) h)
            first
            | (exfalso; omega)
            | exact last (by unfold kOk; omega) _ _
      · refine T_iload dX7_readsItem_74 rfl ?_
        refine T_bipush dX7_readsItem_76 (by decide) ?_
        refine T_icmp_ge 85 dX7_readsItem_78 (by decide) (by first | (unfold InR; omega) | (simp [st2, InR]; omega)) (by first | (unfold InR; omega) | (simp [st2, InR]; omega)) (fun hc78 => ?_) (fun hc78 => ?_)
        · refine T_iconst dX7_readsItem_85 ?_
          refine T_goto (tgt := 105) dX7_readsItem_86 (by decide) ?_
          refine T_istore dX7_readsItem_105 (by decide) ?_
          refine T_iload_n dX7_readsItem_107 rfl ?_
          refine T_if_lt 116 dX7_readsItem_108 (by decide) (by unfold InR; omega) (fun hc108 => ?_) (fun hc108 => ?_)
          · refine T_iconst dX7_readsItem_116 ?_
            refine T_zret dX7_readsItem_117 rfl (by decide) ?_
            first
            | (exfalso; omega)
            | exact refuse (by unfold kOk; omega)
          · refine T_iload dX7_readsItem_111 rfl ?_
            refine T_if_ne 118 dX7_readsItem_113 (by decide) (by unfold InR; decide) (fun h => absurd h (by decide)) (fun _ => ?_)
            refine T_iconst dX7_readsItem_116 ?_
            refine T_zret dX7_readsItem_117 rfl (by decide) ?_
            first
            | (exfalso; omega)
            | exact refuse (by unfold kOk; omega)
        · refine T_iconst dX7_readsItem_81 ?_
          refine T_goto (tgt := 105) dX7_readsItem_82 (by decide) ?_
          refine T_istore dX7_readsItem_105 (by decide) ?_
          refine T_iload_n dX7_readsItem_107 rfl ?_
          refine T_if_lt 116 dX7_readsItem_108 (by decide) (by unfold InR; omega) (fun hc108 => ?_) (fun hc108 => ?_)
          · refine T_iconst dX7_readsItem_116 ?_
            refine T_zret dX7_readsItem_117 rfl (by decide) ?_
            first
            | (exfalso; omega)
            | exact refuse (by unfold kOk; omega)
          · refine T_iload dX7_readsItem_111 rfl ?_
            refine T_if_ne 118 dX7_readsItem_113 (by decide) (by unfold InR; decide) (fun _ => ?_) (fun h => absurd (by decide) h)
            first
            | (exfalso; omega)
            | exact last (by unfold kOk; omega) _ _
    | succ q ih =>
      intro t hq
      have et : (t : Int).toNat = t := Int.toNat_natCast t
      have e66 : D 66 (t : Int).toNat = kT co t := by rw [et]; exact h66 t (by omega)
      have kk : -1 ≤ kT co t ∧ kT co t ≤ 3 := kdR_bd _
      have ih := ih (t + 1) (by omega)
      simp only [hcT] at ih
      refine T_iload dX7_readsItem_33 rfl ?_
      refine T_aload_n dX7_readsItem_35 rfl ?_
      refine T_getI dX7_readsItem_36 flX7_144 rfl rfl ?_
      refine T_icmp_ge 69 dX7_readsItem_39 (by decide) (by first | (unfold InR; omega) | (simp [st2, InR]; omega)) (by first | (unfold InR; omega) | (simp [st2, InR]; omega)) (fun hc39 => (by exfalso; omega)) (fun hc39 => ?_)
      refine T_iload dX7_readsItem_42 rfl ?_
      refine T_aload_n dX7_readsItem_44 rfl ?_
      refine T_getR dX7_readsItem_45 flX7_35 rfl rfl ?_
      refine T_iload dX7_readsItem_48 rfl ?_
      refine T_iald dX7_readsItem_50 rfl (by first | decide | omega) (by first | omega | (simp [st2]; omega)) (by first | omega | (simp [st2]; omega)) ?_
      refine T_iconst dX7_readsItem_51 ?_
      refine T_icmp_ne 59 dX7_readsItem_52 (by decide) (by rw [e66]; unfold InR; omega) (by first | (unfold InR; omega) | (simp [st2, InR]; omega)) (fun hc52 => ?_) (fun hc52 => ?_)
      · rw [e66] at hc52
        refine T_iconst dX7_readsItem_59 ?_
        refine T_iadd dX7_readsItem_60 ?_
        refine T_istore dX7_readsItem_61 (by decide) ?_
        refine T_iinc dX7_readsItem_63 rfl (by decide) ?_
        refine T_goto (tgt := 33) dX7_readsItem_66 (by decide) ?_
        first
        | (rw [if_neg (by omega)] at ih; rw [Int.add_zero]; exact ih)
        | (rw [if_pos (by omega)] at ih; exact ih)
      · rw [e66] at hc52
        refine T_iconst dX7_readsItem_55 ?_
        refine T_goto (tgt := 60) dX7_readsItem_56 (by decide) ?_
        refine T_iadd dX7_readsItem_60 ?_
        refine T_istore dX7_readsItem_61 (by decide) ?_
        refine T_iinc dX7_readsItem_63 rfl (by decide) ?_
        refine T_goto (tgt := 33) dX7_readsItem_66 (by decide) ?_
        first
        | (rw [if_neg (by omega)] at ih; rw [Int.add_zero]; exact ih)
        | (rw [if_pos (by omega)] at ih; exact ih)
  have cd : psT co m < n → D 79 ((fr : Int) + D 57 15).toNat = co (psT co m) := fun hq => by
    rw [h15, show ((fr : Int) + psT co m).toNat = fr + psT co m by omega]; exact c3 _ hq
  have c0 := count m 0 (by omega)
  refine T_aload_n dX7_readsItem_0 rfl ?_
  refine T_getI dX7_readsItem_1 flX7_134 rfl rfl ?_
  refine T_iload_n dX7_readsItem_4 rfl ?_
  refine T_icmp_ge 25 dX7_readsItem_5 (by decide) (by unfold InR; omega) (by unfold InR; omega) (fun hc5 => ?_) (fun hc5 => ?_)
  · refine T_iconst dX7_readsItem_25 ?_
    refine T_istore_n dX7_readsItem_26 (by decide) ?_
    refine T_iconst dX7_readsItem_27 ?_
    refine T_istore dX7_readsItem_28 (by decide) ?_
    refine T_iconst dX7_readsItem_30 ?_
    refine T_istore dX7_readsItem_31 (by decide) ?_
    first
    | exact c0
    | (have e : kT co m = -1 := by unfold kT; rw [c4 _ (by omega)]; decide
       rw [e] at c0
       exact c0)
  · refine T_aload_n dX7_readsItem_8 rfl ?_
    refine T_getR dX7_readsItem_9 flX7_74 rfl rfl ?_
    refine T_iload_n dX7_readsItem_12 rfl ?_
    refine T_aload_n dX7_readsItem_13 rfl ?_
    refine T_getI dX7_readsItem_14 flX7_134 rfl rfl ?_
    refine T_iadd dX7_readsItem_17 ?_
    refine T_iald dX7_readsItem_18 rfl (by first | decide | omega) (by first | omega | (simp [st2]; omega)) (by first | omega | (simp [st2]; omega)) ?_
    rw [cd (by omega)]
    refine T_cS_1 dX7_readsItem_19 lkX7_141 (Nat.le_of_ble_eq_true rfl) (RO_r (by decide)) (Nat.le_of_ble_eq_true rfl) ?_
    refine r_kindBy (c5 _) ?_
    refine T_goto (tgt := 26) dX7_readsItem_22 (by decide) ?_
    refine T_istore_n dX7_readsItem_26 (by decide) ?_
    refine T_iconst dX7_readsItem_27 ?_
    refine T_istore dX7_readsItem_28 (by decide) ?_
    refine T_iconst dX7_readsItem_30 ?_
    refine T_istore dX7_readsItem_31 (by decide) ?_
    first
    | exact c0
    | (have e : kT co m = -1 := by unfold kT; rw [c4 _ (by omega)]; decide
       rw [e] at c0
       exact c0)
end

