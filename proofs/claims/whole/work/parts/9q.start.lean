theorem iv_0 : IV 0 dB := by
  have z : ∀ r j, r ≠ 1 → r ≠ 0 → r ≠ 57 → r ≠ 77 → dB r j = 0 := fun r j a b c d => by
    unfold dB dA
    rw [st2_row d, st2_row d, st2_row d, st2_row d, st2_row c, st2_row b, st2_row b, st2_row b, st2_row a]
    rfl
  have b77 : ∀ t : Nat, t < 4 → dB 77 t = -1 := fun t ht => by
    rcases (show t = 0 ∨ t = 1 ∨ t = 2 ∨ t = 3 by omega) with rfl | rfl | rfl | rfl <;> decide
  have e11 : dB 1 11 = 0 := by decide
  have h8 : dB 1 8 = 0 := by decide
  have h9 : dB 1 9 = 0 := by decide
  have h11 : dB 0 11 = -1 := by decide
  have h12 : dB 0 12 = -1 := by decide
  have h13 : dB 0 13 = -1 := by decide
  have p9 : dB 0 9 = 0 := by decide
  refine ⟨⟨by decide, by decide, by decide, by decide, fun j => ?_, fun j => ?_, fun j => ?_, fun j => ?_, fun j => ?_, fun j => ?_, fun j => ?_, fun j => ?_⟩, ⟨by decide, by decide, by decide, fun j => ?_, fun j => ?_, fun j => ?_, fun j => ?_, fun j => ?_, fun j => ?_, fun j => ?_, fun j => ?_⟩, ⟨by decide, fun x hx => ?_, fun x hx => ?_, fun x c hx => ?_, fun x c _ hx hc => z 65 _ (by decide) (by decide) (by decide) (by decide)⟩, fun t ht => ?_, ⟨fun t ht => ?_, fun j => ?_⟩, fun t ht => ?_, ⟨by decide, fun p => ?_⟩, ⟨by decide, fun p => ?_⟩, ⟨by decide, fun p hp => ?_⟩, by decide, by decide, ⟨by decide, by decide, fun e => ?_⟩, ⟨by decide, by decide, fun e => ?_⟩, ⟨by decide, by decide, fun e => ?_⟩, by decide⟩
  all_goals first
    | (rw [z _ _ (by decide) (by decide) (by decide) (by decide)]; first | decide | (unfold InR; omega))
    | (rw [h8] at hx; exact absurd hx (by simp))
    | (rw [h9] at hx; exact absurd hx (by simp))
    | (rw [p9] at hp; exact absurd hp (by simp))
    | (exfalso; omega)
    | (rw [b77 t ht, z 78 _ (by decide) (by decide) (by decide) (by decide)]; decide)
    | (rw [z _ _ (by decide) (by decide) (by decide) (by decide), z _ _ (by decide) (by decide) (by decide) (by decide)]; decide)
    | (rw [z (49 + 2 * t) 1 (by omega) (by omega) (by omega) (by omega), z (49 + 2 * t) 2 (by omega) (by omega) (by omega) (by omega), z (49 + 2 * t) 3 (by omega) (by omega) (by omega) (by omega)]
       exact ⟨Or.inl rfl, by decide, by decide, fun j => by rw [z (49 + 2 * t + 1) j (by omega) (by omega) (by omega) (by omega)]; unfold InR; omega⟩)
    | (rw [b77 t ht, z (49 + 2 * t) 1 (by omega) (by omega) (by omega) (by omega)]; exact ⟨⟨fun e => absurd e (by decide), fun e => absurd e (by decide)⟩, fun e => absurd e (by decide)⟩)
section
variable {g : G0}
theorem law_init (hN : g.2.1.2.1 ≤ 3072) : T g mL_law room_1 600000 7302250 lw_Z 0 [some (.float 0), none, none, none] [] [] zD := by
  have K := law_loop (g := g) hN 600 0 dB iv_0 (by omega)
  refine T_new (N := 17) (nc := 599999) (ns := 7302233) dL_law_0 nwL_7 (fun _ => rfl) ?_
  refine T_dup dL_law_3 rfl ?_
  refine T_cI1 (d := 3) (a := 56) (b0 := 1052) (nc := 599943) (ns := 7301181) rfl rfl dL_law_4 lkL_9 (Nat.le_of_ble_eq_true rfl) (RO_l (d := 3) (by decide)) (Nat.le_of_ble_eq_true rfl) ?_
  refine i_near ?_
  refine T_astore_n dL_law_7 (by decide) ?_
  refine T_new (N := 31) (nc := 599942) (ns := 7301150) dL_law_8 nwL_10 (fun _ => rfl) ?_
  refine T_dup dL_law_11 rfl ?_
  refine T_cI1 (d := 3) (a := 23) (b0 := 713) (nc := 599919) (ns := 7300437) rfl rfl dL_law_12 lkL_12 (Nat.le_of_ble_eq_true rfl) (RO_l (d := 3) (by decide)) (Nat.le_of_ble_eq_true rfl) ?_
  refine i_model ?_
  refine T_astore_n dL_law_15 (by decide) ?_
  refine T_iconst dL_law_16 ?_
  refine T_istore_n dL_law_17 (by decide) ?_
  exact K
end
theorem kn_of {own : String} {idx ci N : Nat} {fs : List (Option Value)} {s : State} {args : Array Value} (hts : ∀ w ∈ tw, w.before args s = true) (h : NW own idx ci N fs) : ∃ (a : ClassId) (b : Nat → Nat), ∀ q : vw_C, vwCl[ci]? = some q → u_Kn s q.1 q.2.1 q.2.2 a b := by
  obtain ⟨C, Tt, ty0, ⟨hc, hin, -, -⟩, -, h2, -, -, -⟩ := h
  obtain ⟨a, b, hk⟩ := u_known (C := C) (T := Tt) (N := N) (n := N) hts hin (hts _ h2)
  refine ⟨a, b, fun q hq => ?_⟩
  rw [hc] at hq
  cases hq
  exact hk
theorem arr_of {ty : FieldType} {s : State} {args : Array Value} (h : (Cond.arrayClass ty).before args s = true) : ∃ cA : ClassId, ArrOfT s cA ty ∧ s.vm.findClass ("[" ++ ty.toString) = some cA := by
  obtain ⟨c, k, comp, h1, h2, h3⟩ := Cond.arrayClass_spec h
  exact ⟨c, fun n z => ⟨(fun k h => by cases h), k, h2, comp, h3⟩, h1⟩
theorem nest_in : ∀ w ∈ nestW, w ∈ lw_tbl := by decide +kernel
theorem over_in : Cond.arrayOver (.object RX4) ∈ lw_tbl := by decide +kernel
theorem whole_start {p : Program} {e : Env} {s : State} {m : MethodId} {below : List Frame} {meth : Method} {c : Code} (l : Launch) {b L : Nat} {xs : Nat → Int32} (hL : L ≤ 3072) (C0 : lw_At p s m meth c b L xs) : W p l e room_1 s m #[Value.ref b] below meth c s.heap [] 0 0 (lw_Z below #[Value.ref b] s) (entryFrame m ([Value.ref b] : List Value).toArray 4) := by
  obtain ⟨hx, hb, hr, hml, hown, hts, hX, hbl, hlocks, hgv⟩ := id C0
  have htw := tw_hts hts
  obtain ⟨a0, b0, k0⟩ := kn_of htw nwX6_35
  obtain ⟨a1, b1, k1⟩ := kn_of htw nwX6_9
  obtain ⟨a2, b2, k2⟩ := kn_of htw nwX6_18
  obtain ⟨a3, b3, k3⟩ := kn_of htw nwX6_25
  obtain ⟨a4, b4, k4⟩ := kn_of htw nwX6_49
  obtain ⟨a5, b5, k5⟩ := kn_of htw nwX6_42
  obtain ⟨a6, b6, k6⟩ := kn_of htw nwL_7
  obtain ⟨a7, b7, k7⟩ := kn_of htw nwL_10
  obtain ⟨cI, iI1, iI2⟩ := arr_of (htw _ tk_I)
  obtain ⟨cZ, iZ1, iZ2⟩ := arr_of (htw _ tk_Z)
  have hov := hts _ over_in
  obtain ⟨comp, cS, kS, o1, -, o3, o4, o5⟩ := Cond.arrayOver_spec hov
  have hKn : ∀ (k : Nat) (q : vw_C), vwCl[k]? = some q → u_Kn s q.1 q.2.1 q.2.2 ((fun k => if k = 0 then a0 else if k = 1 then a1 else if k = 2 then a2 else if k = 3 then a3 else if k = 4 then a4 else if k = 5 then a5 else if k = 6 then a6 else a7) k) ((fun k => if k = 0 then b0 else if k = 1 then b1 else if k = 2 then b2 else if k = 3 then b3 else if k = 4 then b4 else if k = 5 then b5 else if k = 6 then b6 else b7) k) := by
    intro k q hq
    match k, hq with
    | 0, hq => exact k0 q hq
    | 1, hq => exact k1 q hq
    | 2, hq => exact k2 q hq
    | 3, hq => exact k3 q hq
    | 4, hq => exact k4 q hq
    | 5, hq => exact k5 q hq
    | 6, hq => exact k6 q hq
    | 7, hq => exact k7 q hq
    | k + 8, hq => simp [vwCl] at hq
  generalize (fun k : Nat => if k = 0 then a0 else if k = 1 then a1 else if k = 2 then a2 else if k = 3 then a3 else if k = 4 then a4 else if k = 5 then a5 else if k = 6 then a6 else a7) = dC at hKn
  generalize (fun k : Nat => if k = 0 then b0 else if k = 1 then b1 else if k = 2 then b2 else if k = 3 then b3 else if k = 4 then b4 else if k = 5 then b5 else if k = 6 then b6 else b7) = dI at hKn
  have hKK : KK (s.heap.size, (b, L, xs), (dC, dI), cI, cZ, cS) s := by
    refine ⟨⟨hKn, fun k q hq => ?_⟩, fun w hw => ?_, va_AO.of hov⟩
    · match k, hq with
      | 0, hq => cases hq; exact ⟨iI1, iI2⟩
      | 1, hq => cases hq; exact ⟨iZ1, iZ2⟩
      | 2, hq => cases hq; exact ⟨fun N z => ⟨(fun k h => by cases h), kS, o3, comp, o4⟩, ⟨kS, comp, o3, o4, o1, o5⟩⟩
      | k + 3, hq => simp [tys] at hq
    · obtain ⟨n1, n2, n3, n4, rfl⟩ := nestW_ok w hw
      exact va_Nw.of rfl (hts _ (nest_in _ hw))
  rw [lg_entry_eq]
  have hlh := lh_entry (s.heap.size, (b, L, xs), (dC, dI), cI, cZ, cS) [.float 0] (n := 4) (by decide)
  exact law_init (g := (s.heap.size, (b, L, xs), (dC, dI), cI, cZ, cS)) hL p l e s m #[Value.ref b] below meth c s.heap [] 0 0 _ ⟨⟨hx, hb, hml, hr, hown, htw, hlocks, fun h => absurd h (by decide), hKK, Nat.le_refl _, fun _ => ⟨hX, hbl⟩⟩, fun k q h => by simp [wsO] at h, va_S.rf, hlh, rfl, rfl, rfl⟩
set_option maxHeartbeats 4000000 in
theorem lw_walk (l : Launch) (b : Addr) (xs : List Int32) : MetFree l x (headSpec (Jvm.Cond.code x code maxLocals ret :: tables_1) room_1) (lw_P b xs) (fun _ _ _ _ _ => True) lw_Q := by
  refine MetFree.of_bodyS (code := code) (maxLocals := maxLocals) (ret := ret) (by decide) ?_ ?_
  · intro args s m h hn
    obtain ⟨meth, c, h1, h2, h3, h4, h5, h6, -, -⟩ := Cond.code_spec hn (atoms_spec (ws := Jvm.Cond.code x code maxLocals ret :: tables_1) h _ List.mem_cons_self)
    exact ⟨meth, c, h1, h2, h3, h4, h5, h6⟩
  · intro p e s m args below meth c s₁ B hml0 hP _
    obtain ⟨rfl, hx, hbd, hgv⟩ := hP
    obtain ⟨scr, harrAt, hlist, hof, hsmall⟩ := hx
    obtain ⟨hcb, hkn, -, -⟩ := State.arrayAt?_spec harrAt
    have hown : s.vm.findClass R_law = some m.cls := findClass_of_methodNamed B.named
    have hts0 : ∀ c ∈ (Jvm.Cond.code x code maxLocals ret :: tables_1), c.before #[Value.ref b] s = true := atoms_spec (ws := Jvm.Cond.code x code maxLocals ret :: tables_1) B.pre
    have hts : ∀ w ∈ lw_tbl, w.before #[Value.ref b] s = true := k2_hts_sels lw_privs (fun w hw => hts0 w (List.mem_cons_of_mem _ hw)) lw_privs_ok
    have hml : c.maxLocals = 4 := B.maxLocals_eq (hts0 _ List.mem_cons_self)
    have X₀ : Stand p l e room_1 s m #[Value.ref b] below meth c s₁ [] 0 0 := Stand.of_body B
    have hh0 : s₁.heap = s.heap := by rw [B.state]; rfl
    have hsz : scr.slots.size = xs.length := by rw [← Array.length_toList, hlist, List.length_map]
    have hval : ∀ j : Nat, j < xs.length → scr.slots[j]? = some (.int (xs.getD j 0)) := fun j hj => by
      rw [← Array.getElem?_toList, hlist]
      simp [hj]
    have hbl : b < s.heap.size := (Array.getElem?_eq_some_iff.mp hcb).1
    have hX : va_X b xs.length (fun j => xs.getD j 0) s s.heap := ⟨scr, hcb, hof, hkn, hsz, hval⟩
    have K : W p l e room_1 s m #[Value.ref b] below meth c s₁.heap [] 0 0 (lw_Z below #[Value.ref b] s) (entryFrame m ([Value.ref b] : List Value).toArray 4) := by
      rw [hh0]
      exact whole_start l hbd ⟨B.exec, B.bytes, B.returns, hml, hown, hts, hX, hbl, B.notSynchronized, hgv⟩
    obtain ⟨t, a1, o, b1, b2, b3⟩ := K s₁ rfl X₀
    exact ⟨t, o, a1, b1, b2, b3⟩
theorem lw_pre_spec {args : Array Value} {s : State} (h : (Jvm.Cond.and given_1 narrow_1).before args s = true) (hr : rest_1_c.before args s = true) : ∃ (b : Addr) (xs : List Int32), lw_P b xs args s := by
  have hs := flat_of_before _ h
  have hq := flat_of_before _ hr
  have hc : (Cond.count 1).before args s = true := hs _ (by decide +kernel)
  have harr : (Cond.arrayOf (.arg 0) .int).before args s = true := hs _ (by decide +kernel)
  have hle : (Cond.le (.length (.arg 0)) (.int 3072)).before args s = true := hs _ (by decide +kernel)
  have hlen : (Cond.isInt (.length (.arg 0))).before args s = true := hq _ (by decide +kernel)
  have hall : (Cond.all (.arg 0) (.isInt (.elem (.arg 0) (.index 0)))).before args s = true := hq _ (by decide +kernel)
  obtain ⟨b, xs, hb, hx⟩ := State.ints_of_pre rfl harr hlen hall
  have hsm : xs.length < 2 ^ 31 := hx.choose_spec.2.2.2
  have hev : (Term.length (.arg 0)).eval args s none [] s = some (.int xs.length.toInt32) := hx.length_eval hb
  have hv := Cond.le_ints hev (show (Term.int 3072).eval args s none [] s = some (.int 3072) from rfl)
  have hd : xs.length.toInt32 ≤ 3072 := by
    simpa [Cond.before, Cond.holds, hv] using hle
  have hN : xs.length ≤ 3072 := (Int32.ofNat_le_ofNat hsm (by decide)).mp (show Int32.ofNat xs.length ≤ Int32.ofNat 3072 from hd)
  exact ⟨b, xs, Cond.one_arg hc (show args[0]? = some (.ref b) from hb), hx, hN, h⟩
theorem lw_comes (l : Launch) : Comes l x (Jvm.Cond.code x code maxLocals ret :: tables_1) room_1 (fun tb e args s => Calls_1 tb e args s ∧ rest_1 tb e args s ∧ Pre_1 tb e args s)
    (fun _ _ args s o t => lw_Q args s o t) := by
  intro p e ha hc hk s m args below hf hfit hheap happ hpre
  obtain ⟨b, xs, hP⟩ := lw_pre_spec hpre.2.2 hpre.2.1
  obtain ⟨k, o, h1, h2, h3, hQ⟩ := lw_walk l b xs p e ha hc hk s m args below hf ((Spec.applies_iff_loose hf).mp happ).1 hP trivial
  exact ⟨k, o, h1, h2, h3, hQ⟩
theorem lw_frame {s t : State} {o : Outcome} {args : Array Value} (h : Framed s o t [] 600000 7302250) :
    Framed s o t (fieldLocs frame_1_writes args s ++ arrayLocs frame_1_arrays args s ++ staticLocs frame_1_statics s) 600000 7302250 := h
theorem lw_limb (L : Cond) (hL : ∀ (args : Array Value) (s t : State), L.after args s (.returned (some (.int 1))) t = true) :
    ArmFor flags0 classFile x code maxLocals ret World_1 tables_1 room_1 Calls_1 rest_1 Pre_1
      (fun tb e a s o t => postC L tb e a s o t ∧ Framed s o t (fieldLocs frame_1_writes a s ++ arrayLocs frame_1_arrays a s ++ staticLocs frame_1_statics s) 600000 7302250) := by
  intro l _ _ _ p e ha hc hk s m args below hf hfit hheap happ hpre
  obtain ⟨k, o, h1, h2, h3, rfl, hF⟩ := lw_comes l p e ha hc hk s m args below hf hfit hheap happ hpre
  exact ⟨k, _, h1, h2, h3, hL args s _, lw_frame hF⟩
theorem i_vc : Claimed_1_1 ∧ Claimed_1_2 := ⟨lw_limb limb_1_1 (fun args s t => by simp [limb_1_1, Cond.after, Cond.holds, Cond.value]), lw_limb limb_1_2 (fun args s t => Cond.after_iff.mpr (by
  first | (rw [show limb_1_2 = Cond.eq .result (.int 1) from rfl, Cond.eq_ints (x := 1) (y := 1) rfl rfl]; simp; done) | (simp [limb_1_2, Cond.value, Term.eval]; done)))⟩

