section
variable {g : G0} {M : MI} {R : Room} {nc ns : Nat} {Qf : List Frame → Array Value → State → State → Prop} {pc : Nat} {L : List (Option Value)} {st : List Value} {S : List SC} {D : DD}
theorem T_cI1 {idx d b a b0 nc0 ns0 : Nat} {y : MethodName} {M' : MI} (hc : nc + a = nc0) (hs : ns + b0 = ns0) (hd : decode M.2.1 pc = .ok (.invokespecial idx, 3)) (hL : LI M.1 idx y M' 0) (hst : (st.map fun v => v.category).sum ≤ 8) (hR : RO d M'.2.2.1 R) (hla : (la [.ref b]).length ≤ M'.2.2.1) (k : T g M' (rmd d a b0) a b0 (Qm g (rmd d a b0) (fun r S' D' => T g M R nc ns Qf (pc + 3) L (pst r st) S' D')) 0 (le0 M'.2.2.1 [.ref b]) [] S D) : T g M R nc0 ns0 Qf pc L (.ref b :: st) S D := by
  subst hc; subst hs
  exact T_cI0 (R' := rmd d a b0) (As := []) hd hL rfl hst ⟨rfl, rfl⟩ hR hla rfl k
theorem T_cIN1 {idx d b a b0 nc0 ns0 : Nat} {y : MethodName} {M' : MI} {host : String} (hc : nc + a = nc0) (hs : ns + b0 = ns0) (hd : decode M.2.1 pc = .ok (.invokespecial idx, 3)) (hL : LIN M.1 idx y M' 0 host) (hst : (st.map fun v => v.category).sum ≤ 8) (hR : RO d M'.2.2.1 R) (hla : (la [.ref b]).length ≤ M'.2.2.1) (k : T g M' (rmd d a b0) a b0 (Qm g (rmd d a b0) (fun r S' D' => T g M R nc ns Qf (pc + 3) L (pst r st) S' D')) 0 (le0 M'.2.2.1 [.ref b]) [] S D) : T g M R nc0 ns0 Qf pc L (.ref b :: st) S D := by
  subst hc; subst hs
  exact T_cIN0 (R' := rmd d a b0) (As := []) hd hL rfl hst ⟨rfl, rfl⟩ hR hla rfl k
end
def zD : DD := fun _ _ => 0
abbrev mL_law : MI := (RL, code, 4, ret, false)
theorem RO_l {d ml : Nat} (h : ml ≤ 40) (hd : d ≤ 100 := by decide) : RO d ml room_1 := ⟨by show d + 2 ≤ 2048; omega, by show 19 + ml + 64 * (d + 1) ≤ 84000; omega⟩
def S57 : List SC := [(0, 6, [some (.ref 1), some (.ref 10), some (.ref 16), some (.ref 27), some (.ref 38), some (.ref 45), some (.ref 46), some (.ref 47), some (.ref 48), none, none, none, none, none, none, none, none]), (0, 1, [some (.ref 2), some (.ref 3), some (.ref 4), some (.ref 5), some (.ref 6), some (.ref 7), some (.ref 8), some (.ref 9), none, none, none, none]), (1, 10, []), (1, 10, []), (1, 10, []), (1, 10, []), (1, 5, []), (1, 5, []), (1, 5, []), (1, 5, []), (0, 2, [some (.ref 11), some (.ref 12), some (.ref 13), some (.ref 14), some (.ref 15), none, none, none, none, none, none]), (1, 15, []), (1, 15, []), (1, 15, []), (1, 15, []), (1, 80, []), (0, 3, [some (.ref 17), some (.ref 18), some (.ref 19), some (.ref 20), some (.ref 21), some (.ref 22), some (.ref 23), some (.ref 24), some (.ref 25), some (.ref 26), none, none]), (1, 50, []), (1, 50, []), (1, 10, []), (1, 5, []), (1, 5, []), (1, 25, []), (1, 25, []), (1, 5, []), (1, 5, []), (1, 5, []), (0, 3, [some (.ref 28), some (.ref 29), some (.ref 30), some (.ref 31), some (.ref 32), some (.ref 33), some (.ref 34), some (.ref 35), some (.ref 36), some (.ref 37), none, none]), (1, 50, []), (1, 50, []), (1, 10, []), (1, 5, []), (1, 5, []), (1, 25, []), (1, 25, []), (1, 5, []), (1, 5, []), (1, 5, []), (0, 0, [some (.ref 39), some (.ref 40), some (.ref 41), some (.ref 42), some (.ref 43), some (.ref 44), none, none, none]), (1, 35, []), (1, 7, []), (1, 5, []), (1, 8, []), (1, 7, []), (1, 7, []), (0, 5, [none]), (3, 4, [some (.ref 49), some (.ref 51), some (.ref 53), some (.ref 55)]), (1, 8, []), (1, 8, []), (0, 4, [some (.ref 50), none, none, none]), (1, 80, []), (0, 4, [some (.ref 52), none, none, none]), (1, 80, []), (0, 4, [some (.ref 54), none, none, none]), (1, 80, []), (0, 4, [some (.ref 56), none, none, none]), (1, 80, [])]
def dA : DD := st2 (st2 (st2 (st2 zD 1 10 200) 0 11 (-1)) 0 12 (-1)) 0 13 (-1)
section
variable {g : G0} {P : Option Value → List SC → DD → Prop}
theorem i_near (K : P none S57 dA) : T g mX6_init (rmd 3 56 1052) 56 1052 (Qm g (rmd 3 56 1052) P) 0 (le0 2 [.ref 0]) [] [(0, 6, [some .null, some .null, some .null, some .null, some .null, some .null, some .null, some .null, some .null, none, none, none, none, none, none, none, none])] zD := by
  refine T_aload_n dX6_init_0 rfl ?_
  refine T_objInit dX6_init_1 tk_17 tk_18 tk_19 (Nat.le_of_ble_eq_true rfl) (by show _ ≤ _; first | decide | (simp only [rmd]; omega) | omega) (by show _ ≤ _; first | decide | (simp only [rmd]; omega) | omega) ?_
  refine T_aload_n dX6_init_4 rfl ?_
  refine T_new (N := 12) (nc := 55) (ns := 1040) dX6_init_5 nwX6_9 (fun _ => rfl) ?_
  refine T_dup dX6_init_8 rfl ?_
  refine T_cIN1 (d := 2) (a := 8) (b0 := 60) (nc := 47) (ns := 980) rfl rfl dX6_init_9 lkX6_11 (Nat.le_of_ble_eq_true rfl) (RO_r (by decide)) (Nat.le_of_ble_eq_true rfl) ?_
  refine T_aload_n dX1_init_0 rfl ?_
  refine T_objInit dX1_init_1 tk_25 tk_18 tk_19 (Nat.le_of_ble_eq_true rfl) (by show _ ≤ _; first | decide | (simp only [rmd]; omega) | omega) (by show _ ≤ _; first | decide | (simp only [rmd]; omega) | omega) ?_
  refine T_aload_n dX1_init_4 rfl ?_
  refine T_bipush dX1_init_5 (by decide) ?_
  refine T_newI (n := 10) (nc := 7) (ns := 50) dX1_init_7 tk_I (by decide) (fun _ => rfl) ?_
  refine T_putR dX1_init_9 flX1_9 rfl (by intro C Tt N h; cases h; rfl) rfl (by decide) (fun _ => rfl) (fun _ => rfl) ?_
  refine T_aload_n dX1_init_12 rfl ?_
  refine T_bipush dX1_init_13 (by decide) ?_
  refine T_newI (n := 10) (nc := 6) (ns := 40) dX1_init_15 tk_I (by decide) (fun _ => rfl) ?_
  refine T_putR dX1_init_17 flX1_15 rfl (by intro C Tt N h; cases h; rfl) rfl (by decide) (fun _ => rfl) (fun _ => rfl) ?_
  refine T_aload_n dX1_init_20 rfl ?_
  refine T_bipush dX1_init_21 (by decide) ?_
  refine T_newI (n := 10) (nc := 5) (ns := 30) dX1_init_23 tk_I (by decide) (fun _ => rfl) ?_
  refine T_putR dX1_init_25 flX1_18 rfl (by intro C Tt N h; cases h; rfl) rfl (by decide) (fun _ => rfl) (fun _ => rfl) ?_
  refine T_aload_n dX1_init_28 rfl ?_
  refine T_bipush dX1_init_29 (by decide) ?_
  refine T_newI (n := 10) (nc := 4) (ns := 20) dX1_init_31 tk_I (by decide) (fun _ => rfl) ?_
  refine T_putR dX1_init_33 flX1_21 rfl (by intro C Tt N h; cases h; rfl) rfl (by decide) (fun _ => rfl) (fun _ => rfl) ?_
  refine T_aload_n dX1_init_36 rfl ?_
  refine T_iconst dX1_init_37 ?_
  refine T_newI (n := 5) (nc := 3) (ns := 15) dX1_init_38 tk_I (by decide) (fun _ => rfl) ?_
  refine T_putR dX1_init_40 flX1_24 rfl (by intro C Tt N h; cases h; rfl) rfl (by decide) (fun _ => rfl) (fun _ => rfl) ?_
  refine T_aload_n dX1_init_43 rfl ?_
  refine T_iconst dX1_init_44 ?_
  refine T_newI (n := 5) (nc := 2) (ns := 10) dX1_init_45 tk_I (by decide) (fun _ => rfl) ?_
  refine T_putR dX1_init_47 flX1_27 rfl (by intro C Tt N h; cases h; rfl) rfl (by decide) (fun _ => rfl) (fun _ => rfl) ?_
  refine T_aload_n dX1_init_50 rfl ?_
  refine T_iconst dX1_init_51 ?_
  refine T_newI (n := 5) (nc := 1) (ns := 5) dX1_init_52 tk_I (by decide) (fun _ => rfl) ?_
  refine T_putR dX1_init_54 flX1_30 rfl (by intro C Tt N h; cases h; rfl) rfl (by decide) (fun _ => rfl) (fun _ => rfl) ?_
  refine T_aload_n dX1_init_57 rfl ?_
  refine T_iconst dX1_init_58 ?_
  refine T_newI (n := 5) (nc := 0) (ns := 0) dX1_init_59 tk_I (by decide) (fun _ => rfl) ?_
  refine T_putR dX1_init_61 flX1_33 rfl (by intro C Tt N h; cases h; rfl) rfl (by decide) (fun _ => rfl) (fun _ => rfl) ?_
  refine T_aload_n dX1_init_64 rfl ?_
  refine T_sipush dX1_init_65 (by decide) ?_
  refine T_putI dX1_init_68 flX1_36 rfl rfl ?_
  refine T_vret dX1_init_71 rfl ?_
  show T _ _ _ _ _ _ _ _ _ [(0, 6, [some .null, some .null, some .null, some .null, some .null, some .null, some .null, some .null, some .null, none, none, none, none, none, none, none, none]), (0, 1, [some (.ref 2), some (.ref 3), some (.ref 4), some (.ref 5), some (.ref 6), some (.ref 7), some (.ref 8), some (.ref 9), none, none, none, none]), (1, 10, []), (1, 10, []), (1, 10, []), (1, 10, []), (1, 5, []), (1, 5, []), (1, 5, []), (1, 5, [])] _
  refine T_putR dX6_init_12 flX6_12 rfl (by intro C Tt N h; cases h; rfl) rfl (by decide) (fun _ => rfl) (fun _ => rfl) ?_
  refine T_aload_n dX6_init_15 rfl ?_
  refine T_new (N := 11) (nc := 46) (ns := 969) dX6_init_16 nwX6_18 (fun _ => rfl) ?_
  refine T_dup dX6_init_19 rfl ?_
  refine T_cIN1 (d := 2) (a := 5) (b0 := 140) (nc := 41) (ns := 829) rfl rfl dX6_init_20 lkX6_20 (Nat.le_of_ble_eq_true rfl) (RO_r (by decide)) (Nat.le_of_ble_eq_true rfl) ?_
  refine T_aload_n dX2_init_0 rfl ?_
  refine T_objInit dX2_init_1 tk_94 tk_18 tk_19 (Nat.le_of_ble_eq_true rfl) (by show _ ≤ _; first | decide | (simp only [rmd]; omega) | omega) (by show _ ≤ _; first | decide | (simp only [rmd]; omega) | omega) ?_
  refine T_aload_n dX2_init_4 rfl ?_
  refine T_bipush dX2_init_5 (by decide) ?_
  refine T_newI (n := 15) (nc := 4) (ns := 125) dX2_init_7 tk_I (by decide) (fun _ => rfl) ?_
  refine T_putR dX2_init_9 flX2_9 rfl (by intro C Tt N h; cases h; rfl) rfl (by decide) (fun _ => rfl) (fun _ => rfl) ?_
  refine T_aload_n dX2_init_12 rfl ?_
  refine T_bipush dX2_init_13 (by decide) ?_
  refine T_newI (n := 15) (nc := 3) (ns := 110) dX2_init_15 tk_I (by decide) (fun _ => rfl) ?_
  refine T_putR dX2_init_17 flX2_15 rfl (by intro C Tt N h; cases h; rfl) rfl (by decide) (fun _ => rfl) (fun _ => rfl) ?_
  refine T_aload_n dX2_init_20 rfl ?_
  refine T_bipush dX2_init_21 (by decide) ?_
  refine T_newI (n := 15) (nc := 2) (ns := 95) dX2_init_23 tk_I (by decide) (fun _ => rfl) ?_
  refine T_putR dX2_init_25 flX2_18 rfl (by intro C Tt N h; cases h; rfl) rfl (by decide) (fun _ => rfl) (fun _ => rfl) ?_
  refine T_aload_n dX2_init_28 rfl ?_
  refine T_bipush dX2_init_29 (by decide) ?_
  refine T_newI (n := 15) (nc := 1) (ns := 80) dX2_init_31 tk_I (by decide) (fun _ => rfl) ?_
  refine T_putR dX2_init_33 flX2_21 rfl (by intro C Tt N h; cases h; rfl) rfl (by decide) (fun _ => rfl) (fun _ => rfl) ?_
  refine T_aload_n dX2_init_36 rfl ?_
  refine T_bipush dX2_init_37 (by decide) ?_
  refine T_newI (n := 80) (nc := 0) (ns := 0) dX2_init_39 tk_I (by decide) (fun _ => rfl) ?_
  refine T_putR dX2_init_41 flX2_24 rfl (by intro C Tt N h; cases h; rfl) rfl (by decide) (fun _ => rfl) (fun _ => rfl) ?_
  refine T_vret dX2_init_44 rfl ?_
  show T _ _ _ _ _ _ _ _ _ [(0, 6, [some (.ref 1), some .null, some .null, some .null, some .null, some .null, some .null, some .null, some .null, none, none, none, none, none, none, none, none]), (0, 1, [some (.ref 2), some (.ref 3), some (.ref 4), some (.ref 5), some (.ref 6), some (.ref 7), some (.ref 8), some (.ref 9), none, none, none, none]), (1, 10, []), (1, 10, []), (1, 10, []), (1, 10, []), (1, 5, []), (1, 5, []), (1, 5, []), (1, 5, []), (0, 2, [some (.ref 11), some (.ref 12), some (.ref 13), some (.ref 14), some (.ref 15), none, none, none, none, none, none]), (1, 15, []), (1, 15, []), (1, 15, []), (1, 15, []), (1, 80, [])] _
  refine T_putR dX6_init_23 flX6_21 rfl (by intro C Tt N h; cases h; rfl) rfl (by decide) (fun _ => rfl) (fun _ => rfl) ?_
  refine T_aload_n dX6_init_26 rfl ?_
  refine T_new (N := 12) (nc := 40) (ns := 817) dX6_init_27 nwX6_25 (fun _ => rfl) ?_
  refine T_dup dX6_init_30 rfl ?_
  refine T_cIN1 (d := 2) (a := 10) (b0 := 185) (nc := 30) (ns := 632) rfl rfl dX6_init_31 lkX6_27 (Nat.le_of_ble_eq_true rfl) (RO_r (by decide)) (Nat.le_of_ble_eq_true rfl) ?_
  refine T_aload_n dX3_init_0 rfl ?_
  refine T_objInit dX3_init_1 tk_135 tk_18 tk_19 (Nat.le_of_ble_eq_true rfl) (by show _ ≤ _; first | decide | (simp only [rmd]; omega) | omega) (by show _ ≤ _; first | decide | (simp only [rmd]; omega) | omega) ?_
  refine T_aload_n dX3_init_4 rfl ?_
  refine T_bipush dX3_init_5 (by decide) ?_
  refine T_newI (n := 50) (nc := 9) (ns := 135) dX3_init_7 tk_I (by decide) (fun _ => rfl) ?_
  refine T_putR dX3_init_9 flX3_9 rfl (by intro C Tt N h; cases h; rfl) rfl (by decide) (fun _ => rfl) (fun _ => rfl) ?_
  refine T_aload_n dX3_init_12 rfl ?_
  refine T_bipush dX3_init_13 (by decide) ?_
  refine T_newI (n := 50) (nc := 8) (ns := 85) dX3_init_15 tk_I (by decide) (fun _ => rfl) ?_
  refine T_putR dX3_init_17 flX3_15 rfl (by intro C Tt N h; cases h; rfl) rfl (by decide) (fun _ => rfl) (fun _ => rfl) ?_
  refine T_aload_n dX3_init_20 rfl ?_
  refine T_bipush dX3_init_21 (by decide) ?_
  refine T_newI (n := 10) (nc := 7) (ns := 75) dX3_init_23 tk_I (by decide) (fun _ => rfl) ?_
  refine T_putR dX3_init_25 flX3_18 rfl (by intro C Tt N h; cases h; rfl) rfl (by decide) (fun _ => rfl) (fun _ => rfl) ?_
  refine T_aload_n dX3_init_28 rfl ?_
  refine T_iconst dX3_init_29 ?_
  refine T_newI (n := 5) (nc := 6) (ns := 70) dX3_init_30 tk_I (by decide) (fun _ => rfl) ?_
  refine T_putR dX3_init_32 flX3_21 rfl (by intro C Tt N h; cases h; rfl) rfl (by decide) (fun _ => rfl) (fun _ => rfl) ?_
  refine T_aload_n dX3_init_35 rfl ?_
  refine T_iconst dX3_init_36 ?_
  refine T_newI (n := 5) (nc := 5) (ns := 65) dX3_init_37 tk_I (by decide) (fun _ => rfl) ?_
  refine T_putR dX3_init_39 flX3_24 rfl (by intro C Tt N h; cases h; rfl) rfl (by decide) (fun _ => rfl) (fun _ => rfl) ?_
  refine T_aload_n dX3_init_42 rfl ?_
  refine T_bipush dX3_init_43 (by decide) ?_
  refine T_newI (n := 25) (nc := 4) (ns := 40) dX3_init_45 tk_I (by decide) (fun _ => rfl) ?_
  refine T_putR dX3_init_47 flX3_27 rfl (by intro C Tt N h; cases h; rfl) rfl (by decide) (fun _ => rfl) (fun _ => rfl) ?_
  refine T_aload_n dX3_init_50 rfl ?_
  refine T_bipush dX3_init_51 (by decide) ?_
  refine T_newI (n := 25) (nc := 3) (ns := 15) dX3_init_53 tk_I (by decide) (fun _ => rfl) ?_
  refine T_putR dX3_init_55 flX3_30 rfl (by intro C Tt N h; cases h; rfl) rfl (by decide) (fun _ => rfl) (fun _ => rfl) ?_
  refine T_aload_n dX3_init_58 rfl ?_
  refine T_iconst dX3_init_59 ?_
  refine T_newI (n := 5) (nc := 2) (ns := 10) dX3_init_60 tk_I (by decide) (fun _ => rfl) ?_
  refine T_putR dX3_init_62 flX3_33 rfl (by intro C Tt N h; cases h; rfl) rfl (by decide) (fun _ => rfl) (fun _ => rfl) ?_
  refine T_aload_n dX3_init_65 rfl ?_
  refine T_iconst dX3_init_66 ?_
  refine T_newI (n := 5) (nc := 1) (ns := 5) dX3_init_67 tk_I (by decide) (fun _ => rfl) ?_
  refine T_putR dX3_init_69 flX3_36 rfl (by intro C Tt N h; cases h; rfl) rfl (by decide) (fun _ => rfl) (fun _ => rfl) ?_
  refine T_aload_n dX3_init_72 rfl ?_
  refine T_iconst dX3_init_73 ?_
  refine T_newI (n := 5) (nc := 0) (ns := 0) dX3_init_74 tk_I (by decide) (fun _ => rfl) ?_
  refine T_putR dX3_init_76 flX3_39 rfl (by intro C Tt N h; cases h; rfl) rfl (by decide) (fun _ => rfl) (fun _ => rfl) ?_
  refine T_vret dX3_init_79 rfl ?_
  show T _ _ _ _ _ _ _ _ _ [(0, 6, [some (.ref 1), some (.ref 10), some .null, some .null, some .null, some .null, some .null, some .null, some .null, none, none, none, none, none, none, none, none]), (0, 1, [some (.ref 2), some (.ref 3), some (.ref 4), some (.ref 5), some (.ref 6), some (.ref 7), some (.ref 8), some (.ref 9), none, none, none, none]), (1, 10, []), (1, 10, []), (1, 10, []), (1, 10, []), (1, 5, []), (1, 5, []), (1, 5, []), (1, 5, []), (0, 2, [some (.ref 11), some (.ref 12), some (.ref 13), some (.ref 14), some (.ref 15), none, none, none, none, none, none]), (1, 15, []), (1, 15, []), (1, 15, []), (1, 15, []), (1, 80, []), (0, 3, [some (.ref 17), some (.ref 18), some (.ref 19), some (.ref 20), some (.ref 21), some (.ref 22), some (.ref 23), some (.ref 24), some (.ref 25), some (.ref 26), none, none]), (1, 50, []), (1, 50, []), (1, 10, []), (1, 5, []), (1, 5, []), (1, 25, []), (1, 25, []), (1, 5, []), (1, 5, []), (1, 5, [])] _
  refine T_putR dX6_init_34 flX6_28 rfl (by intro C Tt N h; cases h; rfl) rfl (by decide) (fun _ => rfl) (fun _ => rfl) ?_
  refine T_aload_n dX6_init_37 rfl ?_
  refine T_new (N := 12) (nc := 29) (ns := 620) dX6_init_38 nwX6_25 (fun _ => rfl) ?_
  refine T_dup dX6_init_41 rfl ?_
  refine T_cIN1 (d := 2) (a := 10) (b0 := 185) (nc := 19) (ns := 435) rfl rfl dX6_init_42 lkX6_27 (Nat.le_of_ble_eq_true rfl) (RO_r (by decide)) (Nat.le_of_ble_eq_true rfl) ?_
  refine T_aload_n dX3_init_0 rfl ?_
  refine T_objInit dX3_init_1 tk_135 tk_18 tk_19 (Nat.le_of_ble_eq_true rfl) (by show _ ≤ _; first | decide | (simp only [rmd]; omega) | omega) (by show _ ≤ _; first | decide | (simp only [rmd]; omega) | omega) ?_
  refine T_aload_n dX3_init_4 rfl ?_
  refine T_bipush dX3_init_5 (by decide) ?_
  refine T_newI (n := 50) (nc := 9) (ns := 135) dX3_init_7 tk_I (by decide) (fun _ => rfl) ?_
  refine T_putR dX3_init_9 flX3_9 rfl (by intro C Tt N h; cases h; rfl) rfl (by decide) (fun _ => rfl) (fun _ => rfl) ?_
  refine T_aload_n dX3_init_12 rfl ?_
  refine T_bipush dX3_init_13 (by decide) ?_
  refine T_newI (n := 50) (nc := 8) (ns := 85) dX3_init_15 tk_I (by decide) (fun _ => rfl) ?_
  refine T_putR dX3_init_17 flX3_15 rfl (by intro C Tt N h; cases h; rfl) rfl (by decide) (fun _ => rfl) (fun _ => rfl) ?_
  refine T_aload_n dX3_init_20 rfl ?_
  refine T_bipush dX3_init_21 (by decide) ?_
  refine T_newI (n := 10) (nc := 7) (ns := 75) dX3_init_23 tk_I (by decide) (fun _ => rfl) ?_
  refine T_putR dX3_init_25 flX3_18 rfl (by intro C Tt N h; cases h; rfl) rfl (by decide) (fun _ => rfl) (fun _ => rfl) ?_
  refine T_aload_n dX3_init_28 rfl ?_
  refine T_iconst dX3_init_29 ?_
  refine T_newI (n := 5) (nc := 6) (ns := 70) dX3_init_30 tk_I (by decide) (fun _ => rfl) ?_
  refine T_putR dX3_init_32 flX3_21 rfl (by intro C Tt N h; cases h; rfl) rfl (by decide) (fun _ => rfl) (fun _ => rfl) ?_
  refine T_aload_n dX3_init_35 rfl ?_
  refine T_iconst dX3_init_36 ?_
  refine T_newI (n := 5) (nc := 5) (ns := 65) dX3_init_37 tk_I (by decide) (fun _ => rfl) ?_
  refine T_putR dX3_init_39 flX3_24 rfl (by intro C Tt N h; cases h; rfl) rfl (by decide) (fun _ => rfl) (fun _ => rfl) ?_
  refine T_aload_n dX3_init_42 rfl ?_
  refine T_bipush dX3_init_43 (by decide) ?_
  refine T_newI (n := 25) (nc := 4) (ns := 40) dX3_init_45 tk_I (by decide) (fun _ => rfl) ?_
  refine T_putR dX3_init_47 flX3_27 rfl (by intro C Tt N h; cases h; rfl) rfl (by decide) (fun _ => rfl) (fun _ => rfl) ?_
  refine T_aload_n dX3_init_50 rfl ?_
  refine T_bipush dX3_init_51 (by decide) ?_
  refine T_newI (n := 25) (nc := 3) (ns := 15) dX3_init_53 tk_I (by decide) (fun _ => rfl) ?_
  refine T_putR dX3_init_55 flX3_30 rfl (by intro C Tt N h; cases h; rfl) rfl (by decide) (fun _ => rfl) (fun _ => rfl) ?_
  refine T_aload_n dX3_init_58 rfl ?_
  refine T_iconst dX3_init_59 ?_
  refine T_newI (n := 5) (nc := 2) (ns := 10) dX3_init_60 tk_I (by decide) (fun _ => rfl) ?_
  refine T_putR dX3_init_62 flX3_33 rfl (by intro C Tt N h; cases h; rfl) rfl (by decide) (fun _ => rfl) (fun _ => rfl) ?_
  refine T_aload_n dX3_init_65 rfl ?_
  refine T_iconst dX3_init_66 ?_
  refine T_newI (n := 5) (nc := 1) (ns := 5) dX3_init_67 tk_I (by decide) (fun _ => rfl) ?_
  refine T_putR dX3_init_69 flX3_36 rfl (by intro C Tt N h; cases h; rfl) rfl (by decide) (fun _ => rfl) (fun _ => rfl) ?_
  refine T_aload_n dX3_init_72 rfl ?_
  refine T_iconst dX3_init_73 ?_
  refine T_newI (n := 5) (nc := 0) (ns := 0) dX3_init_74 tk_I (by decide) (fun _ => rfl) ?_
  refine T_putR dX3_init_76 flX3_39 rfl (by intro C Tt N h; cases h; rfl) rfl (by decide) (fun _ => rfl) (fun _ => rfl) ?_
  refine T_vret dX3_init_79 rfl ?_
  show T _ _ _ _ _ _ _ _ _ [(0, 6, [some (.ref 1), some (.ref 10), some (.ref 16), some .null, some .null, some .null, some .null, some .null, some .null, none, none, none, none, none, none, none, none]), (0, 1, [some (.ref 2), some (.ref 3), some (.ref 4), some (.ref 5), some (.ref 6), some (.ref 7), some (.ref 8), some (.ref 9), none, none, none, none]), (1, 10, []), (1, 10, []), (1, 10, []), (1, 10, []), (1, 5, []), (1, 5, []), (1, 5, []), (1, 5, []), (0, 2, [some (.ref 11), some (.ref 12), some (.ref 13), some (.ref 14), some (.ref 15), none, none, none, none, none, none]), (1, 15, []), (1, 15, []), (1, 15, []), (1, 15, []), (1, 80, []), (0, 3, [some (.ref 17), some (.ref 18), some (.ref 19), some (.ref 20), some (.ref 21), some (.ref 22), some (.ref 23), some (.ref 24), some (.ref 25), some (.ref 26), none, none]), (1, 50, []), (1, 50, []), (1, 10, []), (1, 5, []), (1, 5, []), (1, 25, []), (1, 25, []), (1, 5, []), (1, 5, []), (1, 5, []), (0, 3, [some (.ref 28), some (.ref 29), some (.ref 30), some (.ref 31), some (.ref 32), some (.ref 33), some (.ref 34), some (.ref 35), some (.ref 36), some (.ref 37), none, none]), (1, 50, []), (1, 50, []), (1, 10, []), (1, 5, []), (1, 5, []), (1, 25, []), (1, 25, []), (1, 5, []), (1, 5, []), (1, 5, [])] _
  refine T_putR dX6_init_45 flX6_32 rfl (by intro C Tt N h; cases h; rfl) rfl (by decide) (fun _ => rfl) (fun _ => rfl) ?_
  refine T_aload_n dX6_init_48 rfl ?_
  refine T_new (N := 9) (nc := 18) (ns := 426) dX6_init_49 nwX6_35 (fun _ => rfl) ?_
  refine T_dup dX6_init_52 rfl ?_
  refine T_cIN1 (d := 2) (a := 6) (b0 := 69) (nc := 12) (ns := 357) rfl rfl dX6_init_53 lkX6_37 (Nat.le_of_ble_eq_true rfl) (RO_r (by decide)) (Nat.le_of_ble_eq_true rfl) ?_
  refine T_aload_n dX0_init_0 rfl ?_
  refine T_objInit dX0_init_1 tk_179 tk_18 tk_19 (Nat.le_of_ble_eq_true rfl) (by show _ ≤ _; first | decide | (simp only [rmd]; omega) | omega) (by show _ ≤ _; first | decide | (simp only [rmd]; omega) | omega) ?_
  refine T_aload_n dX0_init_4 rfl ?_
  refine T_bipush dX0_init_5 (by decide) ?_
  refine T_newI (n := 35) (nc := 5) (ns := 34) dX0_init_7 tk_I (by decide) (fun _ => rfl) ?_
  refine T_putR dX0_init_9 flX0_9 rfl (by intro C Tt N h; cases h; rfl) rfl (by decide) (fun _ => rfl) (fun _ => rfl) ?_
  refine T_aload_n dX0_init_12 rfl ?_
  refine T_bipush dX0_init_13 (by decide) ?_
  refine T_newI (n := 7) (nc := 4) (ns := 27) dX0_init_15 tk_I (by decide) (fun _ => rfl) ?_
  refine T_putR dX0_init_17 flX0_15 rfl (by intro C Tt N h; cases h; rfl) rfl (by decide) (fun _ => rfl) (fun _ => rfl) ?_
  refine T_aload_n dX0_init_20 rfl ?_
  refine T_iconst dX0_init_21 ?_
  refine T_newI (n := 5) (nc := 3) (ns := 22) dX0_init_22 tk_I (by decide) (fun _ => rfl) ?_
  refine T_putR dX0_init_24 flX0_18 rfl (by intro C Tt N h; cases h; rfl) rfl (by decide) (fun _ => rfl) (fun _ => rfl) ?_
  refine T_aload_n dX0_init_27 rfl ?_
  refine T_bipush dX0_init_28 (by decide) ?_
  refine T_newI (n := 8) (nc := 2) (ns := 14) dX0_init_30 tk_I (by decide) (fun _ => rfl) ?_
  refine T_putR dX0_init_32 flX0_21 rfl (by intro C Tt N h; cases h; rfl) rfl (by decide) (fun _ => rfl) (fun _ => rfl) ?_
  refine T_aload_n dX0_init_35 rfl ?_
  refine T_bipush dX0_init_36 (by decide) ?_
  refine T_newI (n := 7) (nc := 1) (ns := 7) dX0_init_38 tk_I (by decide) (fun _ => rfl) ?_
  refine T_putR dX0_init_40 flX0_24 rfl (by intro C Tt N h; cases h; rfl) rfl (by decide) (fun _ => rfl) (fun _ => rfl) ?_
  refine T_aload_n dX0_init_43 rfl ?_
  refine T_bipush dX0_init_44 (by decide) ?_
  refine T_newI (n := 7) (nc := 0) (ns := 0) dX0_init_46 tk_I (by decide) (fun _ => rfl) ?_
  refine T_putR dX0_init_48 flX0_27 rfl (by intro C Tt N h; cases h; rfl) rfl (by decide) (fun _ => rfl) (fun _ => rfl) ?_
  refine T_vret dX0_init_51 rfl ?_
  show T _ _ _ _ _ _ _ _ _ [(0, 6, [some (.ref 1), some (.ref 10), some (.ref 16), some (.ref 27), some .null, some .null, some .null, some .null, some .null, none, none, none, none, none, none, none, none]), (0, 1, [some (.ref 2), some (.ref 3), some (.ref 4), some (.ref 5), some (.ref 6), some (.ref 7), some (.ref 8), some (.ref 9), none, none, none, none]), (1, 10, []), (1, 10, []), (1, 10, []), (1, 10, []), (1, 5, []), (1, 5, []), (1, 5, []), (1, 5, []), (0, 2, [some (.ref 11), some (.ref 12), some (.ref 13), some (.ref 14), some (.ref 15), none, none, none, none, none, none]), (1, 15, []), (1, 15, []), (1, 15, []), (1, 15, []), (1, 80, []), (0, 3, [some (.ref 17), some (.ref 18), some (.ref 19), some (.ref 20), some (.ref 21), some (.ref 22), some (.ref 23), some (.ref 24), some (.ref 25), some (.ref 26), none, none]), (1, 50, []), (1, 50, []), (1, 10, []), (1, 5, []), (1, 5, []), (1, 25, []), (1, 25, []), (1, 5, []), (1, 5, []), (1, 5, []), (0, 3, [some (.ref 28), some (.ref 29), some (.ref 30), some (.ref 31), some (.ref 32), some (.ref 33), some (.ref 34), some (.ref 35), some (.ref 36), some (.ref 37), none, none]), (1, 50, []), (1, 50, []), (1, 10, []), (1, 5, []), (1, 5, []), (1, 25, []), (1, 25, []), (1, 5, []), (1, 5, []), (1, 5, []), (0, 0, [some (.ref 39), some (.ref 40), some (.ref 41), some (.ref 42), some (.ref 43), some (.ref 44), none, none, none]), (1, 35, []), (1, 7, []), (1, 5, []), (1, 8, []), (1, 7, []), (1, 7, [])] _
  refine T_putR dX6_init_56 flX6_38 rfl (by intro C Tt N h; cases h; rfl) rfl (by decide) (fun _ => rfl) (fun _ => rfl) ?_
  refine T_aload_n dX6_init_59 rfl ?_
  refine T_new (N := 1) (nc := 11) (ns := 356) dX6_init_60 nwX6_42 (fun _ => rfl) ?_
  refine T_dup dX6_init_63 rfl ?_
  refine T_cIN1 (d := 2) (a := 0) (b0 := 0) (nc := 11) (ns := 356) rfl rfl dX6_init_64 lkX6_44 (Nat.le_of_ble_eq_true rfl) (RO_r (by decide)) (Nat.le_of_ble_eq_true rfl) ?_
  refine T_aload_n dX5_init_0 rfl ?_
  refine T_objInit dX5_init_1 tk_215 tk_18 tk_19 (Nat.le_of_ble_eq_true rfl) (by show _ ≤ _; first | decide | (simp only [rmd]; omega) | omega) (by show _ ≤ _; first | decide | (simp only [rmd]; omega) | omega) ?_
  refine T_vret dX5_init_4 rfl ?_
  show T _ _ _ _ _ _ _ _ _ [(0, 6, [some (.ref 1), some (.ref 10), some (.ref 16), some (.ref 27), some (.ref 38), some .null, some .null, some .null, some .null, none, none, none, none, none, none, none, none]), (0, 1, [some (.ref 2), some (.ref 3), some (.ref 4), some (.ref 5), some (.ref 6), some (.ref 7), some (.ref 8), some (.ref 9), none, none, none, none]), (1, 10, []), (1, 10, []), (1, 10, []), (1, 10, []), (1, 5, []), (1, 5, []), (1, 5, []), (1, 5, []), (0, 2, [some (.ref 11), some (.ref 12), some (.ref 13), some (.ref 14), some (.ref 15), none, none, none, none, none, none]), (1, 15, []), (1, 15, []), (1, 15, []), (1, 15, []), (1, 80, []), (0, 3, [some (.ref 17), some (.ref 18), some (.ref 19), some (.ref 20), some (.ref 21), some (.ref 22), some (.ref 23), some (.ref 24), some (.ref 25), some (.ref 26), none, none]), (1, 50, []), (1, 50, []), (1, 10, []), (1, 5, []), (1, 5, []), (1, 25, []), (1, 25, []), (1, 5, []), (1, 5, []), (1, 5, []), (0, 3, [some (.ref 28), some (.ref 29), some (.ref 30), some (.ref 31), some (.ref 32), some (.ref 33), some (.ref 34), some (.ref 35), some (.ref 36), some (.ref 37), none, none]), (1, 50, []), (1, 50, []), (1, 10, []), (1, 5, []), (1, 5, []), (1, 25, []), (1, 25, []), (1, 5, []), (1, 5, []), (1, 5, []), (0, 0, [some (.ref 39), some (.ref 40), some (.ref 41), some (.ref 42), some (.ref 43), some (.ref 44), none, none, none]), (1, 35, []), (1, 7, []), (1, 5, []), (1, 8, []), (1, 7, []), (1, 7, []), (0, 5, [none])] _
  refine T_putR dX6_init_67 flX6_45 rfl (by intro C Tt N h; cases h; rfl) rfl (by decide) (fun _ => rfl) (fun _ => rfl) ?_
  refine T_aload_n dX6_init_70 rfl ?_
  refine T_iconst dX6_init_71 ?_
  refine T_newS (n := 4) (nc := 10) (ns := 352) dX6_init_72 tk_221 (by decide) ?_
  refine T_putR dX6_init_75 flX6_51 rfl (by intro C Tt N h; cases h; rfl) rfl (by decide) (fun _ => rfl) (fun _ => rfl) ?_
  refine T_aload_n dX6_init_78 rfl ?_
  refine T_bipush dX6_init_79 (by decide) ?_
  refine T_newI (n := 8) (nc := 9) (ns := 344) dX6_init_81 tk_I (by decide) (fun _ => rfl) ?_
  refine T_putR dX6_init_83 flX6_55 rfl (by intro C Tt N h; cases h; rfl) rfl (by decide) (fun _ => rfl) (fun _ => rfl) ?_
  refine T_aload_n dX6_init_86 rfl ?_
  refine T_bipush dX6_init_87 (by decide) ?_
  refine T_newI (n := 8) (nc := 8) (ns := 336) dX6_init_89 tk_I (by decide) (fun _ => rfl) ?_
  refine T_putR dX6_init_91 flX6_59 rfl (by intro C Tt N h; cases h; rfl) rfl (by decide) (fun _ => rfl) (fun _ => rfl) ?_
  refine T_aload_n dX6_init_94 rfl ?_
  refine T_iconst dX6_init_95 ?_
  refine T_putI dX6_init_96 flX6_62 rfl rfl ?_
  refine T_aload_n dX6_init_99 rfl ?_
  refine T_iconst dX6_init_100 ?_
  refine T_putI dX6_init_101 flX6_66 rfl rfl ?_
  refine T_aload_n dX6_init_104 rfl ?_
  refine T_iconst dX6_init_105 ?_
  refine T_putI dX6_init_106 flX6_69 rfl rfl ?_
  refine T_iconst dX6_init_109 ?_
  refine T_istore_n dX6_init_110 (by decide) ?_
  refine T_iload_n dX6_init_111 rfl ?_
  refine T_iconst dX6_init_112 ?_
  refine T_icmp_ge 135 dX6_init_113 (by decide) (by first | (unfold InR; omega) | (simp [st2, InR]; omega)) (by first | (unfold InR; omega) | (simp [st2, InR]; omega)) (fun hc113 => (by exfalso; omega)) (fun hc113 => ?_)
  refine T_aload_n dX6_init_116 rfl ?_
  refine T_getR dX6_init_117 flX6_51 rfl rfl ?_
  refine T_iload_n dX6_init_120 rfl ?_
  refine T_new (N := 4) (nc := 7) (ns := 332) dX6_init_121 nwX6_49 (fun _ => rfl) ?_
  refine T_dup dX6_init_124 rfl ?_
  refine T_cIN1 (d := 2) (a := 1) (b0 := 80) (nc := 6) (ns := 252) rfl rfl dX6_init_125 lkX6_72 (Nat.le_of_ble_eq_true rfl) (RO_r (by decide)) (Nat.le_of_ble_eq_true rfl) ?_
  refine T_aload_n dX4_init_0 rfl ?_
  refine T_objInit dX4_init_1 tk_227 tk_18 tk_19 (Nat.le_of_ble_eq_true rfl) (by show _ ≤ _; first | decide | (simp only [rmd]; omega) | omega) (by show _ ≤ _; first | decide | (simp only [rmd]; omega) | omega) ?_
  refine T_aload_n dX4_init_4 rfl ?_
  refine T_bipush dX4_init_5 (by decide) ?_
  refine T_newI (n := 80) (nc := 0) (ns := 0) dX4_init_7 tk_I (by decide) (fun _ => rfl) ?_
  refine T_putR dX4_init_9 flX4_9 rfl (by intro C Tt N h; cases h; rfl) rfl (by decide) (fun _ => rfl) (fun _ => rfl) ?_
  refine T_vret dX4_init_12 rfl ?_
  show T _ _ _ _ _ _ _ _ _ [(0, 6, [some (.ref 1), some (.ref 10), some (.ref 16), some (.ref 27), some (.ref 38), some (.ref 45), some (.ref 46), some (.ref 47), some (.ref 48), none, none, none, none, none, none, none, none]), (0, 1, [some (.ref 2), some (.ref 3), some (.ref 4), some (.ref 5), some (.ref 6), some (.ref 7), some (.ref 8), some (.ref 9), none, none, none, none]), (1, 10, []), (1, 10, []), (1, 10, []), (1, 10, []), (1, 5, []), (1, 5, []), (1, 5, []), (1, 5, []), (0, 2, [some (.ref 11), some (.ref 12), some (.ref 13), some (.ref 14), some (.ref 15), none, none, none, none, none, none]), (1, 15, []), (1, 15, []), (1, 15, []), (1, 15, []), (1, 80, []), (0, 3, [some (.ref 17), some (.ref 18), some (.ref 19), some (.ref 20), some (.ref 21), some (.ref 22), some (.ref 23), some (.ref 24), some (.ref 25), some (.ref 26), none, none]), (1, 50, []), (1, 50, []), (1, 10, []), (1, 5, []), (1, 5, []), (1, 25, []), (1, 25, []), (1, 5, []), (1, 5, []), (1, 5, []), (0, 3, [some (.ref 28), some (.ref 29), some (.ref 30), some (.ref 31), some (.ref 32), some (.ref 33), some (.ref 34), some (.ref 35), some (.ref 36), some (.ref 37), none, none]), (1, 50, []), (1, 50, []), (1, 10, []), (1, 5, []), (1, 5, []), (1, 25, []), (1, 25, []), (1, 5, []), (1, 5, []), (1, 5, []), (0, 0, [some (.ref 39), some (.ref 40), some (.ref 41), some (.ref 42), some (.ref 43), some (.ref 44), none, none, none]), (1, 35, []), (1, 7, []), (1, 5, []), (1, 8, []), (1, 7, []), (1, 7, []), (0, 5, [none]), (3, 4, [some .null, some .null, some .null, some .null]), (1, 8, []), (1, 8, []), (0, 4, [some (.ref 50), none, none, none]), (1, 80, [])] _
  refine T_aast dX6_init_128 rfl rfl (by decide) rfl (by decide) (by decide) ?_
  show T _ _ _ _ _ _ _ _ _ [(0, 6, [some (.ref 1), some (.ref 10), some (.ref 16), some (.ref 27), some (.ref 38), some (.ref 45), some (.ref 46), some (.ref 47), some (.ref 48), none, none, none, none, none, none, none, none]), (0, 1, [some (.ref 2), some (.ref 3), some (.ref 4), some (.ref 5), some (.ref 6), some (.ref 7), some (.ref 8), some (.ref 9), none, none, none, none]), (1, 10, []), (1, 10, []), (1, 10, []), (1, 10, []), (1, 5, []), (1, 5, []), (1, 5, []), (1, 5, []), (0, 2, [some (.ref 11), some (.ref 12), some (.ref 13), some (.ref 14), some (.ref 15), none, none, none, none, none, none]), (1, 15, []), (1, 15, []), (1, 15, []), (1, 15, []), (1, 80, []), (0, 3, [some (.ref 17), some (.ref 18), some (.ref 19), some (.ref 20), some (.ref 21), some (.ref 22), some (.ref 23), some (.ref 24), some (.ref 25), some (.ref 26), none, none]), (1, 50, []), (1, 50, []), (1, 10, []), (1, 5, []), (1, 5, []), (1, 25, []), (1, 25, []), (1, 5, []), (1, 5, []), (1, 5, []), (0, 3, [some (.ref 28), some (.ref 29), some (.ref 30), some (.ref 31), some (.ref 32), some (.ref 33), some (.ref 34), some (.ref 35), some (.ref 36), some (.ref 37), none, none]), (1, 50, []), (1, 50, []), (1, 10, []), (1, 5, []), (1, 5, []), (1, 25, []), (1, 25, []), (1, 5, []), (1, 5, []), (1, 5, []), (0, 0, [some (.ref 39), some (.ref 40), some (.ref 41), some (.ref 42), some (.ref 43), some (.ref 44), none, none, none]), (1, 35, []), (1, 7, []), (1, 5, []), (1, 8, []), (1, 7, []), (1, 7, []), (0, 5, [none]), (3, 4, [some (.ref 49), some .null, some .null, some .null]), (1, 8, []), (1, 8, []), (0, 4, [some (.ref 50), none, none, none]), (1, 80, [])] _
  refine T_iinc dX6_init_129 rfl (by decide) ?_
  refine T_goto (tgt := 111) dX6_init_132 (by decide) ?_
  refine T_iload_n dX6_init_111 rfl ?_
  refine T_iconst dX6_init_112 ?_
  refine T_icmp_ge 135 dX6_init_113 (by decide) (by first | (unfold InR; omega) | (simp [st2, InR]; omega)) (by first | (unfold InR; omega) | (simp [st2, InR]; omega)) (fun hc113 => (by exfalso; omega)) (fun hc113 => ?_)
  refine T_aload_n dX6_init_116 rfl ?_
  refine T_getR dX6_init_117 flX6_51 rfl rfl ?_
  refine T_iload_n dX6_init_120 rfl ?_
  refine T_new (N := 4) (nc := 5) (ns := 248) dX6_init_121 nwX6_49 (fun _ => rfl) ?_
  refine T_dup dX6_init_124 rfl ?_
  refine T_cIN1 (d := 2) (a := 1) (b0 := 80) (nc := 4) (ns := 168) rfl rfl dX6_init_125 lkX6_72 (Nat.le_of_ble_eq_true rfl) (RO_r (by decide)) (Nat.le_of_ble_eq_true rfl) ?_
  refine T_aload_n dX4_init_0 rfl ?_
  refine T_objInit dX4_init_1 tk_227 tk_18 tk_19 (Nat.le_of_ble_eq_true rfl) (by show _ ≤ _; first | decide | (simp only [rmd]; omega) | omega) (by show _ ≤ _; first | decide | (simp only [rmd]; omega) | omega) ?_
  refine T_aload_n dX4_init_4 rfl ?_
  refine T_bipush dX4_init_5 (by decide) ?_
  refine T_newI (n := 80) (nc := 0) (ns := 0) dX4_init_7 tk_I (by decide) (fun _ => rfl) ?_
  refine T_putR dX4_init_9 flX4_9 rfl (by intro C Tt N h; cases h; rfl) rfl (by decide) (fun _ => rfl) (fun _ => rfl) ?_
  refine T_vret dX4_init_12 rfl ?_
  show T _ _ _ _ _ _ _ _ _ [(0, 6, [some (.ref 1), some (.ref 10), some (.ref 16), some (.ref 27), some (.ref 38), some (.ref 45), some (.ref 46), some (.ref 47), some (.ref 48), none, none, none, none, none, none, none, none]), (0, 1, [some (.ref 2), some (.ref 3), some (.ref 4), some (.ref 5), some (.ref 6), some (.ref 7), some (.ref 8), some (.ref 9), none, none, none, none]), (1, 10, []), (1, 10, []), (1, 10, []), (1, 10, []), (1, 5, []), (1, 5, []), (1, 5, []), (1, 5, []), (0, 2, [some (.ref 11), some (.ref 12), some (.ref 13), some (.ref 14), some (.ref 15), none, none, none, none, none, none]), (1, 15, []), (1, 15, []), (1, 15, []), (1, 15, []), (1, 80, []), (0, 3, [some (.ref 17), some (.ref 18), some (.ref 19), some (.ref 20), some (.ref 21), some (.ref 22), some (.ref 23), some (.ref 24), some (.ref 25), some (.ref 26), none, none]), (1, 50, []), (1, 50, []), (1, 10, []), (1, 5, []), (1, 5, []), (1, 25, []), (1, 25, []), (1, 5, []), (1, 5, []), (1, 5, []), (0, 3, [some (.ref 28), some (.ref 29), some (.ref 30), some (.ref 31), some (.ref 32), some (.ref 33), some (.ref 34), some (.ref 35), some (.ref 36), some (.ref 37), none, none]), (1, 50, []), (1, 50, []), (1, 10, []), (1, 5, []), (1, 5, []), (1, 25, []), (1, 25, []), (1, 5, []), (1, 5, []), (1, 5, []), (0, 0, [some (.ref 39), some (.ref 40), some (.ref 41), some (.ref 42), some (.ref 43), some (.ref 44), none, none, none]), (1, 35, []), (1, 7, []), (1, 5, []), (1, 8, []), (1, 7, []), (1, 7, []), (0, 5, [none]), (3, 4, [some (.ref 49), some .null, some .null, some .null]), (1, 8, []), (1, 8, []), (0, 4, [some (.ref 50), none, none, none]), (1, 80, []), (0, 4, [some (.ref 52), none, none, none]), (1, 80, [])] _
  refine T_aast dX6_init_128 rfl rfl (by decide) rfl (by decide) (by decide) ?_
  show T _ _ _ _ _ _ _ _ _ [(0, 6, [some (.ref 1), some (.ref 10), some (.ref 16), some (.ref 27), some (.ref 38), some (.ref 45), some (.ref 46), some (.ref 47), some (.ref 48), none, none, none, none, none, none, none, none]), (0, 1, [some (.ref 2), some (.ref 3), some (.ref 4), some (.ref 5), some (.ref 6), some (.ref 7), some (.ref 8), some (.ref 9), none, none, none, none]), (1, 10, []), (1, 10, []), (1, 10, []), (1, 10, []), (1, 5, []), (1, 5, []), (1, 5, []), (1, 5, []), (0, 2, [some (.ref 11), some (.ref 12), some (.ref 13), some (.ref 14), some (.ref 15), none, none, none, none, none, none]), (1, 15, []), (1, 15, []), (1, 15, []), (1, 15, []), (1, 80, []), (0, 3, [some (.ref 17), some (.ref 18), some (.ref 19), some (.ref 20), some (.ref 21), some (.ref 22), some (.ref 23), some (.ref 24), some (.ref 25), some (.ref 26), none, none]), (1, 50, []), (1, 50, []), (1, 10, []), (1, 5, []), (1, 5, []), (1, 25, []), (1, 25, []), (1, 5, []), (1, 5, []), (1, 5, []), (0, 3, [some (.ref 28), some (.ref 29), some (.ref 30), some (.ref 31), some (.ref 32), some (.ref 33), some (.ref 34), some (.ref 35), some (.ref 36), some (.ref 37), none, none]), (1, 50, []), (1, 50, []), (1, 10, []), (1, 5, []), (1, 5, []), (1, 25, []), (1, 25, []), (1, 5, []), (1, 5, []), (1, 5, []), (0, 0, [some (.ref 39), some (.ref 40), some (.ref 41), some (.ref 42), some (.ref 43), some (.ref 44), none, none, none]), (1, 35, []), (1, 7, []), (1, 5, []), (1, 8, []), (1, 7, []), (1, 7, []), (0, 5, [none]), (3, 4, [some (.ref 49), some (.ref 51), some .null, some .null]), (1, 8, []), (1, 8, []), (0, 4, [some (.ref 50), none, none, none]), (1, 80, []), (0, 4, [some (.ref 52), none, none, none]), (1, 80, [])] _
  refine T_iinc dX6_init_129 rfl (by decide) ?_
  refine T_goto (tgt := 111) dX6_init_132 (by decide) ?_
  refine T_iload_n dX6_init_111 rfl ?_
  refine T_iconst dX6_init_112 ?_
  refine T_icmp_ge 135 dX6_init_113 (by decide) (by first | (unfold InR; omega) | (simp [st2, InR]; omega)) (by first | (unfold InR; omega) | (simp [st2, InR]; omega)) (fun hc113 => (by exfalso; omega)) (fun hc113 => ?_)
  refine T_aload_n dX6_init_116 rfl ?_
  refine T_getR dX6_init_117 flX6_51 rfl rfl ?_
  refine T_iload_n dX6_init_120 rfl ?_
  refine T_new (N := 4) (nc := 3) (ns := 164) dX6_init_121 nwX6_49 (fun _ => rfl) ?_
  refine T_dup dX6_init_124 rfl ?_
  refine T_cIN1 (d := 2) (a := 1) (b0 := 80) (nc := 2) (ns := 84) rfl rfl dX6_init_125 lkX6_72 (Nat.le_of_ble_eq_true rfl) (RO_r (by decide)) (Nat.le_of_ble_eq_true rfl) ?_
  refine T_aload_n dX4_init_0 rfl ?_
  refine T_objInit dX4_init_1 tk_227 tk_18 tk_19 (Nat.le_of_ble_eq_true rfl) (by show _ ≤ _; first | decide | (simp only [rmd]; omega) | omega) (by show _ ≤ _; first | decide | (simp only [rmd]; omega) | omega) ?_
  refine T_aload_n dX4_init_4 rfl ?_
  refine T_bipush dX4_init_5 (by decide) ?_
  refine T_newI (n := 80) (nc := 0) (ns := 0) dX4_init_7 tk_I (by decide) (fun _ => rfl) ?_
  refine T_putR dX4_init_9 flX4_9 rfl (by intro C Tt N h; cases h; rfl) rfl (by decide) (fun _ => rfl) (fun _ => rfl) ?_
  refine T_vret dX4_init_12 rfl ?_
  show T _ _ _ _ _ _ _ _ _ [(0, 6, [some (.ref 1), some (.ref 10), some (.ref 16), some (.ref 27), some (.ref 38), some (.ref 45), some (.ref 46), some (.ref 47), some (.ref 48), none, none, none, none, none, none, none, none]), (0, 1, [some (.ref 2), some (.ref 3), some (.ref 4), some (.ref 5), some (.ref 6), some (.ref 7), some (.ref 8), some (.ref 9), none, none, none, none]), (1, 10, []), (1, 10, []), (1, 10, []), (1, 10, []), (1, 5, []), (1, 5, []), (1, 5, []), (1, 5, []), (0, 2, [some (.ref 11), some (.ref 12), some (.ref 13), some (.ref 14), some (.ref 15), none, none, none, none, none, none]), (1, 15, []), (1, 15, []), (1, 15, []), (1, 15, []), (1, 80, []), (0, 3, [some (.ref 17), some (.ref 18), some (.ref 19), some (.ref 20), some (.ref 21), some (.ref 22), some (.ref 23), some (.ref 24), some (.ref 25), some (.ref 26), none, none]), (1, 50, []), (1, 50, []), (1, 10, []), (1, 5, []), (1, 5, []), (1, 25, []), (1, 25, []), (1, 5, []), (1, 5, []), (1, 5, []), (0, 3, [some (.ref 28), some (.ref 29), some (.ref 30), some (.ref 31), some (.ref 32), some (.ref 33), some (.ref 34), some (.ref 35), some (.ref 36), some (.ref 37), none, none]), (1, 50, []), (1, 50, []), (1, 10, []), (1, 5, []), (1, 5, []), (1, 25, []), (1, 25, []), (1, 5, []), (1, 5, []), (1, 5, []), (0, 0, [some (.ref 39), some (.ref 40), some (.ref 41), some (.ref 42), some (.ref 43), some (.ref 44), none, none, none]), (1, 35, []), (1, 7, []), (1, 5, []), (1, 8, []), (1, 7, []), (1, 7, []), (0, 5, [none]), (3, 4, [some (.ref 49), some (.ref 51), some .null, some .null]), (1, 8, []), (1, 8, []), (0, 4, [some (.ref 50), none, none, none]), (1, 80, []), (0, 4, [some (.ref 52), none, none, none]), (1, 80, []), (0, 4, [some (.ref 54), none, none, none]), (1, 80, [])] _
  refine T_aast dX6_init_128 rfl rfl (by decide) rfl (by decide) (by decide) ?_
  show T _ _ _ _ _ _ _ _ _ [(0, 6, [some (.ref 1), some (.ref 10), some (.ref 16), some (.ref 27), some (.ref 38), some (.ref 45), some (.ref 46), some (.ref 47), some (.ref 48), none, none, none, none, none, none, none, none]), (0, 1, [some (.ref 2), some (.ref 3), some (.ref 4), some (.ref 5), some (.ref 6), some (.ref 7), some (.ref 8), some (.ref 9), none, none, none, none]), (1, 10, []), (1, 10, []), (1, 10, []), (1, 10, []), (1, 5, []), (1, 5, []), (1, 5, []), (1, 5, []), (0, 2, [some (.ref 11), some (.ref 12), some (.ref 13), some (.ref 14), some (.ref 15), none, none, none, none, none, none]), (1, 15, []), (1, 15, []), (1, 15, []), (1, 15, []), (1, 80, []), (0, 3, [some (.ref 17), some (.ref 18), some (.ref 19), some (.ref 20), some (.ref 21), some (.ref 22), some (.ref 23), some (.ref 24), some (.ref 25), some (.ref 26), none, none]), (1, 50, []), (1, 50, []), (1, 10, []), (1, 5, []), (1, 5, []), (1, 25, []), (1, 25, []), (1, 5, []), (1, 5, []), (1, 5, []), (0, 3, [some (.ref 28), some (.ref 29), some (.ref 30), some (.ref 31), some (.ref 32), some (.ref 33), some (.ref 34), some (.ref 35), some (.ref 36), some (.ref 37), none, none]), (1, 50, []), (1, 50, []), (1, 10, []), (1, 5, []), (1, 5, []), (1, 25, []), (1, 25, []), (1, 5, []), (1, 5, []), (1, 5, []), (0, 0, [some (.ref 39), some (.ref 40), some (.ref 41), some (.ref 42), some (.ref 43), some (.ref 44), none, none, none]), (1, 35, []), (1, 7, []), (1, 5, []), (1, 8, []), (1, 7, []), (1, 7, []), (0, 5, [none]), (3, 4, [some (.ref 49), some (.ref 51), some (.ref 53), some .null]), (1, 8, []), (1, 8, []), (0, 4, [some (.ref 50), none, none, none]), (1, 80, []), (0, 4, [some (.ref 52), none, none, none]), (1, 80, []), (0, 4, [some (.ref 54), none, none, none]), (1, 80, [])] _
  refine T_iinc dX6_init_129 rfl (by decide) ?_
  refine T_goto (tgt := 111) dX6_init_132 (by decide) ?_
  refine T_iload_n dX6_init_111 rfl ?_
  refine T_iconst dX6_init_112 ?_
  refine T_icmp_ge 135 dX6_init_113 (by decide) (by first | (unfold InR; omega) | (simp [st2, InR]; omega)) (by first | (unfold InR; omega) | (simp [st2, InR]; omega)) (fun hc113 => (by exfalso; omega)) (fun hc113 => ?_)
  refine T_aload_n dX6_init_116 rfl ?_
  refine T_getR dX6_init_117 flX6_51 rfl rfl ?_
  refine T_iload_n dX6_init_120 rfl ?_
  refine T_new (N := 4) (nc := 1) (ns := 80) dX6_init_121 nwX6_49 (fun _ => rfl) ?_
  refine T_dup dX6_init_124 rfl ?_
  refine T_cIN1 (d := 2) (a := 1) (b0 := 80) (nc := 0) (ns := 0) rfl rfl dX6_init_125 lkX6_72 (Nat.le_of_ble_eq_true rfl) (RO_r (by decide)) (Nat.le_of_ble_eq_true rfl) ?_
  refine T_aload_n dX4_init_0 rfl ?_
  refine T_objInit dX4_init_1 tk_227 tk_18 tk_19 (Nat.le_of_ble_eq_true rfl) (by show _ ≤ _; first | decide | (simp only [rmd]; omega) | omega) (by show _ ≤ _; first | decide | (simp only [rmd]; omega) | omega) ?_
  refine T_aload_n dX4_init_4 rfl ?_
  refine T_bipush dX4_init_5 (by decide) ?_
  refine T_newI (n := 80) (nc := 0) (ns := 0) dX4_init_7 tk_I (by decide) (fun _ => rfl) ?_
  refine T_putR dX4_init_9 flX4_9 rfl (by intro C Tt N h; cases h; rfl) rfl (by decide) (fun _ => rfl) (fun _ => rfl) ?_
  refine T_vret dX4_init_12 rfl ?_
  show T _ _ _ _ _ _ _ _ _ [(0, 6, [some (.ref 1), some (.ref 10), some (.ref 16), some (.ref 27), some (.ref 38), some (.ref 45), some (.ref 46), some (.ref 47), some (.ref 48), none, none, none, none, none, none, none, none]), (0, 1, [some (.ref 2), some (.ref 3), some (.ref 4), some (.ref 5), some (.ref 6), some (.ref 7), some (.ref 8), some (.ref 9), none, none, none, none]), (1, 10, []), (1, 10, []), (1, 10, []), (1, 10, []), (1, 5, []), (1, 5, []), (1, 5, []), (1, 5, []), (0, 2, [some (.ref 11), some (.ref 12), some (.ref 13), some (.ref 14), some (.ref 15), none, none, none, none, none, none]), (1, 15, []), (1, 15, []), (1, 15, []), (1, 15, []), (1, 80, []), (0, 3, [some (.ref 17), some (.ref 18), some (.ref 19), some (.ref 20), some (.ref 21), some (.ref 22), some (.ref 23), some (.ref 24), some (.ref 25), some (.ref 26), none, none]), (1, 50, []), (1, 50, []), (1, 10, []), (1, 5, []), (1, 5, []), (1, 25, []), (1, 25, []), (1, 5, []), (1, 5, []), (1, 5, []), (0, 3, [some (.ref 28), some (.ref 29), some (.ref 30), some (.ref 31), some (.ref 32), some (.ref 33), some (.ref 34), some (.ref 35), some (.ref 36), some (.ref 37), none, none]), (1, 50, []), (1, 50, []), (1, 10, []), (1, 5, []), (1, 5, []), (1, 25, []), (1, 25, []), (1, 5, []), (1, 5, []), (1, 5, []), (0, 0, [some (.ref 39), some (.ref 40), some (.ref 41), some (.ref 42), some (.ref 43), some (.ref 44), none, none, none]), (1, 35, []), (1, 7, []), (1, 5, []), (1, 8, []), (1, 7, []), (1, 7, []), (0, 5, [none]), (3, 4, [some (.ref 49), some (.ref 51), some (.ref 53), some .null]), (1, 8, []), (1, 8, []), (0, 4, [some (.ref 50), none, none, none]), (1, 80, []), (0, 4, [some (.ref 52), none, none, none]), (1, 80, []), (0, 4, [some (.ref 54), none, none, none]), (1, 80, []), (0, 4, [some (.ref 56), none, none, none]), (1, 80, [])] _
  refine T_aast dX6_init_128 rfl rfl (by decide) rfl (by decide) (by decide) ?_
  show T _ _ _ _ _ _ _ _ _ [(0, 6, [some (.ref 1), some (.ref 10), some (.ref 16), some (.ref 27), some (.ref 38), some (.ref 45), some (.ref 46), some (.ref 47), some (.ref 48), none, none, none, none, none, none, none, none]), (0, 1, [some (.ref 2), some (.ref 3), some (.ref 4), some (.ref 5), some (.ref 6), some (.ref 7), some (.ref 8), some (.ref 9), none, none, none, none]), (1, 10, []), (1, 10, []), (1, 10, []), (1, 10, []), (1, 5, []), (1, 5, []), (1, 5, []), (1, 5, []), (0, 2, [some (.ref 11), some (.ref 12), some (.ref 13), some (.ref 14), some (.ref 15), none, none, none, none, none, none]), (1, 15, []), (1, 15, []), (1, 15, []), (1, 15, []), (1, 80, []), (0, 3, [some (.ref 17), some (.ref 18), some (.ref 19), some (.ref 20), some (.ref 21), some (.ref 22), some (.ref 23), some (.ref 24), some (.ref 25), some (.ref 26), none, none]), (1, 50, []), (1, 50, []), (1, 10, []), (1, 5, []), (1, 5, []), (1, 25, []), (1, 25, []), (1, 5, []), (1, 5, []), (1, 5, []), (0, 3, [some (.ref 28), some (.ref 29), some (.ref 30), some (.ref 31), some (.ref 32), some (.ref 33), some (.ref 34), some (.ref 35), some (.ref 36), some (.ref 37), none, none]), (1, 50, []), (1, 50, []), (1, 10, []), (1, 5, []), (1, 5, []), (1, 25, []), (1, 25, []), (1, 5, []), (1, 5, []), (1, 5, []), (0, 0, [some (.ref 39), some (.ref 40), some (.ref 41), some (.ref 42), some (.ref 43), some (.ref 44), none, none, none]), (1, 35, []), (1, 7, []), (1, 5, []), (1, 8, []), (1, 7, []), (1, 7, []), (0, 5, [none]), (3, 4, [some (.ref 49), some (.ref 51), some (.ref 53), some (.ref 55)]), (1, 8, []), (1, 8, []), (0, 4, [some (.ref 50), none, none, none]), (1, 80, []), (0, 4, [some (.ref 52), none, none, none]), (1, 80, []), (0, 4, [some (.ref 54), none, none, none]), (1, 80, []), (0, 4, [some (.ref 56), none, none, none]), (1, 80, [])] _
  refine T_iinc dX6_init_129 rfl (by decide) ?_
  refine T_goto (tgt := 111) dX6_init_132 (by decide) ?_
  refine T_iload_n dX6_init_111 rfl ?_
  refine T_iconst dX6_init_112 ?_
  refine T_icmp_ge 135 dX6_init_113 (by decide) (by first | (unfold InR; omega) | (simp [st2, InR]; omega)) (by first | (unfold InR; omega) | (simp [st2, InR]; omega)) (fun hc113 => ?_) (fun hc113 => (by exfalso; omega))
  refine T_vret dX6_init_135 rfl ?_
  exact K
def dB : DD := st2 (st2 (st2 (st2 (st2 dA 57 11 200) 77 0 (-1)) 77 1 (-1)) 77 2 (-1)) 77 3 (-1)
theorem i_model (K : P none SH dB) : T g mX7_init (rmd 3 23 713) 23 713 (Qm g (rmd 3 23 713) P) 0 (le0 2 [.ref 57]) [] (S57 ++ [(0, 7, [none, none, some .null, some .null, some .null, none, some .null, some .null, some .null, some .null, some .null, none, none, some .null, some .null, none, some .null, some .null, some .null, some .null, some .null, some .null, some .null, none, some .null, some .null, some .null, some .null, some .null, some .null, none])]) dA := by
  refine T_aload_n dX7_init_0 rfl ?_
  refine T_objInit dX7_init_1 tk_776 tk_18 tk_19 (Nat.le_of_ble_eq_true rfl) (by show _ ≤ _; first | decide | (simp only [rmd]; omega) | omega) (by show _ ≤ _; first | decide | (simp only [rmd]; omega) | omega) ?_
  refine T_aload_n dX7_init_4 rfl ?_
  refine T_bipush dX7_init_5 (by decide) ?_
  refine T_newI (n := 10) (nc := 22) (ns := 703) dX7_init_7 tk_I (by decide) (fun _ => rfl) ?_
  refine T_putR dX7_init_9 flX7_7 rfl (by intro C Tt N h; cases h; rfl) rfl (by decide) (fun _ => rfl) (fun _ => rfl) ?_
  refine T_aload_n dX7_init_12 rfl ?_
  refine T_bipush dX7_init_13 (by decide) ?_
  refine T_newI (n := 10) (nc := 21) (ns := 693) dX7_init_15 tk_I (by decide) (fun _ => rfl) ?_
  refine T_putR dX7_init_17 flX7_13 rfl (by intro C Tt N h; cases h; rfl) rfl (by decide) (fun _ => rfl) (fun _ => rfl) ?_
  refine T_aload_n dX7_init_20 rfl ?_
  refine T_bipush dX7_init_21 (by decide) ?_
  refine T_newI (n := 10) (nc := 20) (ns := 683) dX7_init_23 tk_I (by decide) (fun _ => rfl) ?_
  refine T_putR dX7_init_25 flX7_16 rfl (by intro C Tt N h; cases h; rfl) rfl (by decide) (fun _ => rfl) (fun _ => rfl) ?_
  refine T_aload_n dX7_init_28 rfl ?_
  refine T_iconst dX7_init_29 ?_
  refine T_newI (n := 5) (nc := 19) (ns := 678) dX7_init_30 tk_I (by decide) (fun _ => rfl) ?_
  refine T_putR dX7_init_32 flX7_19 rfl (by intro C Tt N h; cases h; rfl) rfl (by decide) (fun _ => rfl) (fun _ => rfl) ?_
  refine T_aload_n dX7_init_35 rfl ?_
  refine T_iconst dX7_init_36 ?_
  refine T_newI (n := 5) (nc := 18) (ns := 673) dX7_init_37 tk_I (by decide) (fun _ => rfl) ?_
  refine T_putR dX7_init_39 flX7_22 rfl (by intro C Tt N h; cases h; rfl) rfl (by decide) (fun _ => rfl) (fun _ => rfl) ?_
  refine T_aload_n dX7_init_42 rfl ?_
  refine T_iconst dX7_init_43 ?_
  refine T_newI (n := 5) (nc := 17) (ns := 668) dX7_init_44 tk_I (by decide) (fun _ => rfl) ?_
  refine T_putR dX7_init_46 flX7_25 rfl (by intro C Tt N h; cases h; rfl) rfl (by decide) (fun _ => rfl) (fun _ => rfl) ?_
  refine T_aload_n dX7_init_49 rfl ?_
  refine T_iconst dX7_init_50 ?_
  refine T_newI (n := 5) (nc := 16) (ns := 663) dX7_init_51 tk_I (by decide) (fun _ => rfl) ?_
  refine T_putR dX7_init_53 flX7_28 rfl (by intro C Tt N h; cases h; rfl) rfl (by decide) (fun _ => rfl) (fun _ => rfl) ?_
  refine T_aload_n dX7_init_56 rfl ?_
  refine T_bipush dX7_init_57 (by decide) ?_
  refine T_newZ (n := 50) (nc := 15) (ns := 613) dX7_init_59 tk_Z (by decide) (fun _ => rfl) ?_
  refine T_putR dX7_init_61 flX7_31 rfl (by intro C Tt N h; cases h; rfl) rfl (by decide) (fun _ => rfl) (fun _ => rfl) ?_
  refine T_aload_n dX7_init_64 rfl ?_
  refine T_bipush dX7_init_65 (by decide) ?_
  refine T_newI (n := 16) (nc := 14) (ns := 597) dX7_init_67 tk_I (by decide) (fun _ => rfl) ?_
  refine T_putR dX7_init_69 flX7_35 rfl (by intro C Tt N h; cases h; rfl) rfl (by decide) (fun _ => rfl) (fun _ => rfl) ?_
  refine T_aload_n dX7_init_72 rfl ?_
  refine T_bipush dX7_init_73 (by decide) ?_
  refine T_newI (n := 48) (nc := 13) (ns := 549) dX7_init_75 tk_I (by decide) (fun _ => rfl) ?_
  refine T_putR dX7_init_77 flX7_38 rfl (by intro C Tt N h; cases h; rfl) rfl (by decide) (fun _ => rfl) (fun _ => rfl) ?_
  refine T_aload_n dX7_init_80 rfl ?_
  refine T_iconst dX7_init_81 ?_
  refine T_newI (n := 5) (nc := 12) (ns := 544) dX7_init_82 tk_I (by decide) (fun _ => rfl) ?_
  refine T_putR dX7_init_84 flX7_41 rfl (by intro C Tt N h; cases h; rfl) rfl (by decide) (fun _ => rfl) (fun _ => rfl) ?_
  refine T_aload_n dX7_init_87 rfl ?_
  refine T_bipush dX7_init_88 (by decide) ?_
  refine T_newI (n := 50) (nc := 11) (ns := 494) dX7_init_90 tk_I (by decide) (fun _ => rfl) ?_
  refine T_putR dX7_init_92 flX7_44 rfl (by intro C Tt N h; cases h; rfl) rfl (by decide) (fun _ => rfl) (fun _ => rfl) ?_
  refine T_aload_n dX7_init_95 rfl ?_
  refine T_bipush dX7_init_96 (by decide) ?_
  refine T_newI (n := 50) (nc := 10) (ns := 444) dX7_init_98 tk_I (by decide) (fun _ => rfl) ?_
  refine T_putR dX7_init_100 flX7_47 rfl (by intro C Tt N h; cases h; rfl) rfl (by decide) (fun _ => rfl) (fun _ => rfl) ?_
  refine T_aload_n dX7_init_103 rfl ?_
  refine T_iconst dX7_init_104 ?_
  refine T_newI (n := 5) (nc := 9) (ns := 439) dX7_init_105 tk_I (by decide) (fun _ => rfl) ?_
  refine T_putR dX7_init_107 flX7_50 rfl (by intro C Tt N h; cases h; rfl) rfl (by decide) (fun _ => rfl) (fun _ => rfl) ?_
  refine T_aload_n dX7_init_110 rfl ?_
  refine T_iconst dX7_init_111 ?_
  refine T_newI (n := 5) (nc := 8) (ns := 434) dX7_init_112 tk_I (by decide) (fun _ => rfl) ?_
  refine T_putR dX7_init_114 flX7_53 rfl (by intro C Tt N h; cases h; rfl) rfl (by decide) (fun _ => rfl) (fun _ => rfl) ?_
  refine T_aload_n dX7_init_117 rfl ?_
  refine T_iconst dX7_init_118 ?_
  refine T_newI (n := 5) (nc := 7) (ns := 429) dX7_init_119 tk_I (by decide) (fun _ => rfl) ?_
  refine T_putR dX7_init_121 flX7_56 rfl (by intro C Tt N h; cases h; rfl) rfl (by decide) (fun _ => rfl) (fun _ => rfl) ?_
  refine T_aload_n dX7_init_124 rfl ?_
  refine T_iconst dX7_init_125 ?_
  refine T_newI (n := 5) (nc := 6) (ns := 424) dX7_init_126 tk_I (by decide) (fun _ => rfl) ?_
  refine T_putR dX7_init_128 flX7_59 rfl (by intro C Tt N h; cases h; rfl) rfl (by decide) (fun _ => rfl) (fun _ => rfl) ?_
  refine T_aload_n dX7_init_131 rfl ?_
  refine T_bipush dX7_init_132 (by decide) ?_
  refine T_newI (n := 8) (nc := 5) (ns := 416) dX7_init_134 tk_I (by decide) (fun _ => rfl) ?_
  refine T_putR dX7_init_136 flX7_62 rfl (by intro C Tt N h; cases h; rfl) rfl (by decide) (fun _ => rfl) (fun _ => rfl) ?_
  refine T_aload_n dX7_init_139 rfl ?_
  refine T_bipush dX7_init_140 (by decide) ?_
  refine T_newI (n := 8) (nc := 4) (ns := 408) dX7_init_142 tk_I (by decide) (fun _ => rfl) ?_
  refine T_putR dX7_init_144 flX7_65 rfl (by intro C Tt N h; cases h; rfl) rfl (by decide) (fun _ => rfl) (fun _ => rfl) ?_
  refine T_aload_n dX7_init_147 rfl ?_
  refine T_iconst dX7_init_148 ?_
  refine T_newI (n := 4) (nc := 3) (ns := 404) dX7_init_149 tk_I (by decide) (fun _ => rfl) ?_
  refine T_putR dX7_init_151 flX7_68 rfl (by intro C Tt N h; cases h; rfl) rfl (by decide) (fun _ => rfl) (fun _ => rfl) ?_
  refine T_aload_n dX7_init_154 rfl ?_
  refine T_iconst dX7_init_155 ?_
  refine T_newI (n := 4) (nc := 2) (ns := 400) dX7_init_156 tk_I (by decide) (fun _ => rfl) ?_
  refine T_putR dX7_init_158 flX7_71 rfl (by intro C Tt N h; cases h; rfl) rfl (by decide) (fun _ => rfl) (fun _ => rfl) ?_
  refine T_aload_n dX7_init_161 rfl ?_
  refine T_sipush dX7_init_162 (by decide) ?_
  refine T_newI (n := 320) (nc := 1) (ns := 80) dX7_init_165 tk_I (by decide) (fun _ => rfl) ?_
  refine T_putR dX7_init_167 flX7_74 rfl (by intro C Tt N h; cases h; rfl) rfl (by decide) (fun _ => rfl) (fun _ => rfl) ?_
  refine T_aload_n dX7_init_170 rfl ?_
  refine T_bipush dX7_init_171 (by decide) ?_
  refine T_newI (n := 80) (nc := 0) (ns := 0) dX7_init_173 tk_I (by decide) (fun _ => rfl) ?_
  refine T_putR dX7_init_175 flX7_77 rfl (by intro C Tt N h; cases h; rfl) rfl (by decide) (fun _ => rfl) (fun _ => rfl) ?_
  refine T_aload_n dX7_init_178 rfl ?_
  refine T_sipush dX7_init_179 (by decide) ?_
  refine T_putI dX7_init_182 flX7_80 rfl rfl ?_
  refine T_iconst dX7_init_185 ?_
  refine T_istore_n dX7_init_186 (by decide) ?_
  show T _ _ _ _ _ _ _ _ _ SH _
  refine T_iload_n dX7_init_187 rfl ?_
  refine T_iconst dX7_init_188 ?_
  refine T_icmp_ge 205 dX7_init_189 (by decide) (by first | (unfold InR; omega) | (simp [st2, InR]; omega)) (by first | (unfold InR; omega) | (simp [st2, InR]; omega)) (fun hc189 => (by exfalso; omega)) (fun hc189 => ?_)
  refine T_aload_n dX7_init_192 rfl ?_
  refine T_getR dX7_init_193 flX7_68 rfl rfl ?_
  refine T_iload_n dX7_init_196 rfl ?_
  refine T_iconst dX7_init_197 ?_
  refine T_iast dX7_init_198 rfl (by first | decide | omega) (by first | omega | (simp [st2]; omega)) (by first | omega | (simp [st2]; omega)) ?_
  refine T_iinc dX7_init_199 rfl (by decide) ?_
  refine T_goto (tgt := 187) dX7_init_202 (by decide) ?_
  refine T_iload_n dX7_init_187 rfl ?_
  refine T_iconst dX7_init_188 ?_
  refine T_icmp_ge 205 dX7_init_189 (by decide) (by first | (unfold InR; omega) | (simp [st2, InR]; omega)) (by first | (unfold InR; omega) | (simp [st2, InR]; omega)) (fun hc189 => (by exfalso; omega)) (fun hc189 => ?_)
  refine T_aload_n dX7_init_192 rfl ?_
  refine T_getR dX7_init_193 flX7_68 rfl rfl ?_
  refine T_iload_n dX7_init_196 rfl ?_
  refine T_iconst dX7_init_197 ?_
  refine T_iast dX7_init_198 rfl (by first | decide | omega) (by first | omega | (simp [st2]; omega)) (by first | omega | (simp [st2]; omega)) ?_
  refine T_iinc dX7_init_199 rfl (by decide) ?_
  refine T_goto (tgt := 187) dX7_init_202 (by decide) ?_
  refine T_iload_n dX7_init_187 rfl ?_
  refine T_iconst dX7_init_188 ?_
  refine T_icmp_ge 205 dX7_init_189 (by decide) (by first | (unfold InR; omega) | (simp [st2, InR]; omega)) (by first | (unfold InR; omega) | (simp [st2, InR]; omega)) (fun hc189 => (by exfalso; omega)) (fun hc189 => ?_)
  refine T_aload_n dX7_init_192 rfl ?_
  refine T_getR dX7_init_193 flX7_68 rfl rfl ?_
  refine T_iload_n dX7_init_196 rfl ?_
  refine T_iconst dX7_init_197 ?_
  refine T_iast dX7_init_198 rfl (by first | decide | omega) (by first | omega | (simp [st2]; omega)) (by first | omega | (simp [st2]; omega)) ?_
  refine T_iinc dX7_init_199 rfl (by decide) ?_
  refine T_goto (tgt := 187) dX7_init_202 (by decide) ?_
  refine T_iload_n dX7_init_187 rfl ?_
  refine T_iconst dX7_init_188 ?_
  refine T_icmp_ge 205 dX7_init_189 (by decide) (by first | (unfold InR; omega) | (simp [st2, InR]; omega)) (by first | (unfold InR; omega) | (simp [st2, InR]; omega)) (fun hc189 => (by exfalso; omega)) (fun hc189 => ?_)
  refine T_aload_n dX7_init_192 rfl ?_
  refine T_getR dX7_init_193 flX7_68 rfl rfl ?_
  refine T_iload_n dX7_init_196 rfl ?_
  refine T_iconst dX7_init_197 ?_
  refine T_iast dX7_init_198 rfl (by first | decide | omega) (by first | omega | (simp [st2]; omega)) (by first | omega | (simp [st2]; omega)) ?_
  refine T_iinc dX7_init_199 rfl (by decide) ?_
  refine T_goto (tgt := 187) dX7_init_202 (by decide) ?_
  refine T_iload_n dX7_init_187 rfl ?_
  refine T_iconst dX7_init_188 ?_
  refine T_icmp_ge 205 dX7_init_189 (by decide) (by first | (unfold InR; omega) | (simp [st2, InR]; omega)) (by first | (unfold InR; omega) | (simp [st2, InR]; omega)) (fun hc189 => ?_) (fun hc189 => (by exfalso; omega))
  refine T_vret dX7_init_205 rfl ?_
  exact K
end

