/-! THE CLAIM OUT OF ONE WALK OF THE LAW'S BODY. Your part is whole_start (and what it stands on); all else here is the same for every law, but numbers. -/
def R_law : String := "NearSeatsLaw"
def lw_P (b : Addr) (xs : List Int32) (args : Array Value) (s : State) : Prop := args = #[.ref b] ∧ s.IntsAt b xs ∧ xs.length ≤ 3072 ∧ (Jvm.Cond.and given_1 narrow_1).before args s = true
def lw_Q (_ : Array Value) (s : State) (o : Outcome) (t : State) : Prop := o = .returned (some (.int 1)) ∧ Framed s o t [] 600000 7302250
def lw_Z (below : List Frame) (a : Array Value) (s : State) : State → Prop := fun t => ∃ o, t.status = .running ∧ Ended t below o ∧ lw_Q a s o t
/-- the law's own end, with 1 on the stack, nothing written that was there before, its room as the claim has it -/
theorem lw_ret {p : Program} {l : Launch} {e : Env} {s : State} {m : MethodId} {below : List Frame} {meth : Method} {c : Code} {b : Nat} (hx : p.tables.exec = Jvm.exec) (hb : c.code = code) (hr : meth.sig.returnType = ret) (hlocks : meth.locks = false) {pc : Nat} {H : Heap} {ls : Array Slot} (hdg : decode code pc = .ok (.ireturn, 1)) : W p l e room_1 s m #[Value.ref b] below meth c H [] 600000 7302250 (lw_Z below #[Value.ref b] s) (F0 m pc ls [.int 1]) := by
  intro T hT X
  obtain ⟨fs, hret, hrun, hended, hW, hframe⟩ := X.leave (v := some (.int 1)) (hlocks := hlocks) (fun h => by rw [hr] at h; cases h)
  have hmeth' : T.vm.method? m = some meth := X.method'
  refine ⟨T.setFrames fs, ?_, .returned (some (.int 1)), hrun, hended, rfl, ⟨_, rfl⟩, hW, hframe⟩
  jvm_step X.here [X.here.top, hx, hb, hdg, hmeth', hr, ret, narrow_b1]
  (try refine ⟨rfl, ?_⟩); (try refine ⟨rfl, ?_⟩)
  first | (intro acts; rw [hret _ acts rfl rfl rfl]) | rw [hret _ _ rfl rfl rfl]
  exact Steps.refl _
/-- what holds at the law's entry: the machine, the code, the tables' words (any of lw_tbl by 'hts w (by decide +kernel)'), the script of L ints xs at the cell b, what the Statement gives of the start (any of its parts by flat_of_before) -/
def lw_At (p : Program) (s : State) (m : MethodId) (meth : Method) (c : Code) (b L : Nat) (xs : Nat → Int32) : Prop :=
  p.tables.exec = Jvm.exec ∧ c.code = code ∧ meth.sig.returnType = ret ∧ c.maxLocals = 4 ∧ s.vm.findClass R_law = some m.cls ∧ (∀ w ∈ lw_tbl, w.before #[Value.ref b] s = true) ∧ va_X b L xs s s.heap ∧ b < s.heap.size ∧ meth.locks = false ∧ (Jvm.Cond.and given_1 narrow_1).before #[Value.ref b] s = true

/-- the law's end, over cells and slots that are left -/
theorem lw_retA {p : Program} {l : Launch} {e : Env} {s : State} {m : MethodId} {args : Array Value} {below : List Frame} {meth : Method} {c : Code} (hx : p.tables.exec = Jvm.exec) (hb : c.code = code) (hr : meth.sig.returnType = ret) (hlocks : meth.locks = false) {pc : Nat} {H : Heap} {ls : Array Slot} (hdg : decode code pc = .ok (.ireturn, 1)) : W p l e room_1 s m args below meth c H [] 600000 7302250 (lw_Z below args s) (F0 m pc ls [.int 1]) := by
  intro T hT X
  obtain ⟨fs, hret, hrun, hended, hW, hframe⟩ := X.leave (v := some (.int 1)) (hlocks := hlocks) (fun h => by rw [hr] at h; cases h)
  have hmeth' : T.vm.method? m = some meth := X.method'
  refine ⟨T.setFrames fs, ?_, .returned (some (.int 1)), hrun, hended, rfl, ⟨_, rfl⟩, hW, hframe⟩
  jvm_step X.here [X.here.top, hx, hb, hdg, hmeth', hr, ret, narrow_b1]
  (try refine ⟨rfl, ?_⟩); (try refine ⟨rfl, ?_⟩)
  first | (intro acts; rw [hret _ acts rfl rfl rfl]) | rw [hret _ _ rfl rfl rfl]
  exact Steps.refl _
section
variable {g : G0} {pc : Nat} {L : List (Option Value)} {D : DD}
theorem T_end (hd : decode code pc = .ok (.ireturn, 1)) : T g mL_law room_1 599919 7300437 lw_Z pc L [iI 1] SH D := by
  intro p l e s m args below meth c H locs cells slots ls X
  have h1 : cells + 599919 = 600000 := X.2.2.2.2.1
  have h2 : slots + 7300437 = 7302250 := X.2.2.2.2.2.1
  have h3 : s.heap.size + cells = g.1 + SH.length := X.2.2.2.2.2.2
  rw [SH_len] at h3
  refine va_forget (fun q hq => ?_) ?_
  · have := X.2.2.1.2.2 q hq
    have h4 : g.1 ≤ q.base := this
    omega
  · refine W.widen (k := 600000) (n := 7302250) (by omega) (by omega) ?_
    exact lw_retA X.1.1 X.1.2.1 X.1.2.2.2.1 X.1.2.2.2.2.2.2.1 hd
end
section
variable {g : G0} {M : MI} {R : Room} {nc ns : Nat} {Qf : List Frame → Array Value → State → State → Prop} {pc : Nat} {L : List (Option Value)} {st : List Value} {S : List SC} {D : DD}
theorem T_same {a off : Int} (tgt : Nat) (hd : decode M.2.1 pc = .ok (.if_icmp .eq off, 3)) (ht : (pc : Int) + off = (tgt : Int)) (kt : T g M R nc ns Qf tgt L st S D) : T g M R nc ns Qf pc L (iI a :: iI a :: st) S D := by
  intro p l e s m args below meth c H locs cells slots ls X
  exact lv_icmp_eq X.1.1 X.1.2.1 hd ht (fun _ => kt p l e s m args below meth c H locs cells slots ls X) (fun h => absurd rfl h)
theorem lg_same (a : Int64) : lg_cmp a a = 0 := by unfold lg_cmp; simp
theorem T_sameL {a off : Int} (tgt : Nat) (hd0 : decode M.2.1 pc = .ok (.lcmp, 1)) (hd : decode M.2.1 (pc + 1) = .ok (.ifCond .eq off, 3)) (ht : ((pc + 1 : Nat) : Int) + off = (tgt : Int)) (kt : T g M R nc ns Qf tgt L st S D) : T g M R nc ns Qf pc L (lI a :: lI a :: st) S D := by
  intro p l e s m args below meth c H locs cells slots ls X
  have h := kt p l e s m args below meth c H locs cells slots ls X
  refine W.lcmp X.1.1 X.1.2.1 hd0 ?_
  rw [lg_same]
  exact lv_if_eq X.1.1 X.1.2.1 hd ht (fun _ => h) (fun h => absurd rfl h)
end
theorem inR_s (x : Int32) : InR x.toInt := ⟨Int32.le_toInt x, Int32.toInt_lt x⟩

