/-! the law's own end (as the kit's skeleton has it), and rules for its script -/
def R_law : String := "FoghornExchangeLaw"
def lw_P (b : Addr) (xs : List Int32) (args : Array Value) (s : State) : Prop := args = #[.ref b] ∧ s.IntsAt b xs ∧ xs.length ≤ 2560 ∧ (Jvm.Cond.and given_1 narrow_1).before args s = true
/-- what a walk over the start with the record d0 says of its end, said of the start itself -/
theorem lw_closed {s t : State} {o : Outcome} {d0 : Drawn} {L : List Loc} {k n : Nat} (hd0 : s.drawn.sameBut d0 lw_cs) (hv : ∃ v, o = .returned v) (hW : (s.setDrawn d0).WarmedH t.vm) (hs : (s.setDrawn d0).sameButNew ({ t with vm := s.vm } : State) L k n) : State.butDraws s t lw_cs (fun t1 => Framed s o t1 L k n) := by
  have h2 : t.drawn = d0 := congrArg State.drawn hs.1
  refine ⟨⟨hv, hW, State.sameButNew.setDrawn hs s.drawn⟩, ?_, by decide⟩
  rw [h2]
  exact hd0
def lw_Q (_ : Array Value) (s : State) (o : Outcome) (t : State) : Prop := o = .returned (some (.int 1)) ∧ State.butDraws s t lw_cs (fun t1 => Framed s o t1 [] 603072 7186538)
def lw_Z (below : List Frame) (a : Array Value) (s : State) : State → Prop := fun t => ∃ o, t.status = .running ∧ Ended t below o ∧ lw_Q a s o t
/-- the law's own end, with 1 on the stack, nothing written that was there before, its room as the claim has it; d0: the record of draws at this point (at the entry s.drawn: begin with 'refine W.base ?_' and 'have hd0 := Drawn.sameBut.refl s.drawn lw_cs') -/
theorem lw_ret {p : Program} {l : Launch} {e : Env} {s : State} {m : MethodId} {below : List Frame} {meth : Method} {c : Code} {b : Nat} {d0 : Drawn} (hd0 : s.drawn.sameBut d0 lw_cs) (hx : p.tables.exec = Jvm.exec) (hb : c.code = code) (hr : meth.sig.returnType = ret) (hlocks : meth.locks = false) {pc : Nat} {H : Heap} {ls : Array Slot} (hdg : decode code pc = .ok (.ireturn, 1)) : W p l e room_1 (s.setDrawn d0) m #[Value.ref b] below meth c H [] 603072 7186538 (lw_Z below #[Value.ref b] s) (F0 m pc ls [.int 1]) := by
  intro T hT X
  obtain ⟨fs, hret, hrun, hended, hW, hframe⟩ := X.leave (v := some (.int 1)) (hlocks := hlocks) (fun h => by rw [hr] at h; cases h)
  have hmeth' : T.vm.method? m = some meth := X.method'
  refine ⟨T.setFrames fs, ?_, .returned (some (.int 1)), hrun, hended, rfl, lw_closed hd0 ⟨_, rfl⟩ hW hframe⟩
  jvm_step X.here [X.here.top, hx, hb, hdg, hmeth', hr, ret, narrow_b1]
  (try refine ⟨rfl, ?_⟩); (try refine ⟨rfl, ?_⟩)
  first | (intro acts; rw [hret _ acts rfl rfl rfl]) | rw [hret _ _ rfl rfl rfl]
  exact Steps.refl _
/-- what holds at the law's entry: the machine, the code, the tables' words (any of lw_tbl by 'hts w (by decide +kernel)'), the script of L ints xs at the cell b, what the Statement gives of the start (any of its parts by flat_of_before) -/
def lw_At (p : Program) (s : State) (m : MethodId) (meth : Method) (c : Code) (b L : Nat) (xs : Nat → Int32) : Prop :=
  p.tables.exec = Jvm.exec ∧ c.code = code ∧ meth.sig.returnType = ret ∧ c.maxLocals = 9 ∧ s.vm.findClass R_law = some m.cls ∧ (∀ w ∈ lw_tbl, w.before #[Value.ref b] s = true) ∧ va_X b L xs s s.heap ∧ b < s.heap.size ∧ meth.locks = false ∧ (Jvm.Cond.and given_1 narrow_1).before #[Value.ref b] s = true

section LR
variable {own : String} {cc : ByteArray} {nL : Nat} {cy : Nat → ClassId} {RM : Room} {Ex : kEx} {F : kFin} {pc : Nat} {lv lv' : List (Nat × Value)} {st rest : List Value} {w : va_W} {cells slots : Nat}
def ExL (b Lx : Nat) (xs : Nat → Int32) : kEx := fun _ _ _ s _ args _ meth _ _ A => args = #[Value.ref b] ∧ va_X b Lx xs s s.heap ∧ b < s.heap.size ∧ A = (fun q => s.heap.size ≤ q) ∧ meth.sig.returnType = ret ∧ meth.locks = false
def FinL : kFin := fun below args s _ _ => lw_Z below args s
theorem JG_sld {b Lx : Nat} {xs : Nat → Int32} {i : Int32} (hin : vp_in i Lx) (hd : decode cc pc = .ok (.iaload, 1)) (kk : JG own cc nL cy RM (ExL b Lx xs) F (pc + 1) lv (.int (xs i.toNatClampNeg) :: rest) w cells slots) : JG own cc nL cy RM (ExL b Lx xs) F pc lv (.int i :: .ref b :: rest) w cells slots := by
  intro p l e s m args below meth c D A C0 E0 H locs ls hP hD hS hll
  exact va_sld C0.1 C0.2.1 E0.2.1 E0.2.2.1 (by rw [E0.2.2.2.1]; exact Nat.not_le.mpr E0.2.2.1) hS hin hd (kk p l e s m args below meth c D A C0 E0 H locs ls hP hD hS hll)
theorem JG_slen {b Lx : Nat} {xs : Nat → Int32} (hd : decode cc pc = .ok (.arraylength, 1)) (kk : JG own cc nL cy RM (ExL b Lx xs) F (pc + 1) lv (.int (nI Lx) :: rest) w cells slots) : JG own cc nL cy RM (ExL b Lx xs) F pc lv (.ref b :: rest) w cells slots := by
  intro p l e s m args below meth c D A C0 E0 H locs ls hP hD hS hll
  exact va_slen C0.1 C0.2.1 E0.2.1 E0.2.2.1 (by rw [E0.2.2.2.1]; exact Nat.not_le.mpr E0.2.2.1) hS hd (kk p l e s m args below meth c D A C0 E0 H locs ls hP hD hS hll)
theorem JG_iretL {b Lx : Nat} {xs : Nat → Int32} (hd : decode code pc = .ok (.ireturn, 1)) (hc : cells ≤ 603072) (hs : slots ≤ 7186538) : JG own code nL cy room_1 (ExL b Lx xs) FinL pc lv [.int 1] w cells slots := by
  intro p l e s m args below meth c D A C0 E0 H locs ls hP hD hS hll
  obtain ⟨rfl, h2, h3, hA, h5, h6⟩ := E0
  refine va_forget (fun q hq => by have := hS.2.2 q hq; rw [hA] at this; exact this) ?_
  refine W.widen hc hs ?_
  refine W.base ?_
  exact lw_ret (Drawn.sameBut.refl s.drawn lw_cs) C0.1 C0.2.1 h5 h6 hd
end LR
theorem lt_or (n : Nat) (x : Int32) : (∃ s, s < n ∧ x = nI s) ∨ ∀ s, s < n → x ≠ nI s := by
  by_cases h : ∃ s, s < n ∧ x = nI s
  · exact Or.inl h
  · exact Or.inr (fun s hs e => h ⟨s, hs, e⟩)
theorem mFull_or (m : Mu) : mFull m = false ∨ mFull m = true := by cases mFull m <;> simp
theorem inv_sw {m : Mu} {B s : Nat} {v t : Int32} (hI : Inv m B) (hv : v = 0 ∨ (5 ≤ v ∧ v ≤ 60)) : Inv (ms (ms m 44 s v) 45 s t) B := by
  obtain ⟨a, b, z, d, e1, f, g, i, j⟩ := hI
  refine ⟨a, b, z, d, e1, f, g, ⟨i.1, i.2.1, fun x => ?_⟩, j⟩
  show 0 ≤ (ms m 44 s v).1 44 x
  by_cases q : x = s
  · subst q; rw [ms_eq]; grind
  · rw [ms_j _ _ _ q]; exact i.2.2 x
theorem ddiv_cmp {x y : Int32} (hy : y ≠ 0) : FP.dcmp (FP.ddiv (FP.i2d x) (FP.i2d y)) (FP.ddiv (FP.i2d x) (FP.i2d y)) = some .eq := by
  refine dcmp_self (fd_div (fd_dec (fd_int _)).1 (fd_nat ?_ ?_))
  · intro z; exact hy (Int32.toInt_inj.mp (z.trans (by decide)))
  · have h1 := Int32.toInt_lt y
    have h2 := Int32.le_toInt y
    omega
theorem f2d_fdiv {x : Int32} {n : Nat} (h0 : n ≠ 0) (hn : n < 16777216) : vf_n64 (FP.f2d (FP.fdiv (FP.i2f x) (FP.i2f (nI n)))) ∧ FP.dcmp (FP.f2d (FP.fdiv (FP.i2f x) (FP.i2f (nI n)))) (FP.f2d (FP.fdiv (FP.i2f x) (FP.i2f (nI n)))) = some .eq := f2d_ok (fdiv_N h0 hn)
theorem cmp_eq (op : CmpOp) : Op.cmpValue (some .eq) op = 0 := by cases op <;> rfl

theorem kdL_addStation : yL_addStation.cls ≠ "java/lang/invoke/MethodHandle" ∧ yL_addStation.cls ≠ "java/lang/invoke/VarHandle" ∧ (parseMethodDescriptor yL_addStation.desc).map (fun d => d.parameters.length) = some 4 := ⟨by decide +kernel, by decide +kernel, by decide +kernel⟩
theorem kdL_move : yL_move.cls ≠ "java/lang/invoke/MethodHandle" ∧ yL_move.cls ≠ "java/lang/invoke/VarHandle" ∧ (parseMethodDescriptor yL_move.desc).map (fun d => d.parameters.length) = some 4 := ⟨by decide +kernel, by decide +kernel, by decide +kernel⟩
theorem kdL_setOn : yL_setOn.cls ≠ "java/lang/invoke/MethodHandle" ∧ yL_setOn.cls ≠ "java/lang/invoke/VarHandle" ∧ (parseMethodDescriptor yL_setOn.desc).map (fun d => d.parameters.length) = some 4 := ⟨by decide +kernel, by decide +kernel, by decide +kernel⟩
theorem kdL_placeOf : yL_placeOf.cls ≠ "java/lang/invoke/MethodHandle" ∧ yL_placeOf.cls ≠ "java/lang/invoke/VarHandle" ∧ (parseMethodDescriptor yL_placeOf.desc).map (fun d => d.parameters.length) = some 3 := ⟨by decide +kernel, by decide +kernel, by decide +kernel⟩
theorem kdL_isOn : yL_isOn.cls ≠ "java/lang/invoke/MethodHandle" ∧ yL_isOn.cls ≠ "java/lang/invoke/VarHandle" ∧ (parseMethodDescriptor yL_isOn.desc).map (fun d => d.parameters.length) = some 3 := ⟨by decide +kernel, by decide +kernel, by decide +kernel⟩
theorem kdL_hears : yL_hears.cls ≠ "java/lang/invoke/MethodHandle" ∧ yL_hears.cls ≠ "java/lang/invoke/VarHandle" ∧ (parseMethodDescriptor yL_hears.desc).map (fun d => d.parameters.length) = some 4 := ⟨by decide +kernel, by decide +kernel, by decide +kernel⟩
theorem kdL_busyWith : yL_busyWith.cls ≠ "java/lang/invoke/MethodHandle" ∧ yL_busyWith.cls ≠ "java/lang/invoke/VarHandle" ∧ (parseMethodDescriptor yL_busyWith.desc).map (fun d => d.parameters.length) = some 3 := ⟨by decide +kernel, by decide +kernel, by decide +kernel⟩
theorem kdL_relays : yL_relays.cls ≠ "java/lang/invoke/MethodHandle" ∧ yL_relays.cls ≠ "java/lang/invoke/VarHandle" ∧ (parseMethodDescriptor yL_relays.desc).map (fun d => d.parameters.length) = some 4 := ⟨by decide +kernel, by decide +kernel, by decide +kernel⟩
theorem kdL_relaysByJoining : yL_relaysByJoining.cls ≠ "java/lang/invoke/MethodHandle" ∧ yL_relaysByJoining.cls ≠ "java/lang/invoke/VarHandle" ∧ (parseMethodDescriptor yL_relaysByJoining.desc).map (fun d => d.parameters.length) = some 4 := ⟨by decide +kernel, by decide +kernel, by decide +kernel⟩
theorem kdL_onWay : yL_onWay.cls ≠ "java/lang/invoke/MethodHandle" ∧ yL_onWay.cls ≠ "java/lang/invoke/VarHandle" ∧ (parseMethodDescriptor yL_onWay.desc).map (fun d => d.parameters.length) = some 5 := ⟨by decide +kernel, by decide +kernel, by decide +kernel⟩
theorem kdL_call : yL_call.cls ≠ "java/lang/invoke/MethodHandle" ∧ yL_call.cls ≠ "java/lang/invoke/VarHandle" ∧ (parseMethodDescriptor yL_call.desc).map (fun d => d.parameters.length) = some 6 := ⟨by decide +kernel, by decide +kernel, by decide +kernel⟩
theorem kdL_cancel : yL_cancel.cls ≠ "java/lang/invoke/MethodHandle" ∧ yL_cancel.cls ≠ "java/lang/invoke/VarHandle" ∧ (parseMethodDescriptor yL_cancel.desc).map (fun d => d.parameters.length) = some 3 := ⟨by decide +kernel, by decide +kernel, by decide +kernel⟩
theorem kdL_raise : yL_raise.cls ≠ "java/lang/invoke/MethodHandle" ∧ yL_raise.cls ≠ "java/lang/invoke/VarHandle" ∧ (parseMethodDescriptor yL_raise.desc).map (fun d => d.parameters.length) = some 4 := ⟨by decide +kernel, by decide +kernel, by decide +kernel⟩
theorem kdL_stateOf : yL_stateOf.cls ≠ "java/lang/invoke/MethodHandle" ∧ yL_stateOf.cls ≠ "java/lang/invoke/VarHandle" ∧ (parseMethodDescriptor yL_stateOf.desc).map (fun d => d.parameters.length) = some 3 := ⟨by decide +kernel, by decide +kernel, by decide +kernel⟩
theorem kdL_urgencyOf : yL_urgencyOf.cls ≠ "java/lang/invoke/MethodHandle" ∧ yL_urgencyOf.cls ≠ "java/lang/invoke/VarHandle" ∧ (parseMethodDescriptor yL_urgencyOf.desc).map (fun d => d.parameters.length) = some 3 := ⟨by decide +kernel, by decide +kernel, by decide +kernel⟩
theorem kdL_leftOf : yL_leftOf.cls ≠ "java/lang/invoke/MethodHandle" ∧ yL_leftOf.cls ≠ "java/lang/invoke/VarHandle" ∧ (parseMethodDescriptor yL_leftOf.desc).map (fun d => d.parameters.length) = some 3 := ⟨by decide +kernel, by decide +kernel, by decide +kernel⟩
theorem kdL_channelOf : yL_channelOf.cls ≠ "java/lang/invoke/MethodHandle" ∧ yL_channelOf.cls ≠ "java/lang/invoke/VarHandle" ∧ (parseMethodDescriptor yL_channelOf.desc).map (fun d => d.parameters.length) = some 3 := ⟨by decide +kernel, by decide +kernel, by decide +kernel⟩
theorem kdL_interruptions : yL_interruptions.cls ≠ "java/lang/invoke/MethodHandle" ∧ yL_interruptions.cls ≠ "java/lang/invoke/VarHandle" ∧ (parseMethodDescriptor yL_interruptions.desc).map (fun d => d.parameters.length) = some 3 := ⟨by decide +kernel, by decide +kernel, by decide +kernel⟩
theorem kdL_speakerOn : yL_speakerOn.cls ≠ "java/lang/invoke/MethodHandle" ∧ yL_speakerOn.cls ≠ "java/lang/invoke/VarHandle" ∧ (parseMethodDescriptor yL_speakerOn.desc).map (fun d => d.parameters.length) = some 3 := ⟨by decide +kernel, by decide +kernel, by decide +kernel⟩
theorem kdL_inLine : yL_inLine.cls ≠ "java/lang/invoke/MethodHandle" ∧ yL_inLine.cls ≠ "java/lang/invoke/VarHandle" ∧ (parseMethodDescriptor yL_inLine.desc).map (fun d => d.parameters.length) = some 3 := ⟨by decide +kernel, by decide +kernel, by decide +kernel⟩
theorem kdL_inLineByCounting : yL_inLineByCounting.cls ≠ "java/lang/invoke/MethodHandle" ∧ yL_inLineByCounting.cls ≠ "java/lang/invoke/VarHandle" ∧ (parseMethodDescriptor yL_inLineByCounting.desc).map (fun d => d.parameters.length) = some 3 := ⟨by decide +kernel, by decide +kernel, by decide +kernel⟩
theorem kdL_pass : yL_pass.cls ≠ "java/lang/invoke/MethodHandle" ∧ yL_pass.cls ≠ "java/lang/invoke/VarHandle" ∧ (parseMethodDescriptor yL_pass.desc).map (fun d => d.parameters.length) = some 3 := ⟨by decide +kernel, by decide +kernel, by decide +kernel⟩
theorem kdL_setWatch : yL_setWatch.cls ≠ "java/lang/invoke/MethodHandle" ∧ yL_setWatch.cls ≠ "java/lang/invoke/VarHandle" ∧ (parseMethodDescriptor yL_setWatch.desc).map (fun d => d.parameters.length) = some 4 := ⟨by decide +kernel, by decide +kernel, by decide +kernel⟩
theorem kdL_report : yL_report.cls ≠ "java/lang/invoke/MethodHandle" ∧ yL_report.cls ≠ "java/lang/invoke/VarHandle" ∧ (parseMethodDescriptor yL_report.desc).map (fun d => d.parameters.length) = some 3 := ⟨by decide +kernel, by decide +kernel, by decide +kernel⟩
theorem kdL_sinceReport : yL_sinceReport.cls ≠ "java/lang/invoke/MethodHandle" ∧ yL_sinceReport.cls ≠ "java/lang/invoke/VarHandle" ∧ (parseMethodDescriptor yL_sinceReport.desc).map (fun d => d.parameters.length) = some 3 := ⟨by decide +kernel, by decide +kernel, by decide +kernel⟩
theorem kdL_missed : yL_missed.cls ≠ "java/lang/invoke/MethodHandle" ∧ yL_missed.cls ≠ "java/lang/invoke/VarHandle" ∧ (parseMethodDescriptor yL_missed.desc).map (fun d => d.parameters.length) = some 3 := ⟨by decide +kernel, by decide +kernel, by decide +kernel⟩
theorem kdL_logTime : yL_logTime.cls ≠ "java/lang/invoke/MethodHandle" ∧ yL_logTime.cls ≠ "java/lang/invoke/VarHandle" ∧ (parseMethodDescriptor yL_logTime.desc).map (fun d => d.parameters.length) = some 3 := ⟨by decide +kernel, by decide +kernel, by decide +kernel⟩
theorem kdL_logKind : yL_logKind.cls ≠ "java/lang/invoke/MethodHandle" ∧ yL_logKind.cls ≠ "java/lang/invoke/VarHandle" ∧ (parseMethodDescriptor yL_logKind.desc).map (fun d => d.parameters.length) = some 3 := ⟨by decide +kernel, by decide +kernel, by decide +kernel⟩
theorem kdL_logNumber : yL_logNumber.cls ≠ "java/lang/invoke/MethodHandle" ∧ yL_logNumber.cls ≠ "java/lang/invoke/VarHandle" ∧ (parseMethodDescriptor yL_logNumber.desc).map (fun d => d.parameters.length) = some 3 := ⟨by decide +kernel, by decide +kernel, by decide +kernel⟩
theorem kdL_meanWait : yL_meanWait.cls ≠ "java/lang/invoke/MethodHandle" ∧ yL_meanWait.cls ≠ "java/lang/invoke/VarHandle" ∧ (parseMethodDescriptor yL_meanWait.desc).map (fun d => d.parameters.length) = some 2 := ⟨by decide +kernel, by decide +kernel, by decide +kernel⟩
theorem kdL_channelShare : yL_channelShare.cls ≠ "java/lang/invoke/MethodHandle" ∧ yL_channelShare.cls ≠ "java/lang/invoke/VarHandle" ∧ (parseMethodDescriptor yL_channelShare.desc).map (fun d => d.parameters.length) = some 3 := ⟨by decide +kernel, by decide +kernel, by decide +kernel⟩
