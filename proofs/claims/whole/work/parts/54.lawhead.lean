/-! the law -/
def R_law : String := "MittenLineLaw"
def lw_P (b : Addr) (xs : List Int32) (args : Array Value) (s : State) : Prop := args = #[.ref b] ∧ s.IntsAt b xs ∧ xs.length ≤ 448 ∧ (Jvm.Cond.and given_1 narrow_1).before args s = true
def lw_Q (_ : Array Value) (s : State) (o : Outcome) (t : State) : Prop := o = .returned (some (.int 1)) ∧ Framed s o t [] 600000 7302250
def lw_Z (below : List Frame) (a : Array Value) (s : State) : State → Prop := fun t => ∃ o, t.status = .running ∧ Ended t below o ∧ lw_Q a s o t
/-- the law's own end, with 1 on the stack, nothing written that was there before, its room as the claim has it -/
theorem lw_ret {p : Program} {l : Launch} {e : Env} {s : State} {m : MethodId} {below : List Frame} {meth : Method} {c : Code} {b : Nat} (hx : p.tables.exec = Jvm.exec) (hb : c.code = code) (hr : meth.sig.returnType = ret) (hlocks : meth.locks = false) {pc : Nat} {H : Heap} {ls : Array Slot} (hdg : decode code pc = .ok (.ireturn, 1)) : W p l e room_1 s m #[Value.ref b] below meth c H [] 600000 7302250 (lw_Z below #[Value.ref b] s) (F0 m pc ls [.int 1]) := by
  intro T hT X
  obtain ⟨fs, hret, hrun, hended, hW, hframe⟩ := X.leave (v := some (.int 1)) (hlocks := hlocks) (fun h => by rw [hr] at h; cases h)
  have hmeth' : T.vm.method? m = some meth := X.method'
  refine ⟨T.setFrames fs, ?_, .returned (some (.int 1)), hrun, hended, rfl, ⟨_, rfl⟩, hW, hframe⟩
  jvm_step X.here [X.here.top, hx, hb, hdg, hmeth', hr, ret, narrow_b1]
  (try refine ⟨rfl, ?_⟩); (try refine ⟨rfl, ?_⟩)
  first | (intro acts; rw [hret _ acts rfl rfl rfl]) | rw [hret _ _ rfl rfl rfl]
  exact Steps.refl _
/-- what holds at the law's entry: the machine, the code, the tables' words (any of lw_tbl by 'hts w (by decide +kernel)'), the script of L ints xs at the cell b, what the Statement gives of the start (any of its parts by flat_of_before) -/
def lw_At (p : Program) (s : State) (m : MethodId) (meth : Method) (c : Code) (b L : Nat) (xs : Nat → Int32) : Prop :=
  p.tables.exec = Jvm.exec ∧ c.code = code ∧ meth.sig.returnType = ret ∧ c.maxLocals = 4 ∧ s.vm.findClass R_law = some m.cls ∧ (∀ w ∈ lw_tbl, w.before #[Value.ref b] s = true) ∧ va_X b L xs s s.heap ∧ b < s.heap.size ∧ meth.locks = false ∧ (Jvm.Cond.and given_1 narrow_1).before #[Value.ref b] s = true
theorem hd_X7_child_L : yX7_child.cls = RX7 ∧ yX7_child.cls ≠ "java/lang/invoke/MethodHandle" ∧ yX7_child.cls ≠ "java/lang/invoke/VarHandle" ∧ (parseMethodDescriptor yX7_child.desc).map (fun d => d.parameters.length) = some 3 := by decide +kernel
theorem hd_X8_child_L : yX8_child.cls = RX8 ∧ yX8_child.cls ≠ "java/lang/invoke/MethodHandle" ∧ yX8_child.cls ≠ "java/lang/invoke/VarHandle" ∧ (parseMethodDescriptor yX8_child.desc).map (fun d => d.parameters.length) = some 3 := by decide +kernel
theorem hd_X7_string_L : yX7_string.cls = RX7 ∧ yX7_string.cls ≠ "java/lang/invoke/MethodHandle" ∧ yX7_string.cls ≠ "java/lang/invoke/VarHandle" ∧ (parseMethodDescriptor yX7_string.desc).map (fun d => d.parameters.length) = some 2 := by decide +kernel
theorem hd_X8_string_L : yX8_string.cls = RX8 ∧ yX8_string.cls ≠ "java/lang/invoke/MethodHandle" ∧ yX8_string.cls ≠ "java/lang/invoke/VarHandle" ∧ (parseMethodDescriptor yX8_string.desc).map (fun d => d.parameters.length) = some 2 := by decide +kernel
theorem hd_X7_ball_L : yX7_ball.cls = RX7 ∧ yX7_ball.cls ≠ "java/lang/invoke/MethodHandle" ∧ yX7_ball.cls ≠ "java/lang/invoke/VarHandle" ∧ (parseMethodDescriptor yX7_ball.desc).map (fun d => d.parameters.length) = some 1 := by decide +kernel
theorem hd_X8_ball_L : yX8_ball.cls = RX8 ∧ yX8_ball.cls ≠ "java/lang/invoke/MethodHandle" ∧ yX8_ball.cls ≠ "java/lang/invoke/VarHandle" ∧ (parseMethodDescriptor yX8_ball.desc).map (fun d => d.parameters.length) = some 1 := by decide +kernel
theorem hd_X7_say_L : yX7_say.cls = RX7 ∧ yX7_say.cls ≠ "java/lang/invoke/MethodHandle" ∧ yX7_say.cls ≠ "java/lang/invoke/VarHandle" ∧ (parseMethodDescriptor yX7_say.desc).map (fun d => d.parameters.length) = some 1 := by decide +kernel
theorem hd_X8_say_L : yX8_say.cls = RX8 ∧ yX8_say.cls ≠ "java/lang/invoke/MethodHandle" ∧ yX8_say.cls ≠ "java/lang/invoke/VarHandle" ∧ (parseMethodDescriptor yX8_say.desc).map (fun d => d.parameters.length) = some 1 := by decide +kernel
theorem hd_X7_wipe_L : yX7_wipe.cls = RX7 ∧ yX7_wipe.cls ≠ "java/lang/invoke/MethodHandle" ∧ yX7_wipe.cls ≠ "java/lang/invoke/VarHandle" ∧ (parseMethodDescriptor yX7_wipe.desc).map (fun d => d.parameters.length) = some 0 := by decide +kernel
theorem hd_X8_wipe_L : yX8_wipe.cls = RX8 ∧ yX8_wipe.cls ≠ "java/lang/invoke/MethodHandle" ∧ yX8_wipe.cls ≠ "java/lang/invoke/VarHandle" ∧ (parseMethodDescriptor yX8_wipe.desc).map (fun d => d.parameters.length) = some 0 := by decide +kernel
theorem hd_X7_fault_L : yX7_fault.cls = RX7 ∧ yX7_fault.cls ≠ "java/lang/invoke/MethodHandle" ∧ yX7_fault.cls ≠ "java/lang/invoke/VarHandle" ∧ (parseMethodDescriptor yX7_fault.desc).map (fun d => d.parameters.length) = some 0 := by decide +kernel
theorem hd_X8_fault_L : yX8_fault.cls = RX8 ∧ yX8_fault.cls ≠ "java/lang/invoke/MethodHandle" ∧ yX8_fault.cls ≠ "java/lang/invoke/VarHandle" ∧ (parseMethodDescriptor yX8_fault.desc).map (fun d => d.parameters.length) = some 0 := by decide +kernel
theorem hd_X7_judge_L : yX7_judge.cls = RX7 ∧ yX7_judge.cls ≠ "java/lang/invoke/MethodHandle" ∧ yX7_judge.cls ≠ "java/lang/invoke/VarHandle" ∧ (parseMethodDescriptor yX7_judge.desc).map (fun d => d.parameters.length) = some 1 := by decide +kernel
theorem hd_X8_judge_L : yX8_judge.cls = RX8 ∧ yX8_judge.cls ≠ "java/lang/invoke/MethodHandle" ∧ yX8_judge.cls ≠ "java/lang/invoke/VarHandle" ∧ (parseMethodDescriptor yX8_judge.desc).map (fun d => d.parameters.length) = some 1 := by decide +kernel
theorem hd_X7_behind_L : yX7_behind.cls = RX7 ∧ yX7_behind.cls ≠ "java/lang/invoke/MethodHandle" ∧ yX7_behind.cls ≠ "java/lang/invoke/VarHandle" ∧ (parseMethodDescriptor yX7_behind.desc).map (fun d => d.parameters.length) = some 2 := by decide +kernel
theorem hd_X8_behind_L : yX8_behind.cls = RX8 ∧ yX8_behind.cls ≠ "java/lang/invoke/MethodHandle" ∧ yX8_behind.cls ≠ "java/lang/invoke/VarHandle" ∧ (parseMethodDescriptor yX8_behind.desc).map (fun d => d.parameters.length) = some 2 := by decide +kernel
theorem hd_X7_line_L : yX7_line.cls = RX7 ∧ yX7_line.cls ≠ "java/lang/invoke/MethodHandle" ∧ yX7_line.cls ≠ "java/lang/invoke/VarHandle" ∧ (parseMethodDescriptor yX7_line.desc).map (fun d => d.parameters.length) = some 1 := by decide +kernel
theorem hd_X8_line_L : yX8_line.cls = RX8 ∧ yX8_line.cls ≠ "java/lang/invoke/MethodHandle" ∧ yX8_line.cls ≠ "java/lang/invoke/VarHandle" ∧ (parseMethodDescriptor yX8_line.desc).map (fun d => d.parameters.length) = some 1 := by decide +kernel
theorem hd_X7_drawn_L : yX7_drawn.cls = RX7 ∧ yX7_drawn.cls ≠ "java/lang/invoke/MethodHandle" ∧ yX7_drawn.cls ≠ "java/lang/invoke/VarHandle" ∧ (parseMethodDescriptor yX7_drawn.desc).map (fun d => d.parameters.length) = some 1 := by decide +kernel
theorem hd_X8_drawn_L : yX8_drawn.cls = RX8 ∧ yX8_drawn.cls ≠ "java/lang/invoke/MethodHandle" ∧ yX8_drawn.cls ≠ "java/lang/invoke/VarHandle" ∧ (parseMethodDescriptor yX8_drawn.desc).map (fun d => d.parameters.length) = some 1 := by decide +kernel
theorem hd_X7_done_L : yX7_done.cls = RX7 ∧ yX7_done.cls ≠ "java/lang/invoke/MethodHandle" ∧ yX7_done.cls ≠ "java/lang/invoke/VarHandle" ∧ (parseMethodDescriptor yX7_done.desc).map (fun d => d.parameters.length) = some 0 := by decide +kernel
theorem hd_X8_done_L : yX8_done.cls = RX8 ∧ yX8_done.cls ≠ "java/lang/invoke/MethodHandle" ∧ yX8_done.cls ≠ "java/lang/invoke/VarHandle" ∧ (parseMethodDescriptor yX8_done.desc).map (fun d => d.parameters.length) = some 0 := by decide +kernel
theorem hd_X7_reach_L : yX7_reach.cls = RX7 ∧ yX7_reach.cls ≠ "java/lang/invoke/MethodHandle" ∧ yX7_reach.cls ≠ "java/lang/invoke/VarHandle" ∧ (parseMethodDescriptor yX7_reach.desc).map (fun d => d.parameters.length) = some 2 := by decide +kernel
theorem hd_X8_reach_L : yX8_reach.cls = RX8 ∧ yX8_reach.cls ≠ "java/lang/invoke/MethodHandle" ∧ yX8_reach.cls ≠ "java/lang/invoke/VarHandle" ∧ (parseMethodDescriptor yX8_reach.desc).map (fun d => d.parameters.length) = some 2 := by decide +kernel
theorem hd_X7_wind_L : yX7_wind.cls = RX7 ∧ yX7_wind.cls ≠ "java/lang/invoke/MethodHandle" ∧ yX7_wind.cls ≠ "java/lang/invoke/VarHandle" ∧ (parseMethodDescriptor yX7_wind.desc).map (fun d => d.parameters.length) = some 3 := by decide +kernel
theorem hd_X8_wind_L : yX8_wind.cls = RX8 ∧ yX8_wind.cls ≠ "java/lang/invoke/MethodHandle" ∧ yX8_wind.cls ≠ "java/lang/invoke/VarHandle" ∧ (parseMethodDescriptor yX8_wind.desc).map (fun d => d.parameters.length) = some 3 := by decide +kernel
theorem hd_X7_read_L : yX7_read.cls = RX7 ∧ yX7_read.cls ≠ "java/lang/invoke/MethodHandle" ∧ yX7_read.cls ≠ "java/lang/invoke/VarHandle" ∧ (parseMethodDescriptor yX7_read.desc).map (fun d => d.parameters.length) = some 6 := by decide +kernel
theorem hd_X8_read_L : yX8_read.cls = RX8 ∧ yX8_read.cls ≠ "java/lang/invoke/MethodHandle" ∧ yX8_read.cls ≠ "java/lang/invoke/VarHandle" ∧ (parseMethodDescriptor yX8_read.desc).map (fun d => d.parameters.length) = some 6 := by decide +kernel
theorem hd_X7_felt_L : yX7_felt.cls = RX7 ∧ yX7_felt.cls ≠ "java/lang/invoke/MethodHandle" ∧ yX7_felt.cls ≠ "java/lang/invoke/VarHandle" ∧ (parseMethodDescriptor yX7_felt.desc).map (fun d => d.parameters.length) = some 2 := by decide +kernel
theorem hd_X8_felt_L : yX8_felt.cls = RX8 ∧ yX8_felt.cls ≠ "java/lang/invoke/MethodHandle" ∧ yX8_felt.cls ≠ "java/lang/invoke/VarHandle" ∧ (parseMethodDescriptor yX8_felt.desc).map (fun d => d.parameters.length) = some 2 := by decide +kernel
theorem hd_X7_forget_L : yX7_forget.cls = RX7 ∧ yX7_forget.cls ≠ "java/lang/invoke/MethodHandle" ∧ yX7_forget.cls ≠ "java/lang/invoke/VarHandle" ∧ (parseMethodDescriptor yX7_forget.desc).map (fun d => d.parameters.length) = some 0 := by decide +kernel
theorem hd_X8_forget_L : yX8_forget.cls = RX8 ∧ yX8_forget.cls ≠ "java/lang/invoke/MethodHandle" ∧ yX8_forget.cls ≠ "java/lang/invoke/VarHandle" ∧ (parseMethodDescriptor yX8_forget.desc).map (fun d => d.parameters.length) = some 0 := by decide +kernel
theorem hd_X7_fits_L : yX7_fits.cls = RX7 ∧ yX7_fits.cls ≠ "java/lang/invoke/MethodHandle" ∧ yX7_fits.cls ≠ "java/lang/invoke/VarHandle" ∧ (parseMethodDescriptor yX7_fits.desc).map (fun d => d.parameters.length) = some 1 := by decide +kernel
theorem hd_X8_fits_L : yX8_fits.cls = RX8 ∧ yX8_fits.cls ≠ "java/lang/invoke/MethodHandle" ∧ yX8_fits.cls ≠ "java/lang/invoke/VarHandle" ∧ (parseMethodDescriptor yX8_fits.desc).map (fun d => d.parameters.length) = some 1 := by decide +kernel
theorem hd_X7_ask_L : yX7_ask.cls = RX7 ∧ yX7_ask.cls ≠ "java/lang/invoke/MethodHandle" ∧ yX7_ask.cls ≠ "java/lang/invoke/VarHandle" ∧ (parseMethodDescriptor yX7_ask.desc).map (fun d => d.parameters.length) = some 1 := by decide +kernel
theorem hd_X8_ask_L : yX8_ask.cls = RX8 ∧ yX8_ask.cls ≠ "java/lang/invoke/MethodHandle" ∧ yX8_ask.cls ≠ "java/lang/invoke/VarHandle" ∧ (parseMethodDescriptor yX8_ask.desc).map (fun d => d.parameters.length) = some 1 := by decide +kernel
theorem hd_X7_pull_L : yX7_pull.cls = RX7 ∧ yX7_pull.cls ≠ "java/lang/invoke/MethodHandle" ∧ yX7_pull.cls ≠ "java/lang/invoke/VarHandle" ∧ (parseMethodDescriptor yX7_pull.desc).map (fun d => d.parameters.length) = some 4 := by decide +kernel
theorem hd_X8_pull_L : yX8_pull.cls = RX8 ∧ yX8_pull.cls ≠ "java/lang/invoke/MethodHandle" ∧ yX8_pull.cls ≠ "java/lang/invoke/VarHandle" ∧ (parseMethodDescriptor yX8_pull.desc).map (fun d => d.parameters.length) = some 4 := by decide +kernel
theorem hd_X7_passed_L : yX7_passed.cls = RX7 ∧ yX7_passed.cls ≠ "java/lang/invoke/MethodHandle" ∧ yX7_passed.cls ≠ "java/lang/invoke/VarHandle" ∧ (parseMethodDescriptor yX7_passed.desc).map (fun d => d.parameters.length) = some 4 := by decide +kernel
theorem hd_X8_passed_L : yX8_passed.cls = RX8 ∧ yX8_passed.cls ≠ "java/lang/invoke/MethodHandle" ∧ yX8_passed.cls ≠ "java/lang/invoke/VarHandle" ∧ (parseMethodDescriptor yX8_passed.desc).map (fun d => d.parameters.length) = some 4 := by decide +kernel
theorem hd_X7_year_L : yX7_year.cls = RX7 ∧ yX7_year.cls ≠ "java/lang/invoke/MethodHandle" ∧ yX7_year.cls ≠ "java/lang/invoke/VarHandle" ∧ (parseMethodDescriptor yX7_year.desc).map (fun d => d.parameters.length) = some 3 := by decide +kernel
theorem hd_X8_year_L : yX8_year.cls = RX8 ∧ yX8_year.cls ≠ "java/lang/invoke/MethodHandle" ∧ yX8_year.cls ≠ "java/lang/invoke/VarHandle" ∧ (parseMethodDescriptor yX8_year.desc).map (fun d => d.parameters.length) = some 3 := by decide +kernel
theorem hd_X7_image_L : yX7_image.cls = RX7 ∧ yX7_image.cls ≠ "java/lang/invoke/MethodHandle" ∧ yX7_image.cls ≠ "java/lang/invoke/VarHandle" ∧ (parseMethodDescriptor yX7_image.desc).map (fun d => d.parameters.length) = some 1 := by decide +kernel
theorem hd_X8_image_L : yX8_image.cls = RX8 ∧ yX8_image.cls ≠ "java/lang/invoke/MethodHandle" ∧ yX8_image.cls ≠ "java/lang/invoke/VarHandle" ∧ (parseMethodDescriptor yX8_image.desc).map (fun d => d.parameters.length) = some 1 := by decide +kernel
theorem hd_X7_restore_L : yX7_restore.cls = RX7 ∧ yX7_restore.cls ≠ "java/lang/invoke/MethodHandle" ∧ yX7_restore.cls ≠ "java/lang/invoke/VarHandle" ∧ (parseMethodDescriptor yX7_restore.desc).map (fun d => d.parameters.length) = some 1 := by decide +kernel
theorem hd_X8_restore_L : yX8_restore.cls = RX8 ∧ yX8_restore.cls ≠ "java/lang/invoke/MethodHandle" ∧ yX8_restore.cls ≠ "java/lang/invoke/VarHandle" ∧ (parseMethodDescriptor yX8_restore.desc).map (fun d => d.parameters.length) = some 1 := by decide +kernel
theorem hd_X7_told_L : yX7_told.cls = RX7 ∧ yX7_told.cls ≠ "java/lang/invoke/MethodHandle" ∧ yX7_told.cls ≠ "java/lang/invoke/VarHandle" ∧ (parseMethodDescriptor yX7_told.desc).map (fun d => d.parameters.length) = some 1 := by decide +kernel
theorem hd_X8_told_L : yX8_told.cls = RX8 ∧ yX8_told.cls ≠ "java/lang/invoke/MethodHandle" ∧ yX8_told.cls ≠ "java/lang/invoke/VarHandle" ∧ (parseMethodDescriptor yX8_told.desc).map (fun d => d.parameters.length) = some 1 := by decide +kernel
theorem nI7 (i : Nat) : nI i + Int32.ofInt 7 = nI (i + 7) := nI_add i 7
theorem lg_self (r : Int64) : lg_cmp r r = 0 := by
  unfold lg_cmp
  rw [if_neg (fun h => absurd h (by simp [gt_iff_lt, Int64.lt_irrefl])), if_pos rfl]
section
variable {p : Program} {l : Launch} {e : Env} {s : State} {m : MethodId} {args : Array Value} {below : List Frame} {meth : Method} {c : Code} {D : va_G} {tys : List (ClassId × FieldType)} {own : String} {cc : ByteArray} {nL : Nat} {Ts : List Cond} {rt : Option FieldType} {w0 ws : va_W} {cs sl : Nat} {Q : State → Prop} {lv : List (Nat × Value)} {pc q : Nat} {st : List Value} {R : Jvm.Room}
theorem r_sld (C : Cx p s m args meth c D tys own cc nL Ts rt) {b L : Nat} {xs : Nat → Int32} (hX : va_X b L xs s s.heap) (hbl : b < s.heap.size) (hbA : ¬ va_A w0 s.heap.size b) {i : Int32} (hdg : decode cc pc = .ok (.iaload, 1)) (hin : vp_in i L) (hq : pc + 1 = q) (k : Wd p l e R s m args below meth c D w0 nL cs sl Q ws lv q (.int (xs i.toNatClampNeg) :: st)) : Wd p l e R s m args below meth c D w0 nL cs sl Q ws lv pc (.int i :: .ref b :: st) := by
  subst hq
  exact fun H locs ls hP hD hS hl => va_sld C.1 C.2.1 hX hbl hbA hS hin hdg (k H locs ls hP hD hS hl)
theorem r_slen (C : Cx p s m args meth c D tys own cc nL Ts rt) {b L : Nat} {xs : Nat → Int32} (hX : va_X b L xs s s.heap) (hbl : b < s.heap.size) (hbA : ¬ va_A w0 s.heap.size b) (hdg : decode cc pc = .ok (.arraylength, 1)) (hq : pc + 1 = q) (k : Wd p l e R s m args below meth c D w0 nL cs sl Q ws lv q (.int (nI L) :: st)) : Wd p l e R s m args below meth c D w0 nL cs sl Q ws lv pc (.ref b :: st) := by
  subst hq
  exact fun H locs ls hP hD hS hl => va_slen C.1 C.2.1 hX hbl hbA hS hdg (k H locs ls hP hD hS hl)
theorem sld_in {i L k : Nat} (h : i + 7 ≤ L) (hL : L ≤ 448) (hk : k < 7) : vp_in (nI i + nI k) L := by
  rw [nI_add]
  exact vp_in_nI (by omega) (by omega)
theorem head_in {i L : Nat} (hi : i ≤ L) (hL : L ≤ 448) (c : ¬ (nI L - (7 : Int32)) < nI i) : i + 7 ≤ L := by
  rcases Nat.lt_or_ge L (i + 7) with h | h
  · refine absurd ?_ c
    rw [Int32.lt_iff_toInt_lt, show (7 : Int32) = nI 7 from rfl, pk_sub_toInt (by omega) (by omega), nI_toInt (by omega)]
    omega
  · exact h
end
