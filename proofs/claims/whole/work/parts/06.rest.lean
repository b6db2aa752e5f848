section
variable {p : Program} {l : Launch} {e : Env} {s : State} {m : MethodId} {args : Array Value} {below : List Frame} {meth : Method} {c : Code} {D : va_G} {cI cZ cG : ClassId} {w0 : va_W}
theorem fw_X0_begin_X0 : ∀ w ∈ u_ws RX0 TX0 6, w ∈ wsX0_begin := by decide +kernel
theorem fl_X0_begin_9 : Cond.fieldLink RX0 9 "MittenLine$Course" "acts" "I" ∈ wsX0_begin := by decide +kernel
theorem fl_X0_begin_15 : Cond.fieldLink RX0 15 "MittenLine$Course" "badAct" "I" ∈ wsX0_begin := by decide +kernel
theorem fl_X0_begin_18 : Cond.fieldLink RX0 18 "MittenLine$Course" "badWhy" "I" ∈ wsX0_begin := by decide +kernel
theorem fl_X0_begin_21 : Cond.fieldLink RX0 21 "MittenLine$Course" "drawnCount" "I" ∈ wsX0_begin := by decide +kernel
theorem fl_X0_begin_24 : Cond.fieldLink RX0 24 "MittenLine$Course" "drawAct" "I" ∈ wsX0_begin := by decide +kernel
theorem fl_X0_begin_27 : Cond.fieldLink RX0 27 "MittenLine$Course" "drawChild" "I" ∈ wsX0_begin := by decide +kernel
abbrev rm_X0_begin : Jvm.Room := { frames := 0, cells := 0, slots := 0, locals := 0 }
def f_X0_begin (acts : Int32) (badAct : Int32) (badWhy : Int32) (drawnCount : Int32) (drawAct : Int32) (drawChild : Int32) : Option (Int32 × Int32 × Int32 × Int32 × Int32 × Int32) := some ((0 : Int32), (-6 : Int32), (-6 : Int32), (0 : Int32), (-6 : Int32), (-6 : Int32))
set_option maxHeartbeats 4000000 in
set_option maxRecDepth 100000 in
theorem c_X0_begin (l : Launch) (D : va_G) (cI cZ cG : ClassId) (h : Nat) (A : Nat → Nat) (acts : Int32) (badAct : Int32) (badWhy : Int32) (drawnCount : Int32) (drawAct : Int32) (drawChild : Int32) (res : Int32 × Int32 × Int32 × Int32 × Int32 × Int32) (hf : f_X0_begin acts badAct badWhy drawnCount drawAct drawChild = some res) : CV l D (tysW cI cZ cG) yX0_begin wsX0_begin rm_X0_begin [.ref h] [(h, oX0 A acts badAct badWhy drawnCount drawAct drawChild)] [(h, oX0 A res.1 res.2.1 res.2.2.1 res.2.2.2.1 res.2.2.2.2.1 res.2.2.2.2.2)] := by
  refine CG.intro (own := RX0) (by decide +kernel) rfl rfl (Nat.le_of_ble_eq_true rfl) (fun p e s m args below meth c C => ?_)
  refine r_lv (lv' := [(0, .ref h)]) [0] rfl ?_
  unfold f_X0_begin at hf
  refine r_aload_n C dX0_begin_0 rfl 0 rfl rfl ?_
  refine r_iconst C dX0_begin_1 kk_i_0 rfl ?_
  refine r_put (ty := .int) (ws' := [(h, oX0 A (0 : Int32) badAct badWhy drawnCount drawAct drawChild)]) C dX0_begin_2 fw_X0_begin_X0 tyX0 tyX0_ok nmX0 0 rfl rfl 0 (by decide) rfl fl_X0_begin_9 rfl (by decide +kernel) rfl rfl (Nat.le_of_ble_eq_true rfl) rfl rfl ?_
  refine r_aload_n C dX0_begin_5 rfl 0 rfl rfl ?_
  refine r_bipush C dX0_begin_6 kk_b_m6 rfl ?_
  refine r_put (ty := .int) (ws' := [(h, oX0 A (0 : Int32) (-6 : Int32) badWhy drawnCount drawAct drawChild)]) C dX0_begin_8 fw_X0_begin_X0 tyX0 tyX0_ok nmX0 0 rfl rfl 1 (by decide) rfl fl_X0_begin_15 rfl (by decide +kernel) rfl rfl (Nat.le_of_ble_eq_true rfl) rfl rfl ?_
  refine r_aload_n C dX0_begin_11 rfl 0 rfl rfl ?_
  refine r_bipush C dX0_begin_12 kk_b_m6 rfl ?_
  refine r_put (ty := .int) (ws' := [(h, oX0 A (0 : Int32) (-6 : Int32) (-6 : Int32) drawnCount drawAct drawChild)]) C dX0_begin_14 fw_X0_begin_X0 tyX0 tyX0_ok nmX0 0 rfl rfl 2 (by decide) rfl fl_X0_begin_18 rfl (by decide +kernel) rfl rfl (Nat.le_of_ble_eq_true rfl) rfl rfl ?_
  refine r_aload_n C dX0_begin_17 rfl 0 rfl rfl ?_
  refine r_iconst C dX0_begin_18 kk_i_0 rfl ?_
  refine r_put (ty := .int) (ws' := [(h, oX0 A (0 : Int32) (-6 : Int32) (-6 : Int32) (0 : Int32) drawAct drawChild)]) C dX0_begin_19 fw_X0_begin_X0 tyX0 tyX0_ok nmX0 0 rfl rfl 3 (by decide) rfl fl_X0_begin_21 rfl (by decide +kernel) rfl rfl (Nat.le_of_ble_eq_true rfl) rfl rfl ?_
  refine r_aload_n C dX0_begin_22 rfl 0 rfl rfl ?_
  refine r_bipush C dX0_begin_23 kk_b_m6 rfl ?_
  refine r_put (ty := .int) (ws' := [(h, oX0 A (0 : Int32) (-6 : Int32) (-6 : Int32) (0 : Int32) (-6 : Int32) drawChild)]) C dX0_begin_25 fw_X0_begin_X0 tyX0 tyX0_ok nmX0 0 rfl rfl 4 (by decide) rfl fl_X0_begin_24 rfl (by decide +kernel) rfl rfl (Nat.le_of_ble_eq_true rfl) rfl rfl ?_
  refine r_aload_n C dX0_begin_28 rfl 0 rfl rfl ?_
  refine r_bipush C dX0_begin_29 kk_b_m6 rfl ?_
  refine r_put (ty := .int) (ws' := [(h, oX0 A (0 : Int32) (-6 : Int32) (-6 : Int32) (0 : Int32) (-6 : Int32) (-6 : Int32))]) C dX0_begin_31 fw_X0_begin_X0 tyX0 tyX0_ok nmX0 0 rfl rfl 5 (by decide) rfl fl_X0_begin_27 rfl (by decide +kernel) rfl rfl (Nat.le_of_ble_eq_true rfl) rfl rfl ?_
  cases hf
  exact r_vret C dX0_begin_34 rfl
theorem fw_X0_take_X0 : ∀ w ∈ u_ws RX0 TX0 6, w ∈ wsX0_take := by decide +kernel
theorem fl_X0_take_21 : Cond.fieldLink RX0 21 "MittenLine$Course" "drawnCount" "I" ∈ wsX0_take := by decide +kernel
theorem fl_X0_take_9 : Cond.fieldLink RX0 9 "MittenLine$Course" "acts" "I" ∈ wsX0_take := by decide +kernel
theorem fl_X0_take_24 : Cond.fieldLink RX0 24 "MittenLine$Course" "drawAct" "I" ∈ wsX0_take := by decide +kernel
theorem wn_X0_take_X7_leastBit_s : Cond.static yX7_leastBit ∈ wsX0_take := by decide +kernel
theorem wn_X0_take_X7_leastBit_i : Cond.initialized yX7_leastBit.cls ∈ wsX0_take := by decide +kernel
theorem fl_X0_take_27 : Cond.fieldLink RX0 27 "MittenLine$Course" "drawChild" "I" ∈ wsX0_take := by decide +kernel
theorem fl_X0_take_15 : Cond.fieldLink RX0 15 "MittenLine$Course" "badAct" "I" ∈ wsX0_take := by decide +kernel
theorem fl_X0_take_18 : Cond.fieldLink RX0 18 "MittenLine$Course" "badWhy" "I" ∈ wsX0_take := by decide +kernel
abbrev rm_X0_take : Jvm.Room := { frames := 6, cells := 0, slots := 0, locals := 134 }
def f_X0_take (acts : Int32) (badAct : Int32) (badWhy : Int32) (drawnCount : Int32) (drawAct : Int32) (drawChild : Int32) (o1_yards : Nat → Int32) (o1_feels : Nat → Int32) (o1_lengths : Nat → Int32) (o1_plan : Nat → Int32) (o1_holding : Int32) (o1_wool : Int32) (o1_day : Int32) (u2 : Int32) (u3 : Int32) (u4 : Int32) : Option (Int32 × Int32 × Int32 × Int32 × Int32 × Int32 × (Nat → Int32) × (Nat → Int32) × (Nat → Int32) × (Nat → Int32) × Int32 × Int32 × Int32) := (f_X5_whyNot o1_yards o1_lengths o1_plan o1_holding o1_wool o1_day u2 u3 u4).bind (fun r1 => if r1.1 = 0 then (f_X5_act o1_yards o1_feels o1_lengths r1.2 o1_holding o1_wool o1_day u2 u3 u4).bind (fun r3 => if r3.1 = 0 then (f_J6_bitCount_0f7a4 r3.1).bind (fun r5 => some ((acts + (1 : Int32)), badAct, badWhy, (drawnCount + r5), drawAct, drawChild, r3.2.1, r3.2.2.1, r3.2.2.2.1, r3.2.2.2.2.1, r3.2.2.2.2.2.1, r3.2.2.2.2.2.2.1, r3.2.2.2.2.2.2.2)) else if drawAct = (-6 : Int32) then (f_X7_leastBit r3.1).bind (fun r8 => (f_J6_bitCount_0f7a4 r3.1).bind (fun r9 => some ((acts + (1 : Int32)), badAct, badWhy, (drawnCount + r9), acts, r8, r3.2.1, r3.2.2.1, r3.2.2.2.1, r3.2.2.2.2.1, r3.2.2.2.2.2.1, r3.2.2.2.2.2.2.1, r3.2.2.2.2.2.2.2))) else (f_J6_bitCount_0f7a4 r3.1).bind (fun r7 => some ((acts + (1 : Int32)), badAct, badWhy, (drawnCount + r7), drawAct, drawChild, r3.2.1, r3.2.2.1, r3.2.2.2.1, r3.2.2.2.2.1, r3.2.2.2.2.2.1, r3.2.2.2.2.2.2.1, r3.2.2.2.2.2.2.2))) else some (acts, acts, r1.1, drawnCount, drawAct, drawChild, o1_yards, o1_feels, o1_lengths, r1.2, o1_holding, o1_wool, o1_day))
set_option maxHeartbeats 4000000 in
set_option maxRecDepth 100000 in
theorem c_X0_take (l : Launch) (D : va_G) (cI cZ cG : ClassId) (h h1 : Nat) (A B1 : Nat → Nat) (acts : Int32) (badAct : Int32) (badWhy : Int32) (drawnCount : Int32) (drawAct : Int32) (drawChild : Int32) (o1_yards : Nat → Int32) (o1_feels : Nat → Int32) (o1_lengths : Nat → Int32) (o1_plan : Nat → Int32) (o1_holding : Int32) (o1_wool : Int32) (o1_day : Int32) (u2 : Int32) (u3 : Int32) (u4 : Int32) (res : Int32 × Int32 × Int32 × Int32 × Int32 × Int32 × (Nat → Int32) × (Nat → Int32) × (Nat → Int32) × (Nat → Int32) × Int32 × Int32 × Int32) (hf : f_X0_take acts badAct badWhy drawnCount drawAct drawChild o1_yards o1_feels o1_lengths o1_plan o1_holding o1_wool o1_day u2 u3 u4 = some res) : CV l D (tysW cI cZ cG) yX0_take wsX0_take rm_X0_take [.ref h, .ref h1, .int u2, .int u3, .int u4] [(h, oX0 A acts badAct badWhy drawnCount drawAct drawChild), (h1, oX5 B1 o1_holding o1_wool o1_day), ((B1 0), aI cI 10 o1_yards), ((B1 1), aI cI 10 o1_feels), ((B1 2), aI cI 9 o1_lengths), ((B1 3), aI cI 10 o1_plan)] [(h, oX0 A res.1 res.2.1 res.2.2.1 res.2.2.2.1 res.2.2.2.2.1 res.2.2.2.2.2.1), (h1, oX5 B1 res.2.2.2.2.2.2.2.2.2.2.1 res.2.2.2.2.2.2.2.2.2.2.2.1 res.2.2.2.2.2.2.2.2.2.2.2.2), ((B1 0), aI cI 10 res.2.2.2.2.2.2.1), ((B1 1), aI cI 10 res.2.2.2.2.2.2.2.1), ((B1 2), aI cI 9 res.2.2.2.2.2.2.2.2.1), ((B1 3), aI cI 10 res.2.2.2.2.2.2.2.2.2.1)] := by
  refine CG.intro (own := RX0) (by decide +kernel) rfl rfl (Nat.le_of_ble_eq_true rfl) (fun p e s m args below meth c C => ?_)
  refine r_lv (lv' := [(0, .ref h), (1, .ref h1), (2, .int u2), (3, .int u3), (4, .int u4)]) [0, 1, 2, 3, 4] rfl ?_
  unfold f_X0_take at hf
  refine r_aload_n C dX0_take_0 rfl 1 rfl rfl ?_
  refine r_iload_n C dX0_take_1 rfl 2 rfl rfl ?_
  refine r_iload_n C dX0_take_2 rfl 3 rfl rfl ?_
  refine r_iload C dX0_take_3 4 rfl rfl ?_
  obtain ⟨r1, e1, hf⟩ := gd_b hf
  refine o_I (wn := [(h, oX0 A acts badAct badWhy drawnCount drawAct drawChild), (h1, oX5 B1 o1_holding o1_wool o1_day), ((B1 0), aI cI 10 o1_yards), ((B1 1), aI cI 10 o1_feels), ((B1 2), aI cI 9 o1_lengths), ((B1 3), aI cI 10 r1.2)]) C [1, 2, 4, 5] rfl (x_V C dX0_take_5 (c_X5_whyNot l D cI cZ cG h1 B1 o1_yards o1_lengths o1_plan o1_holding o1_wool o1_day u2 u3 u4 r1 e1) rfl gX0_take_X5_whyNot hd_X5_whyNot rfl ⟨Nat.le_of_ble_eq_true rfl, Nat.le_of_ble_eq_true rfl⟩ ⟨rfl, rfl⟩ ⟨Nat.zero_le _, Nat.zero_le _⟩ rfl [1, 2, 4, 5] rfl rfl 1 rfl rfl (Nat.le_of_ble_eq_true rfl) rfl) rfl rfl rfl ?_
  refine r_istore (lv' := [(5, .int r1.1), (0, .ref h), (1, .ref h1), (2, .int u2), (3, .int u3), (4, .int u4)]) C dX0_take_8 (by decide) rfl rfl ?_
  refine r_iload C dX0_take_10 0 rfl rfl ?_
  refine r_if_eq (y := 0) (tgt := 30) C dX0_take_12 rfl rfl (fun c2 => ?_) (fun c2 => ?_)
  · have hf := gd_t c2 hf
    refine r_aload_n C dX0_take_30 rfl 2 rfl rfl ?_
    refine r_iload_n C dX0_take_31 rfl 3 rfl rfl ?_
    refine r_iload_n C dX0_take_32 rfl 4 rfl rfl ?_
    refine r_iload C dX0_take_33 5 rfl rfl ?_
    obtain ⟨r3, e3, hf⟩ := gd_b hf
    refine o_I (wn := [(h, oX0 A acts badAct badWhy drawnCount drawAct drawChild), (h1, oX5 B1 r3.2.2.2.2.2.1 r3.2.2.2.2.2.2.1 r3.2.2.2.2.2.2.2), ((B1 0), aI cI 10 r3.2.1), ((B1 1), aI cI 10 r3.2.2.1), ((B1 2), aI cI 9 r3.2.2.2.1), ((B1 3), aI cI 10 r3.2.2.2.2.1)]) C [1, 2, 3, 4, 5] rfl (x_V C dX0_take_35 (c_X5_act l D cI cZ cG h1 B1 o1_yards o1_feels o1_lengths r1.2 o1_holding o1_wool o1_day u2 u3 u4 r3 e3) rfl gX0_take_X5_act hd_X5_act rfl ⟨Nat.le_of_ble_eq_true rfl, Nat.le_of_ble_eq_true rfl⟩ ⟨rfl, rfl⟩ ⟨Nat.zero_le _, Nat.zero_le _⟩ rfl [1, 2, 3, 4, 5] rfl rfl 1 rfl rfl (Nat.le_of_ble_eq_true rfl) rfl) rfl rfl rfl ?_
    refine r_istore (lv' := [(6, .int r3.1), (5, .int r1.1), (0, .ref h), (1, .ref h1), (2, .int u2), (3, .int u3), (4, .int u4)]) C dX0_take_38 (by decide) rfl rfl ?_
    refine r_iload C dX0_take_40 0 rfl rfl ?_
    refine r_if_eq (y := 0) (tgt := 71) C dX0_take_42 rfl rfl (fun c4 => ?_) (fun c4 => ?_)
    · have hf := gd_t c4 hf
      refine r_aload_n C dX0_take_71 rfl 2 rfl rfl ?_
      refine r_dup C dX0_take_72 rfl rfl ?_
      refine r_get C dX0_take_73 fw_X0_take_X0 0 rfl rfl 3 (by decide) rfl fl_X0_take_21 rfl rfl ?_
      refine r_iload C dX0_take_76 0 rfl rfl ?_
      obtain ⟨r5, e5, hf⟩ := gd_b hf
      refine o_I (wn := [(h, oX0 A acts badAct badWhy drawnCount drawAct drawChild), (h1, oX5 B1 r3.2.2.2.2.2.1 r3.2.2.2.2.2.2.1 r3.2.2.2.2.2.2.2), ((B1 0), aI cI 10 r3.2.1), ((B1 1), aI cI 10 r3.2.2.1), ((B1 2), aI cI 9 r3.2.2.2.1), ((B1 3), aI cI 10 r3.2.2.2.2.1)]) C [] rfl (x_S C dX0_take_78 (c_J6_bitCount_0f7a4 l D cI cZ cG r3.1 r5 e5) rfl gX0_take_J6_bitCount_0f7a4 hs_J6_bitCount_0f7a4 rfl ⟨Nat.le_of_ble_eq_true rfl, Nat.le_of_ble_eq_true rfl⟩ ⟨rfl, rfl⟩ ⟨Nat.zero_le _, Nat.zero_le _⟩ rfl [] rfl rfl (Nat.le_of_ble_eq_true rfl) rfl) rfl rfl rfl ?_
      refine r_iadd C dX0_take_81 rfl ?_
      refine r_put (ty := .int) (ws' := [(h, oX0 A acts badAct badWhy (drawnCount + r5) drawAct drawChild), (h1, oX5 B1 r3.2.2.2.2.2.1 r3.2.2.2.2.2.2.1 r3.2.2.2.2.2.2.2), ((B1 0), aI cI 10 r3.2.1), ((B1 1), aI cI 10 r3.2.2.1), ((B1 2), aI cI 9 r3.2.2.2.1), ((B1 3), aI cI 10 r3.2.2.2.2.1)]) C dX0_take_82 fw_X0_take_X0 tyX0 tyX0_ok nmX0 0 rfl rfl 3 (by decide) rfl fl_X0_take_21 rfl (by decide +kernel) rfl rfl (Nat.le_of_ble_eq_true rfl) rfl rfl ?_
      refine r_aload_n C dX0_take_85 rfl 2 rfl rfl ?_
      refine r_dup C dX0_take_86 rfl rfl ?_
      refine r_get C dX0_take_87 fw_X0_take_X0 0 rfl rfl 0 (by decide) rfl fl_X0_take_9 rfl rfl ?_
      refine r_iconst C dX0_take_90 kk_i_1 rfl ?_
      refine r_iadd C dX0_take_91 rfl ?_
      refine r_put (ty := .int) (ws' := [(h, oX0 A (acts + (1 : Int32)) badAct badWhy (drawnCount + r5) drawAct drawChild), (h1, oX5 B1 r3.2.2.2.2.2.1 r3.2.2.2.2.2.2.1 r3.2.2.2.2.2.2.2), ((B1 0), aI cI 10 r3.2.1), ((B1 1), aI cI 10 r3.2.2.1), ((B1 2), aI cI 9 r3.2.2.2.1), ((B1 3), aI cI 10 r3.2.2.2.2.1)]) C dX0_take_92 fw_X0_take_X0 tyX0 tyX0_ok nmX0 0 rfl rfl 0 (by decide) rfl fl_X0_take_9 rfl (by decide +kernel) rfl rfl (Nat.le_of_ble_eq_true rfl) rfl rfl ?_
      cases hf
      exact r_vret C dX0_take_95 rfl
    · have hf := gd_f c4 hf
      refine r_aload_n C dX0_take_45 rfl 2 rfl rfl ?_
      refine r_get C dX0_take_46 fw_X0_take_X0 0 rfl rfl 4 (by decide) rfl fl_X0_take_24 rfl rfl ?_
      refine r_bipush C dX0_take_49 kk_b_m6 rfl ?_
      refine r_icmp_ne (tgt := 71) C dX0_take_51 rfl rfl (fun c6 => ?_) (fun c6 => ?_)
      · have hf := gd_f c6 hf
        refine r_aload_n C dX0_take_71 rfl 2 rfl rfl ?_
        refine r_dup C dX0_take_72 rfl rfl ?_
        refine r_get C dX0_take_73 fw_X0_take_X0 0 rfl rfl 3 (by decide) rfl fl_X0_take_21 rfl rfl ?_
        refine r_iload C dX0_take_76 0 rfl rfl ?_
        obtain ⟨r7, e7, hf⟩ := gd_b hf
        refine o_I (wn := [(h, oX0 A acts badAct badWhy drawnCount drawAct drawChild), (h1, oX5 B1 r3.2.2.2.2.2.1 r3.2.2.2.2.2.2.1 r3.2.2.2.2.2.2.2), ((B1 0), aI cI 10 r3.2.1), ((B1 1), aI cI 10 r3.2.2.1), ((B1 2), aI cI 9 r3.2.2.2.1), ((B1 3), aI cI 10 r3.2.2.2.2.1)]) C [] rfl (x_S C dX0_take_78 (c_J6_bitCount_0f7a4 l D cI cZ cG r3.1 r7 e7) rfl gX0_take_J6_bitCount_0f7a4 hs_J6_bitCount_0f7a4 rfl ⟨Nat.le_of_ble_eq_true rfl, Nat.le_of_ble_eq_true rfl⟩ ⟨rfl, rfl⟩ ⟨Nat.zero_le _, Nat.zero_le _⟩ rfl [] rfl rfl (Nat.le_of_ble_eq_true rfl) rfl) rfl rfl rfl ?_
        refine r_iadd C dX0_take_81 rfl ?_
        refine r_put (ty := .int) (ws' := [(h, oX0 A acts badAct badWhy (drawnCount + r7) drawAct drawChild), (h1, oX5 B1 r3.2.2.2.2.2.1 r3.2.2.2.2.2.2.1 r3.2.2.2.2.2.2.2), ((B1 0), aI cI 10 r3.2.1), ((B1 1), aI cI 10 r3.2.2.1), ((B1 2), aI cI 9 r3.2.2.2.1), ((B1 3), aI cI 10 r3.2.2.2.2.1)]) C dX0_take_82 fw_X0_take_X0 tyX0 tyX0_ok nmX0 0 rfl rfl 3 (by decide) rfl fl_X0_take_21 rfl (by decide +kernel) rfl rfl (Nat.le_of_ble_eq_true rfl) rfl rfl ?_
        refine r_aload_n C dX0_take_85 rfl 2 rfl rfl ?_
        refine r_dup C dX0_take_86 rfl rfl ?_
        refine r_get C dX0_take_87 fw_X0_take_X0 0 rfl rfl 0 (by decide) rfl fl_X0_take_9 rfl rfl ?_
        refine r_iconst C dX0_take_90 kk_i_1 rfl ?_
        refine r_iadd C dX0_take_91 rfl ?_
        refine r_put (ty := .int) (ws' := [(h, oX0 A (acts + (1 : Int32)) badAct badWhy (drawnCount + r7) drawAct drawChild), (h1, oX5 B1 r3.2.2.2.2.2.1 r3.2.2.2.2.2.2.1 r3.2.2.2.2.2.2.2), ((B1 0), aI cI 10 r3.2.1), ((B1 1), aI cI 10 r3.2.2.1), ((B1 2), aI cI 9 r3.2.2.2.1), ((B1 3), aI cI 10 r3.2.2.2.2.1)]) C dX0_take_92 fw_X0_take_X0 tyX0 tyX0_ok nmX0 0 rfl rfl 0 (by decide) rfl fl_X0_take_9 rfl (by decide +kernel) rfl rfl (Nat.le_of_ble_eq_true rfl) rfl rfl ?_
        cases hf
        exact r_vret C dX0_take_95 rfl
      · have hf := gd_t c6 hf
        refine r_aload_n C dX0_take_54 rfl 2 rfl rfl ?_
        refine r_aload_n C dX0_take_55 rfl 2 rfl rfl ?_
        refine r_get C dX0_take_56 fw_X0_take_X0 0 rfl rfl 0 (by decide) rfl fl_X0_take_9 rfl rfl ?_
        refine r_put (ty := .int) (ws' := [(h, oX0 A acts badAct badWhy drawnCount acts drawChild), (h1, oX5 B1 r3.2.2.2.2.2.1 r3.2.2.2.2.2.2.1 r3.2.2.2.2.2.2.2), ((B1 0), aI cI 10 r3.2.1), ((B1 1), aI cI 10 r3.2.2.1), ((B1 2), aI cI 9 r3.2.2.2.1), ((B1 3), aI cI 10 r3.2.2.2.2.1)]) C dX0_take_59 fw_X0_take_X0 tyX0 tyX0_ok nmX0 0 rfl rfl 4 (by decide) rfl fl_X0_take_24 rfl (by decide +kernel) rfl rfl (Nat.le_of_ble_eq_true rfl) rfl rfl ?_
        refine r_aload_n C dX0_take_62 rfl 2 rfl rfl ?_
        refine r_iload C dX0_take_63 0 rfl rfl ?_
        obtain ⟨r8, e8, hf⟩ := gd_b hf
        refine o_I (wn := [(h, oX0 A acts badAct badWhy drawnCount acts drawChild), (h1, oX5 B1 r3.2.2.2.2.2.1 r3.2.2.2.2.2.2.1 r3.2.2.2.2.2.2.2), ((B1 0), aI cI 10 r3.2.1), ((B1 1), aI cI 10 r3.2.2.1), ((B1 2), aI cI 9 r3.2.2.2.1), ((B1 3), aI cI 10 r3.2.2.2.2.1)]) C [] rfl (x_SN C dX0_take_65 (c_X7_leastBit l D cI cZ cG r3.1 r8 e8) rfl gX0_take_X7_leastBit_n39 (List.mem_of_getElem? (i := 3) rfl) wn_X0_take_X7_leastBit_s wn_X0_take_X7_leastBit_i hs_X7_leastBit rfl ⟨Nat.le_of_ble_eq_true rfl, Nat.le_of_ble_eq_true rfl⟩ ⟨rfl, rfl⟩ ⟨Nat.zero_le _, Nat.zero_le _⟩ rfl [] rfl rfl (Nat.le_of_ble_eq_true rfl) rfl) rfl rfl rfl ?_
        refine r_put (ty := .int) (ws' := [(h, oX0 A acts badAct badWhy drawnCount acts r8), (h1, oX5 B1 r3.2.2.2.2.2.1 r3.2.2.2.2.2.2.1 r3.2.2.2.2.2.2.2), ((B1 0), aI cI 10 r3.2.1), ((B1 1), aI cI 10 r3.2.2.1), ((B1 2), aI cI 9 r3.2.2.2.1), ((B1 3), aI cI 10 r3.2.2.2.2.1)]) C dX0_take_68 fw_X0_take_X0 tyX0 tyX0_ok nmX0 0 rfl rfl 5 (by decide) rfl fl_X0_take_27 rfl (by decide +kernel) rfl rfl (Nat.le_of_ble_eq_true rfl) rfl rfl ?_
        refine r_aload_n C dX0_take_71 rfl 2 rfl rfl ?_
        refine r_dup C dX0_take_72 rfl rfl ?_
        refine r_get C dX0_take_73 fw_X0_take_X0 0 rfl rfl 3 (by decide) rfl fl_X0_take_21 rfl rfl ?_
        refine r_iload C dX0_take_76 0 rfl rfl ?_
        obtain ⟨r9, e9, hf⟩ := gd_b hf
        refine o_I (wn := [(h, oX0 A acts badAct badWhy drawnCount acts r8), (h1, oX5 B1 r3.2.2.2.2.2.1 r3.2.2.2.2.2.2.1 r3.2.2.2.2.2.2.2), ((B1 0), aI cI 10 r3.2.1), ((B1 1), aI cI 10 r3.2.2.1), ((B1 2), aI cI 9 r3.2.2.2.1), ((B1 3), aI cI 10 r3.2.2.2.2.1)]) C [] rfl (x_S C dX0_take_78 (c_J6_bitCount_0f7a4 l D cI cZ cG r3.1 r9 e9) rfl gX0_take_J6_bitCount_0f7a4 hs_J6_bitCount_0f7a4 rfl ⟨Nat.le_of_ble_eq_true rfl, Nat.le_of_ble_eq_true rfl⟩ ⟨rfl, rfl⟩ ⟨Nat.zero_le _, Nat.zero_le _⟩ rfl [] rfl rfl (Nat.le_of_ble_eq_true rfl) rfl) rfl rfl rfl ?_
        refine r_iadd C dX0_take_81 rfl ?_
        refine r_put (ty := .int) (ws' := [(h, oX0 A acts badAct badWhy (drawnCount + r9) acts r8), (h1, oX5 B1 r3.2.2.2.2.2.1 r3.2.2.2.2.2.2.1 r3.2.2.2.2.2.2.2), ((B1 0), aI cI 10 r3.2.1), ((B1 1), aI cI 10 r3.2.2.1), ((B1 2), aI cI 9 r3.2.2.2.1), ((B1 3), aI cI 10 r3.2.2.2.2.1)]) C dX0_take_82 fw_X0_take_X0 tyX0 tyX0_ok nmX0 0 rfl rfl 3 (by decide) rfl fl_X0_take_21 rfl (by decide +kernel) rfl rfl (Nat.le_of_ble_eq_true rfl) rfl rfl ?_
        refine r_aload_n C dX0_take_85 rfl 2 rfl rfl ?_
        refine r_dup C dX0_take_86 rfl rfl ?_
        refine r_get C dX0_take_87 fw_X0_take_X0 0 rfl rfl 0 (by decide) rfl fl_X0_take_9 rfl rfl ?_
        refine r_iconst C dX0_take_90 kk_i_1 rfl ?_
        refine r_iadd C dX0_take_91 rfl ?_
        refine r_put (ty := .int) (ws' := [(h, oX0 A (acts + (1 : Int32)) badAct badWhy (drawnCount + r9) acts r8), (h1, oX5 B1 r3.2.2.2.2.2.1 r3.2.2.2.2.2.2.1 r3.2.2.2.2.2.2.2), ((B1 0), aI cI 10 r3.2.1), ((B1 1), aI cI 10 r3.2.2.1), ((B1 2), aI cI 9 r3.2.2.2.1), ((B1 3), aI cI 10 r3.2.2.2.2.1)]) C dX0_take_92 fw_X0_take_X0 tyX0 tyX0_ok nmX0 0 rfl rfl 0 (by decide) rfl fl_X0_take_9 rfl (by decide +kernel) rfl rfl (Nat.le_of_ble_eq_true rfl) rfl rfl ?_
        cases hf
        exact r_vret C dX0_take_95 rfl
  · have hf := gd_f c2 hf
    refine r_aload_n C dX0_take_15 rfl 1 rfl rfl ?_
    refine r_aload_n C dX0_take_16 rfl 1 rfl rfl ?_
    refine r_get C dX0_take_17 fw_X0_take_X0 0 rfl rfl 0 (by decide) rfl fl_X0_take_9 rfl rfl ?_
    refine r_put (ty := .int) (ws' := [(h, oX0 A acts acts badWhy drawnCount drawAct drawChild), (h1, oX5 B1 o1_holding o1_wool o1_day), ((B1 0), aI cI 10 o1_yards), ((B1 1), aI cI 10 o1_feels), ((B1 2), aI cI 9 o1_lengths), ((B1 3), aI cI 10 r1.2)]) C dX0_take_20 fw_X0_take_X0 tyX0 tyX0_ok nmX0 0 rfl rfl 1 (by decide) rfl fl_X0_take_15 rfl (by decide +kernel) rfl rfl (Nat.le_of_ble_eq_true rfl) rfl rfl ?_
    refine r_aload_n C dX0_take_23 rfl 1 rfl rfl ?_
    refine r_iload C dX0_take_24 0 rfl rfl ?_
    refine r_put (ty := .int) (ws' := [(h, oX0 A acts acts r1.1 drawnCount drawAct drawChild), (h1, oX5 B1 o1_holding o1_wool o1_day), ((B1 0), aI cI 10 o1_yards), ((B1 1), aI cI 10 o1_feels), ((B1 2), aI cI 9 o1_lengths), ((B1 3), aI cI 10 r1.2)]) C dX0_take_26 fw_X0_take_X0 tyX0 tyX0_ok nmX0 0 rfl rfl 2 (by decide) rfl fl_X0_take_18 rfl (by decide +kernel) rfl rfl (Nat.le_of_ble_eq_true rfl) rfl rfl ?_
    cases hf
    exact r_vret C dX0_take_29 rfl
theorem wn_X1_isCode_X7_isWithin_s : Cond.static yX7_isWithin ∈ wsX1_isCode := by decide +kernel
theorem wn_X1_isCode_X7_isWithin_i : Cond.initialized yX7_isWithin.cls ∈ wsX1_isCode := by decide +kernel
abbrev rm_X1_isCode : Jvm.Room := { frames := 1, cells := 0, slots := 0, locals := 22 }
def f_X1_isCode (u0 : Int32) : Option (Int32) := if ((u0 / (10 : Int32)) - (u0 / (10 : Int32)) / (10 : Int32) * (10 : Int32)) < (1 : Int32) then some ((0 : Int32)) else (f_X7_isWithin (u0 - u0 / (10 : Int32) * (10 : Int32)) (1 : Int32) (3 : Int32)).bind (fun r2 => if r2 = 0 then some ((0 : Int32)) else some ((1 : Int32)))
set_option maxHeartbeats 4000000 in
set_option maxRecDepth 100000 in
theorem c_X1_isCode (l : Launch) (D : va_G) (cI cZ cG : ClassId) (u0 : Int32) (res : Int32) (hf : f_X1_isCode u0 = some res) : CI l D (tysW cI cZ cG) yX1_isCode wsX1_isCode rm_X1_isCode [.int u0] [] res [] := by
  refine CG.intro (own := RX1) (by decide +kernel) rfl rfl (Nat.le_of_ble_eq_true rfl) (fun p e s m args below meth c C => ?_)
  refine r_lv (lv' := [(0, .int u0)]) [0] rfl ?_
  unfold f_X1_isCode at hf
  refine r_iload_n C dX1_isCode_0 rfl 0 rfl rfl ?_
  refine r_bipush C dX1_isCode_1 kk_b_10 rfl ?_
  refine r_idiv C dX1_isCode_3 (by decide) rfl ?_
  refine r_bipush C dX1_isCode_4 kk_b_10 rfl ?_
  refine r_irem C dX1_isCode_6 (by decide) rfl ?_
  refine r_iconst C dX1_isCode_7 kk_i_1 rfl ?_
  refine r_icmp_lt (tgt := 27) C dX1_isCode_8 rfl rfl (fun c1 => ?_) (fun c1 => ?_)
  · have hf := gd_t c1 hf
    refine r_iconst C dX1_isCode_27 kk_i_0 rfl ?_
    cases hf
    exact r_zret C dX1_isCode_28 nb0 rfl
  · have hf := gd_f c1 hf
    refine r_iload_n C dX1_isCode_11 rfl 0 rfl rfl ?_
    refine r_bipush C dX1_isCode_12 kk_b_10 rfl ?_
    refine r_irem C dX1_isCode_14 (by decide) rfl ?_
    refine r_iconst C dX1_isCode_15 kk_i_1 rfl ?_
    refine r_iconst C dX1_isCode_16 kk_i_3 rfl ?_
    obtain ⟨r2, e2, hf⟩ := gd_b hf
    refine o_I (wn := []) C [] rfl (x_SN C dX1_isCode_17 (c_X7_isWithin l D cI cZ cG (u0 - u0 / (10 : Int32) * (10 : Int32)) (1 : Int32) (3 : Int32) r2 e2) rfl gX1_isCode_X7_isWithin_n15 (List.mem_of_getElem? (i := 5) rfl) wn_X1_isCode_X7_isWithin_s wn_X1_isCode_X7_isWithin_i hs_X7_isWithin rfl ⟨Nat.le_of_ble_eq_true rfl, Nat.le_of_ble_eq_true rfl⟩ ⟨rfl, rfl⟩ ⟨Nat.zero_le _, Nat.zero_le _⟩ rfl [] rfl rfl (Nat.le_of_ble_eq_true rfl) rfl) rfl rfl rfl ?_
    refine r_if_eq (y := 0) (tgt := 27) C dX1_isCode_20 rfl rfl (fun c3 => ?_) (fun c3 => ?_)
    · have hf := gd_t c3 hf
      refine r_iconst C dX1_isCode_27 kk_i_0 rfl ?_
      cases hf
      exact r_zret C dX1_isCode_28 nb0 rfl
    · have hf := gd_f c3 hf
      refine r_iconst C dX1_isCode_23 kk_i_1 rfl ?_
      refine r_goto (tgt := 28) C dX1_isCode_24 rfl ?_
      cases hf
      exact r_zret C dX1_isCode_28 nb1 rfl
theorem wm_X1_feltBy_abs_19 : Cond.methodLink RX1 19 Lib.Math.abs.name ∈ wsX1_feltBy := by decide +kernel
theorem wm_X1_feltBy_abs_s : Cond.static Lib.Math.abs.name ∈ wsX1_feltBy := by decide +kernel
theorem wm_X1_feltBy_i : Cond.initialized "java/lang/Math" ∈ wsX1_feltBy := by decide +kernel
theorem wm_X1_feltBy_abs_c : Cond.code Lib.Math.abs.name Lib.Math.abs.code 1 (some .int) ∈ wsX1_feltBy := by decide +kernel
theorem wm_X1_feltBy_max_25 : Cond.methodLink RX1 25 Lib.Math.max.name ∈ wsX1_feltBy := by decide +kernel
theorem wm_X1_feltBy_max_s : Cond.static Lib.Math.max.name ∈ wsX1_feltBy := by decide +kernel
theorem wm_X1_feltBy_max_c : Cond.code Lib.Math.max.name Lib.Math.max.code 2 (some .int) ∈ wsX1_feltBy := by decide +kernel
abbrev rm_X1_feltBy : Jvm.Room := { frames := 1, cells := 0, slots := 0, locals := 24 }
def f_X1_feltBy (u0 : Int32) (u1 : Int32) : Option (Int32) := some ((imax (0 : Int32) (((u0 / (10 : Int32)) - (u0 / (10 : Int32)) / (10 : Int32) * (10 : Int32)) - ((u0 - u0 / (10 : Int32) * (10 : Int32)) * (iabs (u1 - (u0 / (100 : Int32))))))))
set_option maxHeartbeats 4000000 in
set_option maxRecDepth 100000 in
theorem c_X1_feltBy (l : Launch) (D : va_G) (cI cZ cG : ClassId) (u0 : Int32) (u1 : Int32) (res : Int32) (hf : f_X1_feltBy u0 u1 = some res) : CI l D (tysW cI cZ cG) yX1_feltBy wsX1_feltBy rm_X1_feltBy [.int u0, .int u1] [] res [] := by
  refine CG.intro (own := RX1) (by decide +kernel) rfl rfl (Nat.le_of_ble_eq_true rfl) (fun p e s m args below meth c C => ?_)
  refine r_lv (lv' := [(0, .int u0), (1, .int u1)]) [0, 1] rfl ?_
  unfold f_X1_feltBy at hf
  refine r_iload_n C dX1_feltBy_0 rfl 1 rfl rfl ?_
  refine r_iload_n C dX1_feltBy_1 rfl 0 rfl rfl ?_
  refine r_bipush C dX1_feltBy_2 kk_b_100 rfl ?_
  refine r_idiv C dX1_feltBy_4 (by decide) rfl ?_
  refine r_isub C dX1_feltBy_5 rfl ?_
  refine r_mabs C dX1_feltBy_6 wm_X1_feltBy_abs_19 wm_X1_feltBy_abs_s wm_X1_feltBy_i wm_X1_feltBy_abs_c (Nat.le_of_ble_eq_true rfl) (Nat.le_of_ble_eq_true rfl) (Nat.zero_le _) (Nat.zero_le _) rfl ?_
  refine r_istore_n (lv' := [(2, .int (iabs (u1 - (u0 / (100 : Int32))))), (0, .int u0), (1, .int u1)]) C dX1_feltBy_9 rfl (by decide) rfl rfl ?_
  refine r_iconst C dX1_feltBy_10 kk_i_0 rfl ?_
  refine r_iload_n C dX1_feltBy_11 rfl 1 rfl rfl ?_
  refine r_bipush C dX1_feltBy_12 kk_b_10 rfl ?_
  refine r_idiv C dX1_feltBy_14 (by decide) rfl ?_
  refine r_bipush C dX1_feltBy_15 kk_b_10 rfl ?_
  refine r_irem C dX1_feltBy_17 (by decide) rfl ?_
  refine r_iload_n C dX1_feltBy_18 rfl 1 rfl rfl ?_
  refine r_bipush C dX1_feltBy_19 kk_b_10 rfl ?_
  refine r_irem C dX1_feltBy_21 (by decide) rfl ?_
  refine r_iload_n C dX1_feltBy_22 rfl 0 rfl rfl ?_
  refine r_imul C dX1_feltBy_23 rfl ?_
  refine r_isub C dX1_feltBy_24 rfl ?_
  refine r_mmax C dX1_feltBy_25 wm_X1_feltBy_max_25 wm_X1_feltBy_max_s wm_X1_feltBy_i wm_X1_feltBy_max_c (Nat.le_of_ble_eq_true rfl) (Nat.le_of_ble_eq_true rfl) (Nat.zero_le _) (Nat.zero_le _) rfl ?_
  cases hf
  exact r_iret C dX1_feltBy_28 rfl
theorem fw_X1_isFitting_X6 : ∀ w ∈ u_ws RX6 TX6 3, w ∈ wsX1_isFitting := by decide +kernel
theorem fl_X1_isFitting_33 : Cond.fieldLink RX1 33 "MittenLine$Sights" "count" "I" ∈ wsX1_isFitting := by decide +kernel
theorem fl_X1_isFitting_39 : Cond.fieldLink RX1 39 "MittenLine$Sights" "who" "[I" ∈ wsX1_isFitting := by decide +kernel
theorem fl_X1_isFitting_45 : Cond.fieldLink RX1 45 "MittenLine$Sights" "much" "[I" ∈ wsX1_isFitting := by decide +kernel
abbrev rm_X1_isFitting : Jvm.Room := { frames := 2, cells := 0, slots := 0, locals := 46 }
def f_X1_isFitting_11 (u1 : Int32) (o0_who : Nat → Int32) (o0_much : Nat → Int32) (o0_count : Int32) : Nat → Int32 → Option (Int32)
  | 0, _ => none
  | n + 1, u2 => if o0_count ≤ u2 then some ((1 : Int32)) else if u2 < 0 ∨ 8 ≤ u2.toNatClampNeg then none else (f_X1_feltBy u1 (o0_who u2.toNatClampNeg)).bind (fun r5 => if r5 = (o0_much u2.toNatClampNeg) then f_X1_isFitting_11 u1 o0_who o0_much o0_count n (u2 + (1 : Int32)) else some ((0 : Int32)))
set_option maxHeartbeats 4000000 in
set_option maxRecDepth 100000 in
theorem k_X1_isFitting_11 (C : Cx p s m args meth c D (tysW cI cZ cG) RX1 cX1_isFitting 3 wsX1_isFitting (some .boolean)) (h0 : Nat) (B0 : Nat → Nat) (o0_who : Nat → Int32) (o0_much : Nat → Int32) (o0_count : Int32) (u1 : Int32)  (res : Int32) : ∀ (n : Nat) (u2 : Int32), f_X1_isFitting_11 u1 o0_who o0_much o0_count n u2 = some res → Wd p l e rm_X1_isFitting s m args below meth c D w0 3 0 0 (MQ below (QcI D (tysW cI cZ cG) w0 [(h0, oX6 B0 o0_count), ((B0 0), aI cI 8 o0_who), ((B0 1), aI cI 8 o0_much)] res s.heap.size) args s 0 0 (va_A w0 s.heap.size)) [(h0, oX6 B0 o0_count), ((B0 0), aI cI 8 o0_who), ((B0 1), aI cI 8 o0_much)] [(0, .ref h0), (1, .int u1), (2, .int u2)] 11 [] := by
  intro n
  induction n with
  | zero =>
    intro u2 hf
    exact no_none hf
  | succ n ih =>
    intro u2 hf
    unfold f_X1_isFitting_11 at hf
    refine r_iload_n C dX1_isFitting_11 rfl 2 rfl rfl ?_
    refine r_aload_n C dX1_isFitting_12 rfl 0 rfl rfl ?_
    refine r_get C dX1_isFitting_13 fw_X1_isFitting_X6 0 rfl rfl 2 (by decide) rfl fl_X1_isFitting_33 rfl rfl ?_
    refine r_icmp_ge (tgt := 46) C dX1_isFitting_16 rfl rfl (fun c3 => ?_) (fun c3 => ?_)
    · have hf := gd_t c3 hf
      refine r_iconst C dX1_isFitting_46 kk_i_1 rfl ?_
      cases hf
      exact r_zret C dX1_isFitting_47 nb1 rfl
    · have hf := gd_f c3 hf
      refine r_iload_n C dX1_isFitting_19 rfl 1 rfl rfl ?_
      refine r_aload_n C dX1_isFitting_20 rfl 0 rfl rfl ?_
      refine r_get C dX1_isFitting_21 fw_X1_isFitting_X6 0 rfl rfl 0 (by decide) rfl fl_X1_isFitting_39 rfl rfl ?_
      refine r_iload_n C dX1_isFitting_24 rfl 2 rfl rfl ?_
      obtain ⟨g4, hf⟩ := gd_n hf
      refine r_iald C dX1_isFitting_25 1 0 rfl rfl g4 rfl ?_
      obtain ⟨r5, e5, hf⟩ := gd_b hf
      refine o_I (wn := [(h0, oX6 B0 o0_count), ((B0 0), aI cI 8 o0_who), ((B0 1), aI cI 8 o0_much)]) C [] rfl (x_S C dX1_isFitting_26 (c_X1_feltBy l D cI cZ cG u1 (o0_who u2.toNatClampNeg) r5 e5) rfl gX1_isFitting_X1_feltBy hs_X1_feltBy rfl ⟨Nat.le_of_ble_eq_true rfl, Nat.le_of_ble_eq_true rfl⟩ ⟨rfl, rfl⟩ ⟨Nat.zero_le _, Nat.zero_le _⟩ rfl [] rfl rfl (Nat.le_of_ble_eq_true rfl) rfl) rfl rfl rfl ?_
      refine r_aload_n C dX1_isFitting_29 rfl 0 rfl rfl ?_
      refine r_get C dX1_isFitting_30 fw_X1_isFitting_X6 0 rfl rfl 1 (by decide) rfl fl_X1_isFitting_45 rfl rfl ?_
      refine r_iload_n C dX1_isFitting_33 rfl 2 rfl rfl ?_
      refine r_iald C dX1_isFitting_34 2 0 rfl rfl g4 rfl ?_
      refine r_icmp_eq (tgt := 40) C dX1_isFitting_35 rfl rfl (fun c6 => ?_) (fun c6 => ?_)
      · have hf := gd_t c6 hf
        refine r_iinc (lv' := [(2, .int (u2 + (1 : Int32))), (0, .ref h0), (1, .int u1)]) C dX1_isFitting_40 2 rfl (ki_1 _) (by decide) rfl rfl ?_
        refine r_goto (tgt := 11) C dX1_isFitting_43 rfl ?_
        refine r_lv (lv' := [(0, .ref h0), (1, .int u1), (2, .int (u2 + (1 : Int32)))]) [1, 2, 0] rfl ?_
        exact ih _ hf
      · have hf := gd_f c6 hf
        refine r_iconst C dX1_isFitting_38 kk_i_0 rfl ?_
        cases hf
        exact r_zret C dX1_isFitting_39 nb0 rfl
def f_X1_isFitting (o0_who : Nat → Int32) (o0_much : Nat → Int32) (o0_count : Int32) (u1 : Int32) : Option (Int32) := (f_X1_isCode u1).bind (fun r1 => if r1 = 0 then some ((0 : Int32)) else f_X1_isFitting_11 u1 o0_who o0_much o0_count 2000 (0 : Int32))
set_option maxHeartbeats 4000000 in
set_option maxRecDepth 100000 in
theorem c_X1_isFitting (l : Launch) (D : va_G) (cI cZ cG : ClassId) (h0 : Nat) (B0 : Nat → Nat) (o0_who : Nat → Int32) (o0_much : Nat → Int32) (o0_count : Int32) (u1 : Int32) (res : Int32) (hf : f_X1_isFitting o0_who o0_much o0_count u1 = some res) : CI l D (tysW cI cZ cG) yX1_isFitting wsX1_isFitting rm_X1_isFitting [.ref h0, .int u1] [(h0, oX6 B0 o0_count), ((B0 0), aI cI 8 o0_who), ((B0 1), aI cI 8 o0_much)] res [(h0, oX6 B0 o0_count), ((B0 0), aI cI 8 o0_who), ((B0 1), aI cI 8 o0_much)] := by
  refine CG.intro (own := RX1) (by decide +kernel) rfl rfl (Nat.le_of_ble_eq_true rfl) (fun p e s m args below meth c C => ?_)
  refine r_lv (lv' := [(0, .ref h0), (1, .int u1)]) [0, 1] rfl ?_
  unfold f_X1_isFitting at hf
  refine r_iload_n C dX1_isFitting_0 rfl 1 rfl rfl ?_
  obtain ⟨r1, e1, hf⟩ := gd_b hf
  refine o_I (wn := [(h0, oX6 B0 o0_count), ((B0 0), aI cI 8 o0_who), ((B0 1), aI cI 8 o0_much)]) C [] rfl (x_S C dX1_isFitting_1 (c_X1_isCode l D cI cZ cG u1 r1 e1) rfl gX1_isFitting_X1_isCode hs_X1_isCode rfl ⟨Nat.le_of_ble_eq_true rfl, Nat.le_of_ble_eq_true rfl⟩ ⟨rfl, rfl⟩ ⟨Nat.zero_le _, Nat.zero_le _⟩ rfl [] rfl rfl (Nat.le_of_ble_eq_true rfl) rfl) rfl rfl rfl ?_
  refine r_if_ne (y := 0) (tgt := 9) C dX1_isFitting_4 rfl rfl (fun c2 => ?_) (fun c2 => ?_)
  · have hf := gd_f c2 hf
    refine r_iconst C dX1_isFitting_9 kk_i_0 rfl ?_
    refine r_istore_n (lv' := [(2, .int (0 : Int32)), (0, .ref h0), (1, .int u1)]) C dX1_isFitting_10 rfl (by decide) rfl rfl ?_
    refine r_lv (lv' := [(0, .ref h0), (1, .int u1), (2, .int (0 : Int32))]) [1, 2, 0] rfl ?_
    refine k_X1_isFitting_11 C h0 B0 o0_who o0_much o0_count u1 _ 2000 _ hf
  · have hf := gd_t c2 hf
    refine r_iconst C dX1_isFitting_7 kk_i_0 rfl ?_
    cases hf
    exact r_zret C dX1_isFitting_8 nb0 rfl
abbrev rm_X1_countFitting : Jvm.Room := { frames := 3, cells := 0, slots := 0, locals := 68 }
def f_X1_countFitting_5 (o1_who : Nat → Int32) (o1_much : Nat → Int32) (o1_count : Int32) : Nat → Int32 → Int32 → Option (Int32)
  | 0, _, _ => none
  | n + 1, u2, u3 => if (993 : Int32) < u3 then some (u2) else (f_X1_isFitting o1_who o1_much o1_count u3).bind (fun r2 => if r2 = 0 then f_X1_countFitting_5 o1_who o1_much o1_count n u2 (u3 + (1 : Int32)) else f_X1_countFitting_5 o1_who o1_much o1_count n (u2 + (1 : Int32)) (u3 + (1 : Int32)))
set_option maxHeartbeats 4000000 in
set_option maxRecDepth 100000 in
theorem k_X1_countFitting_5 (C : Cx p s m args meth c D (tysW cI cZ cG) RX1 cX1_countFitting 4 wsX1_countFitting (some .int)) (h h1 : Nat) (B1 : Nat → Nat) (o1_who : Nat → Int32) (o1_much : Nat → Int32) (o1_count : Int32)  (res : Int32) : ∀ (n : Nat) (u2 : Int32) (u3 : Int32), f_X1_countFitting_5 o1_who o1_much o1_count n u2 u3 = some res → Wd p l e rm_X1_countFitting s m args below meth c D w0 4 0 0 (MQ below (QcI D (tysW cI cZ cG) w0 [(h1, oX6 B1 o1_count), ((B1 0), aI cI 8 o1_who), ((B1 1), aI cI 8 o1_much)] res s.heap.size) args s 0 0 (va_A w0 s.heap.size)) [(h1, oX6 B1 o1_count), ((B1 0), aI cI 8 o1_who), ((B1 1), aI cI 8 o1_much)] [(1, .ref h1), (2, .int u2), (3, .int u3)] 5 [] := by
  intro n
  induction n with
  | zero =>
    intro u2 u3 hf
    exact no_none hf
  | succ n ih =>
    intro u2 u3 hf
    unfold f_X1_countFitting_5 at hf
    refine r_iload_n C dX1_countFitting_5 rfl 2 rfl rfl ?_
    refine r_sipush C dX1_countFitting_6 kk_s_993 rfl ?_
    refine r_icmp_gt (tgt := 29) C dX1_countFitting_9 rfl rfl (fun c1 => ?_) (fun c1 => ?_)
    · have hf := gd_t c1 hf
      refine r_iload_n C dX1_countFitting_29 rfl 1 rfl rfl ?_
      cases hf
      exact r_iret C dX1_countFitting_30 rfl
    · have hf := gd_f c1 hf
      refine r_aload_n C dX1_countFitting_12 rfl 0 rfl rfl ?_
      refine r_iload_n C dX1_countFitting_13 rfl 2 rfl rfl ?_
      obtain ⟨r2, e2, hf⟩ := gd_b hf
      refine o_I (wn := [(h1, oX6 B1 o1_count), ((B1 0), aI cI 8 o1_who), ((B1 1), aI cI 8 o1_much)]) C [0, 1, 2] rfl (x_S C dX1_countFitting_14 (c_X1_isFitting l D cI cZ cG h1 B1 o1_who o1_much o1_count u3 r2 e2) rfl gX1_countFitting_X1_isFitting hs_X1_isFitting rfl ⟨Nat.le_of_ble_eq_true rfl, Nat.le_of_ble_eq_true rfl⟩ ⟨rfl, rfl⟩ ⟨Nat.zero_le _, Nat.zero_le _⟩ rfl [0, 1, 2] rfl rfl (Nat.le_of_ble_eq_true rfl) rfl) rfl rfl rfl ?_
      refine r_if_eq (y := 0) (tgt := 23) C dX1_countFitting_17 rfl rfl (fun c3 => ?_) (fun c3 => ?_)
      · have hf := gd_t c3 hf
        refine r_iinc (lv' := [(3, .int (u3 + (1 : Int32))), (1, .ref h1), (2, .int u2)]) C dX1_countFitting_23 2 rfl (ki_1 _) (by decide) rfl rfl ?_
        refine r_goto (tgt := 5) C dX1_countFitting_26 rfl ?_
        refine r_lv (lv' := [(1, .ref h1), (2, .int u2), (3, .int (u3 + (1 : Int32)))]) [1, 2, 0] rfl ?_
        exact ih _ _ hf
      · have hf := gd_f c3 hf
        refine r_iinc (lv' := [(2, .int (u2 + (1 : Int32))), (1, .ref h1), (3, .int u3)]) C dX1_countFitting_20 1 rfl (ki_1 _) (by decide) rfl rfl ?_
        refine r_iinc (lv' := [(3, .int (u3 + (1 : Int32))), (2, .int (u2 + (1 : Int32))), (1, .ref h1)]) C dX1_countFitting_23 2 rfl (ki_1 _) (by decide) rfl rfl ?_
        refine r_goto (tgt := 5) C dX1_countFitting_26 rfl ?_
        refine r_lv (lv' := [(1, .ref h1), (2, .int (u2 + (1 : Int32))), (3, .int (u3 + (1 : Int32)))]) [2, 1, 0] rfl ?_
        exact ih _ _ hf
def f_X1_countFitting (o1_who : Nat → Int32) (o1_much : Nat → Int32) (o1_count : Int32) : Option (Int32) := f_X1_countFitting_5 o1_who o1_much o1_count 2000 (0 : Int32) (11 : Int32)
set_option maxHeartbeats 4000000 in
set_option maxRecDepth 100000 in
theorem c_X1_countFitting (l : Launch) (D : va_G) (cI cZ cG : ClassId) (h h1 : Nat) (B1 : Nat → Nat) (o1_who : Nat → Int32) (o1_much : Nat → Int32) (o1_count : Int32) (res : Int32) (hf : f_X1_countFitting o1_who o1_much o1_count = some res) : CI l D (tysW cI cZ cG) yX1_countFitting wsX1_countFitting rm_X1_countFitting [.ref h, .ref h1] [(h1, oX6 B1 o1_count), ((B1 0), aI cI 8 o1_who), ((B1 1), aI cI 8 o1_much)] res [(h1, oX6 B1 o1_count), ((B1 0), aI cI 8 o1_who), ((B1 1), aI cI 8 o1_much)] := by
  refine CG.intro (own := RX1) (by decide +kernel) rfl rfl (Nat.le_of_ble_eq_true rfl) (fun p e s m args below meth c C => ?_)
  refine r_lv (lv' := [(0, .ref h), (1, .ref h1)]) [0, 1] rfl ?_
  unfold f_X1_countFitting at hf
  refine r_iconst C dX1_countFitting_0 kk_i_0 rfl ?_
  refine r_istore_n (lv' := [(2, .int (0 : Int32)), (0, .ref h), (1, .ref h1)]) C dX1_countFitting_1 rfl (by decide) rfl rfl ?_
  refine r_bipush C dX1_countFitting_2 kk_b_11 rfl ?_
  refine r_istore_n (lv' := [(3, .int (11 : Int32)), (2, .int (0 : Int32)), (0, .ref h), (1, .ref h1)]) C dX1_countFitting_4 rfl (by decide) rfl rfl ?_
  refine r_lv (lv' := [(1, .ref h1), (2, .int (0 : Int32)), (3, .int (11 : Int32))]) [3, 1, 0] rfl ?_
  refine k_X1_countFitting_5 C h h1 B1 o1_who o1_much o1_count _ 2000 _ _ hf
abbrev rm_X1_fitting : Jvm.Room := { frames := 3, cells := 0, slots := 0, locals := 68 }
def f_X1_fitting_6 (u2 : Int32) (o1_who : Nat → Int32) (o1_much : Nat → Int32) (o1_count : Int32) : Nat → Int32 → Int32 → Option (Int32)
  | 0, _, _ => none
  | n + 1, u3, u4 => if (993 : Int32) < u4 then some ((-6 : Int32)) else (f_X1_isFitting o1_who o1_much o1_count u4).bind (fun r2 => if r2 = 0 then f_X1_fitting_6 u2 o1_who o1_much o1_count n u3 (u4 + (1 : Int32)) else if u3 = u2 then some (u4) else f_X1_fitting_6 u2 o1_who o1_much o1_count n (u3 + (1 : Int32)) (u4 + (1 : Int32)))
set_option maxHeartbeats 4000000 in
set_option maxRecDepth 100000 in
theorem k_X1_fitting_6 (C : Cx p s m args meth c D (tysW cI cZ cG) RX1 cX1_fitting 5 wsX1_fitting (some .int)) (h h1 : Nat) (B1 : Nat → Nat) (o1_who : Nat → Int32) (o1_much : Nat → Int32) (o1_count : Int32) (u2 : Int32)  (res : Int32) : ∀ (n : Nat) (u3 : Int32) (u4 : Int32), f_X1_fitting_6 u2 o1_who o1_much o1_count n u3 u4 = some res → Wd p l e rm_X1_fitting s m args below meth c D w0 5 0 0 (MQ below (QcI D (tysW cI cZ cG) w0 [(h1, oX6 B1 o1_count), ((B1 0), aI cI 8 o1_who), ((B1 1), aI cI 8 o1_much)] res s.heap.size) args s 0 0 (va_A w0 s.heap.size)) [(h1, oX6 B1 o1_count), ((B1 0), aI cI 8 o1_who), ((B1 1), aI cI 8 o1_much)] [(1, .ref h1), (2, .int u2), (3, .int u3), (4, .int u4)] 6 [] := by
  intro n
  induction n with
  | zero =>
    intro u3 u4 hf
    exact no_none hf
  | succ n ih =>
    intro u3 u4 hf
    unfold f_X1_fitting_6 at hf
    refine r_iload C dX1_fitting_6 3 rfl rfl ?_
    refine r_sipush C dX1_fitting_8 kk_s_993 rfl ?_
    refine r_icmp_gt (tgt := 43) C dX1_fitting_11 rfl rfl (fun c1 => ?_) (fun c1 => ?_)
    · have hf := gd_t c1 hf
      refine r_bipush C dX1_fitting_43 kk_b_m6 rfl ?_
      cases hf
      exact r_iret C dX1_fitting_45 rfl
    · have hf := gd_f c1 hf
      refine r_aload_n C dX1_fitting_14 rfl 0 rfl rfl ?_
      refine r_iload C dX1_fitting_15 3 rfl rfl ?_
      obtain ⟨r2, e2, hf⟩ := gd_b hf
      refine o_I (wn := [(h1, oX6 B1 o1_count), ((B1 0), aI cI 8 o1_who), ((B1 1), aI cI 8 o1_much)]) C [0, 1, 2] rfl (x_S C dX1_fitting_17 (c_X1_isFitting l D cI cZ cG h1 B1 o1_who o1_much o1_count u4 r2 e2) rfl gX1_fitting_X1_isFitting hs_X1_isFitting rfl ⟨Nat.le_of_ble_eq_true rfl, Nat.le_of_ble_eq_true rfl⟩ ⟨rfl, rfl⟩ ⟨Nat.zero_le _, Nat.zero_le _⟩ rfl [0, 1, 2] rfl rfl (Nat.le_of_ble_eq_true rfl) rfl) rfl rfl rfl ?_
      refine r_if_ne (y := 0) (tgt := 26) C dX1_fitting_20 rfl rfl (fun c3 => ?_) (fun c3 => ?_)
      · have hf := gd_f c3 hf
        refine r_iload_n C dX1_fitting_26 rfl 2 rfl rfl ?_
        refine r_iload_n C dX1_fitting_27 rfl 1 rfl rfl ?_
        refine r_icmp_ne (tgt := 34) C dX1_fitting_28 rfl rfl (fun c4 => ?_) (fun c4 => ?_)
        · have hf := gd_f c4 hf
          refine r_iinc (lv' := [(3, .int (u3 + (1 : Int32))), (1, .ref h1), (2, .int u2), (4, .int u4)]) C dX1_fitting_34 2 rfl (ki_1 _) (by decide) rfl rfl ?_
          refine r_iinc (lv' := [(4, .int (u4 + (1 : Int32))), (3, .int (u3 + (1 : Int32))), (1, .ref h1), (2, .int u2)]) C dX1_fitting_37 3 rfl (ki_1 _) (by decide) rfl rfl ?_
          refine r_goto (tgt := 6) C dX1_fitting_40 rfl ?_
          refine r_lv (lv' := [(1, .ref h1), (2, .int u2), (3, .int (u3 + (1 : Int32))), (4, .int (u4 + (1 : Int32)))]) [2, 3, 1, 0] rfl ?_
          exact ih _ _ hf
        · have hf := gd_t c4 hf
          refine r_iload C dX1_fitting_31 3 rfl rfl ?_
          cases hf
          exact r_iret C dX1_fitting_33 rfl
      · have hf := gd_t c3 hf
        refine r_goto (tgt := 37) C dX1_fitting_23 rfl ?_
        refine r_iinc (lv' := [(4, .int (u4 + (1 : Int32))), (1, .ref h1), (2, .int u2), (3, .int u3)]) C dX1_fitting_37 3 rfl (ki_1 _) (by decide) rfl rfl ?_
        refine r_goto (tgt := 6) C dX1_fitting_40 rfl ?_
        refine r_lv (lv' := [(1, .ref h1), (2, .int u2), (3, .int u3), (4, .int (u4 + (1 : Int32)))]) [1, 2, 3, 0] rfl ?_
        exact ih _ _ hf
def f_X1_fitting (o1_who : Nat → Int32) (o1_much : Nat → Int32) (o1_count : Int32) (u2 : Int32) : Option (Int32) := f_X1_fitting_6 u2 o1_who o1_much o1_count 2000 (0 : Int32) (11 : Int32)
set_option maxHeartbeats 4000000 in
set_option maxRecDepth 100000 in
theorem c_X1_fitting (l : Launch) (D : va_G) (cI cZ cG : ClassId) (h h1 : Nat) (B1 : Nat → Nat) (o1_who : Nat → Int32) (o1_much : Nat → Int32) (o1_count : Int32) (u2 : Int32) (res : Int32) (hf : f_X1_fitting o1_who o1_much o1_count u2 = some res) : CI l D (tysW cI cZ cG) yX1_fitting wsX1_fitting rm_X1_fitting [.ref h, .ref h1, .int u2] [(h1, oX6 B1 o1_count), ((B1 0), aI cI 8 o1_who), ((B1 1), aI cI 8 o1_much)] res [(h1, oX6 B1 o1_count), ((B1 0), aI cI 8 o1_who), ((B1 1), aI cI 8 o1_much)] := by
  refine CG.intro (own := RX1) (by decide +kernel) rfl rfl (Nat.le_of_ble_eq_true rfl) (fun p e s m args below meth c C => ?_)
  refine r_lv (lv' := [(0, .ref h), (1, .ref h1), (2, .int u2)]) [0, 1, 2] rfl ?_
  unfold f_X1_fitting at hf
  refine r_iconst C dX1_fitting_0 kk_i_0 rfl ?_
  refine r_istore_n (lv' := [(3, .int (0 : Int32)), (0, .ref h), (1, .ref h1), (2, .int u2)]) C dX1_fitting_1 rfl (by decide) rfl rfl ?_
  refine r_bipush C dX1_fitting_2 kk_b_11 rfl ?_
  refine r_istore (lv' := [(4, .int (11 : Int32)), (3, .int (0 : Int32)), (0, .ref h), (1, .ref h1), (2, .int u2)]) C dX1_fitting_4 (by decide) rfl rfl ?_
  refine r_lv (lv' := [(1, .ref h1), (2, .int u2), (3, .int (0 : Int32)), (4, .int (11 : Int32))]) [3, 4, 1, 0] rfl ?_
  refine k_X1_fitting_6 C h h1 B1 o1_who o1_much o1_count u2 _ 2000 _ _ hf
theorem fw_X1_mostAlike_X1 : ∀ w ∈ u_ws RX1 TX1 3, w ∈ wsX1_mostAlike := by decide +kernel
theorem fl_X1_mostAlike_9 : Cond.fieldLink RX1 9 "MittenLine$Guess" "tally" "[I" ∈ wsX1_mostAlike := by decide +kernel
theorem wn_X1_mostAlike_X7_isWithin_s : Cond.static yX7_isWithin ∈ wsX1_mostAlike := by decide +kernel
theorem wn_X1_mostAlike_X7_isWithin_i : Cond.initialized yX7_isWithin.cls ∈ wsX1_mostAlike := by decide +kernel
theorem wm_X1_mostAlike_max_25 : Cond.methodLink RX1 25 Lib.Math.max.name ∈ wsX1_mostAlike := by decide +kernel
theorem wm_X1_mostAlike_max_s : Cond.static Lib.Math.max.name ∈ wsX1_mostAlike := by decide +kernel
theorem wm_X1_mostAlike_i : Cond.initialized "java/lang/Math" ∈ wsX1_mostAlike := by decide +kernel
theorem wm_X1_mostAlike_max_c : Cond.code Lib.Math.max.name Lib.Math.max.code 2 (some .int) ∈ wsX1_mostAlike := by decide +kernel
abbrev rm_X1_mostAlike : Jvm.Room := { frames := 3, cells := 0, slots := 0, locals := 68 }
def f_X1_mostAlike_2 (kx21 : (Nat → Int32) → Option (Int32 × (Nat → Int32))) : Nat → Int32 → (Nat → Int32) → Option (Int32 × (Nat → Int32))
  | 0, _, _ => none
  | n + 1, u3, tally => if (9 : Int32) < u3 then kx21 tally else if u3 < 0 ∨ 10 ≤ u3.toNatClampNeg then none else f_X1_mostAlike_2 kx21 n (u3 + (1 : Int32)) (upd tally u3.toNatClampNeg (0 : Int32))
set_option maxHeartbeats 4000000 in
set_option maxRecDepth 100000 in
theorem k_X1_mostAlike_2 (C : Cx p s m args meth c D (tysW cI cZ cG) RX1 cX1_mostAlike 6 wsX1_mostAlike (some .int)) (h h1 : Nat) (A B1 : Nat → Nat) (askedChild : Int32) (mostLeft : Int32) (o1_who : Nat → Int32) (o1_much : Nat → Int32) (o1_count : Int32) (u2 : Int32)  (kx21 : (Nat → Int32) → Option (Int32 × (Nat → Int32))) (res : Int32 × (Nat → Int32)) (hkx21 : ∀ (tally : Nat → Int32) , kx21 tally = some res → Wd p l e rm_X1_mostAlike s m args below meth c D w0 6 0 0 (MQ below (QcI D (tysW cI cZ cG) w0 [(h, oX1 A askedChild mostLeft), (h1, oX6 B1 o1_count), ((A 0), aI cI 10 res.2), ((B1 0), aI cI 8 o1_who), ((B1 1), aI cI 8 o1_much)] res.1 s.heap.size) args s 0 0 (va_A w0 s.heap.size)) [(h, oX1 A askedChild mostLeft), (h1, oX6 B1 o1_count), ((A 0), aI cI 10 tally), ((B1 0), aI cI 8 o1_who), ((B1 1), aI cI 8 o1_much)] [(0, .ref h), (1, .ref h1), (2, .int u2)] 21 []) : ∀ (n : Nat) (u3 : Int32) (tally : Nat → Int32), f_X1_mostAlike_2 kx21 n u3 tally = some res → Wd p l e rm_X1_mostAlike s m args below meth c D w0 6 0 0 (MQ below (QcI D (tysW cI cZ cG) w0 [(h, oX1 A askedChild mostLeft), (h1, oX6 B1 o1_count), ((A 0), aI cI 10 res.2), ((B1 0), aI cI 8 o1_who), ((B1 1), aI cI 8 o1_much)] res.1 s.heap.size) args s 0 0 (va_A w0 s.heap.size)) [(h, oX1 A askedChild mostLeft), (h1, oX6 B1 o1_count), ((A 0), aI cI 10 tally), ((B1 0), aI cI 8 o1_who), ((B1 1), aI cI 8 o1_much)] [(0, .ref h), (1, .ref h1), (2, .int u2), (3, .int u3)] 2 [] := by
  intro n
  induction n with
  | zero =>
    intro u3 tally hf
    exact no_none hf
  | succ n ih =>
    intro u3 tally hf
    unfold f_X1_mostAlike_2 at hf
    refine r_iload_n C dX1_mostAlike_2 rfl 3 rfl rfl ?_
    refine r_bipush C dX1_mostAlike_3 kk_b_9 rfl ?_
    refine r_icmp_gt (tgt := 21) C dX1_mostAlike_5 rfl rfl (fun c1 => ?_) (fun c1 => ?_)
    · have hf := gd_t c1 hf
      refine r_lv (lv' := [(0, .ref h), (1, .ref h1), (2, .int u2)]) [0, 1, 2] rfl ?_
      exact hkx21 _ hf
    · have hf := gd_f c1 hf
      refine r_aload_n C dX1_mostAlike_8 rfl 0 rfl rfl ?_
      refine r_get C dX1_mostAlike_9 fw_X1_mostAlike_X1 0 rfl rfl 0 (by decide) rfl fl_X1_mostAlike_9 rfl rfl ?_
      refine r_iload_n C dX1_mostAlike_12 rfl 3 rfl rfl ?_
      refine r_iconst C dX1_mostAlike_13 kk_i_0 rfl ?_
      obtain ⟨g2, hf⟩ := gd_n hf
      refine r_iast (ws' := [(h, oX1 A askedChild mostLeft), (h1, oX6 B1 o1_count), ((A 0), aI cI 10 (upd tally u3.toNatClampNeg (0 : Int32))), ((B1 0), aI cI 8 o1_who), ((B1 1), aI cI 8 o1_much)]) C dX1_mostAlike_14 2 0 rfl rfl g2 rfl rfl ?_
      refine r_iinc (lv' := [(3, .int (u3 + (1 : Int32))), (0, .ref h), (1, .ref h1), (2, .int u2)]) C dX1_mostAlike_15 3 rfl (ki_1 _) (by decide) rfl rfl ?_
      refine r_goto (tgt := 2) C dX1_mostAlike_18 rfl ?_
      refine r_lv (lv' := [(0, .ref h), (1, .ref h1), (2, .int u2), (3, .int (u3 + (1 : Int32)))]) [1, 2, 3, 0] rfl ?_
      exact ih _ _ hf
def f_X1_mostAlike_27 (u2 : Int32) (o1_who : Nat → Int32) (o1_much : Nat → Int32) (o1_count : Int32) : Nat → Int32 → Int32 → (Nat → Int32) → Option (Int32 × (Nat → Int32))
  | 0, _, _, _ => none
  | n + 1, u3, u4, tally => if (993 : Int32) < u4 then some (u3, tally) else (f_X1_isFitting o1_who o1_much o1_count u4).bind (fun r5 => if r5 = 0 then f_X1_mostAlike_27 u2 o1_who o1_much o1_count n u3 (u4 + (1 : Int32)) tally else (f_X1_feltBy u4 u2).bind (fun r7 => (f_X7_isWithin r7 (0 : Int32) (9 : Int32)).bind (fun r8 => if r8 = 0 then f_X1_mostAlike_27 u2 o1_who o1_much o1_count n u3 (u4 + (1 : Int32)) tally else if r7 < 0 ∨ 10 ≤ r7.toNatClampNeg then none else f_X1_mostAlike_27 u2 o1_who o1_much o1_count n (imax u3 ((upd tally r7.toNatClampNeg ((tally r7.toNatClampNeg) + (1 : Int32))) r7.toNatClampNeg)) (u4 + (1 : Int32)) (upd tally r7.toNatClampNeg ((tally r7.toNatClampNeg) + (1 : Int32))))))
set_option maxHeartbeats 4000000 in
set_option maxRecDepth 100000 in
theorem k_X1_mostAlike_27 (C : Cx p s m args meth c D (tysW cI cZ cG) RX1 cX1_mostAlike 6 wsX1_mostAlike (some .int)) (h h1 : Nat) (A B1 : Nat → Nat) (askedChild : Int32) (mostLeft : Int32) (o1_who : Nat → Int32) (o1_much : Nat → Int32) (o1_count : Int32) (u2 : Int32)  (res : Int32 × (Nat → Int32)) : ∀ (n : Nat) (u3 : Int32) (u4 : Int32) (tally : Nat → Int32), f_X1_mostAlike_27 u2 o1_who o1_much o1_count n u3 u4 tally = some res → Wd p l e rm_X1_mostAlike s m args below meth c D w0 6 0 0 (MQ below (QcI D (tysW cI cZ cG) w0 [(h, oX1 A askedChild mostLeft), (h1, oX6 B1 o1_count), ((A 0), aI cI 10 res.2), ((B1 0), aI cI 8 o1_who), ((B1 1), aI cI 8 o1_much)] res.1 s.heap.size) args s 0 0 (va_A w0 s.heap.size)) [(h, oX1 A askedChild mostLeft), (h1, oX6 B1 o1_count), ((A 0), aI cI 10 tally), ((B1 0), aI cI 8 o1_who), ((B1 1), aI cI 8 o1_much)] [(0, .ref h), (1, .ref h1), (2, .int u2), (3, .int u3), (4, .int u4)] 27 [] := by
  intro n
  induction n with
  | zero =>
    intro u3 u4 tally hf
    exact no_none hf
  | succ n ih =>
    intro u3 u4 tally hf
    unfold f_X1_mostAlike_27 at hf
    refine r_iload C dX1_mostAlike_27 4 rfl rfl ?_
    refine r_sipush C dX1_mostAlike_29 kk_s_993 rfl ?_
    refine r_icmp_gt (tgt := 98) C dX1_mostAlike_32 rfl rfl (fun c4 => ?_) (fun c4 => ?_)
    · have hf := gd_t c4 hf
      refine r_iload_n C dX1_mostAlike_98 rfl 3 rfl rfl ?_
      cases hf
      exact r_iret C dX1_mostAlike_99 rfl
    · have hf := gd_f c4 hf
      refine r_aload_n C dX1_mostAlike_35 rfl 1 rfl rfl ?_
      refine r_iload C dX1_mostAlike_36 4 rfl rfl ?_
      obtain ⟨r5, e5, hf⟩ := gd_b hf
      refine o_I (wn := [(h, oX1 A askedChild mostLeft), (h1, oX6 B1 o1_count), ((A 0), aI cI 10 tally), ((B1 0), aI cI 8 o1_who), ((B1 1), aI cI 8 o1_much)]) C [1, 3, 4] rfl (x_S C dX1_mostAlike_38 (c_X1_isFitting l D cI cZ cG h1 B1 o1_who o1_much o1_count u4 r5 e5) rfl gX1_mostAlike_X1_isFitting hs_X1_isFitting rfl ⟨Nat.le_of_ble_eq_true rfl, Nat.le_of_ble_eq_true rfl⟩ ⟨rfl, rfl⟩ ⟨Nat.zero_le _, Nat.zero_le _⟩ rfl [1, 3, 4] rfl rfl (Nat.le_of_ble_eq_true rfl) rfl) rfl rfl rfl ?_
      refine r_if_ne (y := 0) (tgt := 47) C dX1_mostAlike_41 rfl rfl (fun c6 => ?_) (fun c6 => ?_)
      · have hf := gd_f c6 hf
        refine r_iload C dX1_mostAlike_47 4 rfl rfl ?_
        refine r_iload_n C dX1_mostAlike_49 rfl 2 rfl rfl ?_
        obtain ⟨r7, e7, hf⟩ := gd_b hf
        refine o_I (wn := [(h, oX1 A askedChild mostLeft), (h1, oX6 B1 o1_count), ((A 0), aI cI 10 tally), ((B1 0), aI cI 8 o1_who), ((B1 1), aI cI 8 o1_much)]) C [] rfl (x_S C dX1_mostAlike_50 (c_X1_feltBy l D cI cZ cG u4 u2 r7 e7) rfl gX1_mostAlike_X1_feltBy hs_X1_feltBy rfl ⟨Nat.le_of_ble_eq_true rfl, Nat.le_of_ble_eq_true rfl⟩ ⟨rfl, rfl⟩ ⟨Nat.zero_le _, Nat.zero_le _⟩ rfl [] rfl rfl (Nat.le_of_ble_eq_true rfl) rfl) rfl rfl rfl ?_
        refine r_istore (lv' := [(5, .int r7), (0, .ref h), (1, .ref h1), (2, .int u2), (3, .int u3), (4, .int u4)]) C dX1_mostAlike_53 (by decide) rfl rfl ?_
        refine r_iload C dX1_mostAlike_55 0 rfl rfl ?_
        refine r_iconst C dX1_mostAlike_57 kk_i_0 rfl ?_
        refine r_bipush C dX1_mostAlike_58 kk_b_9 rfl ?_
        obtain ⟨r8, e8, hf⟩ := gd_b hf
        refine o_I (wn := [(h, oX1 A askedChild mostLeft), (h1, oX6 B1 o1_count), ((A 0), aI cI 10 tally), ((B1 0), aI cI 8 o1_who), ((B1 1), aI cI 8 o1_much)]) C [] rfl (x_SN C dX1_mostAlike_60 (c_X7_isWithin l D cI cZ cG r7 (0 : Int32) (9 : Int32) r8 e8) rfl gX1_mostAlike_X7_isWithin_n15 (List.mem_of_getElem? (i := 5) rfl) wn_X1_mostAlike_X7_isWithin_s wn_X1_mostAlike_X7_isWithin_i hs_X7_isWithin rfl ⟨Nat.le_of_ble_eq_true rfl, Nat.le_of_ble_eq_true rfl⟩ ⟨rfl, rfl⟩ ⟨Nat.zero_le _, Nat.zero_le _⟩ rfl [] rfl rfl (Nat.le_of_ble_eq_true rfl) rfl) rfl rfl rfl ?_
        refine r_if_ne (y := 0) (tgt := 69) C dX1_mostAlike_63 rfl rfl (fun c9 => ?_) (fun c9 => ?_)
        · have hf := gd_f c9 hf
          refine r_aload_n C dX1_mostAlike_69 rfl 1 rfl rfl ?_
          refine r_get C dX1_mostAlike_70 fw_X1_mostAlike_X1 0 rfl rfl 0 (by decide) rfl fl_X1_mostAlike_9 rfl rfl ?_
          refine r_iload C dX1_mostAlike_73 0 rfl rfl ?_
          refine r_dup2 C dX1_mostAlike_75 rfl rfl rfl ?_
          obtain ⟨g10, hf⟩ := gd_n hf
          refine r_iald C dX1_mostAlike_76 2 0 rfl rfl g10 rfl ?_
          refine r_iconst C dX1_mostAlike_77 kk_i_1 rfl ?_
          refine r_iadd C dX1_mostAlike_78 rfl ?_
          refine r_iast (ws' := [(h, oX1 A askedChild mostLeft), (h1, oX6 B1 o1_count), ((A 0), aI cI 10 (upd tally r7.toNatClampNeg ((tally r7.toNatClampNeg) + (1 : Int32)))), ((B1 0), aI cI 8 o1_who), ((B1 1), aI cI 8 o1_much)]) C dX1_mostAlike_79 2 0 rfl rfl g10 rfl rfl ?_
          refine r_iload_n C dX1_mostAlike_80 rfl 4 rfl rfl ?_
          refine r_aload_n C dX1_mostAlike_81 rfl 1 rfl rfl ?_
          refine r_get C dX1_mostAlike_82 fw_X1_mostAlike_X1 0 rfl rfl 0 (by decide) rfl fl_X1_mostAlike_9 rfl rfl ?_
          refine r_iload C dX1_mostAlike_85 0 rfl rfl ?_
          refine r_iald C dX1_mostAlike_87 2 0 rfl rfl g10 rfl ?_
          refine r_mmax C dX1_mostAlike_88 wm_X1_mostAlike_max_25 wm_X1_mostAlike_max_s wm_X1_mostAlike_i wm_X1_mostAlike_max_c (Nat.le_of_ble_eq_true rfl) (Nat.le_of_ble_eq_true rfl) (Nat.zero_le _) (Nat.zero_le _) rfl ?_
          refine r_istore_n (lv' := [(3, .int (imax u3 ((upd tally r7.toNatClampNeg ((tally r7.toNatClampNeg) + (1 : Int32))) r7.toNatClampNeg))), (5, .int r7), (0, .ref h), (1, .ref h1), (2, .int u2), (4, .int u4)]) C dX1_mostAlike_91 rfl (by decide) rfl rfl ?_
          refine r_iinc (lv' := [(4, .int (u4 + (1 : Int32))), (3, .int (imax u3 ((upd tally r7.toNatClampNeg ((tally r7.toNatClampNeg) + (1 : Int32))) r7.toNatClampNeg))), (5, .int r7), (0, .ref h), (1, .ref h1), (2, .int u2)]) C dX1_mostAlike_92 5 rfl (ki_1 _) (by decide) rfl rfl ?_
          refine r_goto (tgt := 27) C dX1_mostAlike_95 rfl ?_
          refine r_lv (lv' := [(0, .ref h), (1, .ref h1), (2, .int u2), (3, .int (imax u3 ((upd tally r7.toNatClampNeg ((tally r7.toNatClampNeg) + (1 : Int32))) r7.toNatClampNeg))), (4, .int (u4 + (1 : Int32)))]) [3, 4, 5, 1, 0] rfl ?_
          exact ih _ _ _ hf
        · have hf := gd_t c9 hf
          refine r_goto (tgt := 92) C dX1_mostAlike_66 rfl ?_
          refine r_iinc (lv' := [(4, .int (u4 + (1 : Int32))), (5, .int r7), (0, .ref h), (1, .ref h1), (2, .int u2), (3, .int u3)]) C dX1_mostAlike_92 5 rfl (ki_1 _) (by decide) rfl rfl ?_
          refine r_goto (tgt := 27) C dX1_mostAlike_95 rfl ?_
          refine r_lv (lv' := [(0, .ref h), (1, .ref h1), (2, .int u2), (3, .int u3), (4, .int (u4 + (1 : Int32)))]) [2, 3, 4, 5, 0] rfl ?_
          exact ih _ _ _ hf
      · have hf := gd_t c6 hf
        refine r_goto (tgt := 92) C dX1_mostAlike_44 rfl ?_
        refine r_iinc (lv' := [(4, .int (u4 + (1 : Int32))), (0, .ref h), (1, .ref h1), (2, .int u2), (3, .int u3)]) C dX1_mostAlike_92 4 rfl (ki_1 _) (by decide) rfl rfl ?_
        refine r_goto (tgt := 27) C dX1_mostAlike_95 rfl ?_
        refine r_lv (lv' := [(0, .ref h), (1, .ref h1), (2, .int u2), (3, .int u3), (4, .int (u4 + (1 : Int32)))]) [1, 2, 3, 4, 0] rfl ?_
        exact ih _ _ _ hf
def f_X1_mostAlike (tally : Nat → Int32) (o1_who : Nat → Int32) (o1_much : Nat → Int32) (o1_count : Int32) (u2 : Int32) : Option (Int32 × (Nat → Int32)) := f_X1_mostAlike_2 (fun tally_3 => f_X1_mostAlike_27 u2 o1_who o1_much o1_count 2000 (0 : Int32) (11 : Int32) tally_3) 2000 (0 : Int32) tally
set_option maxHeartbeats 4000000 in
set_option maxRecDepth 100000 in
theorem c_X1_mostAlike (l : Launch) (D : va_G) (cI cZ cG : ClassId) (h h1 : Nat) (A B1 : Nat → Nat) (tally : Nat → Int32) (askedChild : Int32) (mostLeft : Int32) (o1_who : Nat → Int32) (o1_much : Nat → Int32) (o1_count : Int32) (u2 : Int32) (res : Int32 × (Nat → Int32)) (hf : f_X1_mostAlike tally o1_who o1_much o1_count u2 = some res) : CI l D (tysW cI cZ cG) yX1_mostAlike wsX1_mostAlike rm_X1_mostAlike [.ref h, .ref h1, .int u2] [(h, oX1 A askedChild mostLeft), (h1, oX6 B1 o1_count), ((A 0), aI cI 10 tally), ((B1 0), aI cI 8 o1_who), ((B1 1), aI cI 8 o1_much)] res.1 [(h, oX1 A askedChild mostLeft), (h1, oX6 B1 o1_count), ((A 0), aI cI 10 res.2), ((B1 0), aI cI 8 o1_who), ((B1 1), aI cI 8 o1_much)] := by
  refine CG.intro (own := RX1) (by decide +kernel) rfl rfl (Nat.le_of_ble_eq_true rfl) (fun p e s m args below meth c C => ?_)
  refine r_lv (lv' := [(0, .ref h), (1, .ref h1), (2, .int u2)]) [0, 1, 2] rfl ?_
  unfold f_X1_mostAlike at hf
  refine r_iconst C dX1_mostAlike_0 kk_i_0 rfl ?_
  refine r_istore_n (lv' := [(3, .int (0 : Int32)), (0, .ref h), (1, .ref h1), (2, .int u2)]) C dX1_mostAlike_1 rfl (by decide) rfl rfl ?_
  refine r_lv (lv' := [(0, .ref h), (1, .ref h1), (2, .int u2), (3, .int (0 : Int32))]) [1, 2, 3, 0] rfl ?_
  refine k_X1_mostAlike_2 C h h1 A B1 askedChild mostLeft o1_who o1_much o1_count u2 _ _ ?_ 2000 _ _ hf
  · intro tally_3 hf
    refine r_iconst C dX1_mostAlike_21 kk_i_0 rfl ?_
    refine r_istore_n (lv' := [(3, .int (0 : Int32)), (0, .ref h), (1, .ref h1), (2, .int u2)]) C dX1_mostAlike_22 rfl (by decide) rfl rfl ?_
    refine r_bipush C dX1_mostAlike_23 kk_b_11 rfl ?_
    refine r_istore (lv' := [(4, .int (11 : Int32)), (3, .int (0 : Int32)), (0, .ref h), (1, .ref h1), (2, .int u2)]) C dX1_mostAlike_25 (by decide) rfl rfl ?_
    refine r_lv (lv' := [(0, .ref h), (1, .ref h1), (2, .int u2), (3, .int (0 : Int32)), (4, .int (11 : Int32))]) [2, 3, 4, 1, 0] rfl ?_
    refine k_X1_mostAlike_27 C h h1 A B1 askedChild mostLeft o1_who o1_much o1_count u2 _ 2000 _ _ _ hf
theorem fw_X1_chooseChild_X1 : ∀ w ∈ u_ws RX1 TX1 3, w ∈ wsX1_chooseChild := by decide +kernel
theorem fl_X1_chooseChild_52 : Cond.fieldLink RX1 52 "MittenLine$Guess" "askedChild" "I" ∈ wsX1_chooseChild := by decide +kernel
theorem fl_X1_chooseChild_55 : Cond.fieldLink RX1 55 "MittenLine$Guess" "mostLeft" "I" ∈ wsX1_chooseChild := by decide +kernel
abbrev rm_X1_chooseChild : Jvm.Room := { frames := 4, cells := 0, slots := 0, locals := 93 }
def f_X1_chooseChild_14 (o1_who : Nat → Int32) (o1_much : Nat → Int32) (o1_count : Int32) : Nat → Int32 → (Nat → Int32) → Int32 → Int32 → Option ((Nat → Int32) × Int32 × Int32)
  | 0, _, _, _, _ => none
  | n + 1, u2, tally, askedChild, mostLeft => if (10 : Int32) ≤ u2 then some (tally, askedChild, mostLeft) else (f_X1_mostAlike tally o1_who o1_much o1_count u2).bind (fun r2 => if askedChild = (-6 : Int32) then f_X1_chooseChild_14 o1_who o1_much o1_count n (u2 + (1 : Int32)) r2.2 u2 r2.1 else if mostLeft ≤ r2.1 then f_X1_chooseChild_14 o1_who o1_much o1_count n (u2 + (1 : Int32)) r2.2 askedChild mostLeft else f_X1_chooseChild_14 o1_who o1_much o1_count n (u2 + (1 : Int32)) r2.2 u2 r2.1)
set_option maxHeartbeats 4000000 in
set_option maxRecDepth 100000 in
theorem k_X1_chooseChild_14 (C : Cx p s m args meth c D (tysW cI cZ cG) RX1 cX1_chooseChild 4 wsX1_chooseChild none) (h h1 : Nat) (A B1 : Nat → Nat) (o1_who : Nat → Int32) (o1_much : Nat → Int32) (o1_count : Int32)  (res : (Nat → Int32) × Int32 × Int32) : ∀ (n : Nat) (u2 : Int32) (tally : Nat → Int32) (askedChild : Int32) (mostLeft : Int32), f_X1_chooseChild_14 o1_who o1_much o1_count n u2 tally askedChild mostLeft = some res → Wd p l e rm_X1_chooseChild s m args below meth c D w0 4 0 0 (MQ below (QcV D (tysW cI cZ cG) w0 [(h, oX1 A res.2.1 res.2.2), (h1, oX6 B1 o1_count), ((A 0), aI cI 10 res.1), ((B1 0), aI cI 8 o1_who), ((B1 1), aI cI 8 o1_much)] s.heap.size) args s 0 0 (va_A w0 s.heap.size)) [(h, oX1 A askedChild mostLeft), (h1, oX6 B1 o1_count), ((A 0), aI cI 10 tally), ((B1 0), aI cI 8 o1_who), ((B1 1), aI cI 8 o1_much)] [(0, .ref h), (1, .ref h1), (2, .int u2)] 14 [] := by
  intro n
  induction n with
  | zero =>
    intro u2 tally askedChild mostLeft hf
    exact no_none hf
  | succ n ih =>
    intro u2 tally askedChild mostLeft hf
    unfold f_X1_chooseChild_14 at hf
    refine r_iload_n C dX1_chooseChild_14 rfl 2 rfl rfl ?_
    refine r_bipush C dX1_chooseChild_15 kk_b_10 rfl ?_
    refine r_icmp_ge (tgt := 60) C dX1_chooseChild_17 rfl rfl (fun c1 => ?_) (fun c1 => ?_)
    · have hf := gd_t c1 hf
      cases hf
      exact r_vret C dX1_chooseChild_60 rfl
    · have hf := gd_f c1 hf
      refine r_aload_n C dX1_chooseChild_20 rfl 0 rfl rfl ?_
      refine r_aload_n C dX1_chooseChild_21 rfl 1 rfl rfl ?_
      refine r_iload_n C dX1_chooseChild_22 rfl 2 rfl rfl ?_
      obtain ⟨r2, e2, hf⟩ := gd_b hf
      refine o_I (wn := [(h, oX1 A askedChild mostLeft), (h1, oX6 B1 o1_count), ((A 0), aI cI 10 r2.2), ((B1 0), aI cI 8 o1_who), ((B1 1), aI cI 8 o1_much)]) C [0, 1, 2, 3, 4] rfl (x_V C dX1_chooseChild_23 (c_X1_mostAlike l D cI cZ cG h h1 A B1 tally askedChild mostLeft o1_who o1_much o1_count u2 r2 e2) rfl gX1_chooseChild_X1_mostAlike hd_X1_mostAlike rfl ⟨Nat.le_of_ble_eq_true rfl, Nat.le_of_ble_eq_true rfl⟩ ⟨rfl, rfl⟩ ⟨Nat.zero_le _, Nat.zero_le _⟩ rfl [0, 1, 2, 3, 4] rfl rfl 0 rfl rfl (Nat.le_of_ble_eq_true rfl) rfl) rfl rfl rfl ?_
      refine r_istore_n (lv' := [(3, .int r2.1), (0, .ref h), (1, .ref h1), (2, .int u2)]) C dX1_chooseChild_26 rfl (by decide) rfl rfl ?_
      refine r_aload_n C dX1_chooseChild_27 rfl 1 rfl rfl ?_
      refine r_get C dX1_chooseChild_28 fw_X1_chooseChild_X1 0 rfl rfl 1 (by decide) rfl fl_X1_chooseChild_52 rfl rfl ?_
      refine r_bipush C dX1_chooseChild_31 kk_b_m6 rfl ?_
      refine r_icmp_eq (tgt := 44) C dX1_chooseChild_33 rfl rfl (fun c3 => ?_) (fun c3 => ?_)
      · have hf := gd_t c3 hf
        refine r_aload_n C dX1_chooseChild_44 rfl 1 rfl rfl ?_
        refine r_iload_n C dX1_chooseChild_45 rfl 3 rfl rfl ?_
        refine r_put (ty := .int) (ws' := [(h, oX1 A u2 mostLeft), (h1, oX6 B1 o1_count), ((A 0), aI cI 10 r2.2), ((B1 0), aI cI 8 o1_who), ((B1 1), aI cI 8 o1_much)]) C dX1_chooseChild_46 fw_X1_chooseChild_X1 tyX1 tyX1_ok nmX1 0 rfl rfl 1 (by decide) rfl fl_X1_chooseChild_52 rfl (by decide +kernel) rfl rfl (Nat.le_of_ble_eq_true rfl) rfl rfl ?_
        refine r_aload_n C dX1_chooseChild_49 rfl 1 rfl rfl ?_
        refine r_iload_n C dX1_chooseChild_50 rfl 0 rfl rfl ?_
        refine r_put (ty := .int) (ws' := [(h, oX1 A u2 r2.1), (h1, oX6 B1 o1_count), ((A 0), aI cI 10 r2.2), ((B1 0), aI cI 8 o1_who), ((B1 1), aI cI 8 o1_much)]) C dX1_chooseChild_51 fw_X1_chooseChild_X1 tyX1 tyX1_ok nmX1 0 rfl rfl 2 (by decide) rfl fl_X1_chooseChild_55 rfl (by decide +kernel) rfl rfl (Nat.le_of_ble_eq_true rfl) rfl rfl ?_
        refine r_iinc (lv' := [(2, .int (u2 + (1 : Int32))), (3, .int r2.1), (0, .ref h), (1, .ref h1)]) C dX1_chooseChild_54 3 rfl (ki_1 _) (by decide) rfl rfl ?_
        refine r_goto (tgt := 14) C dX1_chooseChild_57 rfl ?_
        refine r_lv (lv' := [(0, .ref h), (1, .ref h1), (2, .int (u2 + (1 : Int32)))]) [2, 3, 0] rfl ?_
        exact ih _ _ _ _ hf
      · have hf := gd_f c3 hf
        refine r_iload_n C dX1_chooseChild_36 rfl 0 rfl rfl ?_
        refine r_aload_n C dX1_chooseChild_37 rfl 1 rfl rfl ?_
        refine r_get C dX1_chooseChild_38 fw_X1_chooseChild_X1 0 rfl rfl 2 (by decide) rfl fl_X1_chooseChild_55 rfl rfl ?_
        refine r_icmp_ge (tgt := 54) C dX1_chooseChild_41 rfl rfl (fun c4 => ?_) (fun c4 => ?_)
        · have hf := gd_t c4 hf
          refine r_iinc (lv' := [(2, .int (u2 + (1 : Int32))), (3, .int r2.1), (0, .ref h), (1, .ref h1)]) C dX1_chooseChild_54 3 rfl (ki_1 _) (by decide) rfl rfl ?_
          refine r_goto (tgt := 14) C dX1_chooseChild_57 rfl ?_
          refine r_lv (lv' := [(0, .ref h), (1, .ref h1), (2, .int (u2 + (1 : Int32)))]) [2, 3, 0] rfl ?_
          exact ih _ _ _ _ hf
        · have hf := gd_f c4 hf
          refine r_aload_n C dX1_chooseChild_44 rfl 1 rfl rfl ?_
          refine r_iload_n C dX1_chooseChild_45 rfl 3 rfl rfl ?_
          refine r_put (ty := .int) (ws' := [(h, oX1 A u2 mostLeft), (h1, oX6 B1 o1_count), ((A 0), aI cI 10 r2.2), ((B1 0), aI cI 8 o1_who), ((B1 1), aI cI 8 o1_much)]) C dX1_chooseChild_46 fw_X1_chooseChild_X1 tyX1 tyX1_ok nmX1 0 rfl rfl 1 (by decide) rfl fl_X1_chooseChild_52 rfl (by decide +kernel) rfl rfl (Nat.le_of_ble_eq_true rfl) rfl rfl ?_
          refine r_aload_n C dX1_chooseChild_49 rfl 1 rfl rfl ?_
          refine r_iload_n C dX1_chooseChild_50 rfl 0 rfl rfl ?_
          refine r_put (ty := .int) (ws' := [(h, oX1 A u2 r2.1), (h1, oX6 B1 o1_count), ((A 0), aI cI 10 r2.2), ((B1 0), aI cI 8 o1_who), ((B1 1), aI cI 8 o1_much)]) C dX1_chooseChild_51 fw_X1_chooseChild_X1 tyX1 tyX1_ok nmX1 0 rfl rfl 2 (by decide) rfl fl_X1_chooseChild_55 rfl (by decide +kernel) rfl rfl (Nat.le_of_ble_eq_true rfl) rfl rfl ?_
          refine r_iinc (lv' := [(2, .int (u2 + (1 : Int32))), (3, .int r2.1), (0, .ref h), (1, .ref h1)]) C dX1_chooseChild_54 3 rfl (ki_1 _) (by decide) rfl rfl ?_
          refine r_goto (tgt := 14) C dX1_chooseChild_57 rfl ?_
          refine r_lv (lv' := [(0, .ref h), (1, .ref h1), (2, .int (u2 + (1 : Int32)))]) [2, 3, 0] rfl ?_
          exact ih _ _ _ _ hf
def f_X1_chooseChild (tally : Nat → Int32) (askedChild : Int32) (mostLeft : Int32) (o1_who : Nat → Int32) (o1_much : Nat → Int32) (o1_count : Int32) : Option ((Nat → Int32) × Int32 × Int32) := f_X1_chooseChild_14 o1_who o1_much o1_count 2000 (0 : Int32) tally (-6 : Int32) (-6 : Int32)
set_option maxHeartbeats 4000000 in
set_option maxRecDepth 100000 in
theorem c_X1_chooseChild (l : Launch) (D : va_G) (cI cZ cG : ClassId) (h h1 : Nat) (A B1 : Nat → Nat) (tally : Nat → Int32) (askedChild : Int32) (mostLeft : Int32) (o1_who : Nat → Int32) (o1_much : Nat → Int32) (o1_count : Int32) (res : (Nat → Int32) × Int32 × Int32) (hf : f_X1_chooseChild tally askedChild mostLeft o1_who o1_much o1_count = some res) : CV l D (tysW cI cZ cG) yX1_chooseChild wsX1_chooseChild rm_X1_chooseChild [.ref h, .ref h1] [(h, oX1 A askedChild mostLeft), (h1, oX6 B1 o1_count), ((A 0), aI cI 10 tally), ((B1 0), aI cI 8 o1_who), ((B1 1), aI cI 8 o1_much)] [(h, oX1 A res.2.1 res.2.2), (h1, oX6 B1 o1_count), ((A 0), aI cI 10 res.1), ((B1 0), aI cI 8 o1_who), ((B1 1), aI cI 8 o1_much)] := by
  refine CG.intro (own := RX1) (by decide +kernel) rfl rfl (Nat.le_of_ble_eq_true rfl) (fun p e s m args below meth c C => ?_)
  refine r_lv (lv' := [(0, .ref h), (1, .ref h1)]) [0, 1] rfl ?_
  unfold f_X1_chooseChild at hf
  refine r_aload_n C dX1_chooseChild_0 rfl 0 rfl rfl ?_
  refine r_bipush C dX1_chooseChild_1 kk_b_m6 rfl ?_
  refine r_put (ty := .int) (ws' := [(h, oX1 A (-6 : Int32) mostLeft), (h1, oX6 B1 o1_count), ((A 0), aI cI 10 tally), ((B1 0), aI cI 8 o1_who), ((B1 1), aI cI 8 o1_much)]) C dX1_chooseChild_3 fw_X1_chooseChild_X1 tyX1 tyX1_ok nmX1 0 rfl rfl 1 (by decide) rfl fl_X1_chooseChild_52 rfl (by decide +kernel) rfl rfl (Nat.le_of_ble_eq_true rfl) rfl rfl ?_
  refine r_aload_n C dX1_chooseChild_6 rfl 0 rfl rfl ?_
  refine r_bipush C dX1_chooseChild_7 kk_b_m6 rfl ?_
  refine r_put (ty := .int) (ws' := [(h, oX1 A (-6 : Int32) (-6 : Int32)), (h1, oX6 B1 o1_count), ((A 0), aI cI 10 tally), ((B1 0), aI cI 8 o1_who), ((B1 1), aI cI 8 o1_much)]) C dX1_chooseChild_9 fw_X1_chooseChild_X1 tyX1 tyX1_ok nmX1 0 rfl rfl 2 (by decide) rfl fl_X1_chooseChild_55 rfl (by decide +kernel) rfl rfl (Nat.le_of_ble_eq_true rfl) rfl rfl ?_
  refine r_iconst C dX1_chooseChild_12 kk_i_0 rfl ?_
  refine r_istore_n (lv' := [(2, .int (0 : Int32)), (0, .ref h), (1, .ref h1)]) C dX1_chooseChild_13 rfl (by decide) rfl rfl ?_
  refine r_lv (lv' := [(0, .ref h), (1, .ref h1), (2, .int (0 : Int32))]) [1, 2, 0] rfl ?_
  refine k_X1_chooseChild_14 C h h1 A B1 o1_who o1_much o1_count _ 2000 _ _ _ _ hf
theorem fw_X6_copyFrom_X6 : ∀ w ∈ u_ws RX6 TX6 3, w ∈ wsX6_copyFrom := by decide +kernel
theorem fl_X6_copyFrom_9 : Cond.fieldLink RX6 9 "MittenLine$Sights" "who" "[I" ∈ wsX6_copyFrom := by decide +kernel
theorem fl_X6_copyFrom_15 : Cond.fieldLink RX6 15 "MittenLine$Sights" "much" "[I" ∈ wsX6_copyFrom := by decide +kernel
theorem fl_X6_copyFrom_18 : Cond.fieldLink RX6 18 "MittenLine$Sights" "count" "I" ∈ wsX6_copyFrom := by decide +kernel
abbrev rm_X6_copyFrom : Jvm.Room := { frames := 0, cells := 0, slots := 0, locals := 0 }
def f_X6_copyFrom_2 (o1_who : Nat → Int32) (o1_much : Nat → Int32) (kx38 : (Nat → Int32) → (Nat → Int32) → Option ((Nat → Int32) × (Nat → Int32) × Int32)) : Nat → Int32 → (Nat → Int32) → (Nat → Int32) → Option ((Nat → Int32) × (Nat → Int32) × Int32)
  | 0, _, _, _ => none
  | n + 1, u2, who, much => if (8 : Int32) ≤ u2 then kx38 who much else if u2 < 0 ∨ 8 ≤ u2.toNatClampNeg then none else f_X6_copyFrom_2 o1_who o1_much kx38 n (u2 + (1 : Int32)) (upd who u2.toNatClampNeg (o1_who u2.toNatClampNeg)) (upd much u2.toNatClampNeg (o1_much u2.toNatClampNeg))
set_option maxHeartbeats 4000000 in
set_option maxRecDepth 100000 in
theorem k_X6_copyFrom_2 (C : Cx p s m args meth c D (tysW cI cZ cG) RX6 cX6_copyFrom 3 wsX6_copyFrom none) (h h1 : Nat) (A B1 : Nat → Nat) (count : Int32) (o1_who : Nat → Int32) (o1_much : Nat → Int32) (o1_count : Int32)  (kx38 : (Nat → Int32) → (Nat → Int32) → Option ((Nat → Int32) × (Nat → Int32) × Int32)) (res : (Nat → Int32) × (Nat → Int32) × Int32) (hkx38 : ∀ (who : Nat → Int32) (much : Nat → Int32) , kx38 who much = some res → Wd p l e rm_X6_copyFrom s m args below meth c D w0 3 0 0 (MQ below (QcV D (tysW cI cZ cG) w0 [(h, oX6 A res.2.2), (h1, oX6 B1 o1_count), ((A 0), aI cI 8 res.1), ((A 1), aI cI 8 res.2.1), ((B1 0), aI cI 8 o1_who), ((B1 1), aI cI 8 o1_much)] s.heap.size) args s 0 0 (va_A w0 s.heap.size)) [(h, oX6 A count), (h1, oX6 B1 o1_count), ((A 0), aI cI 8 who), ((A 1), aI cI 8 much), ((B1 0), aI cI 8 o1_who), ((B1 1), aI cI 8 o1_much)] [(0, .ref h), (1, .ref h1)] 38 []) : ∀ (n : Nat) (u2 : Int32) (who : Nat → Int32) (much : Nat → Int32), f_X6_copyFrom_2 o1_who o1_much kx38 n u2 who much = some res → Wd p l e rm_X6_copyFrom s m args below meth c D w0 3 0 0 (MQ below (QcV D (tysW cI cZ cG) w0 [(h, oX6 A res.2.2), (h1, oX6 B1 o1_count), ((A 0), aI cI 8 res.1), ((A 1), aI cI 8 res.2.1), ((B1 0), aI cI 8 o1_who), ((B1 1), aI cI 8 o1_much)] s.heap.size) args s 0 0 (va_A w0 s.heap.size)) [(h, oX6 A count), (h1, oX6 B1 o1_count), ((A 0), aI cI 8 who), ((A 1), aI cI 8 much), ((B1 0), aI cI 8 o1_who), ((B1 1), aI cI 8 o1_much)] [(0, .ref h), (1, .ref h1), (2, .int u2)] 2 [] := by
  intro n
  induction n with
  | zero =>
    intro u2 who much hf
    exact no_none hf
  | succ n ih =>
    intro u2 who much hf
    unfold f_X6_copyFrom_2 at hf
    refine r_iload_n C dX6_copyFrom_2 rfl 2 rfl rfl ?_
    refine r_bipush C dX6_copyFrom_3 kk_b_8 rfl ?_
    refine r_icmp_ge (tgt := 38) C dX6_copyFrom_5 rfl rfl (fun c1 => ?_) (fun c1 => ?_)
    · have hf := gd_t c1 hf
      refine r_lv (lv' := [(0, .ref h), (1, .ref h1)]) [0, 1] rfl ?_
      exact hkx38 _ _ hf
    · have hf := gd_f c1 hf
      refine r_aload_n C dX6_copyFrom_8 rfl 0 rfl rfl ?_
      refine r_get C dX6_copyFrom_9 fw_X6_copyFrom_X6 0 rfl rfl 0 (by decide) rfl fl_X6_copyFrom_9 rfl rfl ?_
      refine r_iload_n C dX6_copyFrom_12 rfl 2 rfl rfl ?_
      refine r_aload_n C dX6_copyFrom_13 rfl 1 rfl rfl ?_
      refine r_get C dX6_copyFrom_14 fw_X6_copyFrom_X6 1 rfl rfl 0 (by decide) rfl fl_X6_copyFrom_9 rfl rfl ?_
      refine r_iload_n C dX6_copyFrom_17 rfl 2 rfl rfl ?_
      obtain ⟨g2, hf⟩ := gd_n hf
      refine r_iald C dX6_copyFrom_18 4 0 rfl rfl g2 rfl ?_
      refine r_iast (ws' := [(h, oX6 A count), (h1, oX6 B1 o1_count), ((A 0), aI cI 8 (upd who u2.toNatClampNeg (o1_who u2.toNatClampNeg))), ((A 1), aI cI 8 much), ((B1 0), aI cI 8 o1_who), ((B1 1), aI cI 8 o1_much)]) C dX6_copyFrom_19 2 0 rfl rfl g2 rfl rfl ?_
      refine r_aload_n C dX6_copyFrom_20 rfl 0 rfl rfl ?_
      refine r_get C dX6_copyFrom_21 fw_X6_copyFrom_X6 0 rfl rfl 1 (by decide) rfl fl_X6_copyFrom_15 rfl rfl ?_
      refine r_iload_n C dX6_copyFrom_24 rfl 2 rfl rfl ?_
      refine r_aload_n C dX6_copyFrom_25 rfl 1 rfl rfl ?_
      refine r_get C dX6_copyFrom_26 fw_X6_copyFrom_X6 1 rfl rfl 1 (by decide) rfl fl_X6_copyFrom_15 rfl rfl ?_
      refine r_iload_n C dX6_copyFrom_29 rfl 2 rfl rfl ?_
      refine r_iald C dX6_copyFrom_30 5 0 rfl rfl g2 rfl ?_
      refine r_iast (ws' := [(h, oX6 A count), (h1, oX6 B1 o1_count), ((A 0), aI cI 8 (upd who u2.toNatClampNeg (o1_who u2.toNatClampNeg))), ((A 1), aI cI 8 (upd much u2.toNatClampNeg (o1_much u2.toNatClampNeg))), ((B1 0), aI cI 8 o1_who), ((B1 1), aI cI 8 o1_much)]) C dX6_copyFrom_31 3 0 rfl rfl g2 rfl rfl ?_
      refine r_iinc (lv' := [(2, .int (u2 + (1 : Int32))), (0, .ref h), (1, .ref h1)]) C dX6_copyFrom_32 2 rfl (ki_1 _) (by decide) rfl rfl ?_
      refine r_goto (tgt := 2) C dX6_copyFrom_35 rfl ?_
      refine r_lv (lv' := [(0, .ref h), (1, .ref h1), (2, .int (u2 + (1 : Int32)))]) [1, 2, 0] rfl ?_
      exact ih _ _ _ hf
def f_X6_copyFrom (who : Nat → Int32) (much : Nat → Int32) (count : Int32) (o1_who : Nat → Int32) (o1_much : Nat → Int32) (o1_count : Int32) : Option ((Nat → Int32) × (Nat → Int32) × Int32) := f_X6_copyFrom_2 o1_who o1_much (fun who_3 much_4 => some (who_3, much_4, o1_count)) 2000 (0 : Int32) who much
set_option maxHeartbeats 4000000 in
set_option maxRecDepth 100000 in
theorem c_X6_copyFrom (l : Launch) (D : va_G) (cI cZ cG : ClassId) (h h1 : Nat) (A B1 : Nat → Nat) (who : Nat → Int32) (much : Nat → Int32) (count : Int32) (o1_who : Nat → Int32) (o1_much : Nat → Int32) (o1_count : Int32) (res : (Nat → Int32) × (Nat → Int32) × Int32) (hf : f_X6_copyFrom who much count o1_who o1_much o1_count = some res) : CV l D (tysW cI cZ cG) yX6_copyFrom wsX6_copyFrom rm_X6_copyFrom [.ref h, .ref h1] [(h, oX6 A count), (h1, oX6 B1 o1_count), ((A 0), aI cI 8 who), ((A 1), aI cI 8 much), ((B1 0), aI cI 8 o1_who), ((B1 1), aI cI 8 o1_much)] [(h, oX6 A res.2.2), (h1, oX6 B1 o1_count), ((A 0), aI cI 8 res.1), ((A 1), aI cI 8 res.2.1), ((B1 0), aI cI 8 o1_who), ((B1 1), aI cI 8 o1_much)] := by
  refine CG.intro (own := RX6) (by decide +kernel) rfl rfl (Nat.le_of_ble_eq_true rfl) (fun p e s m args below meth c C => ?_)
  refine r_lv (lv' := [(0, .ref h), (1, .ref h1)]) [0, 1] rfl ?_
  unfold f_X6_copyFrom at hf
  refine r_iconst C dX6_copyFrom_0 kk_i_0 rfl ?_
  refine r_istore_n (lv' := [(2, .int (0 : Int32)), (0, .ref h), (1, .ref h1)]) C dX6_copyFrom_1 rfl (by decide) rfl rfl ?_
  refine r_lv (lv' := [(0, .ref h), (1, .ref h1), (2, .int (0 : Int32))]) [1, 2, 0] rfl ?_
  refine k_X6_copyFrom_2 C h h1 A B1 count o1_who o1_much o1_count _ _ ?_ 2000 _ _ _ hf
  · intro who_3 much_4 hf
    refine r_aload_n C dX6_copyFrom_38 rfl 0 rfl rfl ?_
    refine r_aload_n C dX6_copyFrom_39 rfl 1 rfl rfl ?_
    refine r_get C dX6_copyFrom_40 fw_X6_copyFrom_X6 1 rfl rfl 2 (by decide) rfl fl_X6_copyFrom_18 rfl rfl ?_
    refine r_put (ty := .int) (ws' := [(h, oX6 A o1_count), (h1, oX6 B1 o1_count), ((A 0), aI cI 8 who_3), ((A 1), aI cI 8 much_4), ((B1 0), aI cI 8 o1_who), ((B1 1), aI cI 8 o1_much)]) C dX6_copyFrom_43 fw_X6_copyFrom_X6 tyX6 tyX6_ok nmX6 0 rfl rfl 2 (by decide) rfl fl_X6_copyFrom_18 rfl (by decide +kernel) rfl rfl (Nat.le_of_ble_eq_true rfl) rfl rfl ?_
    cases hf
    exact r_vret C dX6_copyFrom_46 rfl
theorem fw_X2_keep_X2 : ∀ w ∈ u_ws RX2 TX2 3, w ∈ wsX2_keep := by decide +kernel
theorem fl_X2_keep_10 : Cond.fieldLink RX2 10 "MittenLine$Image" "row" "LMittenLine$Row;" ∈ wsX2_keep := by decide +kernel
theorem fl_X2_keep_19 : Cond.fieldLink RX2 19 "MittenLine$Image" "sights" "LMittenLine$Sights;" ∈ wsX2_keep := by decide +kernel
theorem fl_X2_keep_30 : Cond.fieldLink RX2 30 "MittenLine$Image" "isKept" "Z" ∈ wsX2_keep := by decide +kernel
abbrev rm_X2_keep : Jvm.Room := { frames := 1, cells := 0, slots := 0, locals := 22 }
def f_X2_keep (isKept : Int32) (row_yards : Nat → Int32) (row_feels : Nat → Int32) (row_lengths : Nat → Int32) (row_holding : Int32) (row_wool : Int32) (row_day : Int32) (sights_who : Nat → Int32) (sights_much : Nat → Int32) (sights_count : Int32) (o1_yards : Nat → Int32) (o1_feels : Nat → Int32) (o1_lengths : Nat → Int32) (o1_holding : Int32) (o1_wool : Int32) (o1_day : Int32) (o2_who : Nat → Int32) (o2_much : Nat → Int32) (o2_count : Int32) : Option (Int32 × (Nat → Int32) × (Nat → Int32) × (Nat → Int32) × Int32 × Int32 × Int32 × (Nat → Int32) × (Nat → Int32) × Int32) := (f_X5_copyFrom row_yards row_feels row_lengths row_holding row_wool row_day o1_yards o1_feels o1_lengths o1_holding o1_wool o1_day).bind (fun r1 => (f_X6_copyFrom sights_who sights_much sights_count o2_who o2_much o2_count).bind (fun r2 => some ((1 : Int32), r1.1, r1.2.1, r1.2.2.1, r1.2.2.2.1, r1.2.2.2.2.1, r1.2.2.2.2.2, r2.1, r2.2.1, r2.2.2)))
set_option maxHeartbeats 4000000 in
set_option maxRecDepth 100000 in
theorem c_X2_keep (l : Launch) (D : va_G) (cI cZ cG : ClassId) (h h1 h2 : Nat) (A A_0 A_1 B1 B2 : Nat → Nat) (isKept : Int32) (row_yards : Nat → Int32) (row_feels : Nat → Int32) (row_lengths : Nat → Int32) (row_holding : Int32) (row_wool : Int32) (row_day : Int32) (sights_who : Nat → Int32) (sights_much : Nat → Int32) (sights_count : Int32) (o1_yards : Nat → Int32) (o1_feels : Nat → Int32) (o1_lengths : Nat → Int32) (o1_holding : Int32) (o1_wool : Int32) (o1_day : Int32) (o2_who : Nat → Int32) (o2_much : Nat → Int32) (o2_count : Int32) (res : Int32 × (Nat → Int32) × (Nat → Int32) × (Nat → Int32) × Int32 × Int32 × Int32 × (Nat → Int32) × (Nat → Int32) × Int32) (hf : f_X2_keep isKept row_yards row_feels row_lengths row_holding row_wool row_day sights_who sights_much sights_count o1_yards o1_feels o1_lengths o1_holding o1_wool o1_day o2_who o2_much o2_count = some res) : CV l D (tysW cI cZ cG) yX2_keep wsX2_keep rm_X2_keep [.ref h, .ref h1, .ref h2] [(h, oX2 A isKept), ((A 0), oX5 A_0 row_holding row_wool row_day), ((A 1), oX6 A_1 sights_count), (h1, oX5 B1 o1_holding o1_wool o1_day), (h2, oX6 B2 o2_count), ((A_0 0), aI cI 10 row_yards), ((A_0 1), aI cI 10 row_feels), ((A_0 2), aI cI 9 row_lengths), ((A_1 0), aI cI 8 sights_who), ((A_1 1), aI cI 8 sights_much), ((B1 0), aI cI 10 o1_yards), ((B1 1), aI cI 10 o1_feels), ((B1 2), aI cI 9 o1_lengths), ((B2 0), aI cI 8 o2_who), ((B2 1), aI cI 8 o2_much)] [(h, oX2 A res.1), ((A 0), oX5 A_0 res.2.2.2.2.1 res.2.2.2.2.2.1 res.2.2.2.2.2.2.1), ((A 1), oX6 A_1 res.2.2.2.2.2.2.2.2.2), (h1, oX5 B1 o1_holding o1_wool o1_day), (h2, oX6 B2 o2_count), ((A_0 0), aI cI 10 res.2.1), ((A_0 1), aI cI 10 res.2.2.1), ((A_0 2), aI cI 9 res.2.2.2.1), ((A_1 0), aI cI 8 res.2.2.2.2.2.2.2.1), ((A_1 1), aI cI 8 res.2.2.2.2.2.2.2.2.1), ((B1 0), aI cI 10 o1_yards), ((B1 1), aI cI 10 o1_feels), ((B1 2), aI cI 9 o1_lengths), ((B2 0), aI cI 8 o2_who), ((B2 1), aI cI 8 o2_much)] := by
  refine CG.intro (own := RX2) (by decide +kernel) rfl rfl (Nat.le_of_ble_eq_true rfl) (fun p e s m args below meth c C => ?_)
  refine r_lv (lv' := [(0, .ref h), (1, .ref h1), (2, .ref h2)]) [0, 1, 2] rfl ?_
  unfold f_X2_keep at hf
  refine r_aload_n C dX2_keep_0 rfl 0 rfl rfl ?_
  refine r_get C dX2_keep_1 fw_X2_keep_X2 0 rfl rfl 0 (by decide) rfl fl_X2_keep_10 rfl rfl ?_
  refine r_aload_n C dX2_keep_4 rfl 1 rfl rfl ?_
  obtain ⟨r1, e1, hf⟩ := gd_b hf
  refine o_V (wn := [(h, oX2 A isKept), ((A 0), oX5 A_0 r1.2.2.2.1 r1.2.2.2.2.1 r1.2.2.2.2.2), ((A 1), oX6 A_1 sights_count), (h1, oX5 B1 o1_holding o1_wool o1_day), (h2, oX6 B2 o2_count), ((A_0 0), aI cI 10 r1.1), ((A_0 1), aI cI 10 r1.2.1), ((A_0 2), aI cI 9 r1.2.2.1), ((A_1 0), aI cI 8 sights_who), ((A_1 1), aI cI 8 sights_much), ((B1 0), aI cI 10 o1_yards), ((B1 1), aI cI 10 o1_feels), ((B1 2), aI cI 9 o1_lengths), ((B2 0), aI cI 8 o2_who), ((B2 1), aI cI 8 o2_much)]) C [1, 3, 5, 6, 7, 10, 11, 12] rfl (x_V C dX2_keep_5 (c_X5_copyFrom l D cI cZ cG (A 0) h1 A_0 B1 row_yards row_feels row_lengths row_holding row_wool row_day o1_yards o1_feels o1_lengths o1_holding o1_wool o1_day r1 e1) rfl gX2_keep_X5_copyFrom hd_X5_copyFrom rfl ⟨Nat.le_of_ble_eq_true rfl, Nat.le_of_ble_eq_true rfl⟩ ⟨rfl, rfl⟩ ⟨Nat.zero_le _, Nat.zero_le _⟩ rfl [1, 3, 5, 6, 7, 10, 11, 12] rfl rfl 1 rfl rfl (Nat.le_of_ble_eq_true rfl) rfl) rfl rfl rfl ?_
  refine r_aload_n C dX2_keep_8 rfl 0 rfl rfl ?_
  refine r_get C dX2_keep_9 fw_X2_keep_X2 0 rfl rfl 1 (by decide) rfl fl_X2_keep_19 rfl rfl ?_
  refine r_aload_n C dX2_keep_12 rfl 2 rfl rfl ?_
  obtain ⟨r2, e2, hf⟩ := gd_b hf
  refine o_V (wn := [(h, oX2 A isKept), ((A 0), oX5 A_0 r1.2.2.2.1 r1.2.2.2.2.1 r1.2.2.2.2.2), ((A 1), oX6 A_1 r2.2.2), (h1, oX5 B1 o1_holding o1_wool o1_day), (h2, oX6 B2 o2_count), ((A_0 0), aI cI 10 r1.1), ((A_0 1), aI cI 10 r1.2.1), ((A_0 2), aI cI 9 r1.2.2.1), ((A_1 0), aI cI 8 r2.1), ((A_1 1), aI cI 8 r2.2.1), ((B1 0), aI cI 10 o1_yards), ((B1 1), aI cI 10 o1_feels), ((B1 2), aI cI 9 o1_lengths), ((B2 0), aI cI 8 o2_who), ((B2 1), aI cI 8 o2_much)]) C [2, 4, 8, 9, 13, 14] rfl (x_V C dX2_keep_13 (c_X6_copyFrom l D cI cZ cG (A 1) h2 A_1 B2 sights_who sights_much sights_count o2_who o2_much o2_count r2 e2) rfl gX2_keep_X6_copyFrom hd_X6_copyFrom rfl ⟨Nat.le_of_ble_eq_true rfl, Nat.le_of_ble_eq_true rfl⟩ ⟨rfl, rfl⟩ ⟨Nat.zero_le _, Nat.zero_le _⟩ rfl [2, 4, 8, 9, 13, 14] rfl rfl 2 rfl rfl (Nat.le_of_ble_eq_true rfl) rfl) rfl rfl rfl ?_
  refine r_aload_n C dX2_keep_16 rfl 0 rfl rfl ?_
  refine r_iconst C dX2_keep_17 kk_i_1 rfl ?_
  refine r_put (ty := .boolean) (ws' := [(h, oX2 A (1 : Int32)), ((A 0), oX5 A_0 r1.2.2.2.1 r1.2.2.2.2.1 r1.2.2.2.2.2), ((A 1), oX6 A_1 r2.2.2), (h1, oX5 B1 o1_holding o1_wool o1_day), (h2, oX6 B2 o2_count), ((A_0 0), aI cI 10 r1.1), ((A_0 1), aI cI 10 r1.2.1), ((A_0 2), aI cI 9 r1.2.2.1), ((A_1 0), aI cI 8 r2.1), ((A_1 1), aI cI 8 r2.2.1), ((B1 0), aI cI 10 o1_yards), ((B1 1), aI cI 10 o1_feels), ((B1 2), aI cI 9 o1_lengths), ((B2 0), aI cI 8 o2_who), ((B2 1), aI cI 8 o2_much)]) C dX2_keep_18 fw_X2_keep_X2 tyX2 tyX2_ok nmX2 0 rfl rfl 2 (by decide) rfl fl_X2_keep_30 rfl (by decide +kernel) rfl rfl (Nat.le_of_ble_eq_true rfl) rfl rfl ?_
  cases hf
  exact r_vret C dX2_keep_21 rfl
theorem fw_X2_giveBack_X2 : ∀ w ∈ u_ws RX2 TX2 3, w ∈ wsX2_giveBack := by decide +kernel
theorem fl_X2_giveBack_10 : Cond.fieldLink RX2 10 "MittenLine$Image" "row" "LMittenLine$Row;" ∈ wsX2_giveBack := by decide +kernel
theorem fl_X2_giveBack_19 : Cond.fieldLink RX2 19 "MittenLine$Image" "sights" "LMittenLine$Sights;" ∈ wsX2_giveBack := by decide +kernel
abbrev rm_X2_giveBack : Jvm.Room := { frames := 1, cells := 0, slots := 0, locals := 22 }
def f_X2_giveBack (row_yards : Nat → Int32) (row_feels : Nat → Int32) (row_lengths : Nat → Int32) (row_holding : Int32) (row_wool : Int32) (row_day : Int32) (sights_who : Nat → Int32) (sights_much : Nat → Int32) (sights_count : Int32) (o1_yards : Nat → Int32) (o1_feels : Nat → Int32) (o1_lengths : Nat → Int32) (o1_holding : Int32) (o1_wool : Int32) (o1_day : Int32) (o2_who : Nat → Int32) (o2_much : Nat → Int32) (o2_count : Int32) : Option ((Nat → Int32) × (Nat → Int32) × (Nat → Int32) × Int32 × Int32 × Int32 × (Nat → Int32) × (Nat → Int32) × Int32) := (f_X5_copyFrom o1_yards o1_feels o1_lengths o1_holding o1_wool o1_day row_yards row_feels row_lengths row_holding row_wool row_day).bind (fun r1 => (f_X6_copyFrom o2_who o2_much o2_count sights_who sights_much sights_count).bind (fun r2 => some (r1.1, r1.2.1, r1.2.2.1, r1.2.2.2.1, r1.2.2.2.2.1, r1.2.2.2.2.2, r2.1, r2.2.1, r2.2.2)))
set_option maxHeartbeats 4000000 in
set_option maxRecDepth 100000 in
theorem c_X2_giveBack (l : Launch) (D : va_G) (cI cZ cG : ClassId) (h h1 h2 : Nat) (A A_0 A_1 B1 B2 : Nat → Nat) (isKept : Int32) (row_yards : Nat → Int32) (row_feels : Nat → Int32) (row_lengths : Nat → Int32) (row_holding : Int32) (row_wool : Int32) (row_day : Int32) (sights_who : Nat → Int32) (sights_much : Nat → Int32) (sights_count : Int32) (o1_yards : Nat → Int32) (o1_feels : Nat → Int32) (o1_lengths : Nat → Int32) (o1_holding : Int32) (o1_wool : Int32) (o1_day : Int32) (o2_who : Nat → Int32) (o2_much : Nat → Int32) (o2_count : Int32) (res : (Nat → Int32) × (Nat → Int32) × (Nat → Int32) × Int32 × Int32 × Int32 × (Nat → Int32) × (Nat → Int32) × Int32) (hf : f_X2_giveBack row_yards row_feels row_lengths row_holding row_wool row_day sights_who sights_much sights_count o1_yards o1_feels o1_lengths o1_holding o1_wool o1_day o2_who o2_much o2_count = some res) : CV l D (tysW cI cZ cG) yX2_giveBack wsX2_giveBack rm_X2_giveBack [.ref h, .ref h1, .ref h2] [(h, oX2 A isKept), ((A 0), oX5 A_0 row_holding row_wool row_day), ((A 1), oX6 A_1 sights_count), (h1, oX5 B1 o1_holding o1_wool o1_day), (h2, oX6 B2 o2_count), ((A_0 0), aI cI 10 row_yards), ((A_0 1), aI cI 10 row_feels), ((A_0 2), aI cI 9 row_lengths), ((A_1 0), aI cI 8 sights_who), ((A_1 1), aI cI 8 sights_much), ((B1 0), aI cI 10 o1_yards), ((B1 1), aI cI 10 o1_feels), ((B1 2), aI cI 9 o1_lengths), ((B2 0), aI cI 8 o2_who), ((B2 1), aI cI 8 o2_much)] [(h, oX2 A isKept), ((A 0), oX5 A_0 row_holding row_wool row_day), ((A 1), oX6 A_1 sights_count), (h1, oX5 B1 res.2.2.2.1 res.2.2.2.2.1 res.2.2.2.2.2.1), (h2, oX6 B2 res.2.2.2.2.2.2.2.2), ((A_0 0), aI cI 10 row_yards), ((A_0 1), aI cI 10 row_feels), ((A_0 2), aI cI 9 row_lengths), ((A_1 0), aI cI 8 sights_who), ((A_1 1), aI cI 8 sights_much), ((B1 0), aI cI 10 res.1), ((B1 1), aI cI 10 res.2.1), ((B1 2), aI cI 9 res.2.2.1), ((B2 0), aI cI 8 res.2.2.2.2.2.2.1), ((B2 1), aI cI 8 res.2.2.2.2.2.2.2.1)] := by
  refine CG.intro (own := RX2) (by decide +kernel) rfl rfl (Nat.le_of_ble_eq_true rfl) (fun p e s m args below meth c C => ?_)
  refine r_lv (lv' := [(0, .ref h), (1, .ref h1), (2, .ref h2)]) [0, 1, 2] rfl ?_
  unfold f_X2_giveBack at hf
  refine r_aload_n C dX2_giveBack_0 rfl 1 rfl rfl ?_
  refine r_aload_n C dX2_giveBack_1 rfl 0 rfl rfl ?_
  refine r_get C dX2_giveBack_2 fw_X2_giveBack_X2 0 rfl rfl 0 (by decide) rfl fl_X2_giveBack_10 rfl rfl ?_
  obtain ⟨r1, e1, hf⟩ := gd_b hf
  refine o_V (wn := [(h, oX2 A isKept), ((A 0), oX5 A_0 row_holding row_wool row_day), ((A 1), oX6 A_1 sights_count), (h1, oX5 B1 r1.2.2.2.1 r1.2.2.2.2.1 r1.2.2.2.2.2), (h2, oX6 B2 o2_count), ((A_0 0), aI cI 10 row_yards), ((A_0 1), aI cI 10 row_feels), ((A_0 2), aI cI 9 row_lengths), ((A_1 0), aI cI 8 sights_who), ((A_1 1), aI cI 8 sights_much), ((B1 0), aI cI 10 r1.1), ((B1 1), aI cI 10 r1.2.1), ((B1 2), aI cI 9 r1.2.2.1), ((B2 0), aI cI 8 o2_who), ((B2 1), aI cI 8 o2_much)]) C [3, 1, 10, 11, 12, 5, 6, 7] rfl (x_V C dX2_giveBack_5 (c_X5_copyFrom l D cI cZ cG h1 (A 0) B1 A_0 o1_yards o1_feels o1_lengths o1_holding o1_wool o1_day row_yards row_feels row_lengths row_holding row_wool row_day r1 e1) rfl gX2_giveBack_X5_copyFrom hd_X5_copyFrom rfl ⟨Nat.le_of_ble_eq_true rfl, Nat.le_of_ble_eq_true rfl⟩ ⟨rfl, rfl⟩ ⟨Nat.zero_le _, Nat.zero_le _⟩ rfl [3, 1, 10, 11, 12, 5, 6, 7] rfl rfl 3 rfl rfl (Nat.le_of_ble_eq_true rfl) rfl) rfl rfl rfl ?_
  refine r_aload_n C dX2_giveBack_8 rfl 2 rfl rfl ?_
  refine r_aload_n C dX2_giveBack_9 rfl 0 rfl rfl ?_
  refine r_get C dX2_giveBack_10 fw_X2_giveBack_X2 0 rfl rfl 1 (by decide) rfl fl_X2_giveBack_19 rfl rfl ?_
  obtain ⟨r2, e2, hf⟩ := gd_b hf
  refine o_V (wn := [(h, oX2 A isKept), ((A 0), oX5 A_0 row_holding row_wool row_day), ((A 1), oX6 A_1 sights_count), (h1, oX5 B1 r1.2.2.2.1 r1.2.2.2.2.1 r1.2.2.2.2.2), (h2, oX6 B2 r2.2.2), ((A_0 0), aI cI 10 row_yards), ((A_0 1), aI cI 10 row_feels), ((A_0 2), aI cI 9 row_lengths), ((A_1 0), aI cI 8 sights_who), ((A_1 1), aI cI 8 sights_much), ((B1 0), aI cI 10 r1.1), ((B1 1), aI cI 10 r1.2.1), ((B1 2), aI cI 9 r1.2.2.1), ((B2 0), aI cI 8 r2.1), ((B2 1), aI cI 8 r2.2.1)]) C [4, 2, 13, 14, 8, 9] rfl (x_V C dX2_giveBack_13 (c_X6_copyFrom l D cI cZ cG h2 (A 1) B2 A_1 o2_who o2_much o2_count sights_who sights_much sights_count r2 e2) rfl gX2_giveBack_X6_copyFrom hd_X6_copyFrom rfl ⟨Nat.le_of_ble_eq_true rfl, Nat.le_of_ble_eq_true rfl⟩ ⟨rfl, rfl⟩ ⟨Nat.zero_le _, Nat.zero_le _⟩ rfl [4, 2, 13, 14, 8, 9] rfl rfl 4 rfl rfl (Nat.le_of_ble_eq_true rfl) rfl) rfl rfl rfl ?_
  cases hf
  exact r_vret C dX2_giveBack_16 rfl
theorem fw_X3_add_X3 : ∀ w ∈ u_ws RX3 TX3 6, w ∈ wsX3_add := by decide +kernel
theorem fl_X3_add_15 : Cond.fieldLink RX3 15 "MittenLine$Pad" "count" "I" ∈ wsX3_add := by decide +kernel
theorem fl_X3_add_9 : Cond.fieldLink RX3 9 "MittenLine$Pad" "signs" "[I" ∈ wsX3_add := by decide +kernel
abbrev rm_X3_add : Jvm.Room := { frames := 0, cells := 0, slots := 0, locals := 0 }
def f_X3_add (signs : Nat → Int32) (count : Int32) (u1 : Int32) : Option (Int32 × (Nat → Int32) × Int32) := if count < (60 : Int32) then if count < 0 ∨ 60 ≤ count.toNatClampNeg then none else some ((1 : Int32), (upd signs count.toNatClampNeg u1), (count + (1 : Int32))) else some ((0 : Int32), signs, count)
set_option maxHeartbeats 4000000 in
set_option maxRecDepth 100000 in
theorem c_X3_add (l : Launch) (D : va_G) (cI cZ cG : ClassId) (h : Nat) (A : Nat → Nat) (signs : Nat → Int32) (count : Int32) (awaited : Int32) (actor : Int32) (kind : Int32) (amount : Int32) (u1 : Int32) (res : Int32 × (Nat → Int32) × Int32) (hf : f_X3_add signs count u1 = some res) : CI l D (tysW cI cZ cG) yX3_add wsX3_add rm_X3_add [.ref h, .int u1] [(h, oX3 A count awaited actor kind amount), ((A 0), aI cI 60 signs)] res.1 [(h, oX3 A res.2.2 awaited actor kind amount), ((A 0), aI cI 60 res.2.1)] := by
  refine CG.intro (own := RX3) (by decide +kernel) rfl rfl (Nat.le_of_ble_eq_true rfl) (fun p e s m args below meth c C => ?_)
  refine r_lv (lv' := [(0, .ref h), (1, .int u1)]) [0, 1] rfl ?_
  unfold f_X3_add at hf
  refine r_aload_n C dX3_add_0 rfl 0 rfl rfl ?_
  refine r_get C dX3_add_1 fw_X3_add_X3 0 rfl rfl 1 (by decide) rfl fl_X3_add_15 rfl rfl ?_
  refine r_bipush C dX3_add_4 kk_b_60 rfl ?_
  refine r_icmp_lt (tgt := 11) C dX3_add_6 rfl rfl (fun c1 => ?_) (fun c1 => ?_)
  · have hf := gd_t c1 hf
    refine r_aload_n C dX3_add_11 rfl 0 rfl rfl ?_
    refine r_get C dX3_add_12 fw_X3_add_X3 0 rfl rfl 0 (by decide) rfl fl_X3_add_9 rfl rfl ?_
    refine r_aload_n C dX3_add_15 rfl 0 rfl rfl ?_
    refine r_get C dX3_add_16 fw_X3_add_X3 0 rfl rfl 1 (by decide) rfl fl_X3_add_15 rfl rfl ?_
    refine r_iload_n C dX3_add_19 rfl 1 rfl rfl ?_
    obtain ⟨g2, hf⟩ := gd_n hf
    refine r_iast (ws' := [(h, oX3 A count awaited actor kind amount), ((A 0), aI cI 60 (upd signs count.toNatClampNeg u1))]) C dX3_add_20 1 0 rfl rfl g2 rfl rfl ?_
    refine r_aload_n C dX3_add_21 rfl 0 rfl rfl ?_
    refine r_dup C dX3_add_22 rfl rfl ?_
    refine r_get C dX3_add_23 fw_X3_add_X3 0 rfl rfl 1 (by decide) rfl fl_X3_add_15 rfl rfl ?_
    refine r_iconst C dX3_add_26 kk_i_1 rfl ?_
    refine r_iadd C dX3_add_27 rfl ?_
    refine r_put (ty := .int) (ws' := [(h, oX3 A (count + (1 : Int32)) awaited actor kind amount), ((A 0), aI cI 60 (upd signs count.toNatClampNeg u1))]) C dX3_add_28 fw_X3_add_X3 tyX3 tyX3_ok nmX3 0 rfl rfl 1 (by decide) rfl fl_X3_add_15 rfl (by decide +kernel) rfl rfl (Nat.le_of_ble_eq_true rfl) rfl rfl ?_
    refine r_iconst C dX3_add_31 kk_i_1 rfl ?_
    cases hf
    exact r_zret C dX3_add_32 nb1 rfl
  · have hf := gd_f c1 hf
    refine r_iconst C dX3_add_9 kk_i_0 rfl ?_
    cases hf
    exact r_zret C dX3_add_10 nb0 rfl
theorem fw_X3_clear_X3 : ∀ w ∈ u_ws RX3 TX3 6, w ∈ wsX3_clear := by decide +kernel
theorem fl_X3_clear_15 : Cond.fieldLink RX3 15 "MittenLine$Pad" "count" "I" ∈ wsX3_clear := by decide +kernel
abbrev rm_X3_clear : Jvm.Room := { frames := 0, cells := 0, slots := 0, locals := 0 }
def f_X3_clear (count : Int32) : Option (Int32) := some ((0 : Int32))
set_option maxHeartbeats 4000000 in
set_option maxRecDepth 100000 in
theorem c_X3_clear (l : Launch) (D : va_G) (cI cZ cG : ClassId) (h : Nat) (A : Nat → Nat) (count : Int32) (awaited : Int32) (actor : Int32) (kind : Int32) (amount : Int32) (res : Int32) (hf : f_X3_clear count = some res) : CV l D (tysW cI cZ cG) yX3_clear wsX3_clear rm_X3_clear [.ref h] [(h, oX3 A count awaited actor kind amount)] [(h, oX3 A res awaited actor kind amount)] := by
  refine CG.intro (own := RX3) (by decide +kernel) rfl rfl (Nat.le_of_ble_eq_true rfl) (fun p e s m args below meth c C => ?_)
  refine r_lv (lv' := [(0, .ref h)]) [0] rfl ?_
  unfold f_X3_clear at hf
  refine r_aload_n C dX3_clear_0 rfl 0 rfl rfl ?_
  refine r_iconst C dX3_clear_1 kk_i_0 rfl ?_
  refine r_put (ty := .int) (ws' := [(h, oX3 A (0 : Int32) awaited actor kind amount)]) C dX3_clear_2 fw_X3_clear_X3 tyX3 tyX3_ok nmX3 0 rfl rfl 1 (by decide) rfl fl_X3_clear_15 rfl (by decide +kernel) rfl rfl (Nat.le_of_ble_eq_true rfl) rfl rfl ?_
  cases hf
  exact r_vret C dX3_clear_5 rfl
theorem wn_X3_awaitedAfter_X7_isWithin_s : Cond.static yX7_isWithin ∈ wsX3_awaitedAfter := by decide +kernel
theorem wn_X3_awaitedAfter_X7_isWithin_i : Cond.initialized yX7_isWithin.cls ∈ wsX3_awaitedAfter := by decide +kernel
abbrev rm_X3_awaitedAfter : Jvm.Room := { frames := 1, cells := 0, slots := 0, locals := 22 }
def f_X3_awaitedAfter (u0 : Int32) (u1 : Int32) : Option (Int32) := if u0 = 0 then if u1 = (46 : Int32) then some ((0 : Int32)) else (f_X7_isWithin u1 (65 : Int32) (74 : Int32)).bind (fun r12 => if r12 = 0 then some ((3 : Int32)) else some ((1 : Int32))) else if u0 = (2 : Int32) then (f_X7_isWithin u1 (49 : Int32) (57 : Int32)).bind (fun r9 => if r9 = 0 then some ((3 : Int32)) else some ((0 : Int32))) else if u1 = (62 : Int32) then some ((2 : Int32)) else if u1 = (60 : Int32) then some ((2 : Int32)) else if u1 = (33 : Int32) then some ((2 : Int32)) else if u1 = (35 : Int32) then some ((0 : Int32)) else if u1 = (43 : Int32) then some ((0 : Int32)) else if u1 = (45 : Int32) then some ((0 : Int32)) else some ((3 : Int32))
set_option maxHeartbeats 4000000 in
set_option maxRecDepth 100000 in
theorem c_X3_awaitedAfter (l : Launch) (D : va_G) (cI cZ cG : ClassId) (u0 : Int32) (u1 : Int32) (res : Int32) (hf : f_X3_awaitedAfter u0 u1 = some res) : CI l D (tysW cI cZ cG) yX3_awaitedAfter wsX3_awaitedAfter rm_X3_awaitedAfter [.int u0, .int u1] [] res [] := by
  refine CG.intro (own := RX3) (by decide +kernel) rfl rfl (Nat.le_of_ble_eq_true rfl) (fun p e s m args below meth c C => ?_)
  refine r_lv (lv' := [(0, .int u0), (1, .int u1)]) [0, 1] rfl ?_
  unfold f_X3_awaitedAfter at hf
  refine r_iload_n C dX3_awaitedAfter_0 rfl 0 rfl rfl ?_
  refine r_if_ne (y := 0) (tgt := 29) C dX3_awaitedAfter_1 rfl rfl (fun c1 => ?_) (fun c1 => ?_)
  · have hf := gd_f c1 hf
    refine r_iload_n C dX3_awaitedAfter_29 rfl 0 rfl rfl ?_
    refine r_iconst C dX3_awaitedAfter_30 kk_i_2 rfl ?_
    refine r_icmp_ne (tgt := 51) C dX3_awaitedAfter_31 rfl rfl (fun c2 => ?_) (fun c2 => ?_)
    · have hf := gd_f c2 hf
      refine r_iload_n C dX3_awaitedAfter_51 rfl 1 rfl rfl ?_
      refine r_bipush C dX3_awaitedAfter_52 kk_b_62 rfl ?_
      refine r_icmp_eq (tgt := 69) C dX3_awaitedAfter_54 rfl rfl (fun c3 => ?_) (fun c3 => ?_)
      · have hf := gd_t c3 hf
        refine r_iconst C dX3_awaitedAfter_69 kk_i_2 rfl ?_
        cases hf
        exact r_iret C dX3_awaitedAfter_70 rfl
      · have hf := gd_f c3 hf
        refine r_iload_n C dX3_awaitedAfter_57 rfl 1 rfl rfl ?_
        refine r_bipush C dX3_awaitedAfter_58 kk_b_60 rfl ?_
        refine r_icmp_eq (tgt := 69) C dX3_awaitedAfter_60 rfl rfl (fun c4 => ?_) (fun c4 => ?_)
        · have hf := gd_t c4 hf
          refine r_iconst C dX3_awaitedAfter_69 kk_i_2 rfl ?_
          cases hf
          exact r_iret C dX3_awaitedAfter_70 rfl
        · have hf := gd_f c4 hf
          refine r_iload_n C dX3_awaitedAfter_63 rfl 1 rfl rfl ?_
          refine r_bipush C dX3_awaitedAfter_64 kk_b_33 rfl ?_
          refine r_icmp_ne (tgt := 71) C dX3_awaitedAfter_66 rfl rfl (fun c5 => ?_) (fun c5 => ?_)
          · have hf := gd_f c5 hf
            refine r_iload_n C dX3_awaitedAfter_71 rfl 1 rfl rfl ?_
            refine r_bipush C dX3_awaitedAfter_72 kk_b_35 rfl ?_
            refine r_icmp_eq (tgt := 89) C dX3_awaitedAfter_74 rfl rfl (fun c6 => ?_) (fun c6 => ?_)
            · have hf := gd_t c6 hf
              refine r_iconst C dX3_awaitedAfter_89 kk_i_0 rfl ?_
              refine r_goto (tgt := 94) C dX3_awaitedAfter_90 rfl ?_
              cases hf
              exact r_iret C dX3_awaitedAfter_94 rfl
            · have hf := gd_f c6 hf
              refine r_iload_n C dX3_awaitedAfter_77 rfl 1 rfl rfl ?_
              refine r_bipush C dX3_awaitedAfter_78 kk_b_43 rfl ?_
              refine r_icmp_eq (tgt := 89) C dX3_awaitedAfter_80 rfl rfl (fun c7 => ?_) (fun c7 => ?_)
              · have hf := gd_t c7 hf
                refine r_iconst C dX3_awaitedAfter_89 kk_i_0 rfl ?_
                refine r_goto (tgt := 94) C dX3_awaitedAfter_90 rfl ?_
                cases hf
                exact r_iret C dX3_awaitedAfter_94 rfl
              · have hf := gd_f c7 hf
                refine r_iload_n C dX3_awaitedAfter_83 rfl 1 rfl rfl ?_
                refine r_bipush C dX3_awaitedAfter_84 kk_b_45 rfl ?_
                refine r_icmp_ne (tgt := 93) C dX3_awaitedAfter_86 rfl rfl (fun c8 => ?_) (fun c8 => ?_)
                · have hf := gd_f c8 hf
                  refine r_iconst C dX3_awaitedAfter_93 kk_i_3 rfl ?_
                  cases hf
                  exact r_iret C dX3_awaitedAfter_94 rfl
                · have hf := gd_t c8 hf
                  refine r_iconst C dX3_awaitedAfter_89 kk_i_0 rfl ?_
                  refine r_goto (tgt := 94) C dX3_awaitedAfter_90 rfl ?_
                  cases hf
                  exact r_iret C dX3_awaitedAfter_94 rfl
          · have hf := gd_t c5 hf
            refine r_iconst C dX3_awaitedAfter_69 kk_i_2 rfl ?_
            cases hf
            exact r_iret C dX3_awaitedAfter_70 rfl
    · have hf := gd_t c2 hf
      refine r_iload_n C dX3_awaitedAfter_34 rfl 1 rfl rfl ?_
      refine r_bipush C dX3_awaitedAfter_35 kk_b_49 rfl ?_
      refine r_bipush C dX3_awaitedAfter_37 kk_b_57 rfl ?_
      obtain ⟨r9, e9, hf⟩ := gd_b hf
      refine o_I (wn := []) C [] rfl (x_SN C dX3_awaitedAfter_39 (c_X7_isWithin l D cI cZ cG u1 (49 : Int32) (57 : Int32) r9 e9) rfl gX3_awaitedAfter_X7_isWithin_n23 (List.mem_of_getElem? (i := 1) rfl) wn_X3_awaitedAfter_X7_isWithin_s wn_X3_awaitedAfter_X7_isWithin_i hs_X7_isWithin rfl ⟨Nat.le_of_ble_eq_true rfl, Nat.le_of_ble_eq_true rfl⟩ ⟨rfl, rfl⟩ ⟨Nat.zero_le _, Nat.zero_le _⟩ rfl [] rfl rfl (Nat.le_of_ble_eq_true rfl) rfl) rfl rfl rfl ?_
      refine r_if_eq (y := 0) (tgt := 49) C dX3_awaitedAfter_42 rfl rfl (fun c10 => ?_) (fun c10 => ?_)
      · have hf := gd_t c10 hf
        refine r_iconst C dX3_awaitedAfter_49 kk_i_3 rfl ?_
        cases hf
        exact r_iret C dX3_awaitedAfter_50 rfl
      · have hf := gd_f c10 hf
        refine r_iconst C dX3_awaitedAfter_45 kk_i_0 rfl ?_
        refine r_goto (tgt := 50) C dX3_awaitedAfter_46 rfl ?_
        cases hf
        exact r_iret C dX3_awaitedAfter_50 rfl
  · have hf := gd_t c1 hf
    refine r_iload_n C dX3_awaitedAfter_4 rfl 1 rfl rfl ?_
    refine r_bipush C dX3_awaitedAfter_5 kk_b_46 rfl ?_
    refine r_icmp_ne (tgt := 12) C dX3_awaitedAfter_7 rfl rfl (fun c11 => ?_) (fun c11 => ?_)
    · have hf := gd_f c11 hf
      refine r_iload_n C dX3_awaitedAfter_12 rfl 1 rfl rfl ?_
      refine r_bipush C dX3_awaitedAfter_13 kk_b_65 rfl ?_
      refine r_bipush C dX3_awaitedAfter_15 kk_b_74 rfl ?_
      obtain ⟨r12, e12, hf⟩ := gd_b hf
      refine o_I (wn := []) C [] rfl (x_SN C dX3_awaitedAfter_17 (c_X7_isWithin l D cI cZ cG u1 (65 : Int32) (74 : Int32) r12 e12) rfl gX3_awaitedAfter_X7_isWithin_n23 (List.mem_of_getElem? (i := 1) rfl) wn_X3_awaitedAfter_X7_isWithin_s wn_X3_awaitedAfter_X7_isWithin_i hs_X7_isWithin rfl ⟨Nat.le_of_ble_eq_true rfl, Nat.le_of_ble_eq_true rfl⟩ ⟨rfl, rfl⟩ ⟨Nat.zero_le _, Nat.zero_le _⟩ rfl [] rfl rfl (Nat.le_of_ble_eq_true rfl) rfl) rfl rfl rfl ?_
      refine r_if_eq (y := 0) (tgt := 27) C dX3_awaitedAfter_20 rfl rfl (fun c13 => ?_) (fun c13 => ?_)
      · have hf := gd_t c13 hf
        refine r_iconst C dX3_awaitedAfter_27 kk_i_3 rfl ?_
        cases hf
        exact r_iret C dX3_awaitedAfter_28 rfl
      · have hf := gd_f c13 hf
        refine r_iconst C dX3_awaitedAfter_23 kk_i_1 rfl ?_
        refine r_goto (tgt := 28) C dX3_awaitedAfter_24 rfl ?_
        cases hf
        exact r_iret C dX3_awaitedAfter_28 rfl
    · have hf := gd_t c11 hf
      refine r_iconst C dX3_awaitedAfter_10 kk_i_0 rfl ?_
      cases hf
      exact r_iret C dX3_awaitedAfter_11 rfl
theorem fw_X3_faultPlace_X3 : ∀ w ∈ u_ws RX3 TX3 6, w ∈ wsX3_faultPlace := by decide +kernel
theorem fl_X3_faultPlace_15 : Cond.fieldLink RX3 15 "MittenLine$Pad" "count" "I" ∈ wsX3_faultPlace := by decide +kernel
theorem fl_X3_faultPlace_9 : Cond.fieldLink RX3 9 "MittenLine$Pad" "signs" "[I" ∈ wsX3_faultPlace := by decide +kernel
abbrev rm_X3_faultPlace : Jvm.Room := { frames := 2, cells := 0, slots := 0, locals := 43 }
def f_X3_faultPlace_4 (signs : Nat → Int32) (count : Int32) (kx36 : Int32 → Option (Int32)) : Nat → Int32 → Int32 → Option (Int32)
  | 0, _, _ => none
  | n + 1, u1, u2 => if count ≤ u2 then kx36 u1 else if u2 < 0 ∨ 60 ≤ u2.toNatClampNeg then none else (f_X3_awaitedAfter u1 (signs u2.toNatClampNeg)).bind (fun r3 => if r3 = (3 : Int32) then some (u2) else f_X3_faultPlace_4 signs count kx36 n r3 (u2 + (1 : Int32)))
set_option maxHeartbeats 4000000 in
set_option maxRecDepth 100000 in
theorem k_X3_faultPlace_4 (C : Cx p s m args meth c D (tysW cI cZ cG) RX3 cX3_faultPlace 3 wsX3_faultPlace (some .int)) (h : Nat) (A : Nat → Nat) (signs : Nat → Int32) (count : Int32) (awaited : Int32) (actor : Int32) (kind : Int32) (amount : Int32)  (kx36 : Int32 → Option (Int32)) (res : Int32) (hkx36 : ∀ (u1 : Int32) , kx36 u1 = some res → Wd p l e rm_X3_faultPlace s m args below meth c D w0 3 0 0 (MQ below (QcI D (tysW cI cZ cG) w0 [(h, oX3 A count awaited actor kind amount), ((A 0), aI cI 60 signs)] res s.heap.size) args s 0 0 (va_A w0 s.heap.size)) [(h, oX3 A count awaited actor kind amount), ((A 0), aI cI 60 signs)] [(0, .ref h), (1, .int u1)] 36 []) : ∀ (n : Nat) (u1 : Int32) (u2 : Int32), f_X3_faultPlace_4 signs count kx36 n u1 u2 = some res → Wd p l e rm_X3_faultPlace s m args below meth c D w0 3 0 0 (MQ below (QcI D (tysW cI cZ cG) w0 [(h, oX3 A count awaited actor kind amount), ((A 0), aI cI 60 signs)] res s.heap.size) args s 0 0 (va_A w0 s.heap.size)) [(h, oX3 A count awaited actor kind amount), ((A 0), aI cI 60 signs)] [(0, .ref h), (1, .int u1), (2, .int u2)] 4 [] := by
  intro n
  induction n with
  | zero =>
    intro u1 u2 hf
    exact no_none hf
  | succ n ih =>
    intro u1 u2 hf
    unfold f_X3_faultPlace_4 at hf
    refine r_iload_n C dX3_faultPlace_4 rfl 2 rfl rfl ?_
    refine r_aload_n C dX3_faultPlace_5 rfl 0 rfl rfl ?_
    refine r_get C dX3_faultPlace_6 fw_X3_faultPlace_X3 0 rfl rfl 1 (by decide) rfl fl_X3_faultPlace_15 rfl rfl ?_
    refine r_icmp_ge (tgt := 36) C dX3_faultPlace_9 rfl rfl (fun c1 => ?_) (fun c1 => ?_)
    · have hf := gd_t c1 hf
      refine r_lv (lv' := [(0, .ref h), (1, .int u1)]) [0, 1] rfl ?_
      exact hkx36 _ hf
    · have hf := gd_f c1 hf
      refine r_iload_n C dX3_faultPlace_12 rfl 1 rfl rfl ?_
      refine r_aload_n C dX3_faultPlace_13 rfl 0 rfl rfl ?_
      refine r_get C dX3_faultPlace_14 fw_X3_faultPlace_X3 0 rfl rfl 0 (by decide) rfl fl_X3_faultPlace_9 rfl rfl ?_
      refine r_iload_n C dX3_faultPlace_17 rfl 2 rfl rfl ?_
      obtain ⟨g2, hf⟩ := gd_n hf
      refine r_iald C dX3_faultPlace_18 1 0 rfl rfl g2 rfl ?_
      obtain ⟨r3, e3, hf⟩ := gd_b hf
      refine o_I (wn := [(h, oX3 A count awaited actor kind amount), ((A 0), aI cI 60 signs)]) C [] rfl (x_S C dX3_faultPlace_19 (c_X3_awaitedAfter l D cI cZ cG u1 (signs u2.toNatClampNeg) r3 e3) rfl gX3_faultPlace_X3_awaitedAfter hs_X3_awaitedAfter rfl ⟨Nat.le_of_ble_eq_true rfl, Nat.le_of_ble_eq_true rfl⟩ ⟨rfl, rfl⟩ ⟨Nat.zero_le _, Nat.zero_le _⟩ rfl [] rfl rfl (Nat.le_of_ble_eq_true rfl) rfl) rfl rfl rfl ?_
      refine r_istore_n (lv' := [(1, .int r3), (0, .ref h), (2, .int u2)]) C dX3_faultPlace_22 rfl (by decide) rfl rfl ?_
      refine r_iload_n C dX3_faultPlace_23 rfl 0 rfl rfl ?_
      refine r_iconst C dX3_faultPlace_24 kk_i_3 rfl ?_
      refine r_icmp_ne (tgt := 30) C dX3_faultPlace_25 rfl rfl (fun c4 => ?_) (fun c4 => ?_)
      · have hf := gd_f c4 hf
        refine r_iinc (lv' := [(2, .int (u2 + (1 : Int32))), (1, .int r3), (0, .ref h)]) C dX3_faultPlace_30 2 rfl (ki_1 _) (by decide) rfl rfl ?_
        refine r_goto (tgt := 4) C dX3_faultPlace_33 rfl ?_
        refine r_lv (lv' := [(0, .ref h), (1, .int r3), (2, .int (u2 + (1 : Int32)))]) [2, 1, 0] rfl ?_
        exact ih _ _ hf
      · have hf := gd_t c4 hf
        refine r_iload_n C dX3_faultPlace_28 rfl 2 rfl rfl ?_
        cases hf
        exact r_iret C dX3_faultPlace_29 rfl
def f_X3_faultPlace (signs : Nat → Int32) (count : Int32) : Option (Int32) := f_X3_faultPlace_4 signs count (fun u1_5 => if u1_5 = 0 then some ((-6 : Int32)) else some (count)) 2000 (0 : Int32) (0 : Int32)
set_option maxHeartbeats 4000000 in
set_option maxRecDepth 100000 in
theorem c_X3_faultPlace (l : Launch) (D : va_G) (cI cZ cG : ClassId) (h : Nat) (A : Nat → Nat) (signs : Nat → Int32) (count : Int32) (awaited : Int32) (actor : Int32) (kind : Int32) (amount : Int32) (res : Int32) (hf : f_X3_faultPlace signs count = some res) : CI l D (tysW cI cZ cG) yX3_faultPlace wsX3_faultPlace rm_X3_faultPlace [.ref h] [(h, oX3 A count awaited actor kind amount), ((A 0), aI cI 60 signs)] res [(h, oX3 A count awaited actor kind amount), ((A 0), aI cI 60 signs)] := by
  refine CG.intro (own := RX3) (by decide +kernel) rfl rfl (Nat.le_of_ble_eq_true rfl) (fun p e s m args below meth c C => ?_)
  refine r_lv (lv' := [(0, .ref h)]) [0] rfl ?_
  unfold f_X3_faultPlace at hf
  refine r_iconst C dX3_faultPlace_0 kk_i_0 rfl ?_
  refine r_istore_n (lv' := [(1, .int (0 : Int32)), (0, .ref h)]) C dX3_faultPlace_1 rfl (by decide) rfl rfl ?_
  refine r_iconst C dX3_faultPlace_2 kk_i_0 rfl ?_
  refine r_istore_n (lv' := [(2, .int (0 : Int32)), (1, .int (0 : Int32)), (0, .ref h)]) C dX3_faultPlace_3 rfl (by decide) rfl rfl ?_
  refine r_lv (lv' := [(0, .ref h), (1, .int (0 : Int32)), (2, .int (0 : Int32))]) [2, 1, 0] rfl ?_
  refine k_X3_faultPlace_4 C h A signs count awaited actor kind amount _ _ ?_ 2000 _ _ hf
  · intro u1_5 hf
    refine r_iload_n C dX3_faultPlace_36 rfl 1 rfl rfl ?_
    refine r_if_ne (y := 0) (tgt := 45) C dX3_faultPlace_37 rfl rfl (fun c6 => ?_) (fun c6 => ?_)
    · have hf := gd_f c6 hf
      refine r_aload_n C dX3_faultPlace_45 rfl 0 rfl rfl ?_
      refine r_get C dX3_faultPlace_46 fw_X3_faultPlace_X3 0 rfl rfl 1 (by decide) rfl fl_X3_faultPlace_15 rfl rfl ?_
      cases hf
      exact r_iret C dX3_faultPlace_49 rfl
    · have hf := gd_t c6 hf
      refine r_bipush C dX3_faultPlace_40 kk_b_m6 rfl ?_
      refine r_goto (tgt := 49) C dX3_faultPlace_42 rfl ?_
      cases hf
      exact r_iret C dX3_faultPlace_49 rfl
theorem fw_X3_beginActs_X3 : ∀ w ∈ u_ws RX3 TX3 6, w ∈ wsX3_beginActs := by decide +kernel
theorem fl_X3_beginActs_27 : Cond.fieldLink RX3 27 "MittenLine$Pad" "awaited" "I" ∈ wsX3_beginActs := by decide +kernel
theorem fl_X3_beginActs_30 : Cond.fieldLink RX3 30 "MittenLine$Pad" "actor" "I" ∈ wsX3_beginActs := by decide +kernel
theorem fl_X3_beginActs_33 : Cond.fieldLink RX3 33 "MittenLine$Pad" "kind" "I" ∈ wsX3_beginActs := by decide +kernel
theorem fl_X3_beginActs_36 : Cond.fieldLink RX3 36 "MittenLine$Pad" "amount" "I" ∈ wsX3_beginActs := by decide +kernel
abbrev rm_X3_beginActs : Jvm.Room := { frames := 0, cells := 0, slots := 0, locals := 0 }
def f_X3_beginActs (awaited : Int32) (actor : Int32) (kind : Int32) (amount : Int32) : Option (Int32 × Int32 × Int32 × Int32) := some ((0 : Int32), (0 : Int32), (46 : Int32), (0 : Int32))
set_option maxHeartbeats 4000000 in
set_option maxRecDepth 100000 in
theorem c_X3_beginActs (l : Launch) (D : va_G) (cI cZ cG : ClassId) (h : Nat) (A : Nat → Nat) (count : Int32) (awaited : Int32) (actor : Int32) (kind : Int32) (amount : Int32) (res : Int32 × Int32 × Int32 × Int32) (hf : f_X3_beginActs awaited actor kind amount = some res) : CV l D (tysW cI cZ cG) yX3_beginActs wsX3_beginActs rm_X3_beginActs [.ref h] [(h, oX3 A count awaited actor kind amount)] [(h, oX3 A count res.1 res.2.1 res.2.2.1 res.2.2.2)] := by
  refine CG.intro (own := RX3) (by decide +kernel) rfl rfl (Nat.le_of_ble_eq_true rfl) (fun p e s m args below meth c C => ?_)
  refine r_lv (lv' := [(0, .ref h)]) [0] rfl ?_
  unfold f_X3_beginActs at hf
  refine r_aload_n C dX3_beginActs_0 rfl 0 rfl rfl ?_
  refine r_iconst C dX3_beginActs_1 kk_i_0 rfl ?_
  refine r_put (ty := .int) (ws' := [(h, oX3 A count (0 : Int32) actor kind amount)]) C dX3_beginActs_2 fw_X3_beginActs_X3 tyX3 tyX3_ok nmX3 0 rfl rfl 2 (by decide) rfl fl_X3_beginActs_27 rfl (by decide +kernel) rfl rfl (Nat.le_of_ble_eq_true rfl) rfl rfl ?_
  refine r_aload_n C dX3_beginActs_5 rfl 0 rfl rfl ?_
  refine r_iconst C dX3_beginActs_6 kk_i_0 rfl ?_
  refine r_put (ty := .int) (ws' := [(h, oX3 A count (0 : Int32) (0 : Int32) kind amount)]) C dX3_beginActs_7 fw_X3_beginActs_X3 tyX3 tyX3_ok nmX3 0 rfl rfl 3 (by decide) rfl fl_X3_beginActs_30 rfl (by decide +kernel) rfl rfl (Nat.le_of_ble_eq_true rfl) rfl rfl ?_
  refine r_aload_n C dX3_beginActs_10 rfl 0 rfl rfl ?_
  refine r_bipush C dX3_beginActs_11 kk_b_46 rfl ?_
  refine r_put (ty := .int) (ws' := [(h, oX3 A count (0 : Int32) (0 : Int32) (46 : Int32) amount)]) C dX3_beginActs_13 fw_X3_beginActs_X3 tyX3 tyX3_ok nmX3 0 rfl rfl 4 (by decide) rfl fl_X3_beginActs_33 rfl (by decide +kernel) rfl rfl (Nat.le_of_ble_eq_true rfl) rfl rfl ?_
  refine r_aload_n C dX3_beginActs_16 rfl 0 rfl rfl ?_
  refine r_iconst C dX3_beginActs_17 kk_i_0 rfl ?_
  refine r_put (ty := .int) (ws' := [(h, oX3 A count (0 : Int32) (0 : Int32) (46 : Int32) (0 : Int32))]) C dX3_beginActs_18 fw_X3_beginActs_X3 tyX3 tyX3_ok nmX3 0 rfl rfl 5 (by decide) rfl fl_X3_beginActs_36 rfl (by decide +kernel) rfl rfl (Nat.le_of_ble_eq_true rfl) rfl rfl ?_
  cases hf
  exact r_vret C dX3_beginActs_21 rfl
theorem fw_X3_endsAct_X3 : ∀ w ∈ u_ws RX3 TX3 6, w ∈ wsX3_endsAct := by decide +kernel
theorem fl_X3_endsAct_15 : Cond.fieldLink RX3 15 "MittenLine$Pad" "count" "I" ∈ wsX3_endsAct := by decide +kernel
theorem wn_X3_endsAct_X7_isWithin_s : Cond.static yX7_isWithin ∈ wsX3_endsAct := by decide +kernel
theorem wn_X3_endsAct_X7_isWithin_i : Cond.initialized yX7_isWithin.cls ∈ wsX3_endsAct := by decide +kernel
theorem fl_X3_endsAct_9 : Cond.fieldLink RX3 9 "MittenLine$Pad" "signs" "[I" ∈ wsX3_endsAct := by decide +kernel
theorem fl_X3_endsAct_27 : Cond.fieldLink RX3 27 "MittenLine$Pad" "awaited" "I" ∈ wsX3_endsAct := by decide +kernel
theorem fl_X3_endsAct_36 : Cond.fieldLink RX3 36 "MittenLine$Pad" "amount" "I" ∈ wsX3_endsAct := by decide +kernel
theorem fl_X3_endsAct_33 : Cond.fieldLink RX3 33 "MittenLine$Pad" "kind" "I" ∈ wsX3_endsAct := by decide +kernel
theorem fl_X3_endsAct_30 : Cond.fieldLink RX3 30 "MittenLine$Pad" "actor" "I" ∈ wsX3_endsAct := by decide +kernel
abbrev rm_X3_endsAct : Jvm.Room := { frames := 2, cells := 0, slots := 0, locals := 43 }
def f_X3_endsAct (signs : Nat → Int32) (count : Int32) (awaited : Int32) (actor : Int32) (kind : Int32) (amount : Int32) (u1 : Int32) : Option (Int32 × Int32 × Int32 × Int32 × Int32) := (f_X7_isWithin u1 (0 : Int32) (count - (1 : Int32))).bind (fun r1 => if r1 = 0 then some ((0 : Int32), awaited, actor, kind, amount) else if u1 < 0 ∨ 60 ≤ u1.toNatClampNeg then none else if awaited = 0 then if (signs u1.toNatClampNeg) = (46 : Int32) then if awaited = (1 : Int32) then if awaited = (2 : Int32) then (f_X3_awaitedAfter awaited (signs u1.toNatClampNeg)).bind (fun r42 => if r42 = 0 then some ((1 : Int32), r42, actor, (signs u1.toNatClampNeg), ((signs u1.toNatClampNeg) - (48 : Int32))) else some ((0 : Int32), r42, actor, (signs u1.toNatClampNeg), ((signs u1.toNatClampNeg) - (48 : Int32)))) else (f_X3_awaitedAfter awaited (signs u1.toNatClampNeg)).bind (fun r40 => if r40 = 0 then some ((1 : Int32), r40, actor, (signs u1.toNatClampNeg), amount) else some ((0 : Int32), r40, actor, (signs u1.toNatClampNeg), amount)) else if awaited = (2 : Int32) then (f_X3_awaitedAfter awaited (signs u1.toNatClampNeg)).bind (fun r37 => if r37 = 0 then some ((1 : Int32), r37, actor, (46 : Int32), ((signs u1.toNatClampNeg) - (48 : Int32))) else some ((0 : Int32), r37, actor, (46 : Int32), ((signs u1.toNatClampNeg) - (48 : Int32)))) else (f_X3_awaitedAfter awaited (signs u1.toNatClampNeg)).bind (fun r35 => if r35 = 0 then some ((1 : Int32), r35, actor, (46 : Int32), amount) else some ((0 : Int32), r35, actor, (46 : Int32), amount)) else if awaited = (1 : Int32) then if awaited = (2 : Int32) then (f_X3_awaitedAfter awaited (signs u1.toNatClampNeg)).bind (fun r29 => if r29 = 0 then some ((1 : Int32), r29, ((signs u1.toNatClampNeg) - (65 : Int32)), (signs u1.toNatClampNeg), ((signs u1.toNatClampNeg) - (48 : Int32))) else some ((0 : Int32), r29, ((signs u1.toNatClampNeg) - (65 : Int32)), (signs u1.toNatClampNeg), ((signs u1.toNatClampNeg) - (48 : Int32)))) else (f_X3_awaitedAfter awaited (signs u1.toNatClampNeg)).bind (fun r27 => if r27 = 0 then some ((1 : Int32), r27, ((signs u1.toNatClampNeg) - (65 : Int32)), (signs u1.toNatClampNeg), amount) else some ((0 : Int32), r27, ((signs u1.toNatClampNeg) - (65 : Int32)), (signs u1.toNatClampNeg), amount)) else if awaited = (2 : Int32) then (f_X3_awaitedAfter awaited (signs u1.toNatClampNeg)).bind (fun r24 => if r24 = 0 then some ((1 : Int32), r24, ((signs u1.toNatClampNeg) - (65 : Int32)), kind, ((signs u1.toNatClampNeg) - (48 : Int32))) else some ((0 : Int32), r24, ((signs u1.toNatClampNeg) - (65 : Int32)), kind, ((signs u1.toNatClampNeg) - (48 : Int32)))) else (f_X3_awaitedAfter awaited (signs u1.toNatClampNeg)).bind (fun r22 => if r22 = 0 then some ((1 : Int32), r22, ((signs u1.toNatClampNeg) - (65 : Int32)), kind, amount) else some ((0 : Int32), r22, ((signs u1.toNatClampNeg) - (65 : Int32)), kind, amount)) else if awaited = (1 : Int32) then if awaited = (2 : Int32) then (f_X3_awaitedAfter awaited (signs u1.toNatClampNeg)).bind (fun r15 => if r15 = 0 then some ((1 : Int32), r15, actor, (signs u1.toNatClampNeg), ((signs u1.toNatClampNeg) - (48 : Int32))) else some ((0 : Int32), r15, actor, (signs u1.toNatClampNeg), ((signs u1.toNatClampNeg) - (48 : Int32)))) else (f_X3_awaitedAfter awaited (signs u1.toNatClampNeg)).bind (fun r13 => if r13 = 0 then some ((1 : Int32), r13, actor, (signs u1.toNatClampNeg), amount) else some ((0 : Int32), r13, actor, (signs u1.toNatClampNeg), amount)) else if awaited = (2 : Int32) then (f_X3_awaitedAfter awaited (signs u1.toNatClampNeg)).bind (fun r10 => if r10 = 0 then some ((1 : Int32), r10, actor, kind, ((signs u1.toNatClampNeg) - (48 : Int32))) else some ((0 : Int32), r10, actor, kind, ((signs u1.toNatClampNeg) - (48 : Int32)))) else (f_X3_awaitedAfter awaited (signs u1.toNatClampNeg)).bind (fun r8 => if r8 = 0 then some ((1 : Int32), r8, actor, kind, amount) else some ((0 : Int32), r8, actor, kind, amount)))
set_option maxHeartbeats 4000000 in
set_option maxRecDepth 100000 in
theorem c_X3_endsAct (l : Launch) (D : va_G) (cI cZ cG : ClassId) (h : Nat) (A : Nat → Nat) (signs : Nat → Int32) (count : Int32) (awaited : Int32) (actor : Int32) (kind : Int32) (amount : Int32) (u1 : Int32) (res : Int32 × Int32 × Int32 × Int32 × Int32) (hf : f_X3_endsAct signs count awaited actor kind amount u1 = some res) : CI l D (tysW cI cZ cG) yX3_endsAct wsX3_endsAct rm_X3_endsAct [.ref h, .int u1] [(h, oX3 A count awaited actor kind amount), ((A 0), aI cI 60 signs)] res.1 [(h, oX3 A count res.2.1 res.2.2.1 res.2.2.2.1 res.2.2.2.2), ((A 0), aI cI 60 signs)] := by
  refine CG.intro (own := RX3) (by decide +kernel) rfl rfl (Nat.le_of_ble_eq_true rfl) (fun p e s m args below meth c C => ?_)
  refine r_lv (lv' := [(0, .ref h), (1, .int u1)]) [0, 1] rfl ?_
  unfold f_X3_endsAct at hf
  refine r_iload_n C dX3_endsAct_0 rfl 1 rfl rfl ?_
  refine r_iconst C dX3_endsAct_1 kk_i_0 rfl ?_
  refine r_aload_n C dX3_endsAct_2 rfl 0 rfl rfl ?_
  refine r_get C dX3_endsAct_3 fw_X3_endsAct_X3 0 rfl rfl 1 (by decide) rfl fl_X3_endsAct_15 rfl rfl ?_
  refine r_iconst C dX3_endsAct_6 kk_i_1 rfl ?_
  refine r_isub C dX3_endsAct_7 rfl ?_
  obtain ⟨r1, e1, hf⟩ := gd_b hf
  refine o_I (wn := [(h, oX3 A count awaited actor kind amount), ((A 0), aI cI 60 signs)]) C [] rfl (x_SN C dX3_endsAct_8 (c_X7_isWithin l D cI cZ cG u1 (0 : Int32) (count - (1 : Int32)) r1 e1) rfl gX3_endsAct_X7_isWithin_n23 (List.mem_of_getElem? (i := 1) rfl) wn_X3_endsAct_X7_isWithin_s wn_X3_endsAct_X7_isWithin_i hs_X7_isWithin rfl ⟨Nat.le_of_ble_eq_true rfl, Nat.le_of_ble_eq_true rfl⟩ ⟨rfl, rfl⟩ ⟨Nat.zero_le _, Nat.zero_le _⟩ rfl [] rfl rfl (Nat.le_of_ble_eq_true rfl) rfl) rfl rfl rfl ?_
  refine r_if_ne (y := 0) (tgt := 16) C dX3_endsAct_11 rfl rfl (fun c2 => ?_) (fun c2 => ?_)
  · have hf := gd_f c2 hf
    refine r_aload_n C dX3_endsAct_16 rfl 0 rfl rfl ?_
    refine r_get C dX3_endsAct_17 fw_X3_endsAct_X3 0 rfl rfl 0 (by decide) rfl fl_X3_endsAct_9 rfl rfl ?_
    refine r_iload_n C dX3_endsAct_20 rfl 1 rfl rfl ?_
    obtain ⟨g3, hf⟩ := gd_n hf
    refine r_iald C dX3_endsAct_21 1 0 rfl rfl g3 rfl ?_
    refine r_istore_n (lv' := [(2, .int (signs u1.toNatClampNeg)), (0, .ref h), (1, .int u1)]) C dX3_endsAct_22 rfl (by decide) rfl rfl ?_
    refine r_aload_n C dX3_endsAct_23 rfl 1 rfl rfl ?_
    refine r_get C dX3_endsAct_24 fw_X3_endsAct_X3 0 rfl rfl 2 (by decide) rfl fl_X3_endsAct_27 rfl rfl ?_
    refine r_if_ne (y := 0) (tgt := 42) C dX3_endsAct_27 rfl rfl (fun c4 => ?_) (fun c4 => ?_)
    · have hf := gd_f c4 hf
      refine r_aload_n C dX3_endsAct_42 rfl 1 rfl rfl ?_
      refine r_get C dX3_endsAct_43 fw_X3_endsAct_X3 0 rfl rfl 2 (by decide) rfl fl_X3_endsAct_27 rfl rfl ?_
      refine r_if_ne (y := 0) (tgt := 63) C dX3_endsAct_46 rfl rfl (fun _ => ?_) (fun c5 => absurd c5 c4)
      refine r_aload_n C dX3_endsAct_63 rfl 1 rfl rfl ?_
      refine r_get C dX3_endsAct_64 fw_X3_endsAct_X3 0 rfl rfl 2 (by decide) rfl fl_X3_endsAct_27 rfl rfl ?_
      refine r_iconst C dX3_endsAct_67 kk_i_1 rfl ?_
      refine r_icmp_ne (tgt := 76) C dX3_endsAct_68 rfl rfl (fun c6 => ?_) (fun c6 => ?_)
      · have hf := gd_f c6 hf
        refine r_aload_n C dX3_endsAct_76 rfl 1 rfl rfl ?_
        refine r_get C dX3_endsAct_77 fw_X3_endsAct_X3 0 rfl rfl 2 (by decide) rfl fl_X3_endsAct_27 rfl rfl ?_
        refine r_iconst C dX3_endsAct_80 kk_i_2 rfl ?_
        refine r_icmp_ne (tgt := 92) C dX3_endsAct_81 rfl rfl (fun c7 => ?_) (fun c7 => ?_)
        · have hf := gd_f c7 hf
          refine r_aload_n C dX3_endsAct_92 rfl 1 rfl rfl ?_
          refine r_aload_n C dX3_endsAct_93 rfl 1 rfl rfl ?_
          refine r_get C dX3_endsAct_94 fw_X3_endsAct_X3 0 rfl rfl 2 (by decide) rfl fl_X3_endsAct_27 rfl rfl ?_
          refine r_iload_n C dX3_endsAct_97 rfl 0 rfl rfl ?_
          obtain ⟨r8, e8, hf⟩ := gd_b hf
          refine o_I (wn := [(h, oX3 A count awaited actor kind amount), ((A 0), aI cI 60 signs)]) C [] rfl (x_S C dX3_endsAct_98 (c_X3_awaitedAfter l D cI cZ cG awaited (signs u1.toNatClampNeg) r8 e8) rfl gX3_endsAct_X3_awaitedAfter hs_X3_awaitedAfter rfl ⟨Nat.le_of_ble_eq_true rfl, Nat.le_of_ble_eq_true rfl⟩ ⟨rfl, rfl⟩ ⟨Nat.zero_le _, Nat.zero_le _⟩ rfl [] rfl rfl (Nat.le_of_ble_eq_true rfl) rfl) rfl rfl rfl ?_
          refine r_put (ty := .int) (ws' := [(h, oX3 A count r8 actor kind amount), ((A 0), aI cI 60 signs)]) C dX3_endsAct_101 fw_X3_endsAct_X3 tyX3 tyX3_ok nmX3 0 rfl rfl 2 (by decide) rfl fl_X3_endsAct_27 rfl (by decide +kernel) rfl rfl (Nat.le_of_ble_eq_true rfl) rfl rfl ?_
          refine r_aload_n C dX3_endsAct_104 rfl 1 rfl rfl ?_
          refine r_get C dX3_endsAct_105 fw_X3_endsAct_X3 0 rfl rfl 2 (by decide) rfl fl_X3_endsAct_27 rfl rfl ?_
          refine r_if_ne (y := 0) (tgt := 115) C dX3_endsAct_108 rfl rfl (fun c9 => ?_) (fun c9 => ?_)
          · have hf := gd_f c9 hf
            refine r_iconst C dX3_endsAct_115 kk_i_0 rfl ?_
            cases hf
            exact r_zret C dX3_endsAct_116 nb0 rfl
          · have hf := gd_t c9 hf
            refine r_iconst C dX3_endsAct_111 kk_i_1 rfl ?_
            refine r_goto (tgt := 116) C dX3_endsAct_112 rfl ?_
            cases hf
            exact r_zret C dX3_endsAct_116 nb1 rfl
        · have hf := gd_t c7 hf
          refine r_aload_n C dX3_endsAct_84 rfl 1 rfl rfl ?_
          refine r_iload_n C dX3_endsAct_85 rfl 0 rfl rfl ?_
          refine r_bipush C dX3_endsAct_86 kk_b_48 rfl ?_
          refine r_isub C dX3_endsAct_88 rfl ?_
          refine r_put (ty := .int) (ws' := [(h, oX3 A count awaited actor kind ((signs u1.toNatClampNeg) - (48 : Int32))), ((A 0), aI cI 60 signs)]) C dX3_endsAct_89 fw_X3_endsAct_X3 tyX3 tyX3_ok nmX3 0 rfl rfl 5 (by decide) rfl fl_X3_endsAct_36 rfl (by decide +kernel) rfl rfl (Nat.le_of_ble_eq_true rfl) rfl rfl ?_
          refine r_aload_n C dX3_endsAct_92 rfl 1 rfl rfl ?_
          refine r_aload_n C dX3_endsAct_93 rfl 1 rfl rfl ?_
          refine r_get C dX3_endsAct_94 fw_X3_endsAct_X3 0 rfl rfl 2 (by decide) rfl fl_X3_endsAct_27 rfl rfl ?_
          refine r_iload_n C dX3_endsAct_97 rfl 0 rfl rfl ?_
          obtain ⟨r10, e10, hf⟩ := gd_b hf
          refine o_I (wn := [(h, oX3 A count awaited actor kind ((signs u1.toNatClampNeg) - (48 : Int32))), ((A 0), aI cI 60 signs)]) C [] rfl (x_S C dX3_endsAct_98 (c_X3_awaitedAfter l D cI cZ cG awaited (signs u1.toNatClampNeg) r10 e10) rfl gX3_endsAct_X3_awaitedAfter hs_X3_awaitedAfter rfl ⟨Nat.le_of_ble_eq_true rfl, Nat.le_of_ble_eq_true rfl⟩ ⟨rfl, rfl⟩ ⟨Nat.zero_le _, Nat.zero_le _⟩ rfl [] rfl rfl (Nat.le_of_ble_eq_true rfl) rfl) rfl rfl rfl ?_
          refine r_put (ty := .int) (ws' := [(h, oX3 A count r10 actor kind ((signs u1.toNatClampNeg) - (48 : Int32))), ((A 0), aI cI 60 signs)]) C dX3_endsAct_101 fw_X3_endsAct_X3 tyX3 tyX3_ok nmX3 0 rfl rfl 2 (by decide) rfl fl_X3_endsAct_27 rfl (by decide +kernel) rfl rfl (Nat.le_of_ble_eq_true rfl) rfl rfl ?_
          refine r_aload_n C dX3_endsAct_104 rfl 1 rfl rfl ?_
          refine r_get C dX3_endsAct_105 fw_X3_endsAct_X3 0 rfl rfl 2 (by decide) rfl fl_X3_endsAct_27 rfl rfl ?_
          refine r_if_ne (y := 0) (tgt := 115) C dX3_endsAct_108 rfl rfl (fun c11 => ?_) (fun c11 => ?_)
          · have hf := gd_f c11 hf
            refine r_iconst C dX3_endsAct_115 kk_i_0 rfl ?_
            cases hf
            exact r_zret C dX3_endsAct_116 nb0 rfl
          · have hf := gd_t c11 hf
            refine r_iconst C dX3_endsAct_111 kk_i_1 rfl ?_
            refine r_goto (tgt := 116) C dX3_endsAct_112 rfl ?_
            cases hf
            exact r_zret C dX3_endsAct_116 nb1 rfl
      · have hf := gd_t c6 hf
        refine r_aload_n C dX3_endsAct_71 rfl 1 rfl rfl ?_
        refine r_iload_n C dX3_endsAct_72 rfl 0 rfl rfl ?_
        refine r_put (ty := .int) (ws' := [(h, oX3 A count awaited actor (signs u1.toNatClampNeg) amount), ((A 0), aI cI 60 signs)]) C dX3_endsAct_73 fw_X3_endsAct_X3 tyX3 tyX3_ok nmX3 0 rfl rfl 4 (by decide) rfl fl_X3_endsAct_33 rfl (by decide +kernel) rfl rfl (Nat.le_of_ble_eq_true rfl) rfl rfl ?_
        refine r_aload_n C dX3_endsAct_76 rfl 1 rfl rfl ?_
        refine r_get C dX3_endsAct_77 fw_X3_endsAct_X3 0 rfl rfl 2 (by decide) rfl fl_X3_endsAct_27 rfl rfl ?_
        refine r_iconst C dX3_endsAct_80 kk_i_2 rfl ?_
        refine r_icmp_ne (tgt := 92) C dX3_endsAct_81 rfl rfl (fun c12 => ?_) (fun c12 => ?_)
        · have hf := gd_f c12 hf
          refine r_aload_n C dX3_endsAct_92 rfl 1 rfl rfl ?_
          refine r_aload_n C dX3_endsAct_93 rfl 1 rfl rfl ?_
          refine r_get C dX3_endsAct_94 fw_X3_endsAct_X3 0 rfl rfl 2 (by decide) rfl fl_X3_endsAct_27 rfl rfl ?_
          refine r_iload_n C dX3_endsAct_97 rfl 0 rfl rfl ?_
          obtain ⟨r13, e13, hf⟩ := gd_b hf
          refine o_I (wn := [(h, oX3 A count awaited actor (signs u1.toNatClampNeg) amount), ((A 0), aI cI 60 signs)]) C [] rfl (x_S C dX3_endsAct_98 (c_X3_awaitedAfter l D cI cZ cG awaited (signs u1.toNatClampNeg) r13 e13) rfl gX3_endsAct_X3_awaitedAfter hs_X3_awaitedAfter rfl ⟨Nat.le_of_ble_eq_true rfl, Nat.le_of_ble_eq_true rfl⟩ ⟨rfl, rfl⟩ ⟨Nat.zero_le _, Nat.zero_le _⟩ rfl [] rfl rfl (Nat.le_of_ble_eq_true rfl) rfl) rfl rfl rfl ?_
          refine r_put (ty := .int) (ws' := [(h, oX3 A count r13 actor (signs u1.toNatClampNeg) amount), ((A 0), aI cI 60 signs)]) C dX3_endsAct_101 fw_X3_endsAct_X3 tyX3 tyX3_ok nmX3 0 rfl rfl 2 (by decide) rfl fl_X3_endsAct_27 rfl (by decide +kernel) rfl rfl (Nat.le_of_ble_eq_true rfl) rfl rfl ?_
          refine r_aload_n C dX3_endsAct_104 rfl 1 rfl rfl ?_
          refine r_get C dX3_endsAct_105 fw_X3_endsAct_X3 0 rfl rfl 2 (by decide) rfl fl_X3_endsAct_27 rfl rfl ?_
          refine r_if_ne (y := 0) (tgt := 115) C dX3_endsAct_108 rfl rfl (fun c14 => ?_) (fun c14 => ?_)
          · have hf := gd_f c14 hf
            refine r_iconst C dX3_endsAct_115 kk_i_0 rfl ?_
            cases hf
            exact r_zret C dX3_endsAct_116 nb0 rfl
          · have hf := gd_t c14 hf
            refine r_iconst C dX3_endsAct_111 kk_i_1 rfl ?_
            refine r_goto (tgt := 116) C dX3_endsAct_112 rfl ?_
            cases hf
            exact r_zret C dX3_endsAct_116 nb1 rfl
        · have hf := gd_t c12 hf
          refine r_aload_n C dX3_endsAct_84 rfl 1 rfl rfl ?_
          refine r_iload_n C dX3_endsAct_85 rfl 0 rfl rfl ?_
          refine r_bipush C dX3_endsAct_86 kk_b_48 rfl ?_
          refine r_isub C dX3_endsAct_88 rfl ?_
          refine r_put (ty := .int) (ws' := [(h, oX3 A count awaited actor (signs u1.toNatClampNeg) ((signs u1.toNatClampNeg) - (48 : Int32))), ((A 0), aI cI 60 signs)]) C dX3_endsAct_89 fw_X3_endsAct_X3 tyX3 tyX3_ok nmX3 0 rfl rfl 5 (by decide) rfl fl_X3_endsAct_36 rfl (by decide +kernel) rfl rfl (Nat.le_of_ble_eq_true rfl) rfl rfl ?_
          refine r_aload_n C dX3_endsAct_92 rfl 1 rfl rfl ?_
          refine r_aload_n C dX3_endsAct_93 rfl 1 rfl rfl ?_
          refine r_get C dX3_endsAct_94 fw_X3_endsAct_X3 0 rfl rfl 2 (by decide) rfl fl_X3_endsAct_27 rfl rfl ?_
          refine r_iload_n C dX3_endsAct_97 rfl 0 rfl rfl ?_
          obtain ⟨r15, e15, hf⟩ := gd_b hf
          refine o_I (wn := [(h, oX3 A count awaited actor (signs u1.toNatClampNeg) ((signs u1.toNatClampNeg) - (48 : Int32))), ((A 0), aI cI 60 signs)]) C [] rfl (x_S C dX3_endsAct_98 (c_X3_awaitedAfter l D cI cZ cG awaited (signs u1.toNatClampNeg) r15 e15) rfl gX3_endsAct_X3_awaitedAfter hs_X3_awaitedAfter rfl ⟨Nat.le_of_ble_eq_true rfl, Nat.le_of_ble_eq_true rfl⟩ ⟨rfl, rfl⟩ ⟨Nat.zero_le _, Nat.zero_le _⟩ rfl [] rfl rfl (Nat.le_of_ble_eq_true rfl) rfl) rfl rfl rfl ?_
          refine r_put (ty := .int) (ws' := [(h, oX3 A count r15 actor (signs u1.toNatClampNeg) ((signs u1.toNatClampNeg) - (48 : Int32))), ((A 0), aI cI 60 signs)]) C dX3_endsAct_101 fw_X3_endsAct_X3 tyX3 tyX3_ok nmX3 0 rfl rfl 2 (by decide) rfl fl_X3_endsAct_27 rfl (by decide +kernel) rfl rfl (Nat.le_of_ble_eq_true rfl) rfl rfl ?_
          refine r_aload_n C dX3_endsAct_104 rfl 1 rfl rfl ?_
          refine r_get C dX3_endsAct_105 fw_X3_endsAct_X3 0 rfl rfl 2 (by decide) rfl fl_X3_endsAct_27 rfl rfl ?_
          refine r_if_ne (y := 0) (tgt := 115) C dX3_endsAct_108 rfl rfl (fun c16 => ?_) (fun c16 => ?_)
          · have hf := gd_f c16 hf
            refine r_iconst C dX3_endsAct_115 kk_i_0 rfl ?_
            cases hf
            exact r_zret C dX3_endsAct_116 nb0 rfl
          · have hf := gd_t c16 hf
            refine r_iconst C dX3_endsAct_111 kk_i_1 rfl ?_
            refine r_goto (tgt := 116) C dX3_endsAct_112 rfl ?_
            cases hf
            exact r_zret C dX3_endsAct_116 nb1 rfl
    · have hf := gd_t c4 hf
      refine r_iload_n C dX3_endsAct_30 rfl 0 rfl rfl ?_
      refine r_bipush C dX3_endsAct_31 kk_b_46 rfl ?_
      refine r_icmp_ne (tgt := 42) C dX3_endsAct_33 rfl rfl (fun c17 => ?_) (fun c17 => ?_)
      · have hf := gd_f c17 hf
        refine r_aload_n C dX3_endsAct_42 rfl 1 rfl rfl ?_
        refine r_get C dX3_endsAct_43 fw_X3_endsAct_X3 0 rfl rfl 2 (by decide) rfl fl_X3_endsAct_27 rfl rfl ?_
        refine r_if_ne (y := 0) (tgt := 63) C dX3_endsAct_46 rfl rfl (fun c18 => absurd c4 c18) (fun _ => ?_)
        refine r_iload_n C dX3_endsAct_49 rfl 0 rfl rfl ?_
        refine r_bipush C dX3_endsAct_50 kk_b_46 rfl ?_
        refine r_icmp_eq (tgt := 63) C dX3_endsAct_52 rfl rfl (fun c19 => absurd c19 c17) (fun _ => ?_)
        refine r_aload_n C dX3_endsAct_55 rfl 1 rfl rfl ?_
        refine r_iload_n C dX3_endsAct_56 rfl 0 rfl rfl ?_
        refine r_bipush C dX3_endsAct_57 kk_b_65 rfl ?_
        refine r_isub C dX3_endsAct_59 rfl ?_
        refine r_put (ty := .int) (ws' := [(h, oX3 A count awaited ((signs u1.toNatClampNeg) - (65 : Int32)) kind amount), ((A 0), aI cI 60 signs)]) C dX3_endsAct_60 fw_X3_endsAct_X3 tyX3 tyX3_ok nmX3 0 rfl rfl 3 (by decide) rfl fl_X3_endsAct_30 rfl (by decide +kernel) rfl rfl (Nat.le_of_ble_eq_true rfl) rfl rfl ?_
        refine r_aload_n C dX3_endsAct_63 rfl 1 rfl rfl ?_
        refine r_get C dX3_endsAct_64 fw_X3_endsAct_X3 0 rfl rfl 2 (by decide) rfl fl_X3_endsAct_27 rfl rfl ?_
        refine r_iconst C dX3_endsAct_67 kk_i_1 rfl ?_
        refine r_icmp_ne (tgt := 76) C dX3_endsAct_68 rfl rfl (fun c20 => ?_) (fun c20 => ?_)
        · have hf := gd_f c20 hf
          refine r_aload_n C dX3_endsAct_76 rfl 1 rfl rfl ?_
          refine r_get C dX3_endsAct_77 fw_X3_endsAct_X3 0 rfl rfl 2 (by decide) rfl fl_X3_endsAct_27 rfl rfl ?_
          refine r_iconst C dX3_endsAct_80 kk_i_2 rfl ?_
          refine r_icmp_ne (tgt := 92) C dX3_endsAct_81 rfl rfl (fun c21 => ?_) (fun c21 => ?_)
          · have hf := gd_f c21 hf
            refine r_aload_n C dX3_endsAct_92 rfl 1 rfl rfl ?_
            refine r_aload_n C dX3_endsAct_93 rfl 1 rfl rfl ?_
            refine r_get C dX3_endsAct_94 fw_X3_endsAct_X3 0 rfl rfl 2 (by decide) rfl fl_X3_endsAct_27 rfl rfl ?_
            refine r_iload_n C dX3_endsAct_97 rfl 0 rfl rfl ?_
            obtain ⟨r22, e22, hf⟩ := gd_b hf
            refine o_I (wn := [(h, oX3 A count awaited ((signs u1.toNatClampNeg) - (65 : Int32)) kind amount), ((A 0), aI cI 60 signs)]) C [] rfl (x_S C dX3_endsAct_98 (c_X3_awaitedAfter l D cI cZ cG awaited (signs u1.toNatClampNeg) r22 e22) rfl gX3_endsAct_X3_awaitedAfter hs_X3_awaitedAfter rfl ⟨Nat.le_of_ble_eq_true rfl, Nat.le_of_ble_eq_true rfl⟩ ⟨rfl, rfl⟩ ⟨Nat.zero_le _, Nat.zero_le _⟩ rfl [] rfl rfl (Nat.le_of_ble_eq_true rfl) rfl) rfl rfl rfl ?_
            refine r_put (ty := .int) (ws' := [(h, oX3 A count r22 ((signs u1.toNatClampNeg) - (65 : Int32)) kind amount), ((A 0), aI cI 60 signs)]) C dX3_endsAct_101 fw_X3_endsAct_X3 tyX3 tyX3_ok nmX3 0 rfl rfl 2 (by decide) rfl fl_X3_endsAct_27 rfl (by decide +kernel) rfl rfl (Nat.le_of_ble_eq_true rfl) rfl rfl ?_
            refine r_aload_n C dX3_endsAct_104 rfl 1 rfl rfl ?_
            refine r_get C dX3_endsAct_105 fw_X3_endsAct_X3 0 rfl rfl 2 (by decide) rfl fl_X3_endsAct_27 rfl rfl ?_
            refine r_if_ne (y := 0) (tgt := 115) C dX3_endsAct_108 rfl rfl (fun c23 => ?_) (fun c23 => ?_)
            · have hf := gd_f c23 hf
              refine r_iconst C dX3_endsAct_115 kk_i_0 rfl ?_
              cases hf
              exact r_zret C dX3_endsAct_116 nb0 rfl
            · have hf := gd_t c23 hf
              refine r_iconst C dX3_endsAct_111 kk_i_1 rfl ?_
              refine r_goto (tgt := 116) C dX3_endsAct_112 rfl ?_
              cases hf
              exact r_zret C dX3_endsAct_116 nb1 rfl
          · have hf := gd_t c21 hf
            refine r_aload_n C dX3_endsAct_84 rfl 1 rfl rfl ?_
            refine r_iload_n C dX3_endsAct_85 rfl 0 rfl rfl ?_
            refine r_bipush C dX3_endsAct_86 kk_b_48 rfl ?_
            refine r_isub C dX3_endsAct_88 rfl ?_
            refine r_put (ty := .int) (ws' := [(h, oX3 A count awaited ((signs u1.toNatClampNeg) - (65 : Int32)) kind ((signs u1.toNatClampNeg) - (48 : Int32))), ((A 0), aI cI 60 signs)]) C dX3_endsAct_89 fw_X3_endsAct_X3 tyX3 tyX3_ok nmX3 0 rfl rfl 5 (by decide) rfl fl_X3_endsAct_36 rfl (by decide +kernel) rfl rfl (Nat.le_of_ble_eq_true rfl) rfl rfl ?_
            refine r_aload_n C dX3_endsAct_92 rfl 1 rfl rfl ?_
            refine r_aload_n C dX3_endsAct_93 rfl 1 rfl rfl ?_
            refine r_get C dX3_endsAct_94 fw_X3_endsAct_X3 0 rfl rfl 2 (by decide) rfl fl_X3_endsAct_27 rfl rfl ?_
            refine r_iload_n C dX3_endsAct_97 rfl 0 rfl rfl ?_
            obtain ⟨r24, e24, hf⟩ := gd_b hf
            refine o_I (wn := [(h, oX3 A count awaited ((signs u1.toNatClampNeg) - (65 : Int32)) kind ((signs u1.toNatClampNeg) - (48 : Int32))), ((A 0), aI cI 60 signs)]) C [] rfl (x_S C dX3_endsAct_98 (c_X3_awaitedAfter l D cI cZ cG awaited (signs u1.toNatClampNeg) r24 e24) rfl gX3_endsAct_X3_awaitedAfter hs_X3_awaitedAfter rfl ⟨Nat.le_of_ble_eq_true rfl, Nat.le_of_ble_eq_true rfl⟩ ⟨rfl, rfl⟩ ⟨Nat.zero_le _, Nat.zero_le _⟩ rfl [] rfl rfl (Nat.le_of_ble_eq_true rfl) rfl) rfl rfl rfl ?_
            refine r_put (ty := .int) (ws' := [(h, oX3 A count r24 ((signs u1.toNatClampNeg) - (65 : Int32)) kind ((signs u1.toNatClampNeg) - (48 : Int32))), ((A 0), aI cI 60 signs)]) C dX3_endsAct_101 fw_X3_endsAct_X3 tyX3 tyX3_ok nmX3 0 rfl rfl 2 (by decide) rfl fl_X3_endsAct_27 rfl (by decide +kernel) rfl rfl (Nat.le_of_ble_eq_true rfl) rfl rfl ?_
            refine r_aload_n C dX3_endsAct_104 rfl 1 rfl rfl ?_
            refine r_get C dX3_endsAct_105 fw_X3_endsAct_X3 0 rfl rfl 2 (by decide) rfl fl_X3_endsAct_27 rfl rfl ?_
            refine r_if_ne (y := 0) (tgt := 115) C dX3_endsAct_108 rfl rfl (fun c25 => ?_) (fun c25 => ?_)
            · have hf := gd_f c25 hf
              refine r_iconst C dX3_endsAct_115 kk_i_0 rfl ?_
              cases hf
              exact r_zret C dX3_endsAct_116 nb0 rfl
            · have hf := gd_t c25 hf
              refine r_iconst C dX3_endsAct_111 kk_i_1 rfl ?_
              refine r_goto (tgt := 116) C dX3_endsAct_112 rfl ?_
              cases hf
              exact r_zret C dX3_endsAct_116 nb1 rfl
        · have hf := gd_t c20 hf
          refine r_aload_n C dX3_endsAct_71 rfl 1 rfl rfl ?_
          refine r_iload_n C dX3_endsAct_72 rfl 0 rfl rfl ?_
          refine r_put (ty := .int) (ws' := [(h, oX3 A count awaited ((signs u1.toNatClampNeg) - (65 : Int32)) (signs u1.toNatClampNeg) amount), ((A 0), aI cI 60 signs)]) C dX3_endsAct_73 fw_X3_endsAct_X3 tyX3 tyX3_ok nmX3 0 rfl rfl 4 (by decide) rfl fl_X3_endsAct_33 rfl (by decide +kernel) rfl rfl (Nat.le_of_ble_eq_true rfl) rfl rfl ?_
          refine r_aload_n C dX3_endsAct_76 rfl 1 rfl rfl ?_
          refine r_get C dX3_endsAct_77 fw_X3_endsAct_X3 0 rfl rfl 2 (by decide) rfl fl_X3_endsAct_27 rfl rfl ?_
          refine r_iconst C dX3_endsAct_80 kk_i_2 rfl ?_
          refine r_icmp_ne (tgt := 92) C dX3_endsAct_81 rfl rfl (fun c26 => ?_) (fun c26 => ?_)
          · have hf := gd_f c26 hf
            refine r_aload_n C dX3_endsAct_92 rfl 1 rfl rfl ?_
            refine r_aload_n C dX3_endsAct_93 rfl 1 rfl rfl ?_
            refine r_get C dX3_endsAct_94 fw_X3_endsAct_X3 0 rfl rfl 2 (by decide) rfl fl_X3_endsAct_27 rfl rfl ?_
            refine r_iload_n C dX3_endsAct_97 rfl 0 rfl rfl ?_
            obtain ⟨r27, e27, hf⟩ := gd_b hf
            refine o_I (wn := [(h, oX3 A count awaited ((signs u1.toNatClampNeg) - (65 : Int32)) (signs u1.toNatClampNeg) amount), ((A 0), aI cI 60 signs)]) C [] rfl (x_S C dX3_endsAct_98 (c_X3_awaitedAfter l D cI cZ cG awaited (signs u1.toNatClampNeg) r27 e27) rfl gX3_endsAct_X3_awaitedAfter hs_X3_awaitedAfter rfl ⟨Nat.le_of_ble_eq_true rfl, Nat.le_of_ble_eq_true rfl⟩ ⟨rfl, rfl⟩ ⟨Nat.zero_le _, Nat.zero_le _⟩ rfl [] rfl rfl (Nat.le_of_ble_eq_true rfl) rfl) rfl rfl rfl ?_
            refine r_put (ty := .int) (ws' := [(h, oX3 A count r27 ((signs u1.toNatClampNeg) - (65 : Int32)) (signs u1.toNatClampNeg) amount), ((A 0), aI cI 60 signs)]) C dX3_endsAct_101 fw_X3_endsAct_X3 tyX3 tyX3_ok nmX3 0 rfl rfl 2 (by decide) rfl fl_X3_endsAct_27 rfl (by decide +kernel) rfl rfl (Nat.le_of_ble_eq_true rfl) rfl rfl ?_
            refine r_aload_n C dX3_endsAct_104 rfl 1 rfl rfl ?_
            refine r_get C dX3_endsAct_105 fw_X3_endsAct_X3 0 rfl rfl 2 (by decide) rfl fl_X3_endsAct_27 rfl rfl ?_
            refine r_if_ne (y := 0) (tgt := 115) C dX3_endsAct_108 rfl rfl (fun c28 => ?_) (fun c28 => ?_)
            · have hf := gd_f c28 hf
              refine r_iconst C dX3_endsAct_115 kk_i_0 rfl ?_
              cases hf
              exact r_zret C dX3_endsAct_116 nb0 rfl
            · have hf := gd_t c28 hf
              refine r_iconst C dX3_endsAct_111 kk_i_1 rfl ?_
              refine r_goto (tgt := 116) C dX3_endsAct_112 rfl ?_
              cases hf
              exact r_zret C dX3_endsAct_116 nb1 rfl
          · have hf := gd_t c26 hf
            refine r_aload_n C dX3_endsAct_84 rfl 1 rfl rfl ?_
            refine r_iload_n C dX3_endsAct_85 rfl 0 rfl rfl ?_
            refine r_bipush C dX3_endsAct_86 kk_b_48 rfl ?_
            refine r_isub C dX3_endsAct_88 rfl ?_
            refine r_put (ty := .int) (ws' := [(h, oX3 A count awaited ((signs u1.toNatClampNeg) - (65 : Int32)) (signs u1.toNatClampNeg) ((signs u1.toNatClampNeg) - (48 : Int32))), ((A 0), aI cI 60 signs)]) C dX3_endsAct_89 fw_X3_endsAct_X3 tyX3 tyX3_ok nmX3 0 rfl rfl 5 (by decide) rfl fl_X3_endsAct_36 rfl (by decide +kernel) rfl rfl (Nat.le_of_ble_eq_true rfl) rfl rfl ?_
            refine r_aload_n C dX3_endsAct_92 rfl 1 rfl rfl ?_
            refine r_aload_n C dX3_endsAct_93 rfl 1 rfl rfl ?_
            refine r_get C dX3_endsAct_94 fw_X3_endsAct_X3 0 rfl rfl 2 (by decide) rfl fl_X3_endsAct_27 rfl rfl ?_
            refine r_iload_n C dX3_endsAct_97 rfl 0 rfl rfl ?_
            obtain ⟨r29, e29, hf⟩ := gd_b hf
            refine o_I (wn := [(h, oX3 A count awaited ((signs u1.toNatClampNeg) - (65 : Int32)) (signs u1.toNatClampNeg) ((signs u1.toNatClampNeg) - (48 : Int32))), ((A 0), aI cI 60 signs)]) C [] rfl (x_S C dX3_endsAct_98 (c_X3_awaitedAfter l D cI cZ cG awaited (signs u1.toNatClampNeg) r29 e29) rfl gX3_endsAct_X3_awaitedAfter hs_X3_awaitedAfter rfl ⟨Nat.le_of_ble_eq_true rfl, Nat.le_of_ble_eq_true rfl⟩ ⟨rfl, rfl⟩ ⟨Nat.zero_le _, Nat.zero_le _⟩ rfl [] rfl rfl (Nat.le_of_ble_eq_true rfl) rfl) rfl rfl rfl ?_
            refine r_put (ty := .int) (ws' := [(h, oX3 A count r29 ((signs u1.toNatClampNeg) - (65 : Int32)) (signs u1.toNatClampNeg) ((signs u1.toNatClampNeg) - (48 : Int32))), ((A 0), aI cI 60 signs)]) C dX3_endsAct_101 fw_X3_endsAct_X3 tyX3 tyX3_ok nmX3 0 rfl rfl 2 (by decide) rfl fl_X3_endsAct_27 rfl (by decide +kernel) rfl rfl (Nat.le_of_ble_eq_true rfl) rfl rfl ?_
            refine r_aload_n C dX3_endsAct_104 rfl 1 rfl rfl ?_
            refine r_get C dX3_endsAct_105 fw_X3_endsAct_X3 0 rfl rfl 2 (by decide) rfl fl_X3_endsAct_27 rfl rfl ?_
            refine r_if_ne (y := 0) (tgt := 115) C dX3_endsAct_108 rfl rfl (fun c30 => ?_) (fun c30 => ?_)
            · have hf := gd_f c30 hf
              refine r_iconst C dX3_endsAct_115 kk_i_0 rfl ?_
              cases hf
              exact r_zret C dX3_endsAct_116 nb0 rfl
            · have hf := gd_t c30 hf
              refine r_iconst C dX3_endsAct_111 kk_i_1 rfl ?_
              refine r_goto (tgt := 116) C dX3_endsAct_112 rfl ?_
              cases hf
              exact r_zret C dX3_endsAct_116 nb1 rfl
      · have hf := gd_t c17 hf
        refine r_aload_n C dX3_endsAct_36 rfl 1 rfl rfl ?_
        refine r_bipush C dX3_endsAct_37 kk_b_46 rfl ?_
        refine r_put (ty := .int) (ws' := [(h, oX3 A count awaited actor (46 : Int32) amount), ((A 0), aI cI 60 signs)]) C dX3_endsAct_39 fw_X3_endsAct_X3 tyX3 tyX3_ok nmX3 0 rfl rfl 4 (by decide) rfl fl_X3_endsAct_33 rfl (by decide +kernel) rfl rfl (Nat.le_of_ble_eq_true rfl) rfl rfl ?_
        refine r_aload_n C dX3_endsAct_42 rfl 1 rfl rfl ?_
        refine r_get C dX3_endsAct_43 fw_X3_endsAct_X3 0 rfl rfl 2 (by decide) rfl fl_X3_endsAct_27 rfl rfl ?_
        refine r_if_ne (y := 0) (tgt := 63) C dX3_endsAct_46 rfl rfl (fun c31 => absurd c4 c31) (fun _ => ?_)
        refine r_iload_n C dX3_endsAct_49 rfl 0 rfl rfl ?_
        refine r_bipush C dX3_endsAct_50 kk_b_46 rfl ?_
        refine r_icmp_eq (tgt := 63) C dX3_endsAct_52 rfl rfl (fun _ => ?_) (fun c32 => absurd c17 c32)
        refine r_aload_n C dX3_endsAct_63 rfl 1 rfl rfl ?_
        refine r_get C dX3_endsAct_64 fw_X3_endsAct_X3 0 rfl rfl 2 (by decide) rfl fl_X3_endsAct_27 rfl rfl ?_
        refine r_iconst C dX3_endsAct_67 kk_i_1 rfl ?_
        refine r_icmp_ne (tgt := 76) C dX3_endsAct_68 rfl rfl (fun c33 => ?_) (fun c33 => ?_)
        · have hf := gd_f c33 hf
          refine r_aload_n C dX3_endsAct_76 rfl 1 rfl rfl ?_
          refine r_get C dX3_endsAct_77 fw_X3_endsAct_X3 0 rfl rfl 2 (by decide) rfl fl_X3_endsAct_27 rfl rfl ?_
          refine r_iconst C dX3_endsAct_80 kk_i_2 rfl ?_
          refine r_icmp_ne (tgt := 92) C dX3_endsAct_81 rfl rfl (fun c34 => ?_) (fun c34 => ?_)
          · have hf := gd_f c34 hf
            refine r_aload_n C dX3_endsAct_92 rfl 1 rfl rfl ?_
            refine r_aload_n C dX3_endsAct_93 rfl 1 rfl rfl ?_
            refine r_get C dX3_endsAct_94 fw_X3_endsAct_X3 0 rfl rfl 2 (by decide) rfl fl_X3_endsAct_27 rfl rfl ?_
            refine r_iload_n C dX3_endsAct_97 rfl 0 rfl rfl ?_
            obtain ⟨r35, e35, hf⟩ := gd_b hf
            refine o_I (wn := [(h, oX3 A count awaited actor (46 : Int32) amount), ((A 0), aI cI 60 signs)]) C [] rfl (x_S C dX3_endsAct_98 (c_X3_awaitedAfter l D cI cZ cG awaited (signs u1.toNatClampNeg) r35 e35) rfl gX3_endsAct_X3_awaitedAfter hs_X3_awaitedAfter rfl ⟨Nat.le_of_ble_eq_true rfl, Nat.le_of_ble_eq_true rfl⟩ ⟨rfl, rfl⟩ ⟨Nat.zero_le _, Nat.zero_le _⟩ rfl [] rfl rfl (Nat.le_of_ble_eq_true rfl) rfl) rfl rfl rfl ?_
            refine r_put (ty := .int) (ws' := [(h, oX3 A count r35 actor (46 : Int32) amount), ((A 0), aI cI 60 signs)]) C dX3_endsAct_101 fw_X3_endsAct_X3 tyX3 tyX3_ok nmX3 0 rfl rfl 2 (by decide) rfl fl_X3_endsAct_27 rfl (by decide +kernel) rfl rfl (Nat.le_of_ble_eq_true rfl) rfl rfl ?_
            refine r_aload_n C dX3_endsAct_104 rfl 1 rfl rfl ?_
            refine r_get C dX3_endsAct_105 fw_X3_endsAct_X3 0 rfl rfl 2 (by decide) rfl fl_X3_endsAct_27 rfl rfl ?_
            refine r_if_ne (y := 0) (tgt := 115) C dX3_endsAct_108 rfl rfl (fun c36 => ?_) (fun c36 => ?_)
            · have hf := gd_f c36 hf
              refine r_iconst C dX3_endsAct_115 kk_i_0 rfl ?_
              cases hf
              exact r_zret C dX3_endsAct_116 nb0 rfl
            · have hf := gd_t c36 hf
              refine r_iconst C dX3_endsAct_111 kk_i_1 rfl ?_
              refine r_goto (tgt := 116) C dX3_endsAct_112 rfl ?_
              cases hf
              exact r_zret C dX3_endsAct_116 nb1 rfl
          · have hf := gd_t c34 hf
            refine r_aload_n C dX3_endsAct_84 rfl 1 rfl rfl ?_
            refine r_iload_n C dX3_endsAct_85 rfl 0 rfl rfl ?_
            refine r_bipush C dX3_endsAct_86 kk_b_48 rfl ?_
            refine r_isub C dX3_endsAct_88 rfl ?_
            refine r_put (ty := .int) (ws' := [(h, oX3 A count awaited actor (46 : Int32) ((signs u1.toNatClampNeg) - (48 : Int32))), ((A 0), aI cI 60 signs)]) C dX3_endsAct_89 fw_X3_endsAct_X3 tyX3 tyX3_ok nmX3 0 rfl rfl 5 (by decide) rfl fl_X3_endsAct_36 rfl (by decide +kernel) rfl rfl (Nat.le_of_ble_eq_true rfl) rfl rfl ?_
            refine r_aload_n C dX3_endsAct_92 rfl 1 rfl rfl ?_
            refine r_aload_n C dX3_endsAct_93 rfl 1 rfl rfl ?_
            refine r_get C dX3_endsAct_94 fw_X3_endsAct_X3 0 rfl rfl 2 (by decide) rfl fl_X3_endsAct_27 rfl rfl ?_
            refine r_iload_n C dX3_endsAct_97 rfl 0 rfl rfl ?_
            obtain ⟨r37, e37, hf⟩ := gd_b hf
            refine o_I (wn := [(h, oX3 A count awaited actor (46 : Int32) ((signs u1.toNatClampNeg) - (48 : Int32))), ((A 0), aI cI 60 signs)]) C [] rfl (x_S C dX3_endsAct_98 (c_X3_awaitedAfter l D cI cZ cG awaited (signs u1.toNatClampNeg) r37 e37) rfl gX3_endsAct_X3_awaitedAfter hs_X3_awaitedAfter rfl ⟨Nat.le_of_ble_eq_true rfl, Nat.le_of_ble_eq_true rfl⟩ ⟨rfl, rfl⟩ ⟨Nat.zero_le _, Nat.zero_le _⟩ rfl [] rfl rfl (Nat.le_of_ble_eq_true rfl) rfl) rfl rfl rfl ?_
            refine r_put (ty := .int) (ws' := [(h, oX3 A count r37 actor (46 : Int32) ((signs u1.toNatClampNeg) - (48 : Int32))), ((A 0), aI cI 60 signs)]) C dX3_endsAct_101 fw_X3_endsAct_X3 tyX3 tyX3_ok nmX3 0 rfl rfl 2 (by decide) rfl fl_X3_endsAct_27 rfl (by decide +kernel) rfl rfl (Nat.le_of_ble_eq_true rfl) rfl rfl ?_
            refine r_aload_n C dX3_endsAct_104 rfl 1 rfl rfl ?_
            refine r_get C dX3_endsAct_105 fw_X3_endsAct_X3 0 rfl rfl 2 (by decide) rfl fl_X3_endsAct_27 rfl rfl ?_
            refine r_if_ne (y := 0) (tgt := 115) C dX3_endsAct_108 rfl rfl (fun c38 => ?_) (fun c38 => ?_)
            · have hf := gd_f c38 hf
              refine r_iconst C dX3_endsAct_115 kk_i_0 rfl ?_
              cases hf
              exact r_zret C dX3_endsAct_116 nb0 rfl
            · have hf := gd_t c38 hf
              refine r_iconst C dX3_endsAct_111 kk_i_1 rfl ?_
              refine r_goto (tgt := 116) C dX3_endsAct_112 rfl ?_
              cases hf
              exact r_zret C dX3_endsAct_116 nb1 rfl
        · have hf := gd_t c33 hf
          refine r_aload_n C dX3_endsAct_71 rfl 1 rfl rfl ?_
          refine r_iload_n C dX3_endsAct_72 rfl 0 rfl rfl ?_
          refine r_put (ty := .int) (ws' := [(h, oX3 A count awaited actor (signs u1.toNatClampNeg) amount), ((A 0), aI cI 60 signs)]) C dX3_endsAct_73 fw_X3_endsAct_X3 tyX3 tyX3_ok nmX3 0 rfl rfl 4 (by decide) rfl fl_X3_endsAct_33 rfl (by decide +kernel) rfl rfl (Nat.le_of_ble_eq_true rfl) rfl rfl ?_
          refine r_aload_n C dX3_endsAct_76 rfl 1 rfl rfl ?_
          refine r_get C dX3_endsAct_77 fw_X3_endsAct_X3 0 rfl rfl 2 (by decide) rfl fl_X3_endsAct_27 rfl rfl ?_
          refine r_iconst C dX3_endsAct_80 kk_i_2 rfl ?_
          refine r_icmp_ne (tgt := 92) C dX3_endsAct_81 rfl rfl (fun c39 => ?_) (fun c39 => ?_)
          · have hf := gd_f c39 hf
            refine r_aload_n C dX3_endsAct_92 rfl 1 rfl rfl ?_
            refine r_aload_n C dX3_endsAct_93 rfl 1 rfl rfl ?_
            refine r_get C dX3_endsAct_94 fw_X3_endsAct_X3 0 rfl rfl 2 (by decide) rfl fl_X3_endsAct_27 rfl rfl ?_
            refine r_iload_n C dX3_endsAct_97 rfl 0 rfl rfl ?_
            obtain ⟨r40, e40, hf⟩ := gd_b hf
            refine o_I (wn := [(h, oX3 A count awaited actor (signs u1.toNatClampNeg) amount), ((A 0), aI cI 60 signs)]) C [] rfl (x_S C dX3_endsAct_98 (c_X3_awaitedAfter l D cI cZ cG awaited (signs u1.toNatClampNeg) r40 e40) rfl gX3_endsAct_X3_awaitedAfter hs_X3_awaitedAfter rfl ⟨Nat.le_of_ble_eq_true rfl, Nat.le_of_ble_eq_true rfl⟩ ⟨rfl, rfl⟩ ⟨Nat.zero_le _, Nat.zero_le _⟩ rfl [] rfl rfl (Nat.le_of_ble_eq_true rfl) rfl) rfl rfl rfl ?_
            refine r_put (ty := .int) (ws' := [(h, oX3 A count r40 actor (signs u1.toNatClampNeg) amount), ((A 0), aI cI 60 signs)]) C dX3_endsAct_101 fw_X3_endsAct_X3 tyX3 tyX3_ok nmX3 0 rfl rfl 2 (by decide) rfl fl_X3_endsAct_27 rfl (by decide +kernel) rfl rfl (Nat.le_of_ble_eq_true rfl) rfl rfl ?_
            refine r_aload_n C dX3_endsAct_104 rfl 1 rfl rfl ?_
            refine r_get C dX3_endsAct_105 fw_X3_endsAct_X3 0 rfl rfl 2 (by decide) rfl fl_X3_endsAct_27 rfl rfl ?_
            refine r_if_ne (y := 0) (tgt := 115) C dX3_endsAct_108 rfl rfl (fun c41 => ?_) (fun c41 => ?_)
            · have hf := gd_f c41 hf
              refine r_iconst C dX3_endsAct_115 kk_i_0 rfl ?_
              cases hf
              exact r_zret C dX3_endsAct_116 nb0 rfl
            · have hf := gd_t c41 hf
              refine r_iconst C dX3_endsAct_111 kk_i_1 rfl ?_
              refine r_goto (tgt := 116) C dX3_endsAct_112 rfl ?_
              cases hf
              exact r_zret C dX3_endsAct_116 nb1 rfl
          · have hf := gd_t c39 hf
            refine r_aload_n C dX3_endsAct_84 rfl 1 rfl rfl ?_
            refine r_iload_n C dX3_endsAct_85 rfl 0 rfl rfl ?_
            refine r_bipush C dX3_endsAct_86 kk_b_48 rfl ?_
            refine r_isub C dX3_endsAct_88 rfl ?_
            refine r_put (ty := .int) (ws' := [(h, oX3 A count awaited actor (signs u1.toNatClampNeg) ((signs u1.toNatClampNeg) - (48 : Int32))), ((A 0), aI cI 60 signs)]) C dX3_endsAct_89 fw_X3_endsAct_X3 tyX3 tyX3_ok nmX3 0 rfl rfl 5 (by decide) rfl fl_X3_endsAct_36 rfl (by decide +kernel) rfl rfl (Nat.le_of_ble_eq_true rfl) rfl rfl ?_
            refine r_aload_n C dX3_endsAct_92 rfl 1 rfl rfl ?_
            refine r_aload_n C dX3_endsAct_93 rfl 1 rfl rfl ?_
            refine r_get C dX3_endsAct_94 fw_X3_endsAct_X3 0 rfl rfl 2 (by decide) rfl fl_X3_endsAct_27 rfl rfl ?_
            refine r_iload_n C dX3_endsAct_97 rfl 0 rfl rfl ?_
            obtain ⟨r42, e42, hf⟩ := gd_b hf
            refine o_I (wn := [(h, oX3 A count awaited actor (signs u1.toNatClampNeg) ((signs u1.toNatClampNeg) - (48 : Int32))), ((A 0), aI cI 60 signs)]) C [] rfl (x_S C dX3_endsAct_98 (c_X3_awaitedAfter l D cI cZ cG awaited (signs u1.toNatClampNeg) r42 e42) rfl gX3_endsAct_X3_awaitedAfter hs_X3_awaitedAfter rfl ⟨Nat.le_of_ble_eq_true rfl, Nat.le_of_ble_eq_true rfl⟩ ⟨rfl, rfl⟩ ⟨Nat.zero_le _, Nat.zero_le _⟩ rfl [] rfl rfl (Nat.le_of_ble_eq_true rfl) rfl) rfl rfl rfl ?_
            refine r_put (ty := .int) (ws' := [(h, oX3 A count r42 actor (signs u1.toNatClampNeg) ((signs u1.toNatClampNeg) - (48 : Int32))), ((A 0), aI cI 60 signs)]) C dX3_endsAct_101 fw_X3_endsAct_X3 tyX3 tyX3_ok nmX3 0 rfl rfl 2 (by decide) rfl fl_X3_endsAct_27 rfl (by decide +kernel) rfl rfl (Nat.le_of_ble_eq_true rfl) rfl rfl ?_
            refine r_aload_n C dX3_endsAct_104 rfl 1 rfl rfl ?_
            refine r_get C dX3_endsAct_105 fw_X3_endsAct_X3 0 rfl rfl 2 (by decide) rfl fl_X3_endsAct_27 rfl rfl ?_
            refine r_if_ne (y := 0) (tgt := 115) C dX3_endsAct_108 rfl rfl (fun c43 => ?_) (fun c43 => ?_)
            · have hf := gd_f c43 hf
              refine r_iconst C dX3_endsAct_115 kk_i_0 rfl ?_
              cases hf
              exact r_zret C dX3_endsAct_116 nb0 rfl
            · have hf := gd_t c43 hf
              refine r_iconst C dX3_endsAct_111 kk_i_1 rfl ?_
              refine r_goto (tgt := 116) C dX3_endsAct_112 rfl ?_
              cases hf
              exact r_zret C dX3_endsAct_116 nb1 rfl
  · have hf := gd_t c2 hf
    refine r_iconst C dX3_endsAct_14 kk_i_0 rfl ?_
    cases hf
    exact r_zret C dX3_endsAct_15 nb0 rfl
theorem wm_X4_takeDigits_min_32 : Cond.methodLink RX4 32 Lib.Math.min.name ∈ wsX4_takeDigits := by decide +kernel
theorem wm_X4_takeDigits_min_s : Cond.static Lib.Math.min.name ∈ wsX4_takeDigits := by decide +kernel
theorem wm_X4_takeDigits_i : Cond.initialized "java/lang/Math" ∈ wsX4_takeDigits := by decide +kernel
theorem wm_X4_takeDigits_min_c : Cond.code Lib.Math.min.name Lib.Math.min.code 2 (some .int) ∈ wsX4_takeDigits := by decide +kernel
theorem fw_X4_takeDigits_X4 : ∀ w ∈ u_ws RX4 TX4 6, w ∈ wsX4_takeDigits := by decide +kernel
theorem fl_X4_takeDigits_9 : Cond.fieldLink RX4 9 "MittenLine$Puzzles" "digits" "[I" ∈ wsX4_takeDigits := by decide +kernel
abbrev rm_X4_takeDigits : Jvm.Room := { frames := 1, cells := 0, slots := 0, locals := 24 }
def f_X4_takeDigits_15 (u3 : Int32) : Nat → Int32 → Int32 → (Nat → Int32) → Option (Int32 × (Nat → Int32))
  | 0, _, _, _ => none
  | n + 1, u4, u5, digits => if u5 < 0 then some (u3, digits) else if u5 < 0 ∨ 9 ≤ u5.toNatClampNeg then none else f_X4_takeDigits_15 u3 n (u4 / (10 : Int32)) (u5 + (-1 : Int32)) (upd digits u5.toNatClampNeg (u4 - u4 / (10 : Int32) * (10 : Int32)))
set_option maxHeartbeats 4000000 in
set_option maxRecDepth 100000 in
theorem k_X4_takeDigits_15 (C : Cx p s m args meth c D (tysW cI cZ cG) RX4 cX4_takeDigits 6 wsX4_takeDigits (some .int)) (h : Nat) (A : Nat → Nat) (u3 : Int32)  (res : Int32 × (Nat → Int32)) : ∀ (n : Nat) (u4 : Int32) (u5 : Int32) (digits : Nat → Int32), f_X4_takeDigits_15 u3 n u4 u5 digits = some res → Wd p l e rm_X4_takeDigits s m args below meth c D w0 6 0 0 (MQ below (QcI D (tysW cI cZ cG) w0 [(h, oX4 A), ((A 0), aI cI 9 res.2)] res.1 s.heap.size) args s 0 0 (va_A w0 s.heap.size)) [(h, oX4 A), ((A 0), aI cI 9 digits)] [(0, .ref h), (3, .int u3), (4, .int u4), (5, .int u5)] 15 [] := by
  intro n
  induction n with
  | zero =>
    intro u4 u5 digits hf
    exact no_none hf
  | succ n ih =>
    intro u4 u5 digits hf
    unfold f_X4_takeDigits_15 at hf
    refine r_iload C dX4_takeDigits_15 3 rfl rfl ?_
    refine r_if_lt (y := 0) (tgt := 45) C dX4_takeDigits_17 rfl rfl (fun c1 => ?_) (fun c1 => ?_)
    · have hf := gd_t c1 hf
      refine r_iload_n C dX4_takeDigits_45 rfl 1 rfl rfl ?_
      cases hf
      exact r_iret C dX4_takeDigits_46 rfl
    · have hf := gd_f c1 hf
      refine r_aload_n C dX4_takeDigits_20 rfl 0 rfl rfl ?_
      refine r_get C dX4_takeDigits_21 fw_X4_takeDigits_X4 0 rfl rfl 0 (by decide) rfl fl_X4_takeDigits_9 rfl rfl ?_
      refine r_iload C dX4_takeDigits_24 3 rfl rfl ?_
      refine r_iload C dX4_takeDigits_26 2 rfl rfl ?_
      refine r_bipush C dX4_takeDigits_28 kk_b_10 rfl ?_
      refine r_irem C dX4_takeDigits_30 (by decide) rfl ?_
      obtain ⟨g2, hf⟩ := gd_n hf
      refine r_iast (ws' := [(h, oX4 A), ((A 0), aI cI 9 (upd digits u5.toNatClampNeg (u4 - u4 / (10 : Int32) * (10 : Int32))))]) C dX4_takeDigits_31 1 0 rfl rfl g2 rfl rfl ?_
      refine r_iload C dX4_takeDigits_32 2 rfl rfl ?_
      refine r_bipush C dX4_takeDigits_34 kk_b_10 rfl ?_
      refine r_idiv C dX4_takeDigits_36 (by decide) rfl ?_
      refine r_istore (lv' := [(4, .int (u4 / (10 : Int32))), (0, .ref h), (3, .int u3), (5, .int u5)]) C dX4_takeDigits_37 (by decide) rfl rfl ?_
      refine r_iinc (lv' := [(5, .int (u5 + (-1 : Int32))), (4, .int (u4 / (10 : Int32))), (0, .ref h), (3, .int u3)]) C dX4_takeDigits_39 3 rfl (ki_m1 _) (by decide) rfl rfl ?_
      refine r_goto (tgt := 15) C dX4_takeDigits_42 rfl ?_
      refine r_lv (lv' := [(0, .ref h), (3, .int u3), (4, .int (u4 / (10 : Int32))), (5, .int (u5 + (-1 : Int32)))]) [2, 3, 1, 0] rfl ?_
      exact ih _ _ _ hf
def f_X4_takeDigits (digits : Nat → Int32) (u1 : Int32) (u2 : Int32) : Option (Int32 × (Nat → Int32)) := f_X4_takeDigits_15 (imin u2 (9 : Int32)) 2000 u1 ((imin u2 (9 : Int32)) - (1 : Int32)) digits
set_option maxHeartbeats 4000000 in
set_option maxRecDepth 100000 in
theorem c_X4_takeDigits (l : Launch) (D : va_G) (cI cZ cG : ClassId) (h : Nat) (A : Nat → Nat) (digits : Nat → Int32) (u1 : Int32) (u2 : Int32) (res : Int32 × (Nat → Int32)) (hf : f_X4_takeDigits digits u1 u2 = some res) : CI l D (tysW cI cZ cG) yX4_takeDigits wsX4_takeDigits rm_X4_takeDigits [.ref h, .int u1, .int u2] [(h, oX4 A), ((A 0), aI cI 9 digits)] res.1 [(h, oX4 A), ((A 0), aI cI 9 res.2)] := by
  refine CG.intro (own := RX4) (by decide +kernel) rfl rfl (Nat.le_of_ble_eq_true rfl) (fun p e s m args below meth c C => ?_)
  refine r_lv (lv' := [(0, .ref h), (1, .int u1), (2, .int u2)]) [0, 1, 2] rfl ?_
  unfold f_X4_takeDigits at hf
  refine r_iload_n C dX4_takeDigits_0 rfl 2 rfl rfl ?_
  refine r_bipush C dX4_takeDigits_1 kk_b_9 rfl ?_
  refine r_mmin C dX4_takeDigits_3 wm_X4_takeDigits_min_32 wm_X4_takeDigits_min_s wm_X4_takeDigits_i wm_X4_takeDigits_min_c (Nat.le_of_ble_eq_true rfl) (Nat.le_of_ble_eq_true rfl) (Nat.zero_le _) (Nat.zero_le _) rfl ?_
  refine r_istore_n (lv' := [(3, .int (imin u2 (9 : Int32))), (0, .ref h), (1, .int u1), (2, .int u2)]) C dX4_takeDigits_6 rfl (by decide) rfl rfl ?_
  refine r_iload_n C dX4_takeDigits_7 rfl 2 rfl rfl ?_
  refine r_istore (lv' := [(4, .int u1), (3, .int (imin u2 (9 : Int32))), (0, .ref h), (1, .int u1), (2, .int u2)]) C dX4_takeDigits_8 (by decide) rfl rfl ?_
  refine r_iload_n C dX4_takeDigits_10 rfl 1 rfl rfl ?_
  refine r_iconst C dX4_takeDigits_11 kk_i_1 rfl ?_
  refine r_isub C dX4_takeDigits_12 rfl ?_
  refine r_istore (lv' := [(5, .int ((imin u2 (9 : Int32)) - (1 : Int32))), (4, .int u1), (3, .int (imin u2 (9 : Int32))), (0, .ref h), (1, .int u1), (2, .int u2)]) C dX4_takeDigits_13 (by decide) rfl rfl ?_
  refine r_lv (lv' := [(0, .ref h), (3, .int (imin u2 (9 : Int32))), (4, .int u1), (5, .int ((imin u2 (9 : Int32)) - (1 : Int32)))]) [3, 2, 1, 0] rfl ?_
  refine k_X4_takeDigits_15 C h A (imin u2 (9 : Int32)) _ 2000 _ _ _ hf
theorem fw_X4_timeOfParts_X4 : ∀ w ∈ u_ws RX4 TX4 6, w ∈ wsX4_timeOfParts := by decide +kernel
theorem fl_X4_timeOfParts_26 : Cond.fieldLink RX4 26 "MittenLine$Puzzles" "times" "[[I" ∈ wsX4_timeOfParts := by decide +kernel
theorem wm_X4_timeOfParts_min_32 : Cond.methodLink RX4 32 Lib.Math.min.name ∈ wsX4_timeOfParts := by decide +kernel
theorem wm_X4_timeOfParts_min_s : Cond.static Lib.Math.min.name ∈ wsX4_timeOfParts := by decide +kernel
theorem wm_X4_timeOfParts_i : Cond.initialized "java/lang/Math" ∈ wsX4_timeOfParts := by decide +kernel
theorem wm_X4_timeOfParts_min_c : Cond.code Lib.Math.min.name Lib.Math.min.code 2 (some .int) ∈ wsX4_timeOfParts := by decide +kernel
theorem wm_X4_timeOfParts_max_45 : Cond.methodLink RX4 45 Lib.Math.max.name ∈ wsX4_timeOfParts := by decide +kernel
theorem wm_X4_timeOfParts_max_s : Cond.static Lib.Math.max.name ∈ wsX4_timeOfParts := by decide +kernel
theorem wm_X4_timeOfParts_max_c : Cond.code Lib.Math.max.name Lib.Math.max.code 2 (some .int) ∈ wsX4_timeOfParts := by decide +kernel
abbrev rm_X4_timeOfParts : Jvm.Room := { frames := 1, cells := 0, slots := 0, locals := 24 }
def f_X4_timeOfParts_26 (u1 : Int32) (u2 : Int32) (u3 : Int32) (times : Nat → Nat → Int32) : Nat → Int32 → Int32 → Option (Int32)
  | 0, _, _ => none
  | n + 1, u4, u5 => if u2 ≤ u5 then some (u4) else if u1 < 0 ∨ 9 ≤ u1.toNatClampNeg then none else if u5 < 0 ∨ 9 ≤ u5.toNatClampNeg then none else if (u5 + (1 : Int32)) < 0 ∨ 9 ≤ (u5 + (1 : Int32)).toNatClampNeg then none else if u2 < 0 ∨ 9 ≤ u2.toNatClampNeg then none else if u3 = 0 then f_X4_timeOfParts_26 u1 u2 u3 times n (imin u4 ((times u1.toNatClampNeg u5.toNatClampNeg) + (times (u5 + (1 : Int32)).toNatClampNeg u2.toNatClampNeg))) (u5 + (1 : Int32)) else f_X4_timeOfParts_26 u1 u2 u3 times n (imax u4 ((times u1.toNatClampNeg u5.toNatClampNeg) + (times (u5 + (1 : Int32)).toNatClampNeg u2.toNatClampNeg))) (u5 + (1 : Int32))
set_option maxHeartbeats 4000000 in
set_option maxRecDepth 100000 in
theorem k_X4_timeOfParts_26 (C : Cx p s m args meth c D (tysW cI cZ cG) RX4 cX4_timeOfParts 7 wsX4_timeOfParts (some .int)) (h : Nat) (A : Nat → Nat) (G : Nat → Nat) (times : Nat → Nat → Int32) (u1 : Int32) (u2 : Int32) (u3 : Int32)  (res : Int32) : ∀ (n : Nat) (u4 : Int32) (u5 : Int32), f_X4_timeOfParts_26 u1 u2 u3 times n u4 u5 = some res → Wd p l e rm_X4_timeOfParts s m args below meth c D w0 7 0 0 (MQ below (QcI D (tysW cI cZ cG) w0 ([(h, oX4 A), ((A 4), aG cG G)] ++ gridW G cI times) res s.heap.size) args s 0 0 (va_A w0 s.heap.size)) ([(h, oX4 A), ((A 4), aG cG G)] ++ gridW G cI times) [(0, .ref h), (1, .int u1), (2, .int u2), (3, .int u3), (4, .int u4), (5, .int u5)] 26 [] := by
  intro n
  induction n with
  | zero =>
    intro u4 u5 hf
    exact no_none hf
  | succ n ih =>
    intro u4 u5 hf
    unfold f_X4_timeOfParts_26 at hf
    refine r_iload C dX4_timeOfParts_26 5 rfl rfl ?_
    refine r_iload_n C dX4_timeOfParts_28 rfl 2 rfl rfl ?_
    refine r_icmp_ge (tgt := 84) C dX4_timeOfParts_29 rfl rfl (fun c4 => ?_) (fun c4 => ?_)
    · have hf := gd_t c4 hf
      refine r_iload C dX4_timeOfParts_84 4 rfl rfl ?_
      cases hf
      exact r_iret C dX4_timeOfParts_86 rfl
    · have hf := gd_f c4 hf
      refine r_aload_n C dX4_timeOfParts_32 rfl 0 rfl rfl ?_
      refine r_get C dX4_timeOfParts_33 fw_X4_timeOfParts_X4 0 rfl rfl 4 (by decide) rfl fl_X4_timeOfParts_26 rfl rfl ?_
      refine r_iload_n C dX4_timeOfParts_36 rfl 1 rfl rfl ?_
      obtain ⟨g5, hf⟩ := gd_n hf
      refine r_gload C dX4_timeOfParts_37 1 2 rfl rfl g5 rfl ?_
      refine r_iload C dX4_timeOfParts_38 5 rfl rfl ?_
      obtain ⟨g6, hf⟩ := gd_n hf
      refine r_giald C dX4_timeOfParts_40 2 0 (gridW_at rfl) g5 rfl g6 rfl ?_
      refine r_aload_n C dX4_timeOfParts_41 rfl 0 rfl rfl ?_
      refine r_get C dX4_timeOfParts_42 fw_X4_timeOfParts_X4 0 rfl rfl 4 (by decide) rfl fl_X4_timeOfParts_26 rfl rfl ?_
      refine r_iload C dX4_timeOfParts_45 5 rfl rfl ?_
      refine r_iconst C dX4_timeOfParts_47 kk_i_1 rfl ?_
      refine r_iadd C dX4_timeOfParts_48 rfl ?_
      obtain ⟨g7, hf⟩ := gd_n hf
      refine r_gload C dX4_timeOfParts_49 1 2 rfl rfl g7 rfl ?_
      refine r_iload_n C dX4_timeOfParts_50 rfl 2 rfl rfl ?_
      obtain ⟨g8, hf⟩ := gd_n hf
      refine r_giald C dX4_timeOfParts_51 2 0 (gridW_at rfl) g7 rfl g8 rfl ?_
      refine r_iadd C dX4_timeOfParts_52 rfl ?_
      refine r_istore (lv' := [(6, .int ((times u1.toNatClampNeg u5.toNatClampNeg) + (times (u5 + (1 : Int32)).toNatClampNeg u2.toNatClampNeg))), (0, .ref h), (1, .int u1), (2, .int u2), (3, .int u3), (4, .int u4), (5, .int u5)]) C dX4_timeOfParts_53 (by decide) rfl rfl ?_
      refine r_iload_n C dX4_timeOfParts_55 rfl 4 rfl rfl ?_
      refine r_if_eq (y := 0) (tgt := 69) C dX4_timeOfParts_56 rfl rfl (fun c9 => ?_) (fun c9 => ?_)
      · have hf := gd_t c9 hf
        refine r_iload C dX4_timeOfParts_69 5 rfl rfl ?_
        refine r_iload C dX4_timeOfParts_71 0 rfl rfl ?_
        refine r_mmin C dX4_timeOfParts_73 wm_X4_timeOfParts_min_32 wm_X4_timeOfParts_min_s wm_X4_timeOfParts_i wm_X4_timeOfParts_min_c (Nat.le_of_ble_eq_true rfl) (Nat.le_of_ble_eq_true rfl) (Nat.zero_le _) (Nat.zero_le _) rfl ?_
        refine r_istore (lv' := [(4, .int (imin u4 ((times u1.toNatClampNeg u5.toNatClampNeg) + (times (u5 + (1 : Int32)).toNatClampNeg u2.toNatClampNeg)))), (6, .int ((times u1.toNatClampNeg u5.toNatClampNeg) + (times (u5 + (1 : Int32)).toNatClampNeg u2.toNatClampNeg))), (0, .ref h), (1, .int u1), (2, .int u2), (3, .int u3), (5, .int u5)]) C dX4_timeOfParts_76 (by decide) rfl rfl ?_
        refine r_iinc (lv' := [(5, .int (u5 + (1 : Int32))), (4, .int (imin u4 ((times u1.toNatClampNeg u5.toNatClampNeg) + (times (u5 + (1 : Int32)).toNatClampNeg u2.toNatClampNeg)))), (6, .int ((times u1.toNatClampNeg u5.toNatClampNeg) + (times (u5 + (1 : Int32)).toNatClampNeg u2.toNatClampNeg))), (0, .ref h), (1, .int u1), (2, .int u2), (3, .int u3)]) C dX4_timeOfParts_78 6 rfl (ki_1 _) (by decide) rfl rfl ?_
        refine r_goto (tgt := 26) C dX4_timeOfParts_81 rfl ?_
        refine r_lv (lv' := [(0, .ref h), (1, .int u1), (2, .int u2), (3, .int u3), (4, .int (imin u4 ((times u1.toNatClampNeg u5.toNatClampNeg) + (times (u5 + (1 : Int32)).toNatClampNeg u2.toNatClampNeg)))), (5, .int (u5 + (1 : Int32)))]) [3, 4, 5, 6, 1, 0] rfl ?_
        exact ih _ _ hf
      · have hf := gd_f c9 hf
        refine r_iload C dX4_timeOfParts_59 5 rfl rfl ?_
        refine r_iload C dX4_timeOfParts_61 0 rfl rfl ?_
        refine r_mmax C dX4_timeOfParts_63 wm_X4_timeOfParts_max_45 wm_X4_timeOfParts_max_s wm_X4_timeOfParts_i wm_X4_timeOfParts_max_c (Nat.le_of_ble_eq_true rfl) (Nat.le_of_ble_eq_true rfl) (Nat.zero_le _) (Nat.zero_le _) rfl ?_
        refine r_goto (tgt := 76) C dX4_timeOfParts_66 rfl ?_
        refine r_istore (lv' := [(4, .int (imax u4 ((times u1.toNatClampNeg u5.toNatClampNeg) + (times (u5 + (1 : Int32)).toNatClampNeg u2.toNatClampNeg)))), (6, .int ((times u1.toNatClampNeg u5.toNatClampNeg) + (times (u5 + (1 : Int32)).toNatClampNeg u2.toNatClampNeg))), (0, .ref h), (1, .int u1), (2, .int u2), (3, .int u3), (5, .int u5)]) C dX4_timeOfParts_76 (by decide) rfl rfl ?_
        refine r_iinc (lv' := [(5, .int (u5 + (1 : Int32))), (4, .int (imax u4 ((times u1.toNatClampNeg u5.toNatClampNeg) + (times (u5 + (1 : Int32)).toNatClampNeg u2.toNatClampNeg)))), (6, .int ((times u1.toNatClampNeg u5.toNatClampNeg) + (times (u5 + (1 : Int32)).toNatClampNeg u2.toNatClampNeg))), (0, .ref h), (1, .int u1), (2, .int u2), (3, .int u3)]) C dX4_timeOfParts_78 6 rfl (ki_1 _) (by decide) rfl rfl ?_
        refine r_goto (tgt := 26) C dX4_timeOfParts_81 rfl ?_
        refine r_lv (lv' := [(0, .ref h), (1, .int u1), (2, .int u2), (3, .int u3), (4, .int (imax u4 ((times u1.toNatClampNeg u5.toNatClampNeg) + (times (u5 + (1 : Int32)).toNatClampNeg u2.toNatClampNeg)))), (5, .int (u5 + (1 : Int32)))]) [3, 4, 5, 6, 1, 0] rfl ?_
        exact ih _ _ hf
def f_X4_timeOfParts (times : Nat → Nat → Int32) (u1 : Int32) (u2 : Int32) (u3 : Int32) : Option (Int32) := if u1 < 0 ∨ 9 ≤ u1.toNatClampNeg then none else if (u1 + (1 : Int32)) < 0 ∨ 9 ≤ (u1 + (1 : Int32)).toNatClampNeg then none else if u2 < 0 ∨ 9 ≤ u2.toNatClampNeg then none else f_X4_timeOfParts_26 u1 u2 u3 times 2000 ((times u1.toNatClampNeg u1.toNatClampNeg) + (times (u1 + (1 : Int32)).toNatClampNeg u2.toNatClampNeg)) (u1 + (1 : Int32))
set_option maxHeartbeats 4000000 in
set_option maxRecDepth 100000 in
theorem c_X4_timeOfParts (l : Launch) (D : va_G) (cI cZ cG : ClassId) (h : Nat) (A : Nat → Nat) (G : Nat → Nat) (times : Nat → Nat → Int32) (u1 : Int32) (u2 : Int32) (u3 : Int32) (res : Int32) (hf : f_X4_timeOfParts times u1 u2 u3 = some res) : CI l D (tysW cI cZ cG) yX4_timeOfParts wsX4_timeOfParts rm_X4_timeOfParts [.ref h, .int u1, .int u2, .int u3] ([(h, oX4 A), ((A 4), aG cG G)] ++ gridW G cI times) res ([(h, oX4 A), ((A 4), aG cG G)] ++ gridW G cI times) := by
  refine CG.intro (own := RX4) (by decide +kernel) rfl rfl (Nat.le_of_ble_eq_true rfl) (fun p e s m args below meth c C => ?_)
  refine r_lv (lv' := [(0, .ref h), (1, .int u1), (2, .int u2), (3, .int u3)]) [0, 1, 2, 3] rfl ?_
  unfold f_X4_timeOfParts at hf
  refine r_aload_n C dX4_timeOfParts_0 rfl 0 rfl rfl ?_
  refine r_get C dX4_timeOfParts_1 fw_X4_timeOfParts_X4 0 rfl rfl 4 (by decide) rfl fl_X4_timeOfParts_26 rfl rfl ?_
  refine r_iload_n C dX4_timeOfParts_4 rfl 1 rfl rfl ?_
  obtain ⟨g1, hf⟩ := gd_n hf
  refine r_gload C dX4_timeOfParts_5 1 2 rfl rfl g1 rfl ?_
  refine r_iload_n C dX4_timeOfParts_6 rfl 1 rfl rfl ?_
  refine r_giald C dX4_timeOfParts_7 2 0 (gridW_at rfl) g1 rfl g1 rfl ?_
  refine r_aload_n C dX4_timeOfParts_8 rfl 0 rfl rfl ?_
  refine r_get C dX4_timeOfParts_9 fw_X4_timeOfParts_X4 0 rfl rfl 4 (by decide) rfl fl_X4_timeOfParts_26 rfl rfl ?_
  refine r_iload_n C dX4_timeOfParts_12 rfl 1 rfl rfl ?_
  refine r_iconst C dX4_timeOfParts_13 kk_i_1 rfl ?_
  refine r_iadd C dX4_timeOfParts_14 rfl ?_
  obtain ⟨g2, hf⟩ := gd_n hf
  refine r_gload C dX4_timeOfParts_15 1 2 rfl rfl g2 rfl ?_
  refine r_iload_n C dX4_timeOfParts_16 rfl 2 rfl rfl ?_
  obtain ⟨g3, hf⟩ := gd_n hf
  refine r_giald C dX4_timeOfParts_17 2 0 (gridW_at rfl) g2 rfl g3 rfl ?_
  refine r_iadd C dX4_timeOfParts_18 rfl ?_
  refine r_istore (lv' := [(4, .int ((times u1.toNatClampNeg u1.toNatClampNeg) + (times (u1 + (1 : Int32)).toNatClampNeg u2.toNatClampNeg))), (0, .ref h), (1, .int u1), (2, .int u2), (3, .int u3)]) C dX4_timeOfParts_19 (by decide) rfl rfl ?_
  refine r_iload_n C dX4_timeOfParts_21 rfl 2 rfl rfl ?_
  refine r_iconst C dX4_timeOfParts_22 kk_i_1 rfl ?_
  refine r_iadd C dX4_timeOfParts_23 rfl ?_
  refine r_istore (lv' := [(5, .int (u1 + (1 : Int32))), (4, .int ((times u1.toNatClampNeg u1.toNatClampNeg) + (times (u1 + (1 : Int32)).toNatClampNeg u2.toNatClampNeg))), (0, .ref h), (1, .int u1), (2, .int u2), (3, .int u3)]) C dX4_timeOfParts_24 (by decide) rfl rfl ?_
  refine r_lv (lv' := [(0, .ref h), (1, .int u1), (2, .int u2), (3, .int u3), (4, .int ((times u1.toNatClampNeg u1.toNatClampNeg) + (times (u1 + (1 : Int32)).toNatClampNeg u2.toNatClampNeg))), (5, .int (u1 + (1 : Int32)))]) [2, 3, 4, 5, 1, 0] rfl ?_
  refine k_X4_timeOfParts_26 C h A G times u1 u2 u3 _ 2000 _ _ hf
theorem fw_X4_windingTime_X4 : ∀ w ∈ u_ws RX4 TX4 6, w ∈ wsX4_windingTime := by decide +kernel
theorem fl_X4_windingTime_21 : Cond.fieldLink RX4 21 "MittenLine$Puzzles" "sizes" "[I" ∈ wsX4_windingTime := by decide +kernel
theorem fl_X4_windingTime_9 : Cond.fieldLink RX4 9 "MittenLine$Puzzles" "digits" "[I" ∈ wsX4_windingTime := by decide +kernel
theorem fl_X4_windingTime_26 : Cond.fieldLink RX4 26 "MittenLine$Puzzles" "times" "[[I" ∈ wsX4_windingTime := by decide +kernel
abbrev rm_X4_windingTime : Jvm.Room := { frames := 2, cells := 0, slots := 0, locals := 50 }
def f_X4_windingTime_18 (u4 : Int32) (digits : Nat → Int32) (kx55 : (Nat → Int32) → Option (Int32 × (Nat → Int32) × (Nat → Int32) × (Nat → Nat → Int32))) : Nat → Int32 → (Nat → Int32) → Option (Int32 × (Nat → Int32) × (Nat → Int32) × (Nat → Nat → Int32))
  | 0, _, _ => none
  | n + 1, u5, sizes => if u4 ≤ u5 then kx55 sizes else if u5 < 0 ∨ 10 ≤ u5.toNatClampNeg then none else if u5 < 0 ∨ 9 ≤ u5.toNatClampNeg then none else if (u5 + (1 : Int32)) < 0 ∨ 10 ≤ (u5 + (1 : Int32)).toNatClampNeg then none else f_X4_windingTime_18 u4 digits kx55 n (u5 + (1 : Int32)) (upd sizes (u5 + (1 : Int32)).toNatClampNeg ((sizes u5.toNatClampNeg) + (digits u5.toNatClampNeg)))
set_option maxHeartbeats 4000000 in
set_option maxRecDepth 100000 in
theorem k_X4_windingTime_18 (C : Cx p s m args meth c D (tysW cI cZ cG) RX4 cX4_windingTime 8 wsX4_windingTime (some .int)) (h : Nat) (A : Nat → Nat) (G : Nat → Nat) (digits : Nat → Int32) (times : Nat → Nat → Int32) (u3 : Int32) (u4 : Int32)  (kx55 : (Nat → Int32) → Option (Int32 × (Nat → Int32) × (Nat → Int32) × (Nat → Nat → Int32))) (res : Int32 × (Nat → Int32) × (Nat → Int32) × (Nat → Nat → Int32)) (hkx55 : ∀ (sizes : Nat → Int32) , kx55 sizes = some res → Wd p l e rm_X4_windingTime s m args below meth c D w0 8 0 0 (MQ below (QcI D (tysW cI cZ cG) w0 ([(h, oX4 A), ((A 0), aI cI 9 res.2.1), ((A 3), aI cI 10 res.2.2.1), ((A 4), aG cG G)] ++ gridW G cI res.2.2.2) res.1 s.heap.size) args s 0 0 (va_A w0 s.heap.size)) ([(h, oX4 A), ((A 0), aI cI 9 digits), ((A 3), aI cI 10 sizes), ((A 4), aG cG G)] ++ gridW G cI times) [(0, .ref h), (3, .int u3), (4, .int u4)] 55 []) : ∀ (n : Nat) (u5 : Int32) (sizes : Nat → Int32), f_X4_windingTime_18 u4 digits kx55 n u5 sizes = some res → Wd p l e rm_X4_windingTime s m args below meth c D w0 8 0 0 (MQ below (QcI D (tysW cI cZ cG) w0 ([(h, oX4 A), ((A 0), aI cI 9 res.2.1), ((A 3), aI cI 10 res.2.2.1), ((A 4), aG cG G)] ++ gridW G cI res.2.2.2) res.1 s.heap.size) args s 0 0 (va_A w0 s.heap.size)) ([(h, oX4 A), ((A 0), aI cI 9 digits), ((A 3), aI cI 10 sizes), ((A 4), aG cG G)] ++ gridW G cI times) [(0, .ref h), (3, .int u3), (4, .int u4), (5, .int u5)] 18 [] := by
  intro n
  induction n with
  | zero =>
    intro u5 sizes hf
    exact no_none hf
  | succ n ih =>
    intro u5 sizes hf
    unfold f_X4_windingTime_18 at hf
    refine r_iload C dX4_windingTime_18 3 rfl rfl ?_
    refine r_iload C dX4_windingTime_20 2 rfl rfl ?_
    refine r_icmp_ge (tgt := 55) C dX4_windingTime_22 rfl rfl (fun c2 => ?_) (fun c2 => ?_)
    · have hf := gd_t c2 hf
      refine r_lv (lv' := [(0, .ref h), (3, .int u3), (4, .int u4)]) [0, 1, 2] rfl ?_
      exact hkx55 _ hf
    · have hf := gd_f c2 hf
      refine r_aload_n C dX4_windingTime_25 rfl 0 rfl rfl ?_
      refine r_get C dX4_windingTime_26 fw_X4_windingTime_X4 0 rfl rfl 3 (by decide) rfl fl_X4_windingTime_21 rfl rfl ?_
      refine r_iload C dX4_windingTime_29 3 rfl rfl ?_
      refine r_iconst C dX4_windingTime_31 kk_i_1 rfl ?_
      refine r_iadd C dX4_windingTime_32 rfl ?_
      refine r_aload_n C dX4_windingTime_33 rfl 0 rfl rfl ?_
      refine r_get C dX4_windingTime_34 fw_X4_windingTime_X4 0 rfl rfl 3 (by decide) rfl fl_X4_windingTime_21 rfl rfl ?_
      refine r_iload C dX4_windingTime_37 3 rfl rfl ?_
      obtain ⟨g3, hf⟩ := gd_n hf
      refine r_iald C dX4_windingTime_39 2 0 rfl rfl g3 rfl ?_
      refine r_aload_n C dX4_windingTime_40 rfl 0 rfl rfl ?_
      refine r_get C dX4_windingTime_41 fw_X4_windingTime_X4 0 rfl rfl 0 (by decide) rfl fl_X4_windingTime_9 rfl rfl ?_
      refine r_iload C dX4_windingTime_44 3 rfl rfl ?_
      obtain ⟨g4, hf⟩ := gd_n hf
      refine r_iald C dX4_windingTime_46 1 0 rfl rfl g4 rfl ?_
      refine r_iadd C dX4_windingTime_47 rfl ?_
      obtain ⟨g5, hf⟩ := gd_n hf
      refine r_iast (ws' := ([(h, oX4 A), ((A 0), aI cI 9 digits), ((A 3), aI cI 10 (upd sizes (u5 + (1 : Int32)).toNatClampNeg ((sizes u5.toNatClampNeg) + (digits u5.toNatClampNeg)))), ((A 4), aG cG G)] ++ gridW G cI times)) C dX4_windingTime_48 2 0 rfl rfl g5 rfl rfl ?_
      refine r_iinc (lv' := [(5, .int (u5 + (1 : Int32))), (0, .ref h), (3, .int u3), (4, .int u4)]) C dX4_windingTime_49 3 rfl (ki_1 _) (by decide) rfl rfl ?_
      refine r_goto (tgt := 18) C dX4_windingTime_52 rfl ?_
      refine r_lv (lv' := [(0, .ref h), (3, .int u3), (4, .int u4), (5, .int (u5 + (1 : Int32)))]) [1, 2, 3, 0] rfl ?_
      exact ih _ _ hf
def f_X4_windingTime_83 (u3 : Int32) (u4 : Int32) (u5 : Int32) (sizes : Nat → Int32) (kx137 : (Nat → Nat → Int32) → Option (Int32 × (Nat → Int32) × (Nat → Int32) × (Nat → Nat → Int32))) : Nat → Int32 → (Nat → Nat → Int32) → Option (Int32 × (Nat → Int32) × (Nat → Int32) × (Nat → Nat → Int32))
  | 0, _, _ => none
  | n + 1, u6, times => if u4 ≤ u6 then kx137 times else if (u6 + (1 : Int32)) < 0 ∨ 10 ≤ (u6 + (1 : Int32)).toNatClampNeg then none else if u5 < 0 ∨ 10 ≤ u5.toNatClampNeg then none else if u5 < 0 ∨ 9 ≤ u5.toNatClampNeg then none else (f_X4_timeOfParts times u5 u6 u3).bind (fun r13 => if u6 < 0 ∨ 9 ≤ u6.toNatClampNeg then none else f_X4_windingTime_83 u3 u4 u5 sizes kx137 n (u6 + (1 : Int32)) (updG times u5.toNatClampNeg u6.toNatClampNeg (((sizes (u6 + (1 : Int32)).toNatClampNeg) - (sizes u5.toNatClampNeg)) + r13)))
set_option maxHeartbeats 4000000 in
set_option maxRecDepth 100000 in
theorem k_X4_windingTime_83 (C : Cx p s m args meth c D (tysW cI cZ cG) RX4 cX4_windingTime 8 wsX4_windingTime (some .int)) (h : Nat) (A : Nat → Nat) (G : Nat → Nat) (digits : Nat → Int32) (sizes : Nat → Int32) (u3 : Int32) (u4 : Int32) (u5 : Int32)  (kx137 : (Nat → Nat → Int32) → Option (Int32 × (Nat → Int32) × (Nat → Int32) × (Nat → Nat → Int32))) (res : Int32 × (Nat → Int32) × (Nat → Int32) × (Nat → Nat → Int32)) (hkx137 : ∀ (times : Nat → Nat → Int32) , kx137 times = some res → Wd p l e rm_X4_windingTime s m args below meth c D w0 8 0 0 (MQ below (QcI D (tysW cI cZ cG) w0 ([(h, oX4 A), ((A 0), aI cI 9 res.2.1), ((A 3), aI cI 10 res.2.2.1), ((A 4), aG cG G)] ++ gridW G cI res.2.2.2) res.1 s.heap.size) args s 0 0 (va_A w0 s.heap.size)) ([(h, oX4 A), ((A 0), aI cI 9 digits), ((A 3), aI cI 10 sizes), ((A 4), aG cG G)] ++ gridW G cI times) [(0, .ref h), (3, .int u3), (4, .int u4), (5, .int u5)] 137 []) : ∀ (n : Nat) (u6 : Int32) (times : Nat → Nat → Int32), f_X4_windingTime_83 u3 u4 u5 sizes kx137 n u6 times = some res → Wd p l e rm_X4_windingTime s m args below meth c D w0 8 0 0 (MQ below (QcI D (tysW cI cZ cG) w0 ([(h, oX4 A), ((A 0), aI cI 9 res.2.1), ((A 3), aI cI 10 res.2.2.1), ((A 4), aG cG G)] ++ gridW G cI res.2.2.2) res.1 s.heap.size) args s 0 0 (va_A w0 s.heap.size)) ([(h, oX4 A), ((A 0), aI cI 9 digits), ((A 3), aI cI 10 sizes), ((A 4), aG cG G)] ++ gridW G cI times) [(0, .ref h), (3, .int u3), (4, .int u4), (5, .int u5), (6, .int u6)] 83 [] := by
  intro n
  induction n with
  | zero =>
    intro u6 times hf
    exact no_none hf
  | succ n ih =>
    intro u6 times hf
    unfold f_X4_windingTime_83 at hf
    refine r_iload C dX4_windingTime_83 4 rfl rfl ?_
    refine r_iload C dX4_windingTime_85 2 rfl rfl ?_
    refine r_icmp_ge (tgt := 137) C dX4_windingTime_87 rfl rfl (fun c9 => ?_) (fun c9 => ?_)
    · have hf := gd_t c9 hf
      refine r_lv (lv' := [(0, .ref h), (3, .int u3), (4, .int u4), (5, .int u5)]) [0, 1, 2, 3] rfl ?_
      exact hkx137 _ hf
    · have hf := gd_f c9 hf
      refine r_aload_n C dX4_windingTime_90 rfl 0 rfl rfl ?_
      refine r_get C dX4_windingTime_91 fw_X4_windingTime_X4 0 rfl rfl 3 (by decide) rfl fl_X4_windingTime_21 rfl rfl ?_
      refine r_iload C dX4_windingTime_94 4 rfl rfl ?_
      refine r_iconst C dX4_windingTime_96 kk_i_1 rfl ?_
      refine r_iadd C dX4_windingTime_97 rfl ?_
      obtain ⟨g10, hf⟩ := gd_n hf
      refine r_iald C dX4_windingTime_98 2 0 rfl rfl g10 rfl ?_
      refine r_aload_n C dX4_windingTime_99 rfl 0 rfl rfl ?_
      refine r_get C dX4_windingTime_100 fw_X4_windingTime_X4 0 rfl rfl 3 (by decide) rfl fl_X4_windingTime_21 rfl rfl ?_
      refine r_iload C dX4_windingTime_103 3 rfl rfl ?_
      obtain ⟨g11, hf⟩ := gd_n hf
      refine r_iald C dX4_windingTime_105 2 0 rfl rfl g11 rfl ?_
      refine r_isub C dX4_windingTime_106 rfl ?_
      refine r_istore (lv' := [(7, .int ((sizes (u6 + (1 : Int32)).toNatClampNeg) - (sizes u5.toNatClampNeg))), (0, .ref h), (3, .int u3), (4, .int u4), (5, .int u5), (6, .int u6)]) C dX4_windingTime_107 (by decide) rfl rfl ?_
      refine r_aload_n C dX4_windingTime_109 rfl 1 rfl rfl ?_
      refine r_get C dX4_windingTime_110 fw_X4_windingTime_X4 0 rfl rfl 4 (by decide) rfl fl_X4_windingTime_26 rfl rfl ?_
      refine r_iload C dX4_windingTime_113 4 rfl rfl ?_
      obtain ⟨g12, hf⟩ := gd_n hf
      refine r_gload C dX4_windingTime_115 3 2 rfl rfl g12 rfl ?_
      refine r_iload C dX4_windingTime_116 5 rfl rfl ?_
      refine r_iload C dX4_windingTime_118 0 rfl rfl ?_
      refine r_aload_n C dX4_windingTime_120 rfl 1 rfl rfl ?_
      refine r_iload C dX4_windingTime_121 4 rfl rfl ?_
      refine r_iload C dX4_windingTime_123 5 rfl rfl ?_
      refine r_iload_n C dX4_windingTime_125 rfl 2 rfl rfl ?_
      obtain ⟨r13, e13, hf⟩ := gd_b hf
      refine o_I (wn := ([(h, oX4 A), ((A 0), aI cI 9 digits), ((A 3), aI cI 10 sizes), ((A 4), aG cG G)] ++ gridW G cI times)) C [0, 3, 4, 5, 6, 7, 8, 9, 10, 11, 12] rfl (x_V C dX4_windingTime_126 (c_X4_timeOfParts l D cI cZ cG h A G times u5 u6 u3 r13 e13) rfl gX4_windingTime_X4_timeOfParts hd_X4_timeOfParts rfl ⟨Nat.le_of_ble_eq_true rfl, Nat.le_of_ble_eq_true rfl⟩ ⟨rfl, rfl⟩ ⟨Nat.zero_le _, Nat.zero_le _⟩ rfl [0, 3, 4, 5, 6, 7, 8, 9, 10, 11, 12] rfl rfl 0 rfl rfl (Nat.le_of_ble_eq_true rfl) rfl) rfl rfl rfl ?_
      refine r_iadd C dX4_windingTime_129 rfl ?_
      obtain ⟨g14, hf⟩ := gd_n hf
      refine r_giast (ws' := ([(h, oX4 A), ((A 0), aI cI 9 digits), ((A 3), aI cI 10 sizes), ((A 4), aG cG G)] ++ gridW G cI (updG times u5.toNatClampNeg u6.toNatClampNeg (((sizes (u6 + (1 : Int32)).toNatClampNeg) - (sizes u5.toNatClampNeg)) + r13)))) C dX4_windingTime_130 4 0 (gridW_at rfl) g12 rfl g14 (gridW_set rfl (lt_of_g g12)) rfl ?_
      refine r_iinc (lv' := [(6, .int (u6 + (1 : Int32))), (7, .int ((sizes (u6 + (1 : Int32)).toNatClampNeg) - (sizes u5.toNatClampNeg))), (0, .ref h), (3, .int u3), (4, .int u4), (5, .int u5)]) C dX4_windingTime_131 5 rfl (ki_1 _) (by decide) rfl rfl ?_
      refine r_goto (tgt := 83) C dX4_windingTime_134 rfl ?_
      refine r_lv (lv' := [(0, .ref h), (3, .int u3), (4, .int u4), (5, .int u5), (6, .int (u6 + (1 : Int32)))]) [2, 3, 4, 5, 0] rfl ?_
      exact ih _ _ hf
def f_X4_windingTime_61 (u3 : Int32) (u4 : Int32) (sizes : Nat → Int32) (kx143 : (Nat → Nat → Int32) → Option (Int32 × (Nat → Int32) × (Nat → Int32) × (Nat → Nat → Int32))) : Nat → Int32 → (Nat → Nat → Int32) → Option (Int32 × (Nat → Int32) × (Nat → Int32) × (Nat → Nat → Int32))
  | 0, _, _ => none
  | n + 1, u5, times => if u5 < 0 then kx143 times else if u5 < 0 ∨ 9 ≤ u5.toNatClampNeg then none else f_X4_windingTime_83 u3 u4 u5 sizes (fun times_15 => f_X4_windingTime_61 u3 u4 sizes kx143 n (u5 + (-1 : Int32)) times_15) 2000 (u5 + (1 : Int32)) (updG times u5.toNatClampNeg u5.toNatClampNeg (0 : Int32))
set_option maxHeartbeats 4000000 in
set_option maxRecDepth 100000 in
theorem k_X4_windingTime_61 (C : Cx p s m args meth c D (tysW cI cZ cG) RX4 cX4_windingTime 8 wsX4_windingTime (some .int)) (h : Nat) (A : Nat → Nat) (G : Nat → Nat) (digits : Nat → Int32) (sizes : Nat → Int32) (u3 : Int32) (u4 : Int32)  (kx143 : (Nat → Nat → Int32) → Option (Int32 × (Nat → Int32) × (Nat → Int32) × (Nat → Nat → Int32))) (res : Int32 × (Nat → Int32) × (Nat → Int32) × (Nat → Nat → Int32)) (hkx143 : ∀ (times : Nat → Nat → Int32) , kx143 times = some res → Wd p l e rm_X4_windingTime s m args below meth c D w0 8 0 0 (MQ below (QcI D (tysW cI cZ cG) w0 ([(h, oX4 A), ((A 0), aI cI 9 res.2.1), ((A 3), aI cI 10 res.2.2.1), ((A 4), aG cG G)] ++ gridW G cI res.2.2.2) res.1 s.heap.size) args s 0 0 (va_A w0 s.heap.size)) ([(h, oX4 A), ((A 0), aI cI 9 digits), ((A 3), aI cI 10 sizes), ((A 4), aG cG G)] ++ gridW G cI times) [(0, .ref h), (4, .int u4)] 143 []) : ∀ (n : Nat) (u5 : Int32) (times : Nat → Nat → Int32), f_X4_windingTime_61 u3 u4 sizes kx143 n u5 times = some res → Wd p l e rm_X4_windingTime s m args below meth c D w0 8 0 0 (MQ below (QcI D (tysW cI cZ cG) w0 ([(h, oX4 A), ((A 0), aI cI 9 res.2.1), ((A 3), aI cI 10 res.2.2.1), ((A 4), aG cG G)] ++ gridW G cI res.2.2.2) res.1 s.heap.size) args s 0 0 (va_A w0 s.heap.size)) ([(h, oX4 A), ((A 0), aI cI 9 digits), ((A 3), aI cI 10 sizes), ((A 4), aG cG G)] ++ gridW G cI times) [(0, .ref h), (3, .int u3), (4, .int u4), (5, .int u5)] 61 [] := by
  intro n
  induction n with
  | zero =>
    intro u5 times hf
    exact no_none hf
  | succ n ih =>
    intro u5 times hf
    unfold f_X4_windingTime_61 at hf
    refine r_iload C dX4_windingTime_61 3 rfl rfl ?_
    refine r_if_lt (y := 0) (tgt := 143) C dX4_windingTime_63 rfl rfl (fun c7 => ?_) (fun c7 => ?_)
    · have hf := gd_t c7 hf
      refine r_lv (lv' := [(0, .ref h), (4, .int u4)]) [0, 2] rfl ?_
      exact hkx143 _ hf
    · have hf := gd_f c7 hf
      refine r_aload_n C dX4_windingTime_66 rfl 0 rfl rfl ?_
      refine r_get C dX4_windingTime_67 fw_X4_windingTime_X4 0 rfl rfl 4 (by decide) rfl fl_X4_windingTime_26 rfl rfl ?_
      refine r_iload C dX4_windingTime_70 3 rfl rfl ?_
      obtain ⟨g8, hf⟩ := gd_n hf
      refine r_gload C dX4_windingTime_72 3 2 rfl rfl g8 rfl ?_
      refine r_iload C dX4_windingTime_73 3 rfl rfl ?_
      refine r_iconst C dX4_windingTime_75 kk_i_0 rfl ?_
      refine r_giast (ws' := ([(h, oX4 A), ((A 0), aI cI 9 digits), ((A 3), aI cI 10 sizes), ((A 4), aG cG G)] ++ gridW G cI (updG times u5.toNatClampNeg u5.toNatClampNeg (0 : Int32)))) C dX4_windingTime_76 4 0 (gridW_at rfl) g8 rfl g8 (gridW_set rfl (lt_of_g g8)) rfl ?_
      refine r_iload C dX4_windingTime_77 3 rfl rfl ?_
      refine r_iconst C dX4_windingTime_79 kk_i_1 rfl ?_
      refine r_iadd C dX4_windingTime_80 rfl ?_
      refine r_istore (lv' := [(6, .int (u5 + (1 : Int32))), (0, .ref h), (3, .int u3), (4, .int u4), (5, .int u5)]) C dX4_windingTime_81 (by decide) rfl rfl ?_
      refine r_lv (lv' := [(0, .ref h), (3, .int u3), (4, .int u4), (5, .int u5), (6, .int (u5 + (1 : Int32)))]) [1, 2, 3, 4, 0] rfl ?_
      refine k_X4_windingTime_83 C h A G digits sizes u3 u4 u5 _ _ ?_ 2000 _ _ hf
      · intro times_15 hf
        refine r_iinc (lv' := [(5, .int (u5 + (-1 : Int32))), (0, .ref h), (3, .int u3), (4, .int u4)]) C dX4_windingTime_137 3 rfl (ki_m1 _) (by decide) rfl rfl ?_
        refine r_goto (tgt := 61) C dX4_windingTime_140 rfl ?_
        refine r_lv (lv' := [(0, .ref h), (3, .int u3), (4, .int u4), (5, .int (u5 + (-1 : Int32)))]) [1, 2, 3, 0] rfl ?_
        exact ih _ _ hf
def f_X4_windingTime (digits : Nat → Int32) (sizes : Nat → Int32) (times : Nat → Nat → Int32) (u1 : Int32) (u2 : Int32) (u3 : Int32) : Option (Int32 × (Nat → Int32) × (Nat → Int32) × (Nat → Nat → Int32)) := (f_X4_takeDigits digits u1 u2).bind (fun r1 => f_X4_windingTime_18 r1.1 r1.2 (fun sizes_6 => f_X4_windingTime_61 u3 r1.1 sizes_6 (fun times_16 => if (r1.1 - (1 : Int32)) < 0 ∨ 9 ≤ (r1.1 - (1 : Int32)).toNatClampNeg then none else some ((times_16 (0 : Int32).toNatClampNeg (r1.1 - (1 : Int32)).toNatClampNeg), r1.2, sizes_6, times_16)) 2000 (r1.1 - (1 : Int32)) times) 2000 (0 : Int32) (upd sizes (0 : Int32).toNatClampNeg (0 : Int32)))
set_option maxHeartbeats 4000000 in
set_option maxRecDepth 100000 in
theorem c_X4_windingTime (l : Launch) (D : va_G) (cI cZ cG : ClassId) (h : Nat) (A : Nat → Nat) (G : Nat → Nat) (digits : Nat → Int32) (sizes : Nat → Int32) (times : Nat → Nat → Int32) (u1 : Int32) (u2 : Int32) (u3 : Int32) (res : Int32 × (Nat → Int32) × (Nat → Int32) × (Nat → Nat → Int32)) (hf : f_X4_windingTime digits sizes times u1 u2 u3 = some res) : CI l D (tysW cI cZ cG) yX4_windingTime wsX4_windingTime rm_X4_windingTime [.ref h, .int u1, .int u2, .int u3] ([(h, oX4 A), ((A 0), aI cI 9 digits), ((A 3), aI cI 10 sizes), ((A 4), aG cG G)] ++ gridW G cI times) res.1 ([(h, oX4 A), ((A 0), aI cI 9 res.2.1), ((A 3), aI cI 10 res.2.2.1), ((A 4), aG cG G)] ++ gridW G cI res.2.2.2) := by
  refine CG.intro (own := RX4) (by decide +kernel) rfl rfl (Nat.le_of_ble_eq_true rfl) (fun p e s m args below meth c C => ?_)
  refine r_lv (lv' := [(0, .ref h), (1, .int u1), (2, .int u2), (3, .int u3)]) [0, 1, 2, 3] rfl ?_
  unfold f_X4_windingTime at hf
  refine r_aload_n C dX4_windingTime_0 rfl 0 rfl rfl ?_
  refine r_iload_n C dX4_windingTime_1 rfl 1 rfl rfl ?_
  refine r_iload_n C dX4_windingTime_2 rfl 2 rfl rfl ?_
  obtain ⟨r1, e1, hf⟩ := gd_b hf
  refine o_I (wn := ([(h, oX4 A), ((A 0), aI cI 9 r1.2), ((A 3), aI cI 10 sizes), ((A 4), aG cG G)] ++ gridW G cI times)) C [0, 1] rfl (x_V C dX4_windingTime_3 (c_X4_takeDigits l D cI cZ cG h A digits u1 u2 r1 e1) rfl gX4_windingTime_X4_takeDigits hd_X4_takeDigits rfl ⟨Nat.le_of_ble_eq_true rfl, Nat.le_of_ble_eq_true rfl⟩ ⟨rfl, rfl⟩ ⟨Nat.zero_le _, Nat.zero_le _⟩ rfl [0, 1] rfl rfl 0 rfl rfl (Nat.le_of_ble_eq_true rfl) rfl) rfl rfl rfl ?_
  refine r_istore (lv' := [(4, .int r1.1), (0, .ref h), (1, .int u1), (2, .int u2), (3, .int u3)]) C dX4_windingTime_6 (by decide) rfl rfl ?_
  refine r_aload_n C dX4_windingTime_8 rfl 1 rfl rfl ?_
  refine r_get C dX4_windingTime_9 fw_X4_windingTime_X4 0 rfl rfl 3 (by decide) rfl fl_X4_windingTime_21 rfl rfl ?_
  refine r_iconst C dX4_windingTime_12 kk_i_0 rfl ?_
  refine r_iconst C dX4_windingTime_13 kk_i_0 rfl ?_
  refine r_iast (ws' := ([(h, oX4 A), ((A 0), aI cI 9 r1.2), ((A 3), aI cI 10 (upd sizes (0 : Int32).toNatClampNeg (0 : Int32))), ((A 4), aG cG G)] ++ gridW G cI times)) C dX4_windingTime_14 2 0 rfl rfl (by decide) rfl rfl ?_
  refine r_iconst C dX4_windingTime_15 kk_i_0 rfl ?_
  refine r_istore (lv' := [(5, .int (0 : Int32)), (4, .int r1.1), (0, .ref h), (1, .int u1), (2, .int u2), (3, .int u3)]) C dX4_windingTime_16 (by decide) rfl rfl ?_
  refine r_lv (lv' := [(0, .ref h), (3, .int u3), (4, .int r1.1), (5, .int (0 : Int32))]) [2, 5, 1, 0] rfl ?_
  refine k_X4_windingTime_18 C h A G r1.2 times u3 r1.1 _ _ ?_ 2000 _ _ hf
  · intro sizes_6 hf
    refine r_iload C dX4_windingTime_55 2 rfl rfl ?_
    refine r_iconst C dX4_windingTime_57 kk_i_1 rfl ?_
    refine r_isub C dX4_windingTime_58 rfl ?_
    refine r_istore (lv' := [(5, .int (r1.1 - (1 : Int32))), (0, .ref h), (3, .int u3), (4, .int r1.1)]) C dX4_windingTime_59 (by decide) rfl rfl ?_
    refine r_lv (lv' := [(0, .ref h), (3, .int u3), (4, .int r1.1), (5, .int (r1.1 - (1 : Int32)))]) [1, 2, 3, 0] rfl ?_
    refine k_X4_windingTime_61 C h A G r1.2 sizes_6 u3 r1.1 _ _ ?_ 2000 _ _ hf
    · intro times_16 hf
      refine r_aload_n C dX4_windingTime_143 rfl 0 rfl rfl ?_
      refine r_get C dX4_windingTime_144 fw_X4_windingTime_X4 0 rfl rfl 4 (by decide) rfl fl_X4_windingTime_26 rfl rfl ?_
      refine r_iconst C dX4_windingTime_147 kk_i_0 rfl ?_
      refine r_gload C dX4_windingTime_148 3 2 rfl rfl (by decide) rfl ?_
      refine r_iload C dX4_windingTime_149 1 rfl rfl ?_
      refine r_iconst C dX4_windingTime_151 kk_i_1 rfl ?_
      refine r_isub C dX4_windingTime_152 rfl ?_
      obtain ⟨g17, hf⟩ := gd_n hf
      refine r_giald C dX4_windingTime_153 4 0 (gridW_at rfl) (by decide) rfl g17 rfl ?_
      cases hf
      exact r_iret C dX4_windingTime_154 rfl
theorem fw_X4_takeWords_X4 : ∀ w ∈ u_ws RX4 TX4 6, w ∈ wsX4_takeWords := by decide +kernel
theorem fl_X4_takeWords_15 : Cond.fieldLink RX4 15 "MittenLine$Puzzles" "words" "[I" ∈ wsX4_takeWords := by decide +kernel
abbrev rm_X4_takeWords : Jvm.Room := { frames := 0, cells := 0, slots := 0, locals := 0 }
def f_X4_takeWords (words : Nat → Int32) (u1 : Int32) (u2 : Int32) (u3 : Int32) (u4 : Int32) : Option ((Nat → Int32)) := some ((upd (upd (upd (upd words (0 : Int32).toNatClampNeg u1) (1 : Int32).toNatClampNeg u2) (2 : Int32).toNatClampNeg u3) (3 : Int32).toNatClampNeg u4))
set_option maxHeartbeats 4000000 in
set_option maxRecDepth 100000 in
theorem c_X4_takeWords (l : Launch) (D : va_G) (cI cZ cG : ClassId) (h : Nat) (A : Nat → Nat) (words : Nat → Int32) (u1 : Int32) (u2 : Int32) (u3 : Int32) (u4 : Int32) (res : (Nat → Int32)) (hf : f_X4_takeWords words u1 u2 u3 u4 = some res) : CV l D (tysW cI cZ cG) yX4_takeWords wsX4_takeWords rm_X4_takeWords [.ref h, .int u1, .int u2, .int u3, .int u4] [(h, oX4 A), ((A 1), aI cI 4 words)] [(h, oX4 A), ((A 1), aI cI 4 res)] := by
  refine CG.intro (own := RX4) (by decide +kernel) rfl rfl (Nat.le_of_ble_eq_true rfl) (fun p e s m args below meth c C => ?_)
  refine r_lv (lv' := [(0, .ref h), (1, .int u1), (2, .int u2), (3, .int u3), (4, .int u4)]) [0, 1, 2, 3, 4] rfl ?_
  unfold f_X4_takeWords at hf
  refine r_aload_n C dX4_takeWords_0 rfl 0 rfl rfl ?_
  refine r_get C dX4_takeWords_1 fw_X4_takeWords_X4 0 rfl rfl 1 (by decide) rfl fl_X4_takeWords_15 rfl rfl ?_
  refine r_iconst C dX4_takeWords_4 kk_i_0 rfl ?_
  refine r_iload_n C dX4_takeWords_5 rfl 1 rfl rfl ?_
  refine r_iast (ws' := [(h, oX4 A), ((A 1), aI cI 4 (upd words (0 : Int32).toNatClampNeg u1))]) C dX4_takeWords_6 1 0 rfl rfl (by decide) rfl rfl ?_
  refine r_aload_n C dX4_takeWords_7 rfl 0 rfl rfl ?_
  refine r_get C dX4_takeWords_8 fw_X4_takeWords_X4 0 rfl rfl 1 (by decide) rfl fl_X4_takeWords_15 rfl rfl ?_
  refine r_iconst C dX4_takeWords_11 kk_i_1 rfl ?_
  refine r_iload_n C dX4_takeWords_12 rfl 2 rfl rfl ?_
  refine r_iast (ws' := [(h, oX4 A), ((A 1), aI cI 4 (upd (upd words (0 : Int32).toNatClampNeg u1) (1 : Int32).toNatClampNeg u2))]) C dX4_takeWords_13 1 0 rfl rfl (by decide) rfl rfl ?_
  refine r_aload_n C dX4_takeWords_14 rfl 0 rfl rfl ?_
  refine r_get C dX4_takeWords_15 fw_X4_takeWords_X4 0 rfl rfl 1 (by decide) rfl fl_X4_takeWords_15 rfl rfl ?_
  refine r_iconst C dX4_takeWords_18 kk_i_2 rfl ?_
  refine r_iload_n C dX4_takeWords_19 rfl 3 rfl rfl ?_
  refine r_iast (ws' := [(h, oX4 A), ((A 1), aI cI 4 (upd (upd (upd words (0 : Int32).toNatClampNeg u1) (1 : Int32).toNatClampNeg u2) (2 : Int32).toNatClampNeg u3))]) C dX4_takeWords_20 1 0 rfl rfl (by decide) rfl rfl ?_
  refine r_aload_n C dX4_takeWords_21 rfl 0 rfl rfl ?_
  refine r_get C dX4_takeWords_22 fw_X4_takeWords_X4 0 rfl rfl 1 (by decide) rfl fl_X4_takeWords_15 rfl rfl ?_
  refine r_iconst C dX4_takeWords_25 kk_i_3 rfl ?_
  refine r_iload C dX4_takeWords_26 4 rfl rfl ?_
  refine r_iast (ws' := [(h, oX4 A), ((A 1), aI cI 4 (upd (upd (upd (upd words (0 : Int32).toNatClampNeg u1) (1 : Int32).toNatClampNeg u2) (2 : Int32).toNatClampNeg u3) (3 : Int32).toNatClampNeg u4))]) C dX4_takeWords_28 1 0 rfl rfl (by decide) rfl rfl ?_
  cases hf
  exact r_vret C dX4_takeWords_29 rfl
theorem fw_X4_standsBefore_X4 : ∀ w ∈ u_ws RX4 TX4 6, w ∈ wsX4_standsBefore := by decide +kernel
theorem fl_X4_standsBefore_15 : Cond.fieldLink RX4 15 "MittenLine$Puzzles" "words" "[I" ∈ wsX4_standsBefore := by decide +kernel
theorem wn_X4_standsBefore_X7_digitCount_s : Cond.static yX7_digitCount ∈ wsX4_standsBefore := by decide +kernel
theorem wn_X4_standsBefore_X7_digitCount_i : Cond.initialized yX7_digitCount.cls ∈ wsX4_standsBefore := by decide +kernel
theorem fl_X4_standsBefore_9 : Cond.fieldLink RX4 9 "MittenLine$Puzzles" "digits" "[I" ∈ wsX4_standsBefore := by decide +kernel
abbrev rm_X4_standsBefore : Jvm.Room := { frames := 1, cells := 0, slots := 0, locals := 23 }
def f_X4_standsBefore_2 (u1 : Int32) (words : Nat → Int32) (kx30 : Option (Int32)) : Nat → Int32 → Option (Int32)
  | 0, _ => none
  | n + 1, u3 => if u1 ≤ u3 then kx30 else if u3 < 0 ∨ 4 ≤ u3.toNatClampNeg then none else if u1 < 0 ∨ 4 ≤ u1.toNatClampNeg then none else if (words u3.toNatClampNeg) = (words u1.toNatClampNeg) then some ((0 : Int32)) else f_X4_standsBefore_2 u1 words kx30 n (u3 + (1 : Int32))
set_option maxHeartbeats 4000000 in
set_option maxRecDepth 100000 in
theorem k_X4_standsBefore_2 (C : Cx p s m args meth c D (tysW cI cZ cG) RX4 cX4_standsBefore 6 wsX4_standsBefore (some .boolean)) (h : Nat) (A : Nat → Nat) (digits : Nat → Int32) (words : Nat → Int32) (u1 : Int32) (u2 : Int32)  (kx30 : Option (Int32)) (res : Int32) (hkx30 : kx30 = some res → Wd p l e rm_X4_standsBefore s m args below meth c D w0 6 0 0 (MQ below (QcI D (tysW cI cZ cG) w0 [(h, oX4 A), ((A 0), aI cI 9 digits), ((A 1), aI cI 4 words)] res s.heap.size) args s 0 0 (va_A w0 s.heap.size)) [(h, oX4 A), ((A 0), aI cI 9 digits), ((A 1), aI cI 4 words)] [(0, .ref h), (1, .int u1), (2, .int u2)] 30 []) : ∀ (n : Nat) (u3 : Int32), f_X4_standsBefore_2 u1 words kx30 n u3 = some res → Wd p l e rm_X4_standsBefore s m args below meth c D w0 6 0 0 (MQ below (QcI D (tysW cI cZ cG) w0 [(h, oX4 A), ((A 0), aI cI 9 digits), ((A 1), aI cI 4 words)] res s.heap.size) args s 0 0 (va_A w0 s.heap.size)) [(h, oX4 A), ((A 0), aI cI 9 digits), ((A 1), aI cI 4 words)] [(0, .ref h), (1, .int u1), (2, .int u2), (3, .int u3)] 2 [] := by
  intro n
  induction n with
  | zero =>
    intro u3 hf
    exact no_none hf
  | succ n ih =>
    intro u3 hf
    unfold f_X4_standsBefore_2 at hf
    refine r_iload_n C dX4_standsBefore_2 rfl 3 rfl rfl ?_
    refine r_iload_n C dX4_standsBefore_3 rfl 1 rfl rfl ?_
    refine r_icmp_ge (tgt := 30) C dX4_standsBefore_4 rfl rfl (fun c1 => ?_) (fun c1 => ?_)
    · have hf := gd_t c1 hf
      refine r_lv (lv' := [(0, .ref h), (1, .int u1), (2, .int u2)]) [0, 1, 2] rfl ?_
      exact hkx30 hf
    · have hf := gd_f c1 hf
      refine r_aload_n C dX4_standsBefore_7 rfl 0 rfl rfl ?_
      refine r_get C dX4_standsBefore_8 fw_X4_standsBefore_X4 0 rfl rfl 1 (by decide) rfl fl_X4_standsBefore_15 rfl rfl ?_
      refine r_iload_n C dX4_standsBefore_11 rfl 3 rfl rfl ?_
      obtain ⟨g2, hf⟩ := gd_n hf
      refine r_iald C dX4_standsBefore_12 2 0 rfl rfl g2 rfl ?_
      refine r_aload_n C dX4_standsBefore_13 rfl 0 rfl rfl ?_
      refine r_get C dX4_standsBefore_14 fw_X4_standsBefore_X4 0 rfl rfl 1 (by decide) rfl fl_X4_standsBefore_15 rfl rfl ?_
      refine r_iload_n C dX4_standsBefore_17 rfl 1 rfl rfl ?_
      obtain ⟨g3, hf⟩ := gd_n hf
      refine r_iald C dX4_standsBefore_18 2 0 rfl rfl g3 rfl ?_
      refine r_icmp_ne (tgt := 24) C dX4_standsBefore_19 rfl rfl (fun c4 => ?_) (fun c4 => ?_)
      · have hf := gd_f c4 hf
        refine r_iinc (lv' := [(3, .int (u3 + (1 : Int32))), (0, .ref h), (1, .int u1), (2, .int u2)]) C dX4_standsBefore_24 3 rfl (ki_1 _) (by decide) rfl rfl ?_
        refine r_goto (tgt := 2) C dX4_standsBefore_27 rfl ?_
        refine r_lv (lv' := [(0, .ref h), (1, .int u1), (2, .int u2), (3, .int (u3 + (1 : Int32)))]) [1, 2, 3, 0] rfl ?_
        exact ih _ hf
      · have hf := gd_t c4 hf
        refine r_iconst C dX4_standsBefore_22 kk_i_0 rfl ?_
        cases hf
        exact r_zret C dX4_standsBefore_23 nb0 rfl
def f_X4_standsBefore_56 (u2 : Int32) (u4 : Int32) (digits : Nat → Int32) : Nat → Int32 → Int32 → Option (Int32)
  | 0, _, _ => none
  | n + 1, u3, u5 => if u5 < (u2 - u4) then some ((1 : Int32)) else if u5 < 0 ∨ 9 ≤ u5.toNatClampNeg then none else if (digits u5.toNatClampNeg) = (u3 - u3 / (10 : Int32) * (10 : Int32)) then f_X4_standsBefore_56 u2 u4 digits n (u3 / (10 : Int32)) (u5 + (-1 : Int32)) else some ((0 : Int32))
set_option maxHeartbeats 4000000 in
set_option maxRecDepth 100000 in
theorem k_X4_standsBefore_56 (C : Cx p s m args meth c D (tysW cI cZ cG) RX4 cX4_standsBefore 6 wsX4_standsBefore (some .boolean)) (h : Nat) (A : Nat → Nat) (digits : Nat → Int32) (words : Nat → Int32) (u2 : Int32) (u4 : Int32)  (res : Int32) : ∀ (n : Nat) (u3 : Int32) (u5 : Int32), f_X4_standsBefore_56 u2 u4 digits n u3 u5 = some res → Wd p l e rm_X4_standsBefore s m args below meth c D w0 6 0 0 (MQ below (QcI D (tysW cI cZ cG) w0 [(h, oX4 A), ((A 0), aI cI 9 digits), ((A 1), aI cI 4 words)] res s.heap.size) args s 0 0 (va_A w0 s.heap.size)) [(h, oX4 A), ((A 0), aI cI 9 digits), ((A 1), aI cI 4 words)] [(0, .ref h), (2, .int u2), (3, .int u3), (4, .int u4), (5, .int u5)] 56 [] := by
  intro n
  induction n with
  | zero =>
    intro u3 u5 hf
    exact no_none hf
  | succ n ih =>
    intro u3 u5 hf
    unfold f_X4_standsBefore_56 at hf
    refine r_iload C dX4_standsBefore_56 4 rfl rfl ?_
    refine r_iload_n C dX4_standsBefore_58 rfl 1 rfl rfl ?_
    refine r_iload C dX4_standsBefore_59 3 rfl rfl ?_
    refine r_isub C dX4_standsBefore_61 rfl ?_
    refine r_icmp_lt (tgt := 92) C dX4_standsBefore_62 rfl rfl (fun c8 => ?_) (fun c8 => ?_)
    · have hf := gd_t c8 hf
      refine r_iconst C dX4_standsBefore_92 kk_i_1 rfl ?_
      cases hf
      exact r_zret C dX4_standsBefore_93 nb1 rfl
    · have hf := gd_f c8 hf
      refine r_aload_n C dX4_standsBefore_65 rfl 0 rfl rfl ?_
      refine r_get C dX4_standsBefore_66 fw_X4_standsBefore_X4 0 rfl rfl 0 (by decide) rfl fl_X4_standsBefore_9 rfl rfl ?_
      refine r_iload C dX4_standsBefore_69 4 rfl rfl ?_
      obtain ⟨g9, hf⟩ := gd_n hf
      refine r_iald C dX4_standsBefore_71 1 0 rfl rfl g9 rfl ?_
      refine r_iload_n C dX4_standsBefore_72 rfl 2 rfl rfl ?_
      refine r_bipush C dX4_standsBefore_73 kk_b_10 rfl ?_
      refine r_irem C dX4_standsBefore_75 (by decide) rfl ?_
      refine r_icmp_eq (tgt := 81) C dX4_standsBefore_76 rfl rfl (fun c10 => ?_) (fun c10 => ?_)
      · have hf := gd_t c10 hf
        refine r_iload_n C dX4_standsBefore_81 rfl 2 rfl rfl ?_
        refine r_bipush C dX4_standsBefore_82 kk_b_10 rfl ?_
        refine r_idiv C dX4_standsBefore_84 (by decide) rfl ?_
        refine r_istore_n (lv' := [(3, .int (u3 / (10 : Int32))), (0, .ref h), (2, .int u2), (4, .int u4), (5, .int u5)]) C dX4_standsBefore_85 rfl (by decide) rfl rfl ?_
        refine r_iinc (lv' := [(5, .int (u5 + (-1 : Int32))), (3, .int (u3 / (10 : Int32))), (0, .ref h), (2, .int u2), (4, .int u4)]) C dX4_standsBefore_86 4 rfl (ki_m1 _) (by decide) rfl rfl ?_
        refine r_goto (tgt := 56) C dX4_standsBefore_89 rfl ?_
        refine r_lv (lv' := [(0, .ref h), (2, .int u2), (3, .int (u3 / (10 : Int32))), (4, .int u4), (5, .int (u5 + (-1 : Int32)))]) [2, 3, 1, 4, 0] rfl ?_
        exact ih _ _ hf
      · have hf := gd_f c10 hf
        refine r_iconst C dX4_standsBefore_79 kk_i_0 rfl ?_
        cases hf
        exact r_zret C dX4_standsBefore_80 nb0 rfl
def f_X4_standsBefore (digits : Nat → Int32) (words : Nat → Int32) (u1 : Int32) (u2 : Int32) : Option (Int32) := f_X4_standsBefore_2 u1 words (if u1 < 0 ∨ 4 ≤ u1.toNatClampNeg then none else (f_X7_digitCount (words u1.toNatClampNeg)).bind (fun r6 => if r6 ≤ u2 then f_X4_standsBefore_56 u2 r6 digits 2000 (words u1.toNatClampNeg) (u2 - (1 : Int32)) else some ((0 : Int32)))) 2000 (0 : Int32)
set_option maxHeartbeats 4000000 in
set_option maxRecDepth 100000 in
theorem c_X4_standsBefore (l : Launch) (D : va_G) (cI cZ cG : ClassId) (h : Nat) (A : Nat → Nat) (digits : Nat → Int32) (words : Nat → Int32) (u1 : Int32) (u2 : Int32) (res : Int32) (hf : f_X4_standsBefore digits words u1 u2 = some res) : CI l D (tysW cI cZ cG) yX4_standsBefore wsX4_standsBefore rm_X4_standsBefore [.ref h, .int u1, .int u2] [(h, oX4 A), ((A 0), aI cI 9 digits), ((A 1), aI cI 4 words)] res [(h, oX4 A), ((A 0), aI cI 9 digits), ((A 1), aI cI 4 words)] := by
  refine CG.intro (own := RX4) (by decide +kernel) rfl rfl (Nat.le_of_ble_eq_true rfl) (fun p e s m args below meth c C => ?_)
  refine r_lv (lv' := [(0, .ref h), (1, .int u1), (2, .int u2)]) [0, 1, 2] rfl ?_
  unfold f_X4_standsBefore at hf
  refine r_iconst C dX4_standsBefore_0 kk_i_0 rfl ?_
  refine r_istore_n (lv' := [(3, .int (0 : Int32)), (0, .ref h), (1, .int u1), (2, .int u2)]) C dX4_standsBefore_1 rfl (by decide) rfl rfl ?_
  refine r_lv (lv' := [(0, .ref h), (1, .int u1), (2, .int u2), (3, .int (0 : Int32))]) [1, 2, 3, 0] rfl ?_
  refine k_X4_standsBefore_2 C h A digits words u1 u2 _ _ ?_ 2000 _ hf
  · intro hf
    refine r_aload_n C dX4_standsBefore_30 rfl 0 rfl rfl ?_
    refine r_get C dX4_standsBefore_31 fw_X4_standsBefore_X4 0 rfl rfl 1 (by decide) rfl fl_X4_standsBefore_15 rfl rfl ?_
    refine r_iload_n C dX4_standsBefore_34 rfl 1 rfl rfl ?_
    obtain ⟨g5, hf⟩ := gd_n hf
    refine r_iald C dX4_standsBefore_35 2 0 rfl rfl g5 rfl ?_
    refine r_istore_n (lv' := [(3, .int (words u1.toNatClampNeg)), (0, .ref h), (1, .int u1), (2, .int u2)]) C dX4_standsBefore_36 rfl (by decide) rfl rfl ?_
    refine r_iload_n C dX4_standsBefore_37 rfl 0 rfl rfl ?_
    obtain ⟨r6, e6, hf⟩ := gd_b hf
    refine o_I (wn := [(h, oX4 A), ((A 0), aI cI 9 digits), ((A 1), aI cI 4 words)]) C [] rfl (x_SN C dX4_standsBefore_38 (c_X7_digitCount l D cI cZ cG (words u1.toNatClampNeg) r6 e6) rfl gX4_standsBefore_X7_digitCount_n48 (List.mem_of_getElem? (i := 4) rfl) wn_X4_standsBefore_X7_digitCount_s wn_X4_standsBefore_X7_digitCount_i hs_X7_digitCount rfl ⟨Nat.le_of_ble_eq_true rfl, Nat.le_of_ble_eq_true rfl⟩ ⟨rfl, rfl⟩ ⟨Nat.zero_le _, Nat.zero_le _⟩ rfl [] rfl rfl (Nat.le_of_ble_eq_true rfl) rfl) rfl rfl rfl ?_
    refine r_istore (lv' := [(4, .int r6), (3, .int (words u1.toNatClampNeg)), (0, .ref h), (1, .int u1), (2, .int u2)]) C dX4_standsBefore_41 (by decide) rfl rfl ?_
    refine r_iload C dX4_standsBefore_43 0 rfl rfl ?_
    refine r_iload_n C dX4_standsBefore_45 rfl 4 rfl rfl ?_
    refine r_icmp_le (tgt := 51) C dX4_standsBefore_46 rfl rfl (fun c7 => ?_) (fun c7 => ?_)
    · have hf := gd_t c7 hf
      refine r_iload_n C dX4_standsBefore_51 rfl 4 rfl rfl ?_
      refine r_iconst C dX4_standsBefore_52 kk_i_1 rfl ?_
      refine r_isub C dX4_standsBefore_53 rfl ?_
      refine r_istore (lv' := [(5, .int (u2 - (1 : Int32))), (4, .int r6), (3, .int (words u1.toNatClampNeg)), (0, .ref h), (1, .int u1), (2, .int u2)]) C dX4_standsBefore_54 (by decide) rfl rfl ?_
      refine r_lv (lv' := [(0, .ref h), (2, .int u2), (3, .int (words u1.toNatClampNeg)), (4, .int r6), (5, .int (u2 - (1 : Int32)))]) [3, 5, 2, 1, 0] rfl ?_
      refine k_X4_standsBefore_56 C h A digits words u2 r6 _ 2000 _ _ hf
    · have hf := gd_f c7 hf
      refine r_iconst C dX4_standsBefore_49 kk_i_0 rfl ?_
      cases hf
      exact r_zret C dX4_standsBefore_50 nb0 rfl
theorem fw_X4_countReadings_X4 : ∀ w ∈ u_ws RX4 TX4 6, w ∈ wsX4_countReadings := by decide +kernel
theorem fl_X4_countReadings_18 : Cond.fieldLink RX4 18 "MittenLine$Puzzles" "byEnd" "[I" ∈ wsX4_countReadings := by decide +kernel
theorem fl_X4_countReadings_15 : Cond.fieldLink RX4 15 "MittenLine$Puzzles" "words" "[I" ∈ wsX4_countReadings := by decide +kernel
theorem wn_X4_countReadings_X7_digitCount_s : Cond.static yX7_digitCount ∈ wsX4_countReadings := by decide +kernel
theorem wn_X4_countReadings_X7_digitCount_i : Cond.initialized yX7_digitCount.cls ∈ wsX4_countReadings := by decide +kernel
abbrev rm_X4_countReadings : Jvm.Room := { frames := 2, cells := 0, slots := 0, locals := 48 }
def f_X4_countReadings_23 (u2 : Int32) (digits : Nat → Int32) (words : Nat → Int32) (kx68 : (Nat → Int32) → Option (Int32 × (Nat → Int32))) : Nat → Int32 → (Nat → Int32) → Option (Int32 × (Nat → Int32))
  | 0, _, _ => none
  | n + 1, u3, byEnd => if (4 : Int32) ≤ u3 then kx68 byEnd else (f_X4_standsBefore digits words u3 u2).bind (fun r4 => if r4 = 0 then f_X4_countReadings_23 u2 digits words kx68 n (u3 + (1 : Int32)) byEnd else if u2 < 0 ∨ 10 ≤ u2.toNatClampNeg then none else if u3 < 0 ∨ 4 ≤ u3.toNatClampNeg then none else (f_X7_digitCount (words u3.toNatClampNeg)).bind (fun r8 => if (u2 - r8) < 0 ∨ 10 ≤ (u2 - r8).toNatClampNeg then none else f_X4_countReadings_23 u2 digits words kx68 n (u3 + (1 : Int32)) (upd byEnd u2.toNatClampNeg ((byEnd u2.toNatClampNeg) + (byEnd (u2 - r8).toNatClampNeg)))))
set_option maxHeartbeats 4000000 in
set_option maxRecDepth 100000 in
theorem k_X4_countReadings_23 (C : Cx p s m args meth c D (tysW cI cZ cG) RX4 cX4_countReadings 4 wsX4_countReadings (some .int)) (h : Nat) (A : Nat → Nat) (digits : Nat → Int32) (words : Nat → Int32) (u1 : Int32) (u2 : Int32)  (kx68 : (Nat → Int32) → Option (Int32 × (Nat → Int32))) (res : Int32 × (Nat → Int32)) (hkx68 : ∀ (byEnd : Nat → Int32) , kx68 byEnd = some res → Wd p l e rm_X4_countReadings s m args below meth c D w0 4 0 0 (MQ below (QcI D (tysW cI cZ cG) w0 [(h, oX4 A), ((A 0), aI cI 9 digits), ((A 1), aI cI 4 words), ((A 2), aI cI 10 res.2)] res.1 s.heap.size) args s 0 0 (va_A w0 s.heap.size)) [(h, oX4 A), ((A 0), aI cI 9 digits), ((A 1), aI cI 4 words), ((A 2), aI cI 10 byEnd)] [(0, .ref h), (1, .int u1), (2, .int u2)] 68 []) : ∀ (n : Nat) (u3 : Int32) (byEnd : Nat → Int32), f_X4_countReadings_23 u2 digits words kx68 n u3 byEnd = some res → Wd p l e rm_X4_countReadings s m args below meth c D w0 4 0 0 (MQ below (QcI D (tysW cI cZ cG) w0 [(h, oX4 A), ((A 0), aI cI 9 digits), ((A 1), aI cI 4 words), ((A 2), aI cI 10 res.2)] res.1 s.heap.size) args s 0 0 (va_A w0 s.heap.size)) [(h, oX4 A), ((A 0), aI cI 9 digits), ((A 1), aI cI 4 words), ((A 2), aI cI 10 byEnd)] [(0, .ref h), (1, .int u1), (2, .int u2), (3, .int u3)] 23 [] := by
  intro n
  induction n with
  | zero =>
    intro u3 byEnd hf
    exact no_none hf
  | succ n ih =>
    intro u3 byEnd hf
    unfold f_X4_countReadings_23 at hf
    refine r_iload_n C dX4_countReadings_23 rfl 3 rfl rfl ?_
    refine r_iconst C dX4_countReadings_24 kk_i_4 rfl ?_
    refine r_icmp_ge (tgt := 68) C dX4_countReadings_25 rfl rfl (fun c3 => ?_) (fun c3 => ?_)
    · have hf := gd_t c3 hf
      refine r_lv (lv' := [(0, .ref h), (1, .int u1), (2, .int u2)]) [0, 1, 2] rfl ?_
      exact hkx68 _ hf
    · have hf := gd_f c3 hf
      refine r_aload_n C dX4_countReadings_28 rfl 0 rfl rfl ?_
      refine r_iload_n C dX4_countReadings_29 rfl 3 rfl rfl ?_
      refine r_iload_n C dX4_countReadings_30 rfl 2 rfl rfl ?_
      obtain ⟨r4, e4, hf⟩ := gd_b hf
      refine o_I (wn := [(h, oX4 A), ((A 0), aI cI 9 digits), ((A 1), aI cI 4 words), ((A 2), aI cI 10 byEnd)]) C [0, 1, 2] rfl (x_V C dX4_countReadings_31 (c_X4_standsBefore l D cI cZ cG h A digits words u3 u2 r4 e4) rfl gX4_countReadings_X4_standsBefore hd_X4_standsBefore rfl ⟨Nat.le_of_ble_eq_true rfl, Nat.le_of_ble_eq_true rfl⟩ ⟨rfl, rfl⟩ ⟨Nat.zero_le _, Nat.zero_le _⟩ rfl [0, 1, 2] rfl rfl 0 rfl rfl (Nat.le_of_ble_eq_true rfl) rfl) rfl rfl rfl ?_
      refine r_if_eq (y := 0) (tgt := 62) C dX4_countReadings_34 rfl rfl (fun c5 => ?_) (fun c5 => ?_)
      · have hf := gd_t c5 hf
        refine r_iinc (lv' := [(3, .int (u3 + (1 : Int32))), (0, .ref h), (1, .int u1), (2, .int u2)]) C dX4_countReadings_62 3 rfl (ki_1 _) (by decide) rfl rfl ?_
        refine r_goto (tgt := 23) C dX4_countReadings_65 rfl ?_
        refine r_lv (lv' := [(0, .ref h), (1, .int u1), (2, .int u2), (3, .int (u3 + (1 : Int32)))]) [1, 2, 3, 0] rfl ?_
        exact ih _ _ hf
      · have hf := gd_f c5 hf
        refine r_aload_n C dX4_countReadings_37 rfl 0 rfl rfl ?_
        refine r_get C dX4_countReadings_38 fw_X4_countReadings_X4 0 rfl rfl 2 (by decide) rfl fl_X4_countReadings_18 rfl rfl ?_
        refine r_iload_n C dX4_countReadings_41 rfl 2 rfl rfl ?_
        refine r_dup2 C dX4_countReadings_42 rfl rfl rfl ?_
        obtain ⟨g6, hf⟩ := gd_n hf
        refine r_iald C dX4_countReadings_43 3 0 rfl rfl g6 rfl ?_
        refine r_aload_n C dX4_countReadings_44 rfl 0 rfl rfl ?_
        refine r_get C dX4_countReadings_45 fw_X4_countReadings_X4 0 rfl rfl 2 (by decide) rfl fl_X4_countReadings_18 rfl rfl ?_
        refine r_iload_n C dX4_countReadings_48 rfl 2 rfl rfl ?_
        refine r_aload_n C dX4_countReadings_49 rfl 0 rfl rfl ?_
        refine r_get C dX4_countReadings_50 fw_X4_countReadings_X4 0 rfl rfl 1 (by decide) rfl fl_X4_countReadings_15 rfl rfl ?_
        refine r_iload_n C dX4_countReadings_53 rfl 3 rfl rfl ?_
        obtain ⟨g7, hf⟩ := gd_n hf
        refine r_iald C dX4_countReadings_54 2 0 rfl rfl g7 rfl ?_
        obtain ⟨r8, e8, hf⟩ := gd_b hf
        refine o_I (wn := [(h, oX4 A), ((A 0), aI cI 9 digits), ((A 1), aI cI 4 words), ((A 2), aI cI 10 byEnd)]) C [] rfl (x_SN C dX4_countReadings_55 (c_X7_digitCount l D cI cZ cG (words u3.toNatClampNeg) r8 e8) rfl gX4_countReadings_X7_digitCount_n48 (List.mem_of_getElem? (i := 4) rfl) wn_X4_countReadings_X7_digitCount_s wn_X4_countReadings_X7_digitCount_i hs_X7_digitCount rfl ⟨Nat.le_of_ble_eq_true rfl, Nat.le_of_ble_eq_true rfl⟩ ⟨rfl, rfl⟩ ⟨Nat.zero_le _, Nat.zero_le _⟩ rfl [] rfl rfl (Nat.le_of_ble_eq_true rfl) rfl) rfl rfl rfl ?_
        refine r_isub C dX4_countReadings_58 rfl ?_
        obtain ⟨g9, hf⟩ := gd_n hf
        refine r_iald C dX4_countReadings_59 3 0 rfl rfl g9 rfl ?_
        refine r_iadd C dX4_countReadings_60 rfl ?_
        refine r_iast (ws' := [(h, oX4 A), ((A 0), aI cI 9 digits), ((A 1), aI cI 4 words), ((A 2), aI cI 10 (upd byEnd u2.toNatClampNeg ((byEnd u2.toNatClampNeg) + (byEnd (u2 - r8).toNatClampNeg))))]) C dX4_countReadings_61 3 0 rfl rfl g6 rfl rfl ?_
        refine r_iinc (lv' := [(3, .int (u3 + (1 : Int32))), (0, .ref h), (1, .int u1), (2, .int u2)]) C dX4_countReadings_62 3 rfl (ki_1 _) (by decide) rfl rfl ?_
        refine r_goto (tgt := 23) C dX4_countReadings_65 rfl ?_
        refine r_lv (lv' := [(0, .ref h), (1, .int u1), (2, .int u2), (3, .int (u3 + (1 : Int32)))]) [1, 2, 3, 0] rfl ?_
        exact ih _ _ hf
def f_X4_countReadings_9 (u1 : Int32) (digits : Nat → Int32) (words : Nat → Int32) (kx74 : (Nat → Int32) → Option (Int32 × (Nat → Int32))) : Nat → Int32 → (Nat → Int32) → Option (Int32 × (Nat → Int32))
  | 0, _, _ => none
  | n + 1, u2, byEnd => if u1 < u2 then kx74 byEnd else if u2 < 0 ∨ 10 ≤ u2.toNatClampNeg then none else f_X4_countReadings_23 u2 digits words (fun byEnd_10 => f_X4_countReadings_9 u1 digits words kx74 n (u2 + (1 : Int32)) byEnd_10) 2000 (0 : Int32) (upd byEnd u2.toNatClampNeg (0 : Int32))
set_option maxHeartbeats 4000000 in
set_option maxRecDepth 100000 in
theorem k_X4_countReadings_9 (C : Cx p s m args meth c D (tysW cI cZ cG) RX4 cX4_countReadings 4 wsX4_countReadings (some .int)) (h : Nat) (A : Nat → Nat) (digits : Nat → Int32) (words : Nat → Int32) (u1 : Int32)  (kx74 : (Nat → Int32) → Option (Int32 × (Nat → Int32))) (res : Int32 × (Nat → Int32)) (hkx74 : ∀ (byEnd : Nat → Int32) , kx74 byEnd = some res → Wd p l e rm_X4_countReadings s m args below meth c D w0 4 0 0 (MQ below (QcI D (tysW cI cZ cG) w0 [(h, oX4 A), ((A 0), aI cI 9 digits), ((A 1), aI cI 4 words), ((A 2), aI cI 10 res.2)] res.1 s.heap.size) args s 0 0 (va_A w0 s.heap.size)) [(h, oX4 A), ((A 0), aI cI 9 digits), ((A 1), aI cI 4 words), ((A 2), aI cI 10 byEnd)] [(0, .ref h), (1, .int u1)] 74 []) : ∀ (n : Nat) (u2 : Int32) (byEnd : Nat → Int32), f_X4_countReadings_9 u1 digits words kx74 n u2 byEnd = some res → Wd p l e rm_X4_countReadings s m args below meth c D w0 4 0 0 (MQ below (QcI D (tysW cI cZ cG) w0 [(h, oX4 A), ((A 0), aI cI 9 digits), ((A 1), aI cI 4 words), ((A 2), aI cI 10 res.2)] res.1 s.heap.size) args s 0 0 (va_A w0 s.heap.size)) [(h, oX4 A), ((A 0), aI cI 9 digits), ((A 1), aI cI 4 words), ((A 2), aI cI 10 byEnd)] [(0, .ref h), (1, .int u1), (2, .int u2)] 9 [] := by
  intro n
  induction n with
  | zero =>
    intro u2 byEnd hf
    exact no_none hf
  | succ n ih =>
    intro u2 byEnd hf
    unfold f_X4_countReadings_9 at hf
    refine r_iload_n C dX4_countReadings_9 rfl 2 rfl rfl ?_
    refine r_iload_n C dX4_countReadings_10 rfl 1 rfl rfl ?_
    refine r_icmp_gt (tgt := 74) C dX4_countReadings_11 rfl rfl (fun c1 => ?_) (fun c1 => ?_)
    · have hf := gd_t c1 hf
      refine r_lv (lv' := [(0, .ref h), (1, .int u1)]) [0, 1] rfl ?_
      exact hkx74 _ hf
    · have hf := gd_f c1 hf
      refine r_aload_n C dX4_countReadings_14 rfl 0 rfl rfl ?_
      refine r_get C dX4_countReadings_15 fw_X4_countReadings_X4 0 rfl rfl 2 (by decide) rfl fl_X4_countReadings_18 rfl rfl ?_
      refine r_iload_n C dX4_countReadings_18 rfl 2 rfl rfl ?_
      refine r_iconst C dX4_countReadings_19 kk_i_0 rfl ?_
      obtain ⟨g2, hf⟩ := gd_n hf
      refine r_iast (ws' := [(h, oX4 A), ((A 0), aI cI 9 digits), ((A 1), aI cI 4 words), ((A 2), aI cI 10 (upd byEnd u2.toNatClampNeg (0 : Int32)))]) C dX4_countReadings_20 3 0 rfl rfl g2 rfl rfl ?_
      refine r_iconst C dX4_countReadings_21 kk_i_0 rfl ?_
      refine r_istore_n (lv' := [(3, .int (0 : Int32)), (0, .ref h), (1, .int u1), (2, .int u2)]) C dX4_countReadings_22 rfl (by decide) rfl rfl ?_
      refine r_lv (lv' := [(0, .ref h), (1, .int u1), (2, .int u2), (3, .int (0 : Int32))]) [1, 2, 3, 0] rfl ?_
      refine k_X4_countReadings_23 C h A digits words u1 u2 _ _ ?_ 2000 _ _ hf
      · intro byEnd_10 hf
        refine r_iinc (lv' := [(2, .int (u2 + (1 : Int32))), (0, .ref h), (1, .int u1)]) C dX4_countReadings_68 2 rfl (ki_1 _) (by decide) rfl rfl ?_
        refine r_goto (tgt := 9) C dX4_countReadings_71 rfl ?_
        refine r_lv (lv' := [(0, .ref h), (1, .int u1), (2, .int (u2 + (1 : Int32)))]) [1, 2, 0] rfl ?_
        exact ih _ _ hf
def f_X4_countReadings (digits : Nat → Int32) (words : Nat → Int32) (byEnd : Nat → Int32) (u1 : Int32) : Option (Int32 × (Nat → Int32)) := f_X4_countReadings_9 u1 digits words (fun byEnd_11 => if u1 < 0 ∨ 10 ≤ u1.toNatClampNeg then none else some ((byEnd_11 u1.toNatClampNeg), byEnd_11)) 2000 (1 : Int32) (upd byEnd (0 : Int32).toNatClampNeg (1 : Int32))
set_option maxHeartbeats 4000000 in
set_option maxRecDepth 100000 in
theorem c_X4_countReadings (l : Launch) (D : va_G) (cI cZ cG : ClassId) (h : Nat) (A : Nat → Nat) (digits : Nat → Int32) (words : Nat → Int32) (byEnd : Nat → Int32) (u1 : Int32) (res : Int32 × (Nat → Int32)) (hf : f_X4_countReadings digits words byEnd u1 = some res) : CI l D (tysW cI cZ cG) yX4_countReadings wsX4_countReadings rm_X4_countReadings [.ref h, .int u1] [(h, oX4 A), ((A 0), aI cI 9 digits), ((A 1), aI cI 4 words), ((A 2), aI cI 10 byEnd)] res.1 [(h, oX4 A), ((A 0), aI cI 9 digits), ((A 1), aI cI 4 words), ((A 2), aI cI 10 res.2)] := by
  refine CG.intro (own := RX4) (by decide +kernel) rfl rfl (Nat.le_of_ble_eq_true rfl) (fun p e s m args below meth c C => ?_)
  refine r_lv (lv' := [(0, .ref h), (1, .int u1)]) [0, 1] rfl ?_
  unfold f_X4_countReadings at hf
  refine r_aload_n C dX4_countReadings_0 rfl 0 rfl rfl ?_
  refine r_get C dX4_countReadings_1 fw_X4_countReadings_X4 0 rfl rfl 2 (by decide) rfl fl_X4_countReadings_18 rfl rfl ?_
  refine r_iconst C dX4_countReadings_4 kk_i_0 rfl ?_
  refine r_iconst C dX4_countReadings_5 kk_i_1 rfl ?_
  refine r_iast (ws' := [(h, oX4 A), ((A 0), aI cI 9 digits), ((A 1), aI cI 4 words), ((A 2), aI cI 10 (upd byEnd (0 : Int32).toNatClampNeg (1 : Int32)))]) C dX4_countReadings_6 3 0 rfl rfl (by decide) rfl rfl ?_
  refine r_iconst C dX4_countReadings_7 kk_i_1 rfl ?_
  refine r_istore_n (lv' := [(2, .int (1 : Int32)), (0, .ref h), (1, .int u1)]) C dX4_countReadings_8 rfl (by decide) rfl rfl ?_
  refine r_lv (lv' := [(0, .ref h), (1, .int u1), (2, .int (1 : Int32))]) [1, 2, 0] rfl ?_
  refine k_X4_countReadings_9 C h A digits words u1 _ _ ?_ 2000 _ _ hf
  · intro byEnd_11 hf
    refine r_aload_n C dX4_countReadings_74 rfl 0 rfl rfl ?_
    refine r_get C dX4_countReadings_75 fw_X4_countReadings_X4 0 rfl rfl 2 (by decide) rfl fl_X4_countReadings_18 rfl rfl ?_
    refine r_iload_n C dX4_countReadings_78 rfl 1 rfl rfl ?_
    obtain ⟨g12, hf⟩ := gd_n hf
    refine r_iald C dX4_countReadings_79 3 0 rfl rfl g12 rfl ?_
    cases hf
    exact r_iret C dX4_countReadings_80 rfl
theorem fw_X4_fewestWords_X4 : ∀ w ∈ u_ws RX4 TX4 6, w ∈ wsX4_fewestWords := by decide +kernel
theorem fl_X4_fewestWords_18 : Cond.fieldLink RX4 18 "MittenLine$Puzzles" "byEnd" "[I" ∈ wsX4_fewestWords := by decide +kernel
theorem fl_X4_fewestWords_15 : Cond.fieldLink RX4 15 "MittenLine$Puzzles" "words" "[I" ∈ wsX4_fewestWords := by decide +kernel
theorem wn_X4_fewestWords_X7_digitCount_s : Cond.static yX7_digitCount ∈ wsX4_fewestWords := by decide +kernel
theorem wn_X4_fewestWords_X7_digitCount_i : Cond.initialized yX7_digitCount.cls ∈ wsX4_fewestWords := by decide +kernel
abbrev rm_X4_fewestWords : Jvm.Room := { frames := 2, cells := 0, slots := 0, locals := 48 }
def f_X4_fewestWords_24 (u2 : Int32) (digits : Nat → Int32) (words : Nat → Int32) (kx109 : (Nat → Int32) → Option (Int32 × (Nat → Int32))) : Nat → Int32 → (Nat → Int32) → Option (Int32 × (Nat → Int32))
  | 0, _, _ => none
  | n + 1, u3, byEnd => if (4 : Int32) ≤ u3 then kx109 byEnd else (f_X4_standsBefore digits words u3 u2).bind (fun r4 => if r4 = 0 then f_X4_fewestWords_24 u2 digits words kx109 n (u3 + (1 : Int32)) byEnd else if u3 < 0 ∨ 4 ≤ u3.toNatClampNeg then none else (f_X7_digitCount (words u3.toNatClampNeg)).bind (fun r7 => if (u2 - r7) < 0 ∨ 10 ≤ (u2 - r7).toNatClampNeg then none else if (byEnd (u2 - r7).toNatClampNeg) = (-6 : Int32) then f_X4_fewestWords_24 u2 digits words kx109 n (u3 + (1 : Int32)) byEnd else if u2 < 0 ∨ 10 ≤ u2.toNatClampNeg then none else if (byEnd u2.toNatClampNeg) = (-6 : Int32) then f_X4_fewestWords_24 u2 digits words kx109 n (u3 + (1 : Int32)) (upd byEnd u2.toNatClampNeg ((byEnd (u2 - r7).toNatClampNeg) + (1 : Int32))) else if (byEnd u2.toNatClampNeg) ≤ ((byEnd (u2 - r7).toNatClampNeg) + (1 : Int32)) then f_X4_fewestWords_24 u2 digits words kx109 n (u3 + (1 : Int32)) byEnd else f_X4_fewestWords_24 u2 digits words kx109 n (u3 + (1 : Int32)) (upd byEnd u2.toNatClampNeg ((byEnd (u2 - r7).toNatClampNeg) + (1 : Int32)))))
set_option maxHeartbeats 4000000 in
set_option maxRecDepth 100000 in
theorem k_X4_fewestWords_24 (C : Cx p s m args meth c D (tysW cI cZ cG) RX4 cX4_fewestWords 5 wsX4_fewestWords (some .int)) (h : Nat) (A : Nat → Nat) (digits : Nat → Int32) (words : Nat → Int32) (u1 : Int32) (u2 : Int32)  (kx109 : (Nat → Int32) → Option (Int32 × (Nat → Int32))) (res : Int32 × (Nat → Int32)) (hkx109 : ∀ (byEnd : Nat → Int32) , kx109 byEnd = some res → Wd p l e rm_X4_fewestWords s m args below meth c D w0 5 0 0 (MQ below (QcI D (tysW cI cZ cG) w0 [(h, oX4 A), ((A 0), aI cI 9 digits), ((A 1), aI cI 4 words), ((A 2), aI cI 10 res.2)] res.1 s.heap.size) args s 0 0 (va_A w0 s.heap.size)) [(h, oX4 A), ((A 0), aI cI 9 digits), ((A 1), aI cI 4 words), ((A 2), aI cI 10 byEnd)] [(0, .ref h), (1, .int u1), (2, .int u2)] 109 []) : ∀ (n : Nat) (u3 : Int32) (byEnd : Nat → Int32), f_X4_fewestWords_24 u2 digits words kx109 n u3 byEnd = some res → Wd p l e rm_X4_fewestWords s m args below meth c D w0 5 0 0 (MQ below (QcI D (tysW cI cZ cG) w0 [(h, oX4 A), ((A 0), aI cI 9 digits), ((A 1), aI cI 4 words), ((A 2), aI cI 10 res.2)] res.1 s.heap.size) args s 0 0 (va_A w0 s.heap.size)) [(h, oX4 A), ((A 0), aI cI 9 digits), ((A 1), aI cI 4 words), ((A 2), aI cI 10 byEnd)] [(0, .ref h), (1, .int u1), (2, .int u2), (3, .int u3)] 24 [] := by
  intro n
  induction n with
  | zero =>
    intro u3 byEnd hf
    exact no_none hf
  | succ n ih =>
    intro u3 byEnd hf
    unfold f_X4_fewestWords_24 at hf
    refine r_iload_n C dX4_fewestWords_24 rfl 3 rfl rfl ?_
    refine r_iconst C dX4_fewestWords_25 kk_i_4 rfl ?_
    refine r_icmp_ge (tgt := 109) C dX4_fewestWords_26 rfl rfl (fun c3 => ?_) (fun c3 => ?_)
    · have hf := gd_t c3 hf
      refine r_lv (lv' := [(0, .ref h), (1, .int u1), (2, .int u2)]) [0, 1, 2] rfl ?_
      exact hkx109 _ hf
    · have hf := gd_f c3 hf
      refine r_aload_n C dX4_fewestWords_29 rfl 0 rfl rfl ?_
      refine r_iload_n C dX4_fewestWords_30 rfl 3 rfl rfl ?_
      refine r_iload_n C dX4_fewestWords_31 rfl 2 rfl rfl ?_
      obtain ⟨r4, e4, hf⟩ := gd_b hf
      refine o_I (wn := [(h, oX4 A), ((A 0), aI cI 9 digits), ((A 1), aI cI 4 words), ((A 2), aI cI 10 byEnd)]) C [0, 1, 2] rfl (x_V C dX4_fewestWords_32 (c_X4_standsBefore l D cI cZ cG h A digits words u3 u2 r4 e4) rfl gX4_fewestWords_X4_standsBefore hd_X4_standsBefore rfl ⟨Nat.le_of_ble_eq_true rfl, Nat.le_of_ble_eq_true rfl⟩ ⟨rfl, rfl⟩ ⟨Nat.zero_le _, Nat.zero_le _⟩ rfl [0, 1, 2] rfl rfl 0 rfl rfl (Nat.le_of_ble_eq_true rfl) rfl) rfl rfl rfl ?_
      refine r_if_ne (y := 0) (tgt := 41) C dX4_fewestWords_35 rfl rfl (fun c5 => ?_) (fun c5 => ?_)
      · have hf := gd_f c5 hf
        refine r_aload_n C dX4_fewestWords_41 rfl 0 rfl rfl ?_
        refine r_get C dX4_fewestWords_42 fw_X4_fewestWords_X4 0 rfl rfl 2 (by decide) rfl fl_X4_fewestWords_18 rfl rfl ?_
        refine r_iload_n C dX4_fewestWords_45 rfl 2 rfl rfl ?_
        refine r_aload_n C dX4_fewestWords_46 rfl 0 rfl rfl ?_
        refine r_get C dX4_fewestWords_47 fw_X4_fewestWords_X4 0 rfl rfl 1 (by decide) rfl fl_X4_fewestWords_15 rfl rfl ?_
        refine r_iload_n C dX4_fewestWords_50 rfl 3 rfl rfl ?_
        obtain ⟨g6, hf⟩ := gd_n hf
        refine r_iald C dX4_fewestWords_51 2 0 rfl rfl g6 rfl ?_
        obtain ⟨r7, e7, hf⟩ := gd_b hf
        refine o_I (wn := [(h, oX4 A), ((A 0), aI cI 9 digits), ((A 1), aI cI 4 words), ((A 2), aI cI 10 byEnd)]) C [] rfl (x_SN C dX4_fewestWords_52 (c_X7_digitCount l D cI cZ cG (words u3.toNatClampNeg) r7 e7) rfl gX4_fewestWords_X7_digitCount_n48 (List.mem_of_getElem? (i := 4) rfl) wn_X4_fewestWords_X7_digitCount_s wn_X4_fewestWords_X7_digitCount_i hs_X7_digitCount rfl ⟨Nat.le_of_ble_eq_true rfl, Nat.le_of_ble_eq_true rfl⟩ ⟨rfl, rfl⟩ ⟨Nat.zero_le _, Nat.zero_le _⟩ rfl [] rfl rfl (Nat.le_of_ble_eq_true rfl) rfl) rfl rfl rfl ?_
        refine r_isub C dX4_fewestWords_55 rfl ?_
        obtain ⟨g8, hf⟩ := gd_n hf
        refine r_iald C dX4_fewestWords_56 3 0 rfl rfl g8 rfl ?_
        refine r_istore (lv' := [(4, .int (byEnd (u2 - r7).toNatClampNeg)), (0, .ref h), (1, .int u1), (2, .int u2), (3, .int u3)]) C dX4_fewestWords_57 (by decide) rfl rfl ?_
        refine r_iload C dX4_fewestWords_59 0 rfl rfl ?_
        refine r_bipush C dX4_fewestWords_61 kk_b_m6 rfl ?_
        refine r_icmp_ne (tgt := 69) C dX4_fewestWords_63 rfl rfl (fun c9 => ?_) (fun c9 => ?_)
        · have hf := gd_f c9 hf
          refine r_aload_n C dX4_fewestWords_69 rfl 1 rfl rfl ?_
          refine r_get C dX4_fewestWords_70 fw_X4_fewestWords_X4 0 rfl rfl 2 (by decide) rfl fl_X4_fewestWords_18 rfl rfl ?_
          refine r_iload_n C dX4_fewestWords_73 rfl 3 rfl rfl ?_
          obtain ⟨g10, hf⟩ := gd_n hf
          refine r_iald C dX4_fewestWords_74 3 0 rfl rfl g10 rfl ?_
          refine r_bipush C dX4_fewestWords_75 kk_b_m6 rfl ?_
          refine r_icmp_eq (tgt := 93) C dX4_fewestWords_77 rfl rfl (fun c11 => ?_) (fun c11 => ?_)
          · have hf := gd_t c11 hf
            refine r_aload_n C dX4_fewestWords_93 rfl 1 rfl rfl ?_
            refine r_get C dX4_fewestWords_94 fw_X4_fewestWords_X4 0 rfl rfl 2 (by decide) rfl fl_X4_fewestWords_18 rfl rfl ?_
            refine r_iload_n C dX4_fewestWords_97 rfl 3 rfl rfl ?_
            refine r_iload C dX4_fewestWords_98 0 rfl rfl ?_
            refine r_iconst C dX4_fewestWords_100 kk_i_1 rfl ?_
            refine r_iadd C dX4_fewestWords_101 rfl ?_
            refine r_iast (ws' := [(h, oX4 A), ((A 0), aI cI 9 digits), ((A 1), aI cI 4 words), ((A 2), aI cI 10 (upd byEnd u2.toNatClampNeg ((byEnd (u2 - r7).toNatClampNeg) + (1 : Int32))))]) C dX4_fewestWords_102 3 0 rfl rfl g10 rfl rfl ?_
            refine r_iinc (lv' := [(3, .int (u3 + (1 : Int32))), (4, .int (byEnd (u2 - r7).toNatClampNeg)), (0, .ref h), (1, .int u1), (2, .int u2)]) C dX4_fewestWords_103 4 rfl (ki_1 _) (by decide) rfl rfl ?_
            refine r_goto (tgt := 24) C dX4_fewestWords_106 rfl ?_
            refine r_lv (lv' := [(0, .ref h), (1, .int u1), (2, .int u2), (3, .int (u3 + (1 : Int32)))]) [2, 3, 4, 0] rfl ?_
            exact ih _ _ hf
          · have hf := gd_f c11 hf
            refine r_iload C dX4_fewestWords_80 0 rfl rfl ?_
            refine r_iconst C dX4_fewestWords_82 kk_i_1 rfl ?_
            refine r_iadd C dX4_fewestWords_83 rfl ?_
            refine r_aload_n C dX4_fewestWords_84 rfl 1 rfl rfl ?_
            refine r_get C dX4_fewestWords_85 fw_X4_fewestWords_X4 0 rfl rfl 2 (by decide) rfl fl_X4_fewestWords_18 rfl rfl ?_
            refine r_iload_n C dX4_fewestWords_88 rfl 3 rfl rfl ?_
            refine r_iald C dX4_fewestWords_89 3 0 rfl rfl g10 rfl ?_
            refine r_icmp_ge (tgt := 103) C dX4_fewestWords_90 rfl rfl (fun c12 => ?_) (fun c12 => ?_)
            · have hf := gd_t c12 hf
              refine r_iinc (lv' := [(3, .int (u3 + (1 : Int32))), (4, .int (byEnd (u2 - r7).toNatClampNeg)), (0, .ref h), (1, .int u1), (2, .int u2)]) C dX4_fewestWords_103 4 rfl (ki_1 _) (by decide) rfl rfl ?_
              refine r_goto (tgt := 24) C dX4_fewestWords_106 rfl ?_
              refine r_lv (lv' := [(0, .ref h), (1, .int u1), (2, .int u2), (3, .int (u3 + (1 : Int32)))]) [2, 3, 4, 0] rfl ?_
              exact ih _ _ hf
            · have hf := gd_f c12 hf
              refine r_aload_n C dX4_fewestWords_93 rfl 1 rfl rfl ?_
              refine r_get C dX4_fewestWords_94 fw_X4_fewestWords_X4 0 rfl rfl 2 (by decide) rfl fl_X4_fewestWords_18 rfl rfl ?_
              refine r_iload_n C dX4_fewestWords_97 rfl 3 rfl rfl ?_
              refine r_iload C dX4_fewestWords_98 0 rfl rfl ?_
              refine r_iconst C dX4_fewestWords_100 kk_i_1 rfl ?_
              refine r_iadd C dX4_fewestWords_101 rfl ?_
              refine r_iast (ws' := [(h, oX4 A), ((A 0), aI cI 9 digits), ((A 1), aI cI 4 words), ((A 2), aI cI 10 (upd byEnd u2.toNatClampNeg ((byEnd (u2 - r7).toNatClampNeg) + (1 : Int32))))]) C dX4_fewestWords_102 3 0 rfl rfl g10 rfl rfl ?_
              refine r_iinc (lv' := [(3, .int (u3 + (1 : Int32))), (4, .int (byEnd (u2 - r7).toNatClampNeg)), (0, .ref h), (1, .int u1), (2, .int u2)]) C dX4_fewestWords_103 4 rfl (ki_1 _) (by decide) rfl rfl ?_
              refine r_goto (tgt := 24) C dX4_fewestWords_106 rfl ?_
              refine r_lv (lv' := [(0, .ref h), (1, .int u1), (2, .int u2), (3, .int (u3 + (1 : Int32)))]) [2, 3, 4, 0] rfl ?_
              exact ih _ _ hf
        · have hf := gd_t c9 hf
          refine r_goto (tgt := 103) C dX4_fewestWords_66 rfl ?_
          refine r_iinc (lv' := [(3, .int (u3 + (1 : Int32))), (4, .int (byEnd (u2 - r7).toNatClampNeg)), (0, .ref h), (1, .int u1), (2, .int u2)]) C dX4_fewestWords_103 4 rfl (ki_1 _) (by decide) rfl rfl ?_
          refine r_goto (tgt := 24) C dX4_fewestWords_106 rfl ?_
          refine r_lv (lv' := [(0, .ref h), (1, .int u1), (2, .int u2), (3, .int (u3 + (1 : Int32)))]) [2, 3, 4, 0] rfl ?_
          exact ih _ _ hf
      · have hf := gd_t c5 hf
        refine r_goto (tgt := 103) C dX4_fewestWords_38 rfl ?_
        refine r_iinc (lv' := [(3, .int (u3 + (1 : Int32))), (0, .ref h), (1, .int u1), (2, .int u2)]) C dX4_fewestWords_103 3 rfl (ki_1 _) (by decide) rfl rfl ?_
        refine r_goto (tgt := 24) C dX4_fewestWords_106 rfl ?_
        refine r_lv (lv' := [(0, .ref h), (1, .int u1), (2, .int u2), (3, .int (u3 + (1 : Int32)))]) [1, 2, 3, 0] rfl ?_
        exact ih _ _ hf
def f_X4_fewestWords_9 (u1 : Int32) (digits : Nat → Int32) (words : Nat → Int32) (kx115 : (Nat → Int32) → Option (Int32 × (Nat → Int32))) : Nat → Int32 → (Nat → Int32) → Option (Int32 × (Nat → Int32))
  | 0, _, _ => none
  | n + 1, u2, byEnd => if u1 < u2 then kx115 byEnd else if u2 < 0 ∨ 10 ≤ u2.toNatClampNeg then none else f_X4_fewestWords_24 u2 digits words (fun byEnd_13 => f_X4_fewestWords_9 u1 digits words kx115 n (u2 + (1 : Int32)) byEnd_13) 2000 (0 : Int32) (upd byEnd u2.toNatClampNeg (-6 : Int32))
set_option maxHeartbeats 4000000 in
set_option maxRecDepth 100000 in
theorem k_X4_fewestWords_9 (C : Cx p s m args meth c D (tysW cI cZ cG) RX4 cX4_fewestWords 5 wsX4_fewestWords (some .int)) (h : Nat) (A : Nat → Nat) (digits : Nat → Int32) (words : Nat → Int32) (u1 : Int32)  (kx115 : (Nat → Int32) → Option (Int32 × (Nat → Int32))) (res : Int32 × (Nat → Int32)) (hkx115 : ∀ (byEnd : Nat → Int32) , kx115 byEnd = some res → Wd p l e rm_X4_fewestWords s m args below meth c D w0 5 0 0 (MQ below (QcI D (tysW cI cZ cG) w0 [(h, oX4 A), ((A 0), aI cI 9 digits), ((A 1), aI cI 4 words), ((A 2), aI cI 10 res.2)] res.1 s.heap.size) args s 0 0 (va_A w0 s.heap.size)) [(h, oX4 A), ((A 0), aI cI 9 digits), ((A 1), aI cI 4 words), ((A 2), aI cI 10 byEnd)] [(0, .ref h), (1, .int u1)] 115 []) : ∀ (n : Nat) (u2 : Int32) (byEnd : Nat → Int32), f_X4_fewestWords_9 u1 digits words kx115 n u2 byEnd = some res → Wd p l e rm_X4_fewestWords s m args below meth c D w0 5 0 0 (MQ below (QcI D (tysW cI cZ cG) w0 [(h, oX4 A), ((A 0), aI cI 9 digits), ((A 1), aI cI 4 words), ((A 2), aI cI 10 res.2)] res.1 s.heap.size) args s 0 0 (va_A w0 s.heap.size)) [(h, oX4 A), ((A 0), aI cI 9 digits), ((A 1), aI cI 4 words), ((A 2), aI cI 10 byEnd)] [(0, .ref h), (1, .int u1), (2, .int u2)] 9 [] := by
  intro n
  induction n with
  | zero =>
    intro u2 byEnd hf
    exact no_none hf
  | succ n ih =>
    intro u2 byEnd hf
    unfold f_X4_fewestWords_9 at hf
    refine r_iload_n C dX4_fewestWords_9 rfl 2 rfl rfl ?_
    refine r_iload_n C dX4_fewestWords_10 rfl 1 rfl rfl ?_
    refine r_icmp_gt (tgt := 115) C dX4_fewestWords_11 rfl rfl (fun c1 => ?_) (fun c1 => ?_)
    · have hf := gd_t c1 hf
      refine r_lv (lv' := [(0, .ref h), (1, .int u1)]) [0, 1] rfl ?_
      exact hkx115 _ hf
    · have hf := gd_f c1 hf
      refine r_aload_n C dX4_fewestWords_14 rfl 0 rfl rfl ?_
      refine r_get C dX4_fewestWords_15 fw_X4_fewestWords_X4 0 rfl rfl 2 (by decide) rfl fl_X4_fewestWords_18 rfl rfl ?_
      refine r_iload_n C dX4_fewestWords_18 rfl 2 rfl rfl ?_
      refine r_bipush C dX4_fewestWords_19 kk_b_m6 rfl ?_
      obtain ⟨g2, hf⟩ := gd_n hf
      refine r_iast (ws' := [(h, oX4 A), ((A 0), aI cI 9 digits), ((A 1), aI cI 4 words), ((A 2), aI cI 10 (upd byEnd u2.toNatClampNeg (-6 : Int32)))]) C dX4_fewestWords_21 3 0 rfl rfl g2 rfl rfl ?_
      refine r_iconst C dX4_fewestWords_22 kk_i_0 rfl ?_
      refine r_istore_n (lv' := [(3, .int (0 : Int32)), (0, .ref h), (1, .int u1), (2, .int u2)]) C dX4_fewestWords_23 rfl (by decide) rfl rfl ?_
      refine r_lv (lv' := [(0, .ref h), (1, .int u1), (2, .int u2), (3, .int (0 : Int32))]) [1, 2, 3, 0] rfl ?_
      refine k_X4_fewestWords_24 C h A digits words u1 u2 _ _ ?_ 2000 _ _ hf
      · intro byEnd_13 hf
        refine r_iinc (lv' := [(2, .int (u2 + (1 : Int32))), (0, .ref h), (1, .int u1)]) C dX4_fewestWords_109 2 rfl (ki_1 _) (by decide) rfl rfl ?_
        refine r_goto (tgt := 9) C dX4_fewestWords_112 rfl ?_
        refine r_lv (lv' := [(0, .ref h), (1, .int u1), (2, .int (u2 + (1 : Int32)))]) [1, 2, 0] rfl ?_
        exact ih _ _ hf
def f_X4_fewestWords (digits : Nat → Int32) (words : Nat → Int32) (byEnd : Nat → Int32) (u1 : Int32) : Option (Int32 × (Nat → Int32)) := f_X4_fewestWords_9 u1 digits words (fun byEnd_14 => if u1 < 0 ∨ 10 ≤ u1.toNatClampNeg then none else some ((byEnd_14 u1.toNatClampNeg), byEnd_14)) 2000 (1 : Int32) (upd byEnd (0 : Int32).toNatClampNeg (0 : Int32))
set_option maxHeartbeats 4000000 in
set_option maxRecDepth 100000 in
theorem c_X4_fewestWords (l : Launch) (D : va_G) (cI cZ cG : ClassId) (h : Nat) (A : Nat → Nat) (digits : Nat → Int32) (words : Nat → Int32) (byEnd : Nat → Int32) (u1 : Int32) (res : Int32 × (Nat → Int32)) (hf : f_X4_fewestWords digits words byEnd u1 = some res) : CI l D (tysW cI cZ cG) yX4_fewestWords wsX4_fewestWords rm_X4_fewestWords [.ref h, .int u1] [(h, oX4 A), ((A 0), aI cI 9 digits), ((A 1), aI cI 4 words), ((A 2), aI cI 10 byEnd)] res.1 [(h, oX4 A), ((A 0), aI cI 9 digits), ((A 1), aI cI 4 words), ((A 2), aI cI 10 res.2)] := by
  refine CG.intro (own := RX4) (by decide +kernel) rfl rfl (Nat.le_of_ble_eq_true rfl) (fun p e s m args below meth c C => ?_)
  refine r_lv (lv' := [(0, .ref h), (1, .int u1)]) [0, 1] rfl ?_
  unfold f_X4_fewestWords at hf
  refine r_aload_n C dX4_fewestWords_0 rfl 0 rfl rfl ?_
  refine r_get C dX4_fewestWords_1 fw_X4_fewestWords_X4 0 rfl rfl 2 (by decide) rfl fl_X4_fewestWords_18 rfl rfl ?_
  refine r_iconst C dX4_fewestWords_4 kk_i_0 rfl ?_
  refine r_iconst C dX4_fewestWords_5 kk_i_0 rfl ?_
  refine r_iast (ws' := [(h, oX4 A), ((A 0), aI cI 9 digits), ((A 1), aI cI 4 words), ((A 2), aI cI 10 (upd byEnd (0 : Int32).toNatClampNeg (0 : Int32)))]) C dX4_fewestWords_6 3 0 rfl rfl (by decide) rfl rfl ?_
  refine r_iconst C dX4_fewestWords_7 kk_i_1 rfl ?_
  refine r_istore_n (lv' := [(2, .int (1 : Int32)), (0, .ref h), (1, .int u1)]) C dX4_fewestWords_8 rfl (by decide) rfl rfl ?_
  refine r_lv (lv' := [(0, .ref h), (1, .int u1), (2, .int (1 : Int32))]) [1, 2, 0] rfl ?_
  refine k_X4_fewestWords_9 C h A digits words u1 _ _ ?_ 2000 _ _ hf
  · intro byEnd_14 hf
    refine r_aload_n C dX4_fewestWords_115 rfl 0 rfl rfl ?_
    refine r_get C dX4_fewestWords_116 fw_X4_fewestWords_X4 0 rfl rfl 2 (by decide) rfl fl_X4_fewestWords_18 rfl rfl ?_
    refine r_iload_n C dX4_fewestWords_119 rfl 1 rfl rfl ?_
    obtain ⟨g15, hf⟩ := gd_n hf
    refine r_iald C dX4_fewestWords_120 3 0 rfl rfl g15 rfl ?_
    cases hf
    exact r_iret C dX4_fewestWords_121 rfl
theorem fw_X4_winningPulls_X4 : ∀ w ∈ u_ws RX4 TX4 6, w ∈ wsX4_winningPulls := by decide +kernel
theorem fl_X4_winningPulls_29 : Cond.fieldLink RX4 29 "MittenLine$Puzzles" "winning" "[I" ∈ wsX4_winningPulls := by decide +kernel
abbrev rm_X4_winningPulls : Jvm.Room := { frames := 0, cells := 0, slots := 0, locals := 0 }
def f_X4_winningPulls_13 (u2 : Int32) (u3 : Int32) (winning : Nat → Int32) (kx59 : Int32 → Option (Int32 × (Nat → Int32))) : Nat → Int32 → Int32 → Option (Int32 × (Nat → Int32))
  | 0, _, _ => none
  | n + 1, u4, u5 => if u2 < u5 then kx59 u4 else if u3 < u5 then kx59 u4 else if (u3 - u5) < 0 ∨ 100 ≤ (u3 - u5).toNatClampNeg then none else if ((winning (u3 - u5).toNatClampNeg) &&& (((1 : Int32) <<< (u5 &&& 31)) ^^^ (-1 : Int32))) = 0 then f_X4_winningPulls_13 u2 u3 winning kx59 n (u4 ||| ((1 : Int32) <<< (u5 &&& 31))) (u5 + (1 : Int32)) else f_X4_winningPulls_13 u2 u3 winning kx59 n u4 (u5 + (1 : Int32))
set_option maxHeartbeats 4000000 in
set_option maxRecDepth 100000 in
theorem k_X4_winningPulls_13 (C : Cx p s m args meth c D (tysW cI cZ cG) RX4 cX4_winningPulls 6 wsX4_winningPulls (some .int)) (h : Nat) (A : Nat → Nat) (winning : Nat → Int32) (u1 : Int32) (u2 : Int32) (u3 : Int32)  (kx59 : Int32 → Option (Int32 × (Nat → Int32))) (res : Int32 × (Nat → Int32)) (hkx59 : ∀ (u4 : Int32) , kx59 u4 = some res → Wd p l e rm_X4_winningPulls s m args below meth c D w0 6 0 0 (MQ below (QcI D (tysW cI cZ cG) w0 [(h, oX4 A), ((A 5), aI cI 100 res.2)] res.1 s.heap.size) args s 0 0 (va_A w0 s.heap.size)) [(h, oX4 A), ((A 5), aI cI 100 winning)] [(0, .ref h), (1, .int u1), (2, .int u2), (3, .int u3), (4, .int u4)] 59 []) : ∀ (n : Nat) (u4 : Int32) (u5 : Int32), f_X4_winningPulls_13 u2 u3 winning kx59 n u4 u5 = some res → Wd p l e rm_X4_winningPulls s m args below meth c D w0 6 0 0 (MQ below (QcI D (tysW cI cZ cG) w0 [(h, oX4 A), ((A 5), aI cI 100 res.2)] res.1 s.heap.size) args s 0 0 (va_A w0 s.heap.size)) [(h, oX4 A), ((A 5), aI cI 100 winning)] [(0, .ref h), (1, .int u1), (2, .int u2), (3, .int u3), (4, .int u4), (5, .int u5)] 13 [] := by
  intro n
  induction n with
  | zero =>
    intro u4 u5 hf
    exact no_none hf
  | succ n ih =>
    intro u4 u5 hf
    unfold f_X4_winningPulls_13 at hf
    refine r_iload C dX4_winningPulls_13 5 rfl rfl ?_
    refine r_iload_n C dX4_winningPulls_15 rfl 2 rfl rfl ?_
    refine r_icmp_gt (tgt := 59) C dX4_winningPulls_16 rfl rfl (fun c2 => ?_) (fun c2 => ?_)
    · have hf := gd_t c2 hf
      refine r_lv (lv' := [(0, .ref h), (1, .int u1), (2, .int u2), (3, .int u3), (4, .int u4)]) [0, 1, 2, 3, 4] rfl ?_
      exact hkx59 _ hf
    · have hf := gd_f c2 hf
      refine r_iload C dX4_winningPulls_19 5 rfl rfl ?_
      refine r_iload_n C dX4_winningPulls_21 rfl 3 rfl rfl ?_
      refine r_icmp_gt (tgt := 59) C dX4_winningPulls_22 rfl rfl (fun c3 => ?_) (fun c3 => ?_)
      · have hf := gd_t c3 hf
        refine r_lv (lv' := [(0, .ref h), (1, .int u1), (2, .int u2), (3, .int u3), (4, .int u4)]) [0, 1, 2, 3, 4] rfl ?_
        exact hkx59 _ hf
      · have hf := gd_f c3 hf
        refine r_aload_n C dX4_winningPulls_25 rfl 0 rfl rfl ?_
        refine r_get C dX4_winningPulls_26 fw_X4_winningPulls_X4 0 rfl rfl 5 (by decide) rfl fl_X4_winningPulls_29 rfl rfl ?_
        refine r_iload_n C dX4_winningPulls_29 rfl 3 rfl rfl ?_
        refine r_iload C dX4_winningPulls_30 5 rfl rfl ?_
        refine r_isub C dX4_winningPulls_32 rfl ?_
        obtain ⟨g4, hf⟩ := gd_n hf
        refine r_iald C dX4_winningPulls_33 1 0 rfl rfl g4 rfl ?_
        refine r_iconst C dX4_winningPulls_34 kk_i_1 rfl ?_
        refine r_iload C dX4_winningPulls_35 5 rfl rfl ?_
        refine r_ishl C dX4_winningPulls_37 rfl ?_
        refine r_iconst C dX4_winningPulls_38 kk_i_m1 rfl ?_
        refine r_ixor C dX4_winningPulls_39 rfl ?_
        refine r_iand C dX4_winningPulls_40 rfl ?_
        refine r_if_ne (y := 0) (tgt := 53) C dX4_winningPulls_41 rfl rfl (fun c5 => ?_) (fun c5 => ?_)
        · have hf := gd_f c5 hf
          refine r_iinc (lv' := [(5, .int (u5 + (1 : Int32))), (0, .ref h), (1, .int u1), (2, .int u2), (3, .int u3), (4, .int u4)]) C dX4_winningPulls_53 5 rfl (ki_1 _) (by decide) rfl rfl ?_
          refine r_goto (tgt := 13) C dX4_winningPulls_56 rfl ?_
          refine r_lv (lv' := [(0, .ref h), (1, .int u1), (2, .int u2), (3, .int u3), (4, .int u4), (5, .int (u5 + (1 : Int32)))]) [1, 2, 3, 4, 5, 0] rfl ?_
          exact ih _ _ hf
        · have hf := gd_t c5 hf
          refine r_iload C dX4_winningPulls_44 4 rfl rfl ?_
          refine r_iconst C dX4_winningPulls_46 kk_i_1 rfl ?_
          refine r_iload C dX4_winningPulls_47 5 rfl rfl ?_
          refine r_ishl C dX4_winningPulls_49 rfl ?_
          refine r_ior C dX4_winningPulls_50 rfl ?_
          refine r_istore (lv' := [(4, .int (u4 ||| ((1 : Int32) <<< (u5 &&& 31)))), (0, .ref h), (1, .int u1), (2, .int u2), (3, .int u3), (5, .int u5)]) C dX4_winningPulls_51 (by decide) rfl rfl ?_
          refine r_iinc (lv' := [(5, .int (u5 + (1 : Int32))), (4, .int (u4 ||| ((1 : Int32) <<< (u5 &&& 31)))), (0, .ref h), (1, .int u1), (2, .int u2), (3, .int u3)]) C dX4_winningPulls_53 5 rfl (ki_1 _) (by decide) rfl rfl ?_
          refine r_goto (tgt := 13) C dX4_winningPulls_56 rfl ?_
          refine r_lv (lv' := [(0, .ref h), (1, .int u1), (2, .int u2), (3, .int u3), (4, .int (u4 ||| ((1 : Int32) <<< (u5 &&& 31)))), (5, .int (u5 + (1 : Int32)))]) [2, 3, 4, 5, 1, 0] rfl ?_
          exact ih _ _ hf
def f_X4_winningPulls_2 (u1 : Int32) (u2 : Int32) (kx73 : (Nat → Int32) → Option (Int32 × (Nat → Int32))) : Nat → Int32 → (Nat → Int32) → Option (Int32 × (Nat → Int32))
  | 0, _, _ => none
  | n + 1, u3, winning => if u1 < u3 then kx73 winning else f_X4_winningPulls_13 u2 u3 winning (fun u4_6 => if u3 < 0 ∨ 100 ≤ u3.toNatClampNeg then none else f_X4_winningPulls_2 u1 u2 kx73 n (u3 + (1 : Int32)) (upd winning u3.toNatClampNeg u4_6)) 2000 (0 : Int32) (1 : Int32)
set_option maxHeartbeats 4000000 in
set_option maxRecDepth 100000 in
theorem k_X4_winningPulls_2 (C : Cx p s m args meth c D (tysW cI cZ cG) RX4 cX4_winningPulls 6 wsX4_winningPulls (some .int)) (h : Nat) (A : Nat → Nat) (u1 : Int32) (u2 : Int32)  (kx73 : (Nat → Int32) → Option (Int32 × (Nat → Int32))) (res : Int32 × (Nat → Int32)) (hkx73 : ∀ (winning : Nat → Int32) , kx73 winning = some res → Wd p l e rm_X4_winningPulls s m args below meth c D w0 6 0 0 (MQ below (QcI D (tysW cI cZ cG) w0 [(h, oX4 A), ((A 5), aI cI 100 res.2)] res.1 s.heap.size) args s 0 0 (va_A w0 s.heap.size)) [(h, oX4 A), ((A 5), aI cI 100 winning)] [(0, .ref h), (1, .int u1)] 73 []) : ∀ (n : Nat) (u3 : Int32) (winning : Nat → Int32), f_X4_winningPulls_2 u1 u2 kx73 n u3 winning = some res → Wd p l e rm_X4_winningPulls s m args below meth c D w0 6 0 0 (MQ below (QcI D (tysW cI cZ cG) w0 [(h, oX4 A), ((A 5), aI cI 100 res.2)] res.1 s.heap.size) args s 0 0 (va_A w0 s.heap.size)) [(h, oX4 A), ((A 5), aI cI 100 winning)] [(0, .ref h), (1, .int u1), (2, .int u2), (3, .int u3)] 2 [] := by
  intro n
  induction n with
  | zero =>
    intro u3 winning hf
    exact no_none hf
  | succ n ih =>
    intro u3 winning hf
    unfold f_X4_winningPulls_2 at hf
    refine r_iload_n C dX4_winningPulls_2 rfl 3 rfl rfl ?_
    refine r_iload_n C dX4_winningPulls_3 rfl 1 rfl rfl ?_
    refine r_icmp_gt (tgt := 73) C dX4_winningPulls_4 rfl rfl (fun c1 => ?_) (fun c1 => ?_)
    · have hf := gd_t c1 hf
      refine r_lv (lv' := [(0, .ref h), (1, .int u1)]) [0, 1] rfl ?_
      exact hkx73 _ hf
    · have hf := gd_f c1 hf
      refine r_iconst C dX4_winningPulls_7 kk_i_0 rfl ?_
      refine r_istore (lv' := [(4, .int (0 : Int32)), (0, .ref h), (1, .int u1), (2, .int u2), (3, .int u3)]) C dX4_winningPulls_8 (by decide) rfl rfl ?_
      refine r_iconst C dX4_winningPulls_10 kk_i_1 rfl ?_
      refine r_istore (lv' := [(5, .int (1 : Int32)), (4, .int (0 : Int32)), (0, .ref h), (1, .int u1), (2, .int u2), (3, .int u3)]) C dX4_winningPulls_11 (by decide) rfl rfl ?_
      refine r_lv (lv' := [(0, .ref h), (1, .int u1), (2, .int u2), (3, .int u3), (4, .int (0 : Int32)), (5, .int (1 : Int32))]) [2, 3, 4, 5, 1, 0] rfl ?_
      refine k_X4_winningPulls_13 C h A winning u1 u2 u3 _ _ ?_ 2000 _ _ hf
      · intro u4_6 hf
        refine r_aload_n C dX4_winningPulls_59 rfl 0 rfl rfl ?_
        refine r_get C dX4_winningPulls_60 fw_X4_winningPulls_X4 0 rfl rfl 5 (by decide) rfl fl_X4_winningPulls_29 rfl rfl ?_
        refine r_iload_n C dX4_winningPulls_63 rfl 3 rfl rfl ?_
        refine r_iload C dX4_winningPulls_64 4 rfl rfl ?_
        obtain ⟨g7, hf⟩ := gd_n hf
        refine r_iast (ws' := [(h, oX4 A), ((A 5), aI cI 100 (upd winning u3.toNatClampNeg u4_6))]) C dX4_winningPulls_66 1 0 rfl rfl g7 rfl rfl ?_
        refine r_iinc (lv' := [(3, .int (u3 + (1 : Int32))), (0, .ref h), (1, .int u1), (2, .int u2), (4, .int u4_6)]) C dX4_winningPulls_67 3 rfl (ki_1 _) (by decide) rfl rfl ?_
        refine r_goto (tgt := 2) C dX4_winningPulls_70 rfl ?_
        refine r_lv (lv' := [(0, .ref h), (1, .int u1), (2, .int u2), (3, .int (u3 + (1 : Int32)))]) [1, 2, 3, 0] rfl ?_
        exact ih _ _ hf
def f_X4_winningPulls (winning : Nat → Int32) (u1 : Int32) (u2 : Int32) : Option (Int32 × (Nat → Int32)) := f_X4_winningPulls_2 u1 u2 (fun winning_8 => if u1 < 0 ∨ 100 ≤ u1.toNatClampNeg then none else some ((winning_8 u1.toNatClampNeg), winning_8)) 2000 (0 : Int32) winning
set_option maxHeartbeats 4000000 in
set_option maxRecDepth 100000 in
theorem c_X4_winningPulls (l : Launch) (D : va_G) (cI cZ cG : ClassId) (h : Nat) (A : Nat → Nat) (winning : Nat → Int32) (u1 : Int32) (u2 : Int32) (res : Int32 × (Nat → Int32)) (hf : f_X4_winningPulls winning u1 u2 = some res) : CI l D (tysW cI cZ cG) yX4_winningPulls wsX4_winningPulls rm_X4_winningPulls [.ref h, .int u1, .int u2] [(h, oX4 A), ((A 5), aI cI 100 winning)] res.1 [(h, oX4 A), ((A 5), aI cI 100 res.2)] := by
  refine CG.intro (own := RX4) (by decide +kernel) rfl rfl (Nat.le_of_ble_eq_true rfl) (fun p e s m args below meth c C => ?_)
  refine r_lv (lv' := [(0, .ref h), (1, .int u1), (2, .int u2)]) [0, 1, 2] rfl ?_
  unfold f_X4_winningPulls at hf
  refine r_iconst C dX4_winningPulls_0 kk_i_0 rfl ?_
  refine r_istore_n (lv' := [(3, .int (0 : Int32)), (0, .ref h), (1, .int u1), (2, .int u2)]) C dX4_winningPulls_1 rfl (by decide) rfl rfl ?_
  refine r_lv (lv' := [(0, .ref h), (1, .int u1), (2, .int u2), (3, .int (0 : Int32))]) [1, 2, 3, 0] rfl ?_
  refine k_X4_winningPulls_2 C h A u1 u2 _ _ ?_ 2000 _ _ hf
  · intro winning_8 hf
    refine r_aload_n C dX4_winningPulls_73 rfl 0 rfl rfl ?_
    refine r_get C dX4_winningPulls_74 fw_X4_winningPulls_X4 0 rfl rfl 5 (by decide) rfl fl_X4_winningPulls_29 rfl rfl ?_
    refine r_iload_n C dX4_winningPulls_77 rfl 1 rfl rfl ?_
    obtain ⟨g9, hf⟩ := gd_n hf
    refine r_iald C dX4_winningPulls_78 1 0 rfl rfl g9 rfl ?_
    cases hf
    exact r_iret C dX4_winningPulls_79 rfl
theorem fw_X6_add_X6 : ∀ w ∈ u_ws RX6 TX6 3, w ∈ wsX6_add := by decide +kernel
theorem fl_X6_add_18 : Cond.fieldLink RX6 18 "MittenLine$Sights" "count" "I" ∈ wsX6_add := by decide +kernel
theorem fl_X6_add_9 : Cond.fieldLink RX6 9 "MittenLine$Sights" "who" "[I" ∈ wsX6_add := by decide +kernel
theorem fl_X6_add_15 : Cond.fieldLink RX6 15 "MittenLine$Sights" "much" "[I" ∈ wsX6_add := by decide +kernel
abbrev rm_X6_add : Jvm.Room := { frames := 0, cells := 0, slots := 0, locals := 0 }
def f_X6_add (who : Nat → Int32) (much : Nat → Int32) (count : Int32) (u1 : Int32) (u2 : Int32) : Option (Int32 × (Nat → Int32) × (Nat → Int32) × Int32) := if count < (8 : Int32) then if count < 0 ∨ 8 ≤ count.toNatClampNeg then none else some ((1 : Int32), (upd who count.toNatClampNeg u1), (upd much count.toNatClampNeg u2), (count + (1 : Int32))) else some ((0 : Int32), who, much, count)
set_option maxHeartbeats 4000000 in
set_option maxRecDepth 100000 in
theorem c_X6_add (l : Launch) (D : va_G) (cI cZ cG : ClassId) (h : Nat) (A : Nat → Nat) (who : Nat → Int32) (much : Nat → Int32) (count : Int32) (u1 : Int32) (u2 : Int32) (res : Int32 × (Nat → Int32) × (Nat → Int32) × Int32) (hf : f_X6_add who much count u1 u2 = some res) : CI l D (tysW cI cZ cG) yX6_add wsX6_add rm_X6_add [.ref h, .int u1, .int u2] [(h, oX6 A count), ((A 0), aI cI 8 who), ((A 1), aI cI 8 much)] res.1 [(h, oX6 A res.2.2.2), ((A 0), aI cI 8 res.2.1), ((A 1), aI cI 8 res.2.2.1)] := by
  refine CG.intro (own := RX6) (by decide +kernel) rfl rfl (Nat.le_of_ble_eq_true rfl) (fun p e s m args below meth c C => ?_)
  refine r_lv (lv' := [(0, .ref h), (1, .int u1), (2, .int u2)]) [0, 1, 2] rfl ?_
  unfold f_X6_add at hf
  refine r_aload_n C dX6_add_0 rfl 0 rfl rfl ?_
  refine r_get C dX6_add_1 fw_X6_add_X6 0 rfl rfl 2 (by decide) rfl fl_X6_add_18 rfl rfl ?_
  refine r_bipush C dX6_add_4 kk_b_8 rfl ?_
  refine r_icmp_lt (tgt := 11) C dX6_add_6 rfl rfl (fun c1 => ?_) (fun c1 => ?_)
  · have hf := gd_t c1 hf
    refine r_aload_n C dX6_add_11 rfl 0 rfl rfl ?_
    refine r_get C dX6_add_12 fw_X6_add_X6 0 rfl rfl 0 (by decide) rfl fl_X6_add_9 rfl rfl ?_
    refine r_aload_n C dX6_add_15 rfl 0 rfl rfl ?_
    refine r_get C dX6_add_16 fw_X6_add_X6 0 rfl rfl 2 (by decide) rfl fl_X6_add_18 rfl rfl ?_
    refine r_iload_n C dX6_add_19 rfl 1 rfl rfl ?_
    obtain ⟨g2, hf⟩ := gd_n hf
    refine r_iast (ws' := [(h, oX6 A count), ((A 0), aI cI 8 (upd who count.toNatClampNeg u1)), ((A 1), aI cI 8 much)]) C dX6_add_20 1 0 rfl rfl g2 rfl rfl ?_
    refine r_aload_n C dX6_add_21 rfl 0 rfl rfl ?_
    refine r_get C dX6_add_22 fw_X6_add_X6 0 rfl rfl 1 (by decide) rfl fl_X6_add_15 rfl rfl ?_
    refine r_aload_n C dX6_add_25 rfl 0 rfl rfl ?_
    refine r_get C dX6_add_26 fw_X6_add_X6 0 rfl rfl 2 (by decide) rfl fl_X6_add_18 rfl rfl ?_
    refine r_iload_n C dX6_add_29 rfl 2 rfl rfl ?_
    refine r_iast (ws' := [(h, oX6 A count), ((A 0), aI cI 8 (upd who count.toNatClampNeg u1)), ((A 1), aI cI 8 (upd much count.toNatClampNeg u2))]) C dX6_add_30 2 0 rfl rfl g2 rfl rfl ?_
    refine r_aload_n C dX6_add_31 rfl 0 rfl rfl ?_
    refine r_dup C dX6_add_32 rfl rfl ?_
    refine r_get C dX6_add_33 fw_X6_add_X6 0 rfl rfl 2 (by decide) rfl fl_X6_add_18 rfl rfl ?_
    refine r_iconst C dX6_add_36 kk_i_1 rfl ?_
    refine r_iadd C dX6_add_37 rfl ?_
    refine r_put (ty := .int) (ws' := [(h, oX6 A (count + (1 : Int32))), ((A 0), aI cI 8 (upd who count.toNatClampNeg u1)), ((A 1), aI cI 8 (upd much count.toNatClampNeg u2))]) C dX6_add_38 fw_X6_add_X6 tyX6 tyX6_ok nmX6 0 rfl rfl 2 (by decide) rfl fl_X6_add_18 rfl (by decide +kernel) rfl rfl (Nat.le_of_ble_eq_true rfl) rfl rfl ?_
    refine r_iconst C dX6_add_41 kk_i_1 rfl ?_
    cases hf
    exact r_zret C dX6_add_42 nb1 rfl
  · have hf := gd_f c1 hf
    refine r_iconst C dX6_add_9 kk_i_0 rfl ?_
    cases hf
    exact r_zret C dX6_add_10 nb0 rfl
theorem fw_X6_clear_X6 : ∀ w ∈ u_ws RX6 TX6 3, w ∈ wsX6_clear := by decide +kernel
theorem fl_X6_clear_18 : Cond.fieldLink RX6 18 "MittenLine$Sights" "count" "I" ∈ wsX6_clear := by decide +kernel
abbrev rm_X6_clear : Jvm.Room := { frames := 0, cells := 0, slots := 0, locals := 0 }
def f_X6_clear (count : Int32) : Option (Int32) := some ((0 : Int32))
set_option maxHeartbeats 4000000 in
set_option maxRecDepth 100000 in
theorem c_X6_clear (l : Launch) (D : va_G) (cI cZ cG : ClassId) (h : Nat) (A : Nat → Nat) (count : Int32) (res : Int32) (hf : f_X6_clear count = some res) : CV l D (tysW cI cZ cG) yX6_clear wsX6_clear rm_X6_clear [.ref h] [(h, oX6 A count)] [(h, oX6 A res)] := by
  refine CG.intro (own := RX6) (by decide +kernel) rfl rfl (Nat.le_of_ble_eq_true rfl) (fun p e s m args below meth c C => ?_)
  refine r_lv (lv' := [(0, .ref h)]) [0] rfl ?_
  unfold f_X6_clear at hf
  refine r_aload_n C dX6_clear_0 rfl 0 rfl rfl ?_
  refine r_iconst C dX6_clear_1 kk_i_0 rfl ?_
  refine r_put (ty := .int) (ws' := [(h, oX6 A (0 : Int32))]) C dX6_clear_2 fw_X6_clear_X6 tyX6 tyX6_ok nmX6 0 rfl rfl 2 (by decide) rfl fl_X6_clear_18 rfl (by decide +kernel) rfl rfl (Nat.le_of_ble_eq_true rfl) rfl rfl ?_
  cases hf
  exact r_vret C dX6_clear_5 rfl
end
