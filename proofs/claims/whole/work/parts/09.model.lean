section
variable {p : Program} {l : Launch} {e : Env} {s : State} {m : MethodId} {args : Array Value} {below : List Frame} {meth : Method} {c : Code} {D : va_G} {cI cZ cG : ClassId} {w0 : va_W}
abbrev rm_X8_reach : Jvm.Room := { frames := 4, cells := 0, slots := 0, locals := 90 }
def f_X8_reach_24 (u1 : Int32) (u2 : Int32) (yard : Nat → Int32) (length : Nat → Int32) (holding : Int32) : Nat → Int32 → (Nat → Int32) → Int32 → Option (Int32 × (Nat → Int32) × Int32)
  | 0, _, _, _ => none
  | n + 1, u3, then_, drawnBits => if u2 = 0 then (f_X8_whyNotGo yard length holding then_ drawnBits u1 (u3 + (1 : Int32))).bind (fun r8 => if r8.1 = 0 then f_X8_reach_24 u1 u2 yard length holding n (u3 + (1 : Int32)) r8.2.1 r8.2.2 else some (u3, r8.2.1, r8.2.2)) else (f_X8_whyNotGo yard length holding then_ drawnBits u1 ((-u3) - (1 : Int32))).bind (fun r6 => if r6.1 = 0 then f_X8_reach_24 u1 u2 yard length holding n (u3 + (1 : Int32)) r6.2.1 r6.2.2 else some (u3, r6.2.1, r6.2.2))
set_option maxHeartbeats 4000000 in
set_option maxRecDepth 100000 in
theorem k_X8_reach_24 (C : Cx p s m args meth c D (tysW cI cZ cG) RX8 cX8_reach 4 wsX8_reach (some .int)) (h : Nat) (A : Nat → Nat) (yard : Nat → Int32) (length : Nat → Int32) (holding : Int32) (wool : Int32) (days : Int32) (sights : Int32) (padMany : Int32) (acts : Int32) (drawnMany : Int32) (drawnNow : Int32) (badAct : Int32) (badWhy : Int32) (drawnAct : Int32) (drawnChild : Int32) (keptAt : Int32) (isWriting : Int32) (u1 : Int32) (u2 : Int32)  (res : Int32 × (Nat → Int32) × Int32) : ∀ (n : Nat) (u3 : Int32) (then_ : Nat → Int32) (drawnBits : Int32), f_X8_reach_24 u1 u2 yard length holding n u3 then_ drawnBits = some res → Wd p l e rm_X8_reach s m args below meth c D w0 4 0 0 (MQ below (QcI D (tysW cI cZ cG) w0 [(h, oX8 A holding wool days sights padMany acts res.2.2 drawnMany drawnNow badAct badWhy drawnAct drawnChild keptAt isWriting), ((A 0), aI cI 10 yard), ((A 2), aI cI 9 length), ((A 15), aI cI 10 res.2.1)] res.1 s.heap.size) args s 0 0 (va_A w0 s.heap.size)) [(h, oX8 A holding wool days sights padMany acts drawnBits drawnMany drawnNow badAct badWhy drawnAct drawnChild keptAt isWriting), ((A 0), aI cI 10 yard), ((A 2), aI cI 9 length), ((A 15), aI cI 10 then_)] [(0, .ref h), (1, .int u1), (2, .int u2), (3, .int u3)] 24 [] := by
  intro n
  induction n with
  | zero =>
    intro u3 then_ drawnBits hf
    exact no_none hf
  | succ n ih =>
    intro u3 then_ drawnBits hf
    unfold f_X8_reach_24 at hf
    refine r_aload_n C dX8_reach_24 rfl 0 rfl rfl ?_
    refine r_iload_n C dX8_reach_25 rfl 1 rfl rfl ?_
    refine r_iload_n C dX8_reach_26 rfl 2 rfl rfl ?_
    refine r_if_ne (y := 0) (tgt := 36) C dX8_reach_27 rfl rfl (fun c5 => ?_) (fun c5 => ?_)
    · have hf := gd_f c5 hf
      refine r_iload_n C dX8_reach_36 rfl 3 rfl rfl ?_
      refine r_ineg C dX8_reach_37 rfl ?_
      refine r_iconst C dX8_reach_38 kk_i_1 rfl ?_
      refine r_isub C dX8_reach_39 rfl ?_
      obtain ⟨r6, e6, hf⟩ := gd_b hf
      refine o_I (wn := [(h, oX8 A holding wool days sights padMany acts r6.2.2 drawnMany drawnNow badAct badWhy drawnAct drawnChild keptAt isWriting), ((A 0), aI cI 10 yard), ((A 2), aI cI 9 length), ((A 15), aI cI 10 r6.2.1)]) C [0, 1, 2, 3] rfl (x_V C dX8_reach_40 (c_X8_whyNotGo l D cI cZ cG h A yard length holding wool days sights padMany acts then_ drawnBits drawnMany drawnNow badAct badWhy drawnAct drawnChild keptAt isWriting u1 ((-u3) - (1 : Int32)) r6 e6) rfl gX8_reach_X8_whyNotGo hd_X8_whyNotGo rfl ⟨Nat.le_of_ble_eq_true rfl, Nat.le_of_ble_eq_true rfl⟩ ⟨rfl, rfl⟩ ⟨Nat.zero_le _, Nat.zero_le _⟩ rfl [0, 1, 2, 3] rfl rfl 0 rfl rfl (Nat.le_of_ble_eq_true rfl) rfl) rfl rfl rfl ?_
      refine r_if_ne (y := 0) (tgt := 52) C dX8_reach_43 rfl rfl (fun c7 => ?_) (fun c7 => ?_)
      · have hf := gd_f c7 hf
        refine r_iload_n C dX8_reach_52 rfl 3 rfl rfl ?_
        cases hf
        exact r_iret C dX8_reach_53 rfl
      · have hf := gd_t c7 hf
        refine r_iinc (lv' := [(3, .int (u3 + (1 : Int32))), (0, .ref h), (1, .int u1), (2, .int u2)]) C dX8_reach_46 3 rfl (ki_1 _) (by decide) rfl rfl ?_
        refine r_goto (tgt := 24) C dX8_reach_49 rfl ?_
        refine r_lv (lv' := [(0, .ref h), (1, .int u1), (2, .int u2), (3, .int (u3 + (1 : Int32)))]) [1, 2, 3, 0] rfl ?_
        exact ih _ _ _ hf
    · have hf := gd_t c5 hf
      refine r_iload_n C dX8_reach_30 rfl 3 rfl rfl ?_
      refine r_iconst C dX8_reach_31 kk_i_1 rfl ?_
      refine r_iadd C dX8_reach_32 rfl ?_
      refine r_goto (tgt := 40) C dX8_reach_33 rfl ?_
      obtain ⟨r8, e8, hf⟩ := gd_b hf
      refine o_I (wn := [(h, oX8 A holding wool days sights padMany acts r8.2.2 drawnMany drawnNow badAct badWhy drawnAct drawnChild keptAt isWriting), ((A 0), aI cI 10 yard), ((A 2), aI cI 9 length), ((A 15), aI cI 10 r8.2.1)]) C [0, 1, 2, 3] rfl (x_V C dX8_reach_40 (c_X8_whyNotGo l D cI cZ cG h A yard length holding wool days sights padMany acts then_ drawnBits drawnMany drawnNow badAct badWhy drawnAct drawnChild keptAt isWriting u1 (u3 + (1 : Int32)) r8 e8) rfl gX8_reach_X8_whyNotGo hd_X8_whyNotGo rfl ⟨Nat.le_of_ble_eq_true rfl, Nat.le_of_ble_eq_true rfl⟩ ⟨rfl, rfl⟩ ⟨Nat.zero_le _, Nat.zero_le _⟩ rfl [0, 1, 2, 3] rfl rfl 0 rfl rfl (Nat.le_of_ble_eq_true rfl) rfl) rfl rfl rfl ?_
      refine r_if_ne (y := 0) (tgt := 52) C dX8_reach_43 rfl rfl (fun c9 => ?_) (fun c9 => ?_)
      · have hf := gd_f c9 hf
        refine r_iload_n C dX8_reach_52 rfl 3 rfl rfl ?_
        cases hf
        exact r_iret C dX8_reach_53 rfl
      · have hf := gd_t c9 hf
        refine r_iinc (lv' := [(3, .int (u3 + (1 : Int32))), (0, .ref h), (1, .int u1), (2, .int u2)]) C dX8_reach_46 3 rfl (ki_1 _) (by decide) rfl rfl ?_
        refine r_goto (tgt := 24) C dX8_reach_49 rfl ?_
        refine r_lv (lv' := [(0, .ref h), (1, .int u1), (2, .int u2), (3, .int (u3 + (1 : Int32)))]) [1, 2, 3, 0] rfl ?_
        exact ih _ _ _ hf
def f_X8_reach (yard : Nat → Int32) (length : Nat → Int32) (holding : Int32) (then_ : Nat → Int32) (drawnBits : Int32) (u1 : Int32) (u2 : Int32) : Option (Int32 × (Nat → Int32) × Int32) := (f_X8_isChild u1).bind (fun r1 => if r1 = 0 then some ((-1 : Int32), then_, drawnBits) else (f_X8_in u2.toInt64 (0 : Int64) (1 : Int64)).bind (fun r3 => if r3 = 0 then some ((-2 : Int32), then_, drawnBits) else f_X8_reach_24 u1 u2 yard length holding 2000 (0 : Int32) then_ drawnBits))
set_option maxHeartbeats 4000000 in
set_option maxRecDepth 100000 in
theorem c_X8_reach (l : Launch) (D : va_G) (cI cZ cG : ClassId) (h : Nat) (A : Nat → Nat) (yard : Nat → Int32) (length : Nat → Int32) (holding : Int32) (wool : Int32) (days : Int32) (sights : Int32) (padMany : Int32) (acts : Int32) (then_ : Nat → Int32) (drawnBits : Int32) (drawnMany : Int32) (drawnNow : Int32) (badAct : Int32) (badWhy : Int32) (drawnAct : Int32) (drawnChild : Int32) (keptAt : Int32) (isWriting : Int32) (u1 : Int32) (u2 : Int32) (res : Int32 × (Nat → Int32) × Int32) (hf : f_X8_reach yard length holding then_ drawnBits u1 u2 = some res) : CI l D (tysW cI cZ cG) yX8_reach wsX8_reach rm_X8_reach [.ref h, .int u1, .int u2] [(h, oX8 A holding wool days sights padMany acts drawnBits drawnMany drawnNow badAct badWhy drawnAct drawnChild keptAt isWriting), ((A 0), aI cI 10 yard), ((A 2), aI cI 9 length), ((A 15), aI cI 10 then_)] res.1 [(h, oX8 A holding wool days sights padMany acts res.2.2 drawnMany drawnNow badAct badWhy drawnAct drawnChild keptAt isWriting), ((A 0), aI cI 10 yard), ((A 2), aI cI 9 length), ((A 15), aI cI 10 res.2.1)] := by
  refine CG.intro (own := RX8) (by decide +kernel) rfl rfl (Nat.le_of_ble_eq_true rfl) (fun p e s m args below meth c C => ?_)
  refine r_lv (lv' := [(0, .ref h), (1, .int u1), (2, .int u2)]) [0, 1, 2] rfl ?_
  unfold f_X8_reach at hf
  refine r_iload_n C dX8_reach_0 rfl 1 rfl rfl ?_
  obtain ⟨r1, e1, hf⟩ := gd_b hf
  refine o_I (wn := [(h, oX8 A holding wool days sights padMany acts drawnBits drawnMany drawnNow badAct badWhy drawnAct drawnChild keptAt isWriting), ((A 0), aI cI 10 yard), ((A 2), aI cI 9 length), ((A 15), aI cI 10 then_)]) C [] rfl (x_S C dX8_reach_1 (c_X8_isChild l D cI cZ cG u1 r1 e1) rfl gX8_reach_X8_isChild hs_X8_isChild rfl ⟨Nat.le_of_ble_eq_true rfl, Nat.le_of_ble_eq_true rfl⟩ ⟨rfl, rfl⟩ ⟨Nat.zero_le _, Nat.zero_le _⟩ rfl [] rfl rfl (Nat.le_of_ble_eq_true rfl) rfl) rfl rfl rfl ?_
  refine r_if_ne (y := 0) (tgt := 9) C dX8_reach_4 rfl rfl (fun c2 => ?_) (fun c2 => ?_)
  · have hf := gd_f c2 hf
    refine r_iload_n C dX8_reach_9 rfl 2 rfl rfl ?_
    refine r_i2l C dX8_reach_10 rfl ?_
    refine r_lconst (v := (0 : Int64)) C dX8_reach_11 rfl rfl ?_
    refine r_lconst (v := (1 : Int64)) C dX8_reach_12 rfl rfl ?_
    obtain ⟨r3, e3, hf⟩ := gd_b hf
    refine o_I (wn := [(h, oX8 A holding wool days sights padMany acts drawnBits drawnMany drawnNow badAct badWhy drawnAct drawnChild keptAt isWriting), ((A 0), aI cI 10 yard), ((A 2), aI cI 9 length), ((A 15), aI cI 10 then_)]) C [] rfl (x_S C dX8_reach_13 (c_X8_in l D cI cZ cG u2.toInt64 (0 : Int64) (1 : Int64) r3 e3) rfl gX8_reach_X8_in hs_X8_in rfl ⟨Nat.le_of_ble_eq_true rfl, Nat.le_of_ble_eq_true rfl⟩ ⟨rfl, rfl⟩ ⟨Nat.zero_le _, Nat.zero_le _⟩ rfl [] rfl rfl (Nat.le_of_ble_eq_true rfl) rfl) rfl rfl rfl ?_
    refine r_if_ne (y := 0) (tgt := 22) C dX8_reach_16 rfl rfl (fun c4 => ?_) (fun c4 => ?_)
    · have hf := gd_f c4 hf
      refine r_iconst C dX8_reach_22 kk_i_0 rfl ?_
      refine r_istore_n (lv' := [(3, .int (0 : Int32)), (0, .ref h), (1, .int u1), (2, .int u2)]) C dX8_reach_23 rfl (by decide) rfl rfl ?_
      refine r_lv (lv' := [(0, .ref h), (1, .int u1), (2, .int u2), (3, .int (0 : Int32))]) [1, 2, 3, 0] rfl ?_
      refine k_X8_reach_24 C h A yard length holding wool days sights padMany acts drawnMany drawnNow badAct badWhy drawnAct drawnChild keptAt isWriting u1 u2 _ 2000 _ _ _ hf
    · have hf := gd_t c4 hf
      refine r_bipush C dX8_reach_19 kk_b_m2 rfl ?_
      cases hf
      exact r_iret C dX8_reach_21 rfl
  · have hf := gd_t c2 hf
    refine r_iconst C dX8_reach_7 kk_i_m1 rfl ?_
    cases hf
    exact r_iret C dX8_reach_8 rfl
theorem fw_X8_readBalls_X8 : ∀ w ∈ u_ws RX8 TX8 37, w ∈ wsX8_readBalls := by decide +kernel
theorem fl_X8_readBalls_43 : Cond.fieldLink RX8 43 "MittenLineModel" "balls" "[I" ∈ wsX8_readBalls := by decide +kernel
abbrev rm_X8_readBalls : Jvm.Room := { frames := 0, cells := 0, slots := 0, locals := 0 }
def f_X8_readBalls_7 (kx34 : Int32 → (Nat → Int32) → Option (Int32 × (Nat → Int32))) : Nat → Int32 → Int32 → (Nat → Int32) → Option (Int32 × (Nat → Int32))
  | 0, _, _, _ => none
  | n + 1, u3, u4, balls => if u4 < 0 then kx34 u3 balls else if u4 < 0 ∨ 9 ≤ u4.toNatClampNeg then none else f_X8_readBalls_7 kx34 n (u3 / (10 : Int32)) (u4 + (-1 : Int32)) (upd balls u4.toNatClampNeg (u3 - u3 / (10 : Int32) * (10 : Int32)))
set_option maxHeartbeats 4000000 in
set_option maxRecDepth 100000 in
theorem k_X8_readBalls_7 (C : Cx p s m args meth c D (tysW cI cZ cG) RX8 cX8_readBalls 5 wsX8_readBalls (some .boolean)) (h : Nat) (A : Nat → Nat) (holding : Int32) (wool : Int32) (days : Int32) (sights : Int32) (padMany : Int32) (acts : Int32) (drawnBits : Int32) (drawnMany : Int32) (drawnNow : Int32) (badAct : Int32) (badWhy : Int32) (drawnAct : Int32) (drawnChild : Int32) (keptAt : Int32) (isWriting : Int32) (u1 : Int32)  (kx34 : Int32 → (Nat → Int32) → Option (Int32 × (Nat → Int32))) (res : Int32 × (Nat → Int32)) (hkx34 : ∀ (u3 : Int32) (balls : Nat → Int32) , kx34 u3 balls = some res → Wd p l e rm_X8_readBalls s m args below meth c D w0 5 0 0 (MQ below (QcI D (tysW cI cZ cG) w0 [(h, oX8 A holding wool days sights padMany acts drawnBits drawnMany drawnNow badAct badWhy drawnAct drawnChild keptAt isWriting), ((A 24), aI cI 9 res.2)] res.1 s.heap.size) args s 0 0 (va_A w0 s.heap.size)) [(h, oX8 A holding wool days sights padMany acts drawnBits drawnMany drawnNow badAct badWhy drawnAct drawnChild keptAt isWriting), ((A 24), aI cI 9 balls)] [(1, .int u1), (3, .int u3)] 34 []) : ∀ (n : Nat) (u3 : Int32) (u4 : Int32) (balls : Nat → Int32), f_X8_readBalls_7 kx34 n u3 u4 balls = some res → Wd p l e rm_X8_readBalls s m args below meth c D w0 5 0 0 (MQ below (QcI D (tysW cI cZ cG) w0 [(h, oX8 A holding wool days sights padMany acts drawnBits drawnMany drawnNow badAct badWhy drawnAct drawnChild keptAt isWriting), ((A 24), aI cI 9 res.2)] res.1 s.heap.size) args s 0 0 (va_A w0 s.heap.size)) [(h, oX8 A holding wool days sights padMany acts drawnBits drawnMany drawnNow badAct badWhy drawnAct drawnChild keptAt isWriting), ((A 24), aI cI 9 balls)] [(0, .ref h), (1, .int u1), (3, .int u3), (4, .int u4)] 7 [] := by
  intro n
  induction n with
  | zero =>
    intro u3 u4 balls hf
    exact no_none hf
  | succ n ih =>
    intro u3 u4 balls hf
    unfold f_X8_readBalls_7 at hf
    refine r_iload C dX8_readBalls_7 3 rfl rfl ?_
    refine r_if_lt (y := 0) (tgt := 34) C dX8_readBalls_9 rfl rfl (fun c1 => ?_) (fun c1 => ?_)
    · have hf := gd_t c1 hf
      refine r_lv (lv' := [(1, .int u1), (3, .int u3)]) [1, 2] rfl ?_
      exact hkx34 _ _ hf
    · have hf := gd_f c1 hf
      refine r_aload_n C dX8_readBalls_12 rfl 0 rfl rfl ?_
      refine r_get C dX8_readBalls_13 fw_X8_readBalls_X8 0 rfl rfl 24 (by decide) rfl fl_X8_readBalls_43 rfl rfl ?_
      refine r_iload C dX8_readBalls_16 3 rfl rfl ?_
      refine r_iload_n C dX8_readBalls_18 rfl 2 rfl rfl ?_
      refine r_bipush C dX8_readBalls_19 kk_b_10 rfl ?_
      refine r_irem C dX8_readBalls_21 (by decide) rfl ?_
      obtain ⟨g2, hf⟩ := gd_n hf
      refine r_iast (ws' := [(h, oX8 A holding wool days sights padMany acts drawnBits drawnMany drawnNow badAct badWhy drawnAct drawnChild keptAt isWriting), ((A 24), aI cI 9 (upd balls u4.toNatClampNeg (u3 - u3 / (10 : Int32) * (10 : Int32))))]) C dX8_readBalls_22 1 0 rfl rfl g2 rfl rfl ?_
      refine r_iload_n C dX8_readBalls_23 rfl 2 rfl rfl ?_
      refine r_bipush C dX8_readBalls_24 kk_b_10 rfl ?_
      refine r_idiv C dX8_readBalls_26 (by decide) rfl ?_
      refine r_istore_n (lv' := [(3, .int (u3 / (10 : Int32))), (0, .ref h), (1, .int u1), (4, .int u4)]) C dX8_readBalls_27 rfl (by decide) rfl rfl ?_
      refine r_iinc (lv' := [(4, .int (u4 + (-1 : Int32))), (3, .int (u3 / (10 : Int32))), (0, .ref h), (1, .int u1)]) C dX8_readBalls_28 3 rfl (ki_m1 _) (by decide) rfl rfl ?_
      refine r_goto (tgt := 7) C dX8_readBalls_31 rfl ?_
      refine r_lv (lv' := [(0, .ref h), (1, .int u1), (3, .int (u3 / (10 : Int32))), (4, .int (u4 + (-1 : Int32)))]) [2, 3, 1, 0] rfl ?_
      exact ih _ _ _ hf
def f_X8_readBalls (balls : Nat → Int32) (u1 : Int32) (u2 : Int32) : Option (Int32 × (Nat → Int32)) := f_X8_readBalls_7 (fun u3_3 balls_4 => if u1 < 0 then some ((0 : Int32), balls_4) else if u3_3 = 0 then some ((1 : Int32), balls_4) else some ((0 : Int32), balls_4)) 2000 u1 (u2 - (1 : Int32)) balls
set_option maxHeartbeats 4000000 in
set_option maxRecDepth 100000 in
theorem c_X8_readBalls (l : Launch) (D : va_G) (cI cZ cG : ClassId) (h : Nat) (A : Nat → Nat) (holding : Int32) (wool : Int32) (days : Int32) (sights : Int32) (padMany : Int32) (acts : Int32) (drawnBits : Int32) (drawnMany : Int32) (drawnNow : Int32) (badAct : Int32) (badWhy : Int32) (drawnAct : Int32) (drawnChild : Int32) (balls : Nat → Int32) (keptAt : Int32) (isWriting : Int32) (u1 : Int32) (u2 : Int32) (res : Int32 × (Nat → Int32)) (hf : f_X8_readBalls balls u1 u2 = some res) : CI l D (tysW cI cZ cG) yX8_readBalls wsX8_readBalls rm_X8_readBalls [.ref h, .int u1, .int u2] [(h, oX8 A holding wool days sights padMany acts drawnBits drawnMany drawnNow badAct badWhy drawnAct drawnChild keptAt isWriting), ((A 24), aI cI 9 balls)] res.1 [(h, oX8 A holding wool days sights padMany acts drawnBits drawnMany drawnNow badAct badWhy drawnAct drawnChild keptAt isWriting), ((A 24), aI cI 9 res.2)] := by
  refine CG.intro (own := RX8) (by decide +kernel) rfl rfl (Nat.le_of_ble_eq_true rfl) (fun p e s m args below meth c C => ?_)
  refine r_lv (lv' := [(0, .ref h), (1, .int u1), (2, .int u2)]) [0, 1, 2] rfl ?_
  unfold f_X8_readBalls at hf
  refine r_iload_n C dX8_readBalls_0 rfl 1 rfl rfl ?_
  refine r_istore_n (lv' := [(3, .int u1), (0, .ref h), (1, .int u1), (2, .int u2)]) C dX8_readBalls_1 rfl (by decide) rfl rfl ?_
  refine r_iload_n C dX8_readBalls_2 rfl 3 rfl rfl ?_
  refine r_iconst C dX8_readBalls_3 kk_i_1 rfl ?_
  refine r_isub C dX8_readBalls_4 rfl ?_
  refine r_istore (lv' := [(4, .int (u2 - (1 : Int32))), (3, .int u1), (0, .ref h), (1, .int u1), (2, .int u2)]) C dX8_readBalls_5 (by decide) rfl rfl ?_
  refine r_lv (lv' := [(0, .ref h), (1, .int u1), (3, .int u1), (4, .int (u2 - (1 : Int32)))]) [2, 3, 1, 0] rfl ?_
  refine k_X8_readBalls_7 C h A holding wool days sights padMany acts drawnBits drawnMany drawnNow badAct badWhy drawnAct drawnChild keptAt isWriting u1 _ _ ?_ 2000 _ _ _ hf
  · intro u3_3 balls_4 hf
    refine r_iload_n C dX8_readBalls_34 rfl 0 rfl rfl ?_
    refine r_if_lt (y := 0) (tgt := 46) C dX8_readBalls_35 rfl rfl (fun c5 => ?_) (fun c5 => ?_)
    · have hf := gd_t c5 hf
      refine r_iconst C dX8_readBalls_46 kk_i_0 rfl ?_
      cases hf
      exact r_zret C dX8_readBalls_47 nb0 rfl
    · have hf := gd_f c5 hf
      refine r_iload_n C dX8_readBalls_38 rfl 1 rfl rfl ?_
      refine r_if_ne (y := 0) (tgt := 46) C dX8_readBalls_39 rfl rfl (fun c6 => ?_) (fun c6 => ?_)
      · have hf := gd_f c6 hf
        refine r_iconst C dX8_readBalls_46 kk_i_0 rfl ?_
        cases hf
        exact r_zret C dX8_readBalls_47 nb0 rfl
      · have hf := gd_t c6 hf
        refine r_iconst C dX8_readBalls_42 kk_i_1 rfl ?_
        refine r_goto (tgt := 47) C dX8_readBalls_43 rfl ?_
        cases hf
        exact r_zret C dX8_readBalls_47 nb1 rfl
theorem fw_X8_sizeOf_X8 : ∀ w ∈ u_ws RX8 TX8 37, w ∈ wsX8_sizeOf := by decide +kernel
theorem fl_X8_sizeOf_43 : Cond.fieldLink RX8 43 "MittenLineModel" "balls" "[I" ∈ wsX8_sizeOf := by decide +kernel
abbrev rm_X8_sizeOf : Jvm.Room := { frames := 0, cells := 0, slots := 0, locals := 0 }
def f_X8_sizeOf_5 (u2 : Int32) (balls : Nat → Int32) : Nat → Int32 → Int32 → Option (Int32)
  | 0, _, _ => none
  | n + 1, u3, u4 => if u2 ≤ u4 then some (u3) else if u4 < 0 ∨ 9 ≤ u4.toNatClampNeg then none else f_X8_sizeOf_5 u2 balls n (u3 + (balls u4.toNatClampNeg)) (u4 + (1 : Int32))
set_option maxHeartbeats 4000000 in
set_option maxRecDepth 100000 in
theorem k_X8_sizeOf_5 (C : Cx p s m args meth c D (tysW cI cZ cG) RX8 cX8_sizeOf 5 wsX8_sizeOf (some .int)) (h : Nat) (A : Nat → Nat) (holding : Int32) (wool : Int32) (days : Int32) (sights : Int32) (padMany : Int32) (acts : Int32) (drawnBits : Int32) (drawnMany : Int32) (drawnNow : Int32) (badAct : Int32) (badWhy : Int32) (drawnAct : Int32) (drawnChild : Int32) (balls : Nat → Int32) (keptAt : Int32) (isWriting : Int32) (u2 : Int32)  (res : Int32) : ∀ (n : Nat) (u3 : Int32) (u4 : Int32), f_X8_sizeOf_5 u2 balls n u3 u4 = some res → Wd p l e rm_X8_sizeOf s m args below meth c D w0 5 0 0 (MQ below (QcI D (tysW cI cZ cG) w0 [(h, oX8 A holding wool days sights padMany acts drawnBits drawnMany drawnNow badAct badWhy drawnAct drawnChild keptAt isWriting), ((A 24), aI cI 9 balls)] res s.heap.size) args s 0 0 (va_A w0 s.heap.size)) [(h, oX8 A holding wool days sights padMany acts drawnBits drawnMany drawnNow badAct badWhy drawnAct drawnChild keptAt isWriting), ((A 24), aI cI 9 balls)] [(0, .ref h), (2, .int u2), (3, .int u3), (4, .int u4)] 5 [] := by
  intro n
  induction n with
  | zero =>
    intro u3 u4 hf
    exact no_none hf
  | succ n ih =>
    intro u3 u4 hf
    unfold f_X8_sizeOf_5 at hf
    refine r_iload C dX8_sizeOf_5 3 rfl rfl ?_
    refine r_iload_n C dX8_sizeOf_7 rfl 1 rfl rfl ?_
    refine r_icmp_ge (tgt := 27) C dX8_sizeOf_8 rfl rfl (fun c1 => ?_) (fun c1 => ?_)
    · have hf := gd_t c1 hf
      refine r_iload_n C dX8_sizeOf_27 rfl 2 rfl rfl ?_
      cases hf
      exact r_iret C dX8_sizeOf_28 rfl
    · have hf := gd_f c1 hf
      refine r_iload_n C dX8_sizeOf_11 rfl 2 rfl rfl ?_
      refine r_aload_n C dX8_sizeOf_12 rfl 0 rfl rfl ?_
      refine r_get C dX8_sizeOf_13 fw_X8_sizeOf_X8 0 rfl rfl 24 (by decide) rfl fl_X8_sizeOf_43 rfl rfl ?_
      refine r_iload C dX8_sizeOf_16 3 rfl rfl ?_
      obtain ⟨g2, hf⟩ := gd_n hf
      refine r_iald C dX8_sizeOf_18 1 0 rfl rfl g2 rfl ?_
      refine r_iadd C dX8_sizeOf_19 rfl ?_
      refine r_istore_n (lv' := [(3, .int (u3 + (balls u4.toNatClampNeg))), (0, .ref h), (2, .int u2), (4, .int u4)]) C dX8_sizeOf_20 rfl (by decide) rfl rfl ?_
      refine r_iinc (lv' := [(4, .int (u4 + (1 : Int32))), (3, .int (u3 + (balls u4.toNatClampNeg))), (0, .ref h), (2, .int u2)]) C dX8_sizeOf_21 3 rfl (ki_1 _) (by decide) rfl rfl ?_
      refine r_goto (tgt := 5) C dX8_sizeOf_24 rfl ?_
      refine r_lv (lv' := [(0, .ref h), (2, .int u2), (3, .int (u3 + (balls u4.toNatClampNeg))), (4, .int (u4 + (1 : Int32)))]) [2, 3, 1, 0] rfl ?_
      exact ih _ _ hf
def f_X8_sizeOf (balls : Nat → Int32) (u1 : Int32) (u2 : Int32) : Option (Int32) := f_X8_sizeOf_5 u2 balls 2000 (0 : Int32) u1
set_option maxHeartbeats 4000000 in
set_option maxRecDepth 100000 in
theorem c_X8_sizeOf (l : Launch) (D : va_G) (cI cZ cG : ClassId) (h : Nat) (A : Nat → Nat) (holding : Int32) (wool : Int32) (days : Int32) (sights : Int32) (padMany : Int32) (acts : Int32) (drawnBits : Int32) (drawnMany : Int32) (drawnNow : Int32) (badAct : Int32) (badWhy : Int32) (drawnAct : Int32) (drawnChild : Int32) (balls : Nat → Int32) (keptAt : Int32) (isWriting : Int32) (u1 : Int32) (u2 : Int32) (res : Int32) (hf : f_X8_sizeOf balls u1 u2 = some res) : CI l D (tysW cI cZ cG) yX8_sizeOf wsX8_sizeOf rm_X8_sizeOf [.ref h, .int u1, .int u2] [(h, oX8 A holding wool days sights padMany acts drawnBits drawnMany drawnNow badAct badWhy drawnAct drawnChild keptAt isWriting), ((A 24), aI cI 9 balls)] res [(h, oX8 A holding wool days sights padMany acts drawnBits drawnMany drawnNow badAct badWhy drawnAct drawnChild keptAt isWriting), ((A 24), aI cI 9 balls)] := by
  refine CG.intro (own := RX8) (by decide +kernel) rfl rfl (Nat.le_of_ble_eq_true rfl) (fun p e s m args below meth c C => ?_)
  refine r_lv (lv' := [(0, .ref h), (1, .int u1), (2, .int u2)]) [0, 1, 2] rfl ?_
  unfold f_X8_sizeOf at hf
  refine r_iconst C dX8_sizeOf_0 kk_i_0 rfl ?_
  refine r_istore_n (lv' := [(3, .int (0 : Int32)), (0, .ref h), (1, .int u1), (2, .int u2)]) C dX8_sizeOf_1 rfl (by decide) rfl rfl ?_
  refine r_iload_n C dX8_sizeOf_2 rfl 2 rfl rfl ?_
  refine r_istore (lv' := [(4, .int u1), (3, .int (0 : Int32)), (0, .ref h), (1, .int u1), (2, .int u2)]) C dX8_sizeOf_3 (by decide) rfl rfl ?_
  refine r_lv (lv' := [(0, .ref h), (2, .int u2), (3, .int (0 : Int32)), (4, .int u1)]) [2, 4, 1, 0] rfl ?_
  refine k_X8_sizeOf_5 C h A holding wool days sights padMany acts drawnBits drawnMany drawnNow badAct badWhy drawnAct drawnChild balls keptAt isWriting u2 _ 2000 _ _ hf
theorem fw_X8_windOne_X8 : ∀ w ∈ u_ws RX8 TX8 37, w ∈ wsX8_windOne := by decide +kernel
theorem fl_X8_windOne_46 : Cond.fieldLink RX8 46 "MittenLineModel" "least" "[I" ∈ wsX8_windOne := by decide +kernel
theorem fl_X8_windOne_49 : Cond.fieldLink RX8 49 "MittenLineModel" "most" "[I" ∈ wsX8_windOne := by decide +kernel
abbrev rm_X8_windOne : Jvm.Room := { frames := 1, cells := 0, slots := 0, locals := 24 }
def f_X8_windOne_10 (u1 : Int32) (u2 : Int32) (least : Nat → Int32) (most : Nat → Int32) (kx112 : Int32 → Int32 → Option ((Nat → Int32) × (Nat → Int32))) : Nat → Int32 → Int32 → Int32 → Option ((Nat → Int32) × (Nat → Int32))
  | 0, _, _, _ => none
  | n + 1, u3, u4, u5 => if u2 ≤ u5 then kx112 u3 u4 else if (((10 : Int32) * u1) + u5) < 0 ∨ 100 ≤ (((10 : Int32) * u1) + u5).toNatClampNeg then none else if (((10 : Int32) * u5) + u2) < 0 ∨ 100 ≤ (((10 : Int32) * u5) + u2).toNatClampNeg then none else if u5 = (u1 + (1 : Int32)) then if ((most (((10 : Int32) * u1) + u5).toNatClampNeg) + (most (((10 : Int32) * u5) + u2).toNatClampNeg)) ≤ u4 then f_X8_windOne_10 u1 u2 least most kx112 n ((least (((10 : Int32) * u1) + u5).toNatClampNeg) + (least (((10 : Int32) * u5) + u2).toNatClampNeg)) u4 (u5 + (1 : Int32)) else f_X8_windOne_10 u1 u2 least most kx112 n ((least (((10 : Int32) * u1) + u5).toNatClampNeg) + (least (((10 : Int32) * u5) + u2).toNatClampNeg)) ((most (((10 : Int32) * u1) + u5).toNatClampNeg) + (most (((10 : Int32) * u5) + u2).toNatClampNeg)) (u5 + (1 : Int32)) else (f_X8_less u3 ((least (((10 : Int32) * u1) + u5).toNatClampNeg) + (least (((10 : Int32) * u5) + u2).toNatClampNeg))).bind (fun r5 => if ((most (((10 : Int32) * u1) + u5).toNatClampNeg) + (most (((10 : Int32) * u5) + u2).toNatClampNeg)) ≤ u4 then f_X8_windOne_10 u1 u2 least most kx112 n r5 u4 (u5 + (1 : Int32)) else f_X8_windOne_10 u1 u2 least most kx112 n r5 ((most (((10 : Int32) * u1) + u5).toNatClampNeg) + (most (((10 : Int32) * u5) + u2).toNatClampNeg)) (u5 + (1 : Int32)))
set_option maxHeartbeats 4000000 in
set_option maxRecDepth 100000 in
theorem k_X8_windOne_10 (C : Cx p s m args meth c D (tysW cI cZ cG) RX8 cX8_windOne 8 wsX8_windOne none) (h : Nat) (A : Nat → Nat) (holding : Int32) (wool : Int32) (days : Int32) (sights : Int32) (padMany : Int32) (acts : Int32) (drawnBits : Int32) (drawnMany : Int32) (drawnNow : Int32) (badAct : Int32) (badWhy : Int32) (drawnAct : Int32) (drawnChild : Int32) (balls : Nat → Int32) (least : Nat → Int32) (most : Nat → Int32) (keptAt : Int32) (isWriting : Int32) (u1 : Int32) (u2 : Int32)  (kx112 : Int32 → Int32 → Option ((Nat → Int32) × (Nat → Int32))) (res : (Nat → Int32) × (Nat → Int32)) (hkx112 : ∀ (u3 : Int32) (u4 : Int32) , kx112 u3 u4 = some res → Wd p l e rm_X8_windOne s m args below meth c D w0 8 0 0 (MQ below (QcV D (tysW cI cZ cG) w0 [(h, oX8 A holding wool days sights padMany acts drawnBits drawnMany drawnNow badAct badWhy drawnAct drawnChild keptAt isWriting), ((A 24), aI cI 9 balls), ((A 25), aI cI 100 res.1), ((A 26), aI cI 100 res.2)] s.heap.size) args s 0 0 (va_A w0 s.heap.size)) [(h, oX8 A holding wool days sights padMany acts drawnBits drawnMany drawnNow badAct badWhy drawnAct drawnChild keptAt isWriting), ((A 24), aI cI 9 balls), ((A 25), aI cI 100 least), ((A 26), aI cI 100 most)] [(0, .ref h), (1, .int u1), (2, .int u2), (3, .int u3), (4, .int u4)] 112 []) : ∀ (n : Nat) (u3 : Int32) (u4 : Int32) (u5 : Int32), f_X8_windOne_10 u1 u2 least most kx112 n u3 u4 u5 = some res → Wd p l e rm_X8_windOne s m args below meth c D w0 8 0 0 (MQ below (QcV D (tysW cI cZ cG) w0 [(h, oX8 A holding wool days sights padMany acts drawnBits drawnMany drawnNow badAct badWhy drawnAct drawnChild keptAt isWriting), ((A 24), aI cI 9 balls), ((A 25), aI cI 100 res.1), ((A 26), aI cI 100 res.2)] s.heap.size) args s 0 0 (va_A w0 s.heap.size)) [(h, oX8 A holding wool days sights padMany acts drawnBits drawnMany drawnNow badAct badWhy drawnAct drawnChild keptAt isWriting), ((A 24), aI cI 9 balls), ((A 25), aI cI 100 least), ((A 26), aI cI 100 most)] [(0, .ref h), (1, .int u1), (2, .int u2), (3, .int u3), (4, .int u4), (5, .int u5)] 10 [] := by
  intro n
  induction n with
  | zero =>
    intro u3 u4 u5 hf
    exact no_none hf
  | succ n ih =>
    intro u3 u4 u5 hf
    unfold f_X8_windOne_10 at hf
    refine r_iload C dX8_windOne_10 5 rfl rfl ?_
    refine r_iload_n C dX8_windOne_12 rfl 2 rfl rfl ?_
    refine r_icmp_ge (tgt := 112) C dX8_windOne_13 rfl rfl (fun c1 => ?_) (fun c1 => ?_)
    · have hf := gd_t c1 hf
      refine r_lv (lv' := [(0, .ref h), (1, .int u1), (2, .int u2), (3, .int u3), (4, .int u4)]) [0, 1, 2, 3, 4] rfl ?_
      exact hkx112 _ _ hf
    · have hf := gd_f c1 hf
      refine r_aload_n C dX8_windOne_16 rfl 0 rfl rfl ?_
      refine r_get C dX8_windOne_17 fw_X8_windOne_X8 0 rfl rfl 25 (by decide) rfl fl_X8_windOne_46 rfl rfl ?_
      refine r_bipush C dX8_windOne_20 kk_b_10 rfl ?_
      refine r_iload_n C dX8_windOne_22 rfl 1 rfl rfl ?_
      refine r_imul C dX8_windOne_23 rfl ?_
      refine r_iload C dX8_windOne_24 5 rfl rfl ?_
      refine r_iadd C dX8_windOne_26 rfl ?_
      obtain ⟨g2, hf⟩ := gd_n hf
      refine r_iald C dX8_windOne_27 2 0 rfl rfl g2 rfl ?_
      refine r_aload_n C dX8_windOne_28 rfl 0 rfl rfl ?_
      refine r_get C dX8_windOne_29 fw_X8_windOne_X8 0 rfl rfl 25 (by decide) rfl fl_X8_windOne_46 rfl rfl ?_
      refine r_bipush C dX8_windOne_32 kk_b_10 rfl ?_
      refine r_iload C dX8_windOne_34 5 rfl rfl ?_
      refine r_imul C dX8_windOne_36 rfl ?_
      refine r_iload_n C dX8_windOne_37 rfl 2 rfl rfl ?_
      refine r_iadd C dX8_windOne_38 rfl ?_
      obtain ⟨g3, hf⟩ := gd_n hf
      refine r_iald C dX8_windOne_39 2 0 rfl rfl g3 rfl ?_
      refine r_iadd C dX8_windOne_40 rfl ?_
      refine r_istore (lv' := [(6, .int ((least (((10 : Int32) * u1) + u5).toNatClampNeg) + (least (((10 : Int32) * u5) + u2).toNatClampNeg))), (0, .ref h), (1, .int u1), (2, .int u2), (3, .int u3), (4, .int u4), (5, .int u5)]) C dX8_windOne_41 (by decide) rfl rfl ?_
      refine r_aload_n C dX8_windOne_43 rfl 1 rfl rfl ?_
      refine r_get C dX8_windOne_44 fw_X8_windOne_X8 0 rfl rfl 26 (by decide) rfl fl_X8_windOne_49 rfl rfl ?_
      refine r_bipush C dX8_windOne_47 kk_b_10 rfl ?_
      refine r_iload_n C dX8_windOne_49 rfl 2 rfl rfl ?_
      refine r_imul C dX8_windOne_50 rfl ?_
      refine r_iload C dX8_windOne_51 6 rfl rfl ?_
      refine r_iadd C dX8_windOne_53 rfl ?_
      refine r_iald C dX8_windOne_54 3 0 rfl rfl g2 rfl ?_
      refine r_aload_n C dX8_windOne_55 rfl 1 rfl rfl ?_
      refine r_get C dX8_windOne_56 fw_X8_windOne_X8 0 rfl rfl 26 (by decide) rfl fl_X8_windOne_49 rfl rfl ?_
      refine r_bipush C dX8_windOne_59 kk_b_10 rfl ?_
      refine r_iload C dX8_windOne_61 6 rfl rfl ?_
      refine r_imul C dX8_windOne_63 rfl ?_
      refine r_iload_n C dX8_windOne_64 rfl 3 rfl rfl ?_
      refine r_iadd C dX8_windOne_65 rfl ?_
      refine r_iald C dX8_windOne_66 3 0 rfl rfl g3 rfl ?_
      refine r_iadd C dX8_windOne_67 rfl ?_
      refine r_istore (lv' := [(7, .int ((most (((10 : Int32) * u1) + u5).toNatClampNeg) + (most (((10 : Int32) * u5) + u2).toNatClampNeg))), (6, .int ((least (((10 : Int32) * u1) + u5).toNatClampNeg) + (least (((10 : Int32) * u5) + u2).toNatClampNeg))), (0, .ref h), (1, .int u1), (2, .int u2), (3, .int u3), (4, .int u4), (5, .int u5)]) C dX8_windOne_68 (by decide) rfl rfl ?_
      refine r_iload C dX8_windOne_70 7 rfl rfl ?_
      refine r_iload_n C dX8_windOne_72 rfl 3 rfl rfl ?_
      refine r_iconst C dX8_windOne_73 kk_i_1 rfl ?_
      refine r_iadd C dX8_windOne_74 rfl ?_
      refine r_icmp_ne (tgt := 83) C dX8_windOne_75 rfl rfl (fun c4 => ?_) (fun c4 => ?_)
      · have hf := gd_f c4 hf
        refine r_iload_n C dX8_windOne_83 rfl 5 rfl rfl ?_
        refine r_iload C dX8_windOne_84 1 rfl rfl ?_
        obtain ⟨r5, e5, hf⟩ := gd_b hf
        refine o_I (wn := [(h, oX8 A holding wool days sights padMany acts drawnBits drawnMany drawnNow badAct badWhy drawnAct drawnChild keptAt isWriting), ((A 24), aI cI 9 balls), ((A 25), aI cI 100 least), ((A 26), aI cI 100 most)]) C [] rfl (x_S C dX8_windOne_86 (c_X8_less l D cI cZ cG u3 ((least (((10 : Int32) * u1) + u5).toNatClampNeg) + (least (((10 : Int32) * u5) + u2).toNatClampNeg)) r5 e5) rfl gX8_windOne_X8_less hs_X8_less rfl ⟨Nat.le_of_ble_eq_true rfl, Nat.le_of_ble_eq_true rfl⟩ ⟨rfl, rfl⟩ ⟨Nat.zero_le _, Nat.zero_le _⟩ rfl [] rfl rfl (Nat.le_of_ble_eq_true rfl) rfl) rfl rfl rfl ?_
        refine r_istore_n (lv' := [(3, .int r5), (7, .int ((most (((10 : Int32) * u1) + u5).toNatClampNeg) + (most (((10 : Int32) * u5) + u2).toNatClampNeg))), (6, .int ((least (((10 : Int32) * u1) + u5).toNatClampNeg) + (least (((10 : Int32) * u5) + u2).toNatClampNeg))), (0, .ref h), (1, .int u1), (2, .int u2), (4, .int u4), (5, .int u5)]) C dX8_windOne_89 rfl (by decide) rfl rfl ?_
        refine r_iload C dX8_windOne_90 1 rfl rfl ?_
        refine r_iload C dX8_windOne_92 6 rfl rfl ?_
        refine r_icmp_le (tgt := 102) C dX8_windOne_94 rfl rfl (fun c6 => ?_) (fun c6 => ?_)
        · have hf := gd_t c6 hf
          refine r_iload C dX8_windOne_102 6 rfl rfl ?_
          refine r_istore (lv' := [(4, .int u4), (3, .int r5), (7, .int ((most (((10 : Int32) * u1) + u5).toNatClampNeg) + (most (((10 : Int32) * u5) + u2).toNatClampNeg))), (6, .int ((least (((10 : Int32) * u1) + u5).toNatClampNeg) + (least (((10 : Int32) * u5) + u2).toNatClampNeg))), (0, .ref h), (1, .int u1), (2, .int u2), (5, .int u5)]) C dX8_windOne_104 (by decide) rfl rfl ?_
          refine r_iinc (lv' := [(5, .int (u5 + (1 : Int32))), (4, .int u4), (3, .int r5), (7, .int ((most (((10 : Int32) * u1) + u5).toNatClampNeg) + (most (((10 : Int32) * u5) + u2).toNatClampNeg))), (6, .int ((least (((10 : Int32) * u1) + u5).toNatClampNeg) + (least (((10 : Int32) * u5) + u2).toNatClampNeg))), (0, .ref h), (1, .int u1), (2, .int u2)]) C dX8_windOne_106 7 rfl (ki_1 _) (by decide) rfl rfl ?_
          refine r_goto (tgt := 10) C dX8_windOne_109 rfl ?_
          refine r_lv (lv' := [(0, .ref h), (1, .int u1), (2, .int u2), (3, .int r5), (4, .int u4), (5, .int (u5 + (1 : Int32)))]) [5, 6, 7, 2, 1, 0] rfl ?_
          exact ih _ _ _ hf
        · have hf := gd_f c6 hf
          refine r_iload C dX8_windOne_97 1 rfl rfl ?_
          refine r_goto (tgt := 104) C dX8_windOne_99 rfl ?_
          refine r_istore (lv' := [(4, .int ((most (((10 : Int32) * u1) + u5).toNatClampNeg) + (most (((10 : Int32) * u5) + u2).toNatClampNeg))), (3, .int r5), (7, .int ((most (((10 : Int32) * u1) + u5).toNatClampNeg) + (most (((10 : Int32) * u5) + u2).toNatClampNeg))), (6, .int ((least (((10 : Int32) * u1) + u5).toNatClampNeg) + (least (((10 : Int32) * u5) + u2).toNatClampNeg))), (0, .ref h), (1, .int u1), (2, .int u2), (5, .int u5)]) C dX8_windOne_104 (by decide) rfl rfl ?_
          refine r_iinc (lv' := [(5, .int (u5 + (1 : Int32))), (4, .int ((most (((10 : Int32) * u1) + u5).toNatClampNeg) + (most (((10 : Int32) * u5) + u2).toNatClampNeg))), (3, .int r5), (7, .int ((most (((10 : Int32) * u1) + u5).toNatClampNeg) + (most (((10 : Int32) * u5) + u2).toNatClampNeg))), (6, .int ((least (((10 : Int32) * u1) + u5).toNatClampNeg) + (least (((10 : Int32) * u5) + u2).toNatClampNeg))), (0, .ref h), (1, .int u1), (2, .int u2)]) C dX8_windOne_106 7 rfl (ki_1 _) (by decide) rfl rfl ?_
          refine r_goto (tgt := 10) C dX8_windOne_109 rfl ?_
          refine r_lv (lv' := [(0, .ref h), (1, .int u1), (2, .int u2), (3, .int r5), (4, .int ((most (((10 : Int32) * u1) + u5).toNatClampNeg) + (most (((10 : Int32) * u5) + u2).toNatClampNeg))), (5, .int (u5 + (1 : Int32)))]) [5, 6, 7, 2, 1, 0] rfl ?_
          exact ih _ _ _ hf
      · have hf := gd_t c4 hf
        refine r_iload C dX8_windOne_78 1 rfl rfl ?_
        refine r_goto (tgt := 89) C dX8_windOne_80 rfl ?_
        refine r_istore_n (lv' := [(3, .int ((least (((10 : Int32) * u1) + u5).toNatClampNeg) + (least (((10 : Int32) * u5) + u2).toNatClampNeg))), (7, .int ((most (((10 : Int32) * u1) + u5).toNatClampNeg) + (most (((10 : Int32) * u5) + u2).toNatClampNeg))), (6, .int ((least (((10 : Int32) * u1) + u5).toNatClampNeg) + (least (((10 : Int32) * u5) + u2).toNatClampNeg))), (0, .ref h), (1, .int u1), (2, .int u2), (4, .int u4), (5, .int u5)]) C dX8_windOne_89 rfl (by decide) rfl rfl ?_
        refine r_iload C dX8_windOne_90 1 rfl rfl ?_
        refine r_iload C dX8_windOne_92 6 rfl rfl ?_
        refine r_icmp_le (tgt := 102) C dX8_windOne_94 rfl rfl (fun c7 => ?_) (fun c7 => ?_)
        · have hf := gd_t c7 hf
          refine r_iload C dX8_windOne_102 6 rfl rfl ?_
          refine r_istore (lv' := [(4, .int u4), (3, .int ((least (((10 : Int32) * u1) + u5).toNatClampNeg) + (least (((10 : Int32) * u5) + u2).toNatClampNeg))), (7, .int ((most (((10 : Int32) * u1) + u5).toNatClampNeg) + (most (((10 : Int32) * u5) + u2).toNatClampNeg))), (6, .int ((least (((10 : Int32) * u1) + u5).toNatClampNeg) + (least (((10 : Int32) * u5) + u2).toNatClampNeg))), (0, .ref h), (1, .int u1), (2, .int u2), (5, .int u5)]) C dX8_windOne_104 (by decide) rfl rfl ?_
          refine r_iinc (lv' := [(5, .int (u5 + (1 : Int32))), (4, .int u4), (3, .int ((least (((10 : Int32) * u1) + u5).toNatClampNeg) + (least (((10 : Int32) * u5) + u2).toNatClampNeg))), (7, .int ((most (((10 : Int32) * u1) + u5).toNatClampNeg) + (most (((10 : Int32) * u5) + u2).toNatClampNeg))), (6, .int ((least (((10 : Int32) * u1) + u5).toNatClampNeg) + (least (((10 : Int32) * u5) + u2).toNatClampNeg))), (0, .ref h), (1, .int u1), (2, .int u2)]) C dX8_windOne_106 7 rfl (ki_1 _) (by decide) rfl rfl ?_
          refine r_goto (tgt := 10) C dX8_windOne_109 rfl ?_
          refine r_lv (lv' := [(0, .ref h), (1, .int u1), (2, .int u2), (3, .int ((least (((10 : Int32) * u1) + u5).toNatClampNeg) + (least (((10 : Int32) * u5) + u2).toNatClampNeg))), (4, .int u4), (5, .int (u5 + (1 : Int32)))]) [5, 6, 7, 2, 1, 0] rfl ?_
          exact ih _ _ _ hf
        · have hf := gd_f c7 hf
          refine r_iload C dX8_windOne_97 1 rfl rfl ?_
          refine r_goto (tgt := 104) C dX8_windOne_99 rfl ?_
          refine r_istore (lv' := [(4, .int ((most (((10 : Int32) * u1) + u5).toNatClampNeg) + (most (((10 : Int32) * u5) + u2).toNatClampNeg))), (3, .int ((least (((10 : Int32) * u1) + u5).toNatClampNeg) + (least (((10 : Int32) * u5) + u2).toNatClampNeg))), (7, .int ((most (((10 : Int32) * u1) + u5).toNatClampNeg) + (most (((10 : Int32) * u5) + u2).toNatClampNeg))), (6, .int ((least (((10 : Int32) * u1) + u5).toNatClampNeg) + (least (((10 : Int32) * u5) + u2).toNatClampNeg))), (0, .ref h), (1, .int u1), (2, .int u2), (5, .int u5)]) C dX8_windOne_104 (by decide) rfl rfl ?_
          refine r_iinc (lv' := [(5, .int (u5 + (1 : Int32))), (4, .int ((most (((10 : Int32) * u1) + u5).toNatClampNeg) + (most (((10 : Int32) * u5) + u2).toNatClampNeg))), (3, .int ((least (((10 : Int32) * u1) + u5).toNatClampNeg) + (least (((10 : Int32) * u5) + u2).toNatClampNeg))), (7, .int ((most (((10 : Int32) * u1) + u5).toNatClampNeg) + (most (((10 : Int32) * u5) + u2).toNatClampNeg))), (6, .int ((least (((10 : Int32) * u1) + u5).toNatClampNeg) + (least (((10 : Int32) * u5) + u2).toNatClampNeg))), (0, .ref h), (1, .int u1), (2, .int u2)]) C dX8_windOne_106 7 rfl (ki_1 _) (by decide) rfl rfl ?_
          refine r_goto (tgt := 10) C dX8_windOne_109 rfl ?_
          refine r_lv (lv' := [(0, .ref h), (1, .int u1), (2, .int u2), (3, .int ((least (((10 : Int32) * u1) + u5).toNatClampNeg) + (least (((10 : Int32) * u5) + u2).toNatClampNeg))), (4, .int ((most (((10 : Int32) * u1) + u5).toNatClampNeg) + (most (((10 : Int32) * u5) + u2).toNatClampNeg))), (5, .int (u5 + (1 : Int32)))]) [5, 6, 7, 2, 1, 0] rfl ?_
          exact ih _ _ _ hf
def f_X8_windOne (balls : Nat → Int32) (least : Nat → Int32) (most : Nat → Int32) (u1 : Int32) (u2 : Int32) : Option ((Nat → Int32) × (Nat → Int32)) := f_X8_windOne_10 u1 u2 least most (fun u3_8 u4_9 => if (u2 - u1) ≤ (1 : Int32) then if (((10 : Int32) * u1) + u2) < 0 ∨ 100 ≤ (((10 : Int32) * u1) + u2).toNatClampNeg then none else some ((upd least (((10 : Int32) * u1) + u2).toNatClampNeg (u3_8 + (0 : Int32))), (upd most (((10 : Int32) * u1) + u2).toNatClampNeg (u4_9 + (0 : Int32)))) else (f_X8_sizeOf balls u1 u2).bind (fun r12 => if (((10 : Int32) * u1) + u2) < 0 ∨ 100 ≤ (((10 : Int32) * u1) + u2).toNatClampNeg then none else some ((upd least (((10 : Int32) * u1) + u2).toNatClampNeg (u3_8 + r12)), (upd most (((10 : Int32) * u1) + u2).toNatClampNeg (u4_9 + r12))))) 2000 (0 : Int32) (0 : Int32) (u1 + (1 : Int32))
set_option maxHeartbeats 4000000 in
set_option maxRecDepth 100000 in
theorem c_X8_windOne (l : Launch) (D : va_G) (cI cZ cG : ClassId) (h : Nat) (A : Nat → Nat) (holding : Int32) (wool : Int32) (days : Int32) (sights : Int32) (padMany : Int32) (acts : Int32) (drawnBits : Int32) (drawnMany : Int32) (drawnNow : Int32) (badAct : Int32) (badWhy : Int32) (drawnAct : Int32) (drawnChild : Int32) (balls : Nat → Int32) (least : Nat → Int32) (most : Nat → Int32) (keptAt : Int32) (isWriting : Int32) (u1 : Int32) (u2 : Int32) (res : (Nat → Int32) × (Nat → Int32)) (hf : f_X8_windOne balls least most u1 u2 = some res) : CV l D (tysW cI cZ cG) yX8_windOne wsX8_windOne rm_X8_windOne [.ref h, .int u1, .int u2] [(h, oX8 A holding wool days sights padMany acts drawnBits drawnMany drawnNow badAct badWhy drawnAct drawnChild keptAt isWriting), ((A 24), aI cI 9 balls), ((A 25), aI cI 100 least), ((A 26), aI cI 100 most)] [(h, oX8 A holding wool days sights padMany acts drawnBits drawnMany drawnNow badAct badWhy drawnAct drawnChild keptAt isWriting), ((A 24), aI cI 9 balls), ((A 25), aI cI 100 res.1), ((A 26), aI cI 100 res.2)] := by
  refine CG.intro (own := RX8) (by decide +kernel) rfl rfl (Nat.le_of_ble_eq_true rfl) (fun p e s m args below meth c C => ?_)
  refine r_lv (lv' := [(0, .ref h), (1, .int u1), (2, .int u2)]) [0, 1, 2] rfl ?_
  unfold f_X8_windOne at hf
  refine r_iconst C dX8_windOne_0 kk_i_0 rfl ?_
  refine r_istore_n (lv' := [(3, .int (0 : Int32)), (0, .ref h), (1, .int u1), (2, .int u2)]) C dX8_windOne_1 rfl (by decide) rfl rfl ?_
  refine r_iconst C dX8_windOne_2 kk_i_0 rfl ?_
  refine r_istore (lv' := [(4, .int (0 : Int32)), (3, .int (0 : Int32)), (0, .ref h), (1, .int u1), (2, .int u2)]) C dX8_windOne_3 (by decide) rfl rfl ?_
  refine r_iload_n C dX8_windOne_5 rfl 3 rfl rfl ?_
  refine r_iconst C dX8_windOne_6 kk_i_1 rfl ?_
  refine r_iadd C dX8_windOne_7 rfl ?_
  refine r_istore (lv' := [(5, .int (u1 + (1 : Int32))), (4, .int (0 : Int32)), (3, .int (0 : Int32)), (0, .ref h), (1, .int u1), (2, .int u2)]) C dX8_windOne_8 (by decide) rfl rfl ?_
  refine r_lv (lv' := [(0, .ref h), (1, .int u1), (2, .int u2), (3, .int (0 : Int32)), (4, .int (0 : Int32)), (5, .int (u1 + (1 : Int32)))]) [3, 4, 5, 2, 1, 0] rfl ?_
  refine k_X8_windOne_10 C h A holding wool days sights padMany acts drawnBits drawnMany drawnNow badAct badWhy drawnAct drawnChild balls least most keptAt isWriting u1 u2 _ _ ?_ 2000 _ _ _ hf
  · intro u3_8 u4_9 hf
    refine r_iload_n C dX8_windOne_112 rfl 2 rfl rfl ?_
    refine r_iload_n C dX8_windOne_113 rfl 1 rfl rfl ?_
    refine r_isub C dX8_windOne_114 rfl ?_
    refine r_iconst C dX8_windOne_115 kk_i_1 rfl ?_
    refine r_icmp_le (tgt := 128) C dX8_windOne_116 rfl rfl (fun c10 => ?_) (fun c10 => ?_)
    · have hf := gd_t c10 hf
      refine r_iconst C dX8_windOne_128 kk_i_0 rfl ?_
      refine r_istore (lv' := [(5, .int (0 : Int32)), (0, .ref h), (1, .int u1), (2, .int u2), (3, .int u3_8), (4, .int u4_9)]) C dX8_windOne_129 (by decide) rfl rfl ?_
      refine r_aload_n C dX8_windOne_131 rfl 1 rfl rfl ?_
      refine r_get C dX8_windOne_132 fw_X8_windOne_X8 0 rfl rfl 25 (by decide) rfl fl_X8_windOne_46 rfl rfl ?_
      refine r_bipush C dX8_windOne_135 kk_b_10 rfl ?_
      refine r_iload_n C dX8_windOne_137 rfl 2 rfl rfl ?_
      refine r_imul C dX8_windOne_138 rfl ?_
      refine r_iload_n C dX8_windOne_139 rfl 3 rfl rfl ?_
      refine r_iadd C dX8_windOne_140 rfl ?_
      refine r_iload_n C dX8_windOne_141 rfl 4 rfl rfl ?_
      refine r_iload C dX8_windOne_142 0 rfl rfl ?_
      refine r_iadd C dX8_windOne_144 rfl ?_
      obtain ⟨g11, hf⟩ := gd_n hf
      refine r_iast (ws' := [(h, oX8 A holding wool days sights padMany acts drawnBits drawnMany drawnNow badAct badWhy drawnAct drawnChild keptAt isWriting), ((A 24), aI cI 9 balls), ((A 25), aI cI 100 (upd least (((10 : Int32) * u1) + u2).toNatClampNeg (u3_8 + (0 : Int32)))), ((A 26), aI cI 100 most)]) C dX8_windOne_145 2 0 rfl rfl g11 rfl rfl ?_
      refine r_aload_n C dX8_windOne_146 rfl 1 rfl rfl ?_
      refine r_get C dX8_windOne_147 fw_X8_windOne_X8 0 rfl rfl 26 (by decide) rfl fl_X8_windOne_49 rfl rfl ?_
      refine r_bipush C dX8_windOne_150 kk_b_10 rfl ?_
      refine r_iload_n C dX8_windOne_152 rfl 2 rfl rfl ?_
      refine r_imul C dX8_windOne_153 rfl ?_
      refine r_iload_n C dX8_windOne_154 rfl 3 rfl rfl ?_
      refine r_iadd C dX8_windOne_155 rfl ?_
      refine r_iload C dX8_windOne_156 5 rfl rfl ?_
      refine r_iload C dX8_windOne_158 0 rfl rfl ?_
      refine r_iadd C dX8_windOne_160 rfl ?_
      refine r_iast (ws' := [(h, oX8 A holding wool days sights padMany acts drawnBits drawnMany drawnNow badAct badWhy drawnAct drawnChild keptAt isWriting), ((A 24), aI cI 9 balls), ((A 25), aI cI 100 (upd least (((10 : Int32) * u1) + u2).toNatClampNeg (u3_8 + (0 : Int32)))), ((A 26), aI cI 100 (upd most (((10 : Int32) * u1) + u2).toNatClampNeg (u4_9 + (0 : Int32))))]) C dX8_windOne_161 3 0 rfl rfl g11 rfl rfl ?_
      cases hf
      exact r_vret C dX8_windOne_162 rfl
    · have hf := gd_f c10 hf
      refine r_aload_n C dX8_windOne_119 rfl 0 rfl rfl ?_
      refine r_iload_n C dX8_windOne_120 rfl 1 rfl rfl ?_
      refine r_iload_n C dX8_windOne_121 rfl 2 rfl rfl ?_
      obtain ⟨r12, e12, hf⟩ := gd_b hf
      refine o_I (wn := [(h, oX8 A holding wool days sights padMany acts drawnBits drawnMany drawnNow badAct badWhy drawnAct drawnChild keptAt isWriting), ((A 24), aI cI 9 balls), ((A 25), aI cI 100 least), ((A 26), aI cI 100 most)]) C [0, 1] rfl (x_V C dX8_windOne_122 (c_X8_sizeOf l D cI cZ cG h A holding wool days sights padMany acts drawnBits drawnMany drawnNow badAct badWhy drawnAct drawnChild balls keptAt isWriting u1 u2 r12 e12) rfl gX8_windOne_X8_sizeOf hd_X8_sizeOf rfl ⟨Nat.le_of_ble_eq_true rfl, Nat.le_of_ble_eq_true rfl⟩ ⟨rfl, rfl⟩ ⟨Nat.zero_le _, Nat.zero_le _⟩ rfl [0, 1] rfl rfl 0 rfl rfl (Nat.le_of_ble_eq_true rfl) rfl) rfl rfl rfl ?_
      refine r_goto (tgt := 129) C dX8_windOne_125 rfl ?_
      refine r_istore (lv' := [(5, .int r12), (0, .ref h), (1, .int u1), (2, .int u2), (3, .int u3_8), (4, .int u4_9)]) C dX8_windOne_129 (by decide) rfl rfl ?_
      refine r_aload_n C dX8_windOne_131 rfl 1 rfl rfl ?_
      refine r_get C dX8_windOne_132 fw_X8_windOne_X8 0 rfl rfl 25 (by decide) rfl fl_X8_windOne_46 rfl rfl ?_
      refine r_bipush C dX8_windOne_135 kk_b_10 rfl ?_
      refine r_iload_n C dX8_windOne_137 rfl 2 rfl rfl ?_
      refine r_imul C dX8_windOne_138 rfl ?_
      refine r_iload_n C dX8_windOne_139 rfl 3 rfl rfl ?_
      refine r_iadd C dX8_windOne_140 rfl ?_
      refine r_iload_n C dX8_windOne_141 rfl 4 rfl rfl ?_
      refine r_iload C dX8_windOne_142 0 rfl rfl ?_
      refine r_iadd C dX8_windOne_144 rfl ?_
      obtain ⟨g13, hf⟩ := gd_n hf
      refine r_iast (ws' := [(h, oX8 A holding wool days sights padMany acts drawnBits drawnMany drawnNow badAct badWhy drawnAct drawnChild keptAt isWriting), ((A 24), aI cI 9 balls), ((A 25), aI cI 100 (upd least (((10 : Int32) * u1) + u2).toNatClampNeg (u3_8 + r12))), ((A 26), aI cI 100 most)]) C dX8_windOne_145 2 0 rfl rfl g13 rfl rfl ?_
      refine r_aload_n C dX8_windOne_146 rfl 1 rfl rfl ?_
      refine r_get C dX8_windOne_147 fw_X8_windOne_X8 0 rfl rfl 26 (by decide) rfl fl_X8_windOne_49 rfl rfl ?_
      refine r_bipush C dX8_windOne_150 kk_b_10 rfl ?_
      refine r_iload_n C dX8_windOne_152 rfl 2 rfl rfl ?_
      refine r_imul C dX8_windOne_153 rfl ?_
      refine r_iload_n C dX8_windOne_154 rfl 3 rfl rfl ?_
      refine r_iadd C dX8_windOne_155 rfl ?_
      refine r_iload C dX8_windOne_156 5 rfl rfl ?_
      refine r_iload C dX8_windOne_158 0 rfl rfl ?_
      refine r_iadd C dX8_windOne_160 rfl ?_
      refine r_iast (ws' := [(h, oX8 A holding wool days sights padMany acts drawnBits drawnMany drawnNow badAct badWhy drawnAct drawnChild keptAt isWriting), ((A 24), aI cI 9 balls), ((A 25), aI cI 100 (upd least (((10 : Int32) * u1) + u2).toNatClampNeg (u3_8 + r12))), ((A 26), aI cI 100 (upd most (((10 : Int32) * u1) + u2).toNatClampNeg (u4_9 + r12)))]) C dX8_windOne_161 3 0 rfl rfl g13 rfl rfl ?_
      cases hf
      exact r_vret C dX8_windOne_162 rfl
theorem wc_X8_wind_81 : Cond.constantLong RX8 81 (9 : Int64) ∈ wsX8_wind := by decide +kernel
theorem fw_X8_wind_X8 : ∀ w ∈ u_ws RX8 TX8 37, w ∈ wsX8_wind := by decide +kernel
theorem fl_X8_wind_49 : Cond.fieldLink RX8 49 "MittenLineModel" "most" "[I" ∈ wsX8_wind := by decide +kernel
theorem fl_X8_wind_46 : Cond.fieldLink RX8 46 "MittenLineModel" "least" "[I" ∈ wsX8_wind := by decide +kernel
abbrev rm_X8_wind : Jvm.Room := { frames := 2, cells := 0, slots := 0, locals := 51 }
def f_X8_wind_46 (u2 : Int32) (u4 : Int32) (balls : Nat → Int32) (kx72 : (Nat → Int32) → (Nat → Int32) → Option (Int32 × (Nat → Int32) × (Nat → Int32) × (Nat → Int32))) : Nat → Int32 → (Nat → Int32) → (Nat → Int32) → Option (Int32 × (Nat → Int32) × (Nat → Int32) × (Nat → Int32))
  | 0, _, _, _ => none
  | n + 1, u5, least, most => if u2 < (u5 + u4) then kx72 least most else (f_X8_windOne balls least most u5 (u5 + u4)).bind (fun r9 => f_X8_wind_46 u2 u4 balls kx72 n (u5 + (1 : Int32)) r9.1 r9.2)
set_option maxHeartbeats 4000000 in
set_option maxRecDepth 100000 in
theorem k_X8_wind_46 (C : Cx p s m args meth c D (tysW cI cZ cG) RX8 cX8_wind 6 wsX8_wind (some .int)) (h : Nat) (A : Nat → Nat) (holding : Int32) (wool : Int32) (days : Int32) (sights : Int32) (padMany : Int32) (acts : Int32) (drawnBits : Int32) (drawnMany : Int32) (drawnNow : Int32) (badAct : Int32) (badWhy : Int32) (drawnAct : Int32) (drawnChild : Int32) (balls : Nat → Int32) (keptAt : Int32) (isWriting : Int32) (u2 : Int32) (u3 : Int32) (u4 : Int32)  (kx72 : (Nat → Int32) → (Nat → Int32) → Option (Int32 × (Nat → Int32) × (Nat → Int32) × (Nat → Int32))) (res : Int32 × (Nat → Int32) × (Nat → Int32) × (Nat → Int32)) (hkx72 : ∀ (least : Nat → Int32) (most : Nat → Int32) , kx72 least most = some res → Wd p l e rm_X8_wind s m args below meth c D w0 6 0 0 (MQ below (QcI D (tysW cI cZ cG) w0 [(h, oX8 A holding wool days sights padMany acts drawnBits drawnMany drawnNow badAct badWhy drawnAct drawnChild keptAt isWriting), ((A 24), aI cI 9 res.2.1), ((A 25), aI cI 100 res.2.2.1), ((A 26), aI cI 100 res.2.2.2)] res.1 s.heap.size) args s 0 0 (va_A w0 s.heap.size)) [(h, oX8 A holding wool days sights padMany acts drawnBits drawnMany drawnNow badAct badWhy drawnAct drawnChild keptAt isWriting), ((A 24), aI cI 9 balls), ((A 25), aI cI 100 least), ((A 26), aI cI 100 most)] [(0, .ref h), (2, .int u2), (3, .int u3), (4, .int u4)] 72 []) : ∀ (n : Nat) (u5 : Int32) (least : Nat → Int32) (most : Nat → Int32), f_X8_wind_46 u2 u4 balls kx72 n u5 least most = some res → Wd p l e rm_X8_wind s m args below meth c D w0 6 0 0 (MQ below (QcI D (tysW cI cZ cG) w0 [(h, oX8 A holding wool days sights padMany acts drawnBits drawnMany drawnNow badAct badWhy drawnAct drawnChild keptAt isWriting), ((A 24), aI cI 9 res.2.1), ((A 25), aI cI 100 res.2.2.1), ((A 26), aI cI 100 res.2.2.2)] res.1 s.heap.size) args s 0 0 (va_A w0 s.heap.size)) [(h, oX8 A holding wool days sights padMany acts drawnBits drawnMany drawnNow badAct badWhy drawnAct drawnChild keptAt isWriting), ((A 24), aI cI 9 balls), ((A 25), aI cI 100 least), ((A 26), aI cI 100 most)] [(0, .ref h), (2, .int u2), (3, .int u3), (4, .int u4), (5, .int u5)] 46 [] := by
  intro n
  induction n with
  | zero =>
    intro u5 least most hf
    exact no_none hf
  | succ n ih =>
    intro u5 least most hf
    unfold f_X8_wind_46 at hf
    refine r_iload C dX8_wind_46 4 rfl rfl ?_
    refine r_iload C dX8_wind_48 3 rfl rfl ?_
    refine r_iadd C dX8_wind_50 rfl ?_
    refine r_iload_n C dX8_wind_51 rfl 1 rfl rfl ?_
    refine r_icmp_gt (tgt := 72) C dX8_wind_52 rfl rfl (fun c8 => ?_) (fun c8 => ?_)
    · have hf := gd_t c8 hf
      refine r_lv (lv' := [(0, .ref h), (2, .int u2), (3, .int u3), (4, .int u4)]) [0, 1, 2, 3] rfl ?_
      exact hkx72 _ _ hf
    · have hf := gd_f c8 hf
      refine r_aload_n C dX8_wind_55 rfl 0 rfl rfl ?_
      refine r_iload C dX8_wind_56 4 rfl rfl ?_
      refine r_iload C dX8_wind_58 4 rfl rfl ?_
      refine r_iload C dX8_wind_60 3 rfl rfl ?_
      refine r_iadd C dX8_wind_62 rfl ?_
      obtain ⟨r9, e9, hf⟩ := gd_b hf
      refine o_V (wn := [(h, oX8 A holding wool days sights padMany acts drawnBits drawnMany drawnNow badAct badWhy drawnAct drawnChild keptAt isWriting), ((A 24), aI cI 9 balls), ((A 25), aI cI 100 r9.1), ((A 26), aI cI 100 r9.2)]) C [0, 1, 2, 3] rfl (x_V C dX8_wind_63 (c_X8_windOne l D cI cZ cG h A holding wool days sights padMany acts drawnBits drawnMany drawnNow badAct badWhy drawnAct drawnChild balls least most keptAt isWriting u5 (u5 + u4) r9 e9) rfl gX8_wind_X8_windOne hd_X8_windOne rfl ⟨Nat.le_of_ble_eq_true rfl, Nat.le_of_ble_eq_true rfl⟩ ⟨rfl, rfl⟩ ⟨Nat.zero_le _, Nat.zero_le _⟩ rfl [0, 1, 2, 3] rfl rfl 0 rfl rfl (Nat.le_of_ble_eq_true rfl) rfl) rfl rfl rfl ?_
      refine r_iinc (lv' := [(5, .int (u5 + (1 : Int32))), (0, .ref h), (2, .int u2), (3, .int u3), (4, .int u4)]) C dX8_wind_66 4 rfl (ki_1 _) (by decide) rfl rfl ?_
      refine r_goto (tgt := 46) C dX8_wind_69 rfl ?_
      refine r_lv (lv' := [(0, .ref h), (2, .int u2), (3, .int u3), (4, .int u4), (5, .int (u5 + (1 : Int32)))]) [1, 2, 3, 4, 0] rfl ?_
      exact ih _ _ _ hf
def f_X8_wind_37 (u2 : Int32) (balls : Nat → Int32) (kx78 : (Nat → Int32) → (Nat → Int32) → Option (Int32 × (Nat → Int32) × (Nat → Int32) × (Nat → Int32))) : Nat → Int32 → (Nat → Int32) → (Nat → Int32) → Option (Int32 × (Nat → Int32) × (Nat → Int32) × (Nat → Int32))
  | 0, _, _, _ => none
  | n + 1, u4, least, most => if u2 < u4 then kx78 least most else f_X8_wind_46 u2 u4 balls (fun least_10 most_11 => f_X8_wind_37 u2 balls kx78 n (u4 + (1 : Int32)) least_10 most_11) 2000 (0 : Int32) least most
set_option maxHeartbeats 4000000 in
set_option maxRecDepth 100000 in
theorem k_X8_wind_37 (C : Cx p s m args meth c D (tysW cI cZ cG) RX8 cX8_wind 6 wsX8_wind (some .int)) (h : Nat) (A : Nat → Nat) (holding : Int32) (wool : Int32) (days : Int32) (sights : Int32) (padMany : Int32) (acts : Int32) (drawnBits : Int32) (drawnMany : Int32) (drawnNow : Int32) (badAct : Int32) (badWhy : Int32) (drawnAct : Int32) (drawnChild : Int32) (balls : Nat → Int32) (keptAt : Int32) (isWriting : Int32) (u2 : Int32) (u3 : Int32)  (kx78 : (Nat → Int32) → (Nat → Int32) → Option (Int32 × (Nat → Int32) × (Nat → Int32) × (Nat → Int32))) (res : Int32 × (Nat → Int32) × (Nat → Int32) × (Nat → Int32)) (hkx78 : ∀ (least : Nat → Int32) (most : Nat → Int32) , kx78 least most = some res → Wd p l e rm_X8_wind s m args below meth c D w0 6 0 0 (MQ below (QcI D (tysW cI cZ cG) w0 [(h, oX8 A holding wool days sights padMany acts drawnBits drawnMany drawnNow badAct badWhy drawnAct drawnChild keptAt isWriting), ((A 24), aI cI 9 res.2.1), ((A 25), aI cI 100 res.2.2.1), ((A 26), aI cI 100 res.2.2.2)] res.1 s.heap.size) args s 0 0 (va_A w0 s.heap.size)) [(h, oX8 A holding wool days sights padMany acts drawnBits drawnMany drawnNow badAct badWhy drawnAct drawnChild keptAt isWriting), ((A 24), aI cI 9 balls), ((A 25), aI cI 100 least), ((A 26), aI cI 100 most)] [(0, .ref h), (2, .int u2), (3, .int u3)] 78 []) : ∀ (n : Nat) (u4 : Int32) (least : Nat → Int32) (most : Nat → Int32), f_X8_wind_37 u2 balls kx78 n u4 least most = some res → Wd p l e rm_X8_wind s m args below meth c D w0 6 0 0 (MQ below (QcI D (tysW cI cZ cG) w0 [(h, oX8 A holding wool days sights padMany acts drawnBits drawnMany drawnNow badAct badWhy drawnAct drawnChild keptAt isWriting), ((A 24), aI cI 9 res.2.1), ((A 25), aI cI 100 res.2.2.1), ((A 26), aI cI 100 res.2.2.2)] res.1 s.heap.size) args s 0 0 (va_A w0 s.heap.size)) [(h, oX8 A holding wool days sights padMany acts drawnBits drawnMany drawnNow badAct badWhy drawnAct drawnChild keptAt isWriting), ((A 24), aI cI 9 balls), ((A 25), aI cI 100 least), ((A 26), aI cI 100 most)] [(0, .ref h), (2, .int u2), (3, .int u3), (4, .int u4)] 37 [] := by
  intro n
  induction n with
  | zero =>
    intro u4 least most hf
    exact no_none hf
  | succ n ih =>
    intro u4 least most hf
    unfold f_X8_wind_37 at hf
    refine r_iload C dX8_wind_37 3 rfl rfl ?_
    refine r_iload_n C dX8_wind_39 rfl 1 rfl rfl ?_
    refine r_icmp_gt (tgt := 78) C dX8_wind_40 rfl rfl (fun c7 => ?_) (fun c7 => ?_)
    · have hf := gd_t c7 hf
      refine r_lv (lv' := [(0, .ref h), (2, .int u2), (3, .int u3)]) [0, 1, 2] rfl ?_
      exact hkx78 _ _ hf
    · have hf := gd_f c7 hf
      refine r_iconst C dX8_wind_43 kk_i_0 rfl ?_
      refine r_istore (lv' := [(5, .int (0 : Int32)), (0, .ref h), (2, .int u2), (3, .int u3), (4, .int u4)]) C dX8_wind_44 (by decide) rfl rfl ?_
      refine r_lv (lv' := [(0, .ref h), (2, .int u2), (3, .int u3), (4, .int u4), (5, .int (0 : Int32))]) [1, 2, 3, 4, 0] rfl ?_
      refine k_X8_wind_46 C h A holding wool days sights padMany acts drawnBits drawnMany drawnNow badAct badWhy drawnAct drawnChild balls keptAt isWriting u2 u3 u4 _ _ ?_ 2000 _ _ _ hf
      · intro least_10 most_11 hf
        refine r_iinc (lv' := [(4, .int (u4 + (1 : Int32))), (0, .ref h), (2, .int u2), (3, .int u3)]) C dX8_wind_72 3 rfl (ki_1 _) (by decide) rfl rfl ?_
        refine r_goto (tgt := 37) C dX8_wind_75 rfl ?_
        refine r_lv (lv' := [(0, .ref h), (2, .int u2), (3, .int u3), (4, .int (u4 + (1 : Int32)))]) [1, 2, 3, 0] rfl ?_
        exact ih _ _ _ hf
def f_X8_wind (balls : Nat → Int32) (least : Nat → Int32) (most : Nat → Int32) (u1 : Int32) (u2 : Int32) (u3 : Int32) : Option (Int32 × (Nat → Int32) × (Nat → Int32) × (Nat → Int32)) := (f_X8_in u2.toInt64 (1 : Int64) (9 : Int64)).bind (fun r1 => if r1 = 0 then some ((-2 : Int32), balls, least, most) else (f_X8_readBalls balls u1 u2).bind (fun r3 => if r3.1 = 0 then some ((-2 : Int32), r3.2, least, most) else (f_X8_in u3.toInt64 (0 : Int64) (1 : Int64)).bind (fun r5 => if r5 = 0 then some ((-2 : Int32), r3.2, least, most) else f_X8_wind_37 u2 r3.2 (fun least_12 most_13 => if u3 = 0 then if u2 < 0 ∨ 100 ≤ u2.toNatClampNeg then none else some ((least_12 u2.toNatClampNeg), r3.2, least_12, most_13) else if u2 < 0 ∨ 100 ≤ u2.toNatClampNeg then none else some ((most_13 u2.toNatClampNeg), r3.2, least_12, most_13)) 2000 (1 : Int32) least most)))
set_option maxHeartbeats 4000000 in
set_option maxRecDepth 100000 in
theorem c_X8_wind (l : Launch) (D : va_G) (cI cZ cG : ClassId) (h : Nat) (A : Nat → Nat) (holding : Int32) (wool : Int32) (days : Int32) (sights : Int32) (padMany : Int32) (acts : Int32) (drawnBits : Int32) (drawnMany : Int32) (drawnNow : Int32) (badAct : Int32) (badWhy : Int32) (drawnAct : Int32) (drawnChild : Int32) (balls : Nat → Int32) (least : Nat → Int32) (most : Nat → Int32) (keptAt : Int32) (isWriting : Int32) (u1 : Int32) (u2 : Int32) (u3 : Int32) (res : Int32 × (Nat → Int32) × (Nat → Int32) × (Nat → Int32)) (hf : f_X8_wind balls least most u1 u2 u3 = some res) : CI l D (tysW cI cZ cG) yX8_wind wsX8_wind rm_X8_wind [.ref h, .int u1, .int u2, .int u3] [(h, oX8 A holding wool days sights padMany acts drawnBits drawnMany drawnNow badAct badWhy drawnAct drawnChild keptAt isWriting), ((A 24), aI cI 9 balls), ((A 25), aI cI 100 least), ((A 26), aI cI 100 most)] res.1 [(h, oX8 A holding wool days sights padMany acts drawnBits drawnMany drawnNow badAct badWhy drawnAct drawnChild keptAt isWriting), ((A 24), aI cI 9 res.2.1), ((A 25), aI cI 100 res.2.2.1), ((A 26), aI cI 100 res.2.2.2)] := by
  refine CG.intro (own := RX8) (by decide +kernel) rfl rfl (Nat.le_of_ble_eq_true rfl) (fun p e s m args below meth c C => ?_)
  refine r_lv (lv' := [(0, .ref h), (1, .int u1), (2, .int u2), (3, .int u3)]) [0, 1, 2, 3] rfl ?_
  unfold f_X8_wind at hf
  refine r_iload_n C dX8_wind_0 rfl 2 rfl rfl ?_
  refine r_i2l C dX8_wind_1 rfl ?_
  refine r_lconst (v := (1 : Int64)) C dX8_wind_2 rfl rfl ?_
  refine r_ldc2 C dX8_wind_3 wc_X8_wind_81 rfl ?_
  obtain ⟨r1, e1, hf⟩ := gd_b hf
  refine o_I (wn := [(h, oX8 A holding wool days sights padMany acts drawnBits drawnMany drawnNow badAct badWhy drawnAct drawnChild keptAt isWriting), ((A 24), aI cI 9 balls), ((A 25), aI cI 100 least), ((A 26), aI cI 100 most)]) C [] rfl (x_S C dX8_wind_6 (c_X8_in l D cI cZ cG u2.toInt64 (1 : Int64) (9 : Int64) r1 e1) rfl gX8_wind_X8_in hs_X8_in rfl ⟨Nat.le_of_ble_eq_true rfl, Nat.le_of_ble_eq_true rfl⟩ ⟨rfl, rfl⟩ ⟨Nat.zero_le _, Nat.zero_le _⟩ rfl [] rfl rfl (Nat.le_of_ble_eq_true rfl) rfl) rfl rfl rfl ?_
  refine r_if_eq (y := 0) (tgt := 31) C dX8_wind_9 rfl rfl (fun c2 => ?_) (fun c2 => ?_)
  · have hf := gd_t c2 hf
    refine r_bipush C dX8_wind_31 kk_b_m2 rfl ?_
    cases hf
    exact r_iret C dX8_wind_33 rfl
  · have hf := gd_f c2 hf
    refine r_aload_n C dX8_wind_12 rfl 0 rfl rfl ?_
    refine r_iload_n C dX8_wind_13 rfl 1 rfl rfl ?_
    refine r_iload_n C dX8_wind_14 rfl 2 rfl rfl ?_
    obtain ⟨r3, e3, hf⟩ := gd_b hf
    refine o_I (wn := [(h, oX8 A holding wool days sights padMany acts drawnBits drawnMany drawnNow badAct badWhy drawnAct drawnChild keptAt isWriting), ((A 24), aI cI 9 r3.2), ((A 25), aI cI 100 least), ((A 26), aI cI 100 most)]) C [0, 1] rfl (x_V C dX8_wind_15 (c_X8_readBalls l D cI cZ cG h A holding wool days sights padMany acts drawnBits drawnMany drawnNow badAct badWhy drawnAct drawnChild balls keptAt isWriting u1 u2 r3 e3) rfl gX8_wind_X8_readBalls hd_X8_readBalls rfl ⟨Nat.le_of_ble_eq_true rfl, Nat.le_of_ble_eq_true rfl⟩ ⟨rfl, rfl⟩ ⟨Nat.zero_le _, Nat.zero_le _⟩ rfl [0, 1] rfl rfl 0 rfl rfl (Nat.le_of_ble_eq_true rfl) rfl) rfl rfl rfl ?_
    refine r_if_eq (y := 0) (tgt := 31) C dX8_wind_18 rfl rfl (fun c4 => ?_) (fun c4 => ?_)
    · have hf := gd_t c4 hf
      refine r_bipush C dX8_wind_31 kk_b_m2 rfl ?_
      cases hf
      exact r_iret C dX8_wind_33 rfl
    · have hf := gd_f c4 hf
      refine r_iload_n C dX8_wind_21 rfl 3 rfl rfl ?_
      refine r_i2l C dX8_wind_22 rfl ?_
      refine r_lconst (v := (0 : Int64)) C dX8_wind_23 rfl rfl ?_
      refine r_lconst (v := (1 : Int64)) C dX8_wind_24 rfl rfl ?_
      obtain ⟨r5, e5, hf⟩ := gd_b hf
      refine o_I (wn := [(h, oX8 A holding wool days sights padMany acts drawnBits drawnMany drawnNow badAct badWhy drawnAct drawnChild keptAt isWriting), ((A 24), aI cI 9 r3.2), ((A 25), aI cI 100 least), ((A 26), aI cI 100 most)]) C [] rfl (x_S C dX8_wind_25 (c_X8_in l D cI cZ cG u3.toInt64 (0 : Int64) (1 : Int64) r5 e5) rfl gX8_wind_X8_in hs_X8_in rfl ⟨Nat.le_of_ble_eq_true rfl, Nat.le_of_ble_eq_true rfl⟩ ⟨rfl, rfl⟩ ⟨Nat.zero_le _, Nat.zero_le _⟩ rfl [] rfl rfl (Nat.le_of_ble_eq_true rfl) rfl) rfl rfl rfl ?_
      refine r_if_ne (y := 0) (tgt := 34) C dX8_wind_28 rfl rfl (fun c6 => ?_) (fun c6 => ?_)
      · have hf := gd_f c6 hf
        refine r_iconst C dX8_wind_34 kk_i_1 rfl ?_
        refine r_istore (lv' := [(4, .int (1 : Int32)), (0, .ref h), (1, .int u1), (2, .int u2), (3, .int u3)]) C dX8_wind_35 (by decide) rfl rfl ?_
        refine r_lv (lv' := [(0, .ref h), (2, .int u2), (3, .int u3), (4, .int (1 : Int32))]) [1, 3, 4, 0] rfl ?_
        refine k_X8_wind_37 C h A holding wool days sights padMany acts drawnBits drawnMany drawnNow badAct badWhy drawnAct drawnChild r3.2 keptAt isWriting u2 u3 _ _ ?_ 2000 _ _ _ hf
        · intro least_12 most_13 hf
          refine r_iload_n C dX8_wind_78 rfl 2 rfl rfl ?_
          refine r_if_ne (y := 0) (tgt := 91) C dX8_wind_79 rfl rfl (fun c14 => ?_) (fun c14 => ?_)
          · have hf := gd_f c14 hf
            refine r_aload_n C dX8_wind_91 rfl 0 rfl rfl ?_
            refine r_get C dX8_wind_92 fw_X8_wind_X8 0 rfl rfl 26 (by decide) rfl fl_X8_wind_49 rfl rfl ?_
            refine r_iload_n C dX8_wind_95 rfl 1 rfl rfl ?_
            obtain ⟨g15, hf⟩ := gd_n hf
            refine r_iald C dX8_wind_96 3 0 rfl rfl g15 rfl ?_
            cases hf
            exact r_iret C dX8_wind_97 rfl
          · have hf := gd_t c14 hf
            refine r_aload_n C dX8_wind_82 rfl 0 rfl rfl ?_
            refine r_get C dX8_wind_83 fw_X8_wind_X8 0 rfl rfl 25 (by decide) rfl fl_X8_wind_46 rfl rfl ?_
            refine r_iload_n C dX8_wind_86 rfl 1 rfl rfl ?_
            obtain ⟨g16, hf⟩ := gd_n hf
            refine r_iald C dX8_wind_87 2 0 rfl rfl g16 rfl ?_
            refine r_goto (tgt := 97) C dX8_wind_88 rfl ?_
            cases hf
            exact r_iret C dX8_wind_97 rfl
      · have hf := gd_t c6 hf
        refine r_bipush C dX8_wind_31 kk_b_m2 rfl ?_
        cases hf
        exact r_iret C dX8_wind_33 rfl
abbrev rm_X8_digitsOf : Jvm.Room := { frames := 0, cells := 0, slots := 0, locals := 0 }
def f_X8_digitsOf (u0 : Int32) : Option (Int32) := if u0 ≤ (99 : Int32) then if u0 ≤ (9 : Int32) then some ((1 : Int32)) else some ((2 : Int32)) else some ((3 : Int32))
set_option maxHeartbeats 4000000 in
set_option maxRecDepth 100000 in
theorem c_X8_digitsOf (l : Launch) (D : va_G) (cI cZ cG : ClassId) (u0 : Int32) (res : Int32) (hf : f_X8_digitsOf u0 = some res) : CI l D (tysW cI cZ cG) yX8_digitsOf wsX8_digitsOf rm_X8_digitsOf [.int u0] [] res [] := by
  refine CG.intro (own := RX8) (by decide +kernel) rfl rfl (Nat.le_of_ble_eq_true rfl) (fun p e s m args below meth c C => ?_)
  refine r_lv (lv' := [(0, .int u0)]) [0] rfl ?_
  unfold f_X8_digitsOf at hf
  refine r_iload_n C dX8_digitsOf_0 rfl 0 rfl rfl ?_
  refine r_bipush C dX8_digitsOf_1 kk_b_99 rfl ?_
  refine r_icmp_le (tgt := 10) C dX8_digitsOf_3 rfl rfl (fun c1 => ?_) (fun c1 => ?_)
  · have hf := gd_t c1 hf
    refine r_iload_n C dX8_digitsOf_10 rfl 0 rfl rfl ?_
    refine r_bipush C dX8_digitsOf_11 kk_b_9 rfl ?_
    refine r_icmp_le (tgt := 20) C dX8_digitsOf_13 rfl rfl (fun c2 => ?_) (fun c2 => ?_)
    · have hf := gd_t c2 hf
      refine r_iconst C dX8_digitsOf_20 kk_i_1 rfl ?_
      cases hf
      exact r_iret C dX8_digitsOf_21 rfl
    · have hf := gd_f c2 hf
      refine r_iconst C dX8_digitsOf_16 kk_i_2 rfl ?_
      refine r_goto (tgt := 21) C dX8_digitsOf_17 rfl ?_
      cases hf
      exact r_iret C dX8_digitsOf_21 rfl
  · have hf := gd_f c1 hf
    refine r_iconst C dX8_digitsOf_6 kk_i_3 rfl ?_
    refine r_goto (tgt := 21) C dX8_digitsOf_7 rfl ?_
    cases hf
    exact r_iret C dX8_digitsOf_21 rfl
theorem fw_X8_isWord_X8 : ∀ w ∈ u_ws RX8 TX8 37, w ∈ wsX8_isWord := by decide +kernel
theorem fl_X8_isWord_55 : Cond.fieldLink RX8 55 "MittenLineModel" "signs" "[I" ∈ wsX8_isWord := by decide +kernel
abbrev rm_X8_isWord : Jvm.Room := { frames := 1, cells := 0, slots := 0, locals := 20 }
def f_X8_isWord_22 (u2 : Int32) (u4 : Int32) (signs : Nat → Int32) (kx52 : Int32 → Option (Int32)) : Nat → Int32 → Int32 → Option (Int32)
  | 0, _, _ => none
  | n + 1, u5, u6 => if (u2 + u4) ≤ u6 then kx52 u5 else if u6 < 0 ∨ 9 ≤ u6.toNatClampNeg then none else f_X8_isWord_22 u2 u4 signs kx52 n (((10 : Int32) * u5) + (signs u6.toNatClampNeg)) (u6 + (1 : Int32))
set_option maxHeartbeats 4000000 in
set_option maxRecDepth 100000 in
theorem k_X8_isWord_22 (C : Cx p s m args meth c D (tysW cI cZ cG) RX8 cX8_isWord 7 wsX8_isWord (some .boolean)) (h : Nat) (A : Nat → Nat) (holding : Int32) (wool : Int32) (days : Int32) (sights : Int32) (padMany : Int32) (acts : Int32) (drawnBits : Int32) (drawnMany : Int32) (drawnNow : Int32) (badAct : Int32) (badWhy : Int32) (drawnAct : Int32) (drawnChild : Int32) (signs : Nat → Int32) (keptAt : Int32) (isWriting : Int32) (u1 : Int32) (u2 : Int32) (u4 : Int32)  (kx52 : Int32 → Option (Int32)) (res : Int32) (hkx52 : ∀ (u5 : Int32) , kx52 u5 = some res → Wd p l e rm_X8_isWord s m args below meth c D w0 7 0 0 (MQ below (QcI D (tysW cI cZ cG) w0 [(h, oX8 A holding wool days sights padMany acts drawnBits drawnMany drawnNow badAct badWhy drawnAct drawnChild keptAt isWriting), ((A 28), aI cI 9 signs)] res s.heap.size) args s 0 0 (va_A w0 s.heap.size)) [(h, oX8 A holding wool days sights padMany acts drawnBits drawnMany drawnNow badAct badWhy drawnAct drawnChild keptAt isWriting), ((A 28), aI cI 9 signs)] [(1, .int u1), (5, .int u5)] 52 []) : ∀ (n : Nat) (u5 : Int32) (u6 : Int32), f_X8_isWord_22 u2 u4 signs kx52 n u5 u6 = some res → Wd p l e rm_X8_isWord s m args below meth c D w0 7 0 0 (MQ below (QcI D (tysW cI cZ cG) w0 [(h, oX8 A holding wool days sights padMany acts drawnBits drawnMany drawnNow badAct badWhy drawnAct drawnChild keptAt isWriting), ((A 28), aI cI 9 signs)] res s.heap.size) args s 0 0 (va_A w0 s.heap.size)) [(h, oX8 A holding wool days sights padMany acts drawnBits drawnMany drawnNow badAct badWhy drawnAct drawnChild keptAt isWriting), ((A 28), aI cI 9 signs)] [(0, .ref h), (1, .int u1), (2, .int u2), (4, .int u4), (5, .int u5), (6, .int u6)] 22 [] := by
  intro n
  induction n with
  | zero =>
    intro u5 u6 hf
    exact no_none hf
  | succ n ih =>
    intro u5 u6 hf
    unfold f_X8_isWord_22 at hf
    refine r_iload C dX8_isWord_22 5 rfl rfl ?_
    refine r_iload_n C dX8_isWord_24 rfl 2 rfl rfl ?_
    refine r_iload C dX8_isWord_25 3 rfl rfl ?_
    refine r_iadd C dX8_isWord_27 rfl ?_
    refine r_icmp_ge (tgt := 52) C dX8_isWord_28 rfl rfl (fun c3 => ?_) (fun c3 => ?_)
    · have hf := gd_t c3 hf
      refine r_lv (lv' := [(1, .int u1), (5, .int u5)]) [1, 4] rfl ?_
      exact hkx52 _ hf
    · have hf := gd_f c3 hf
      refine r_bipush C dX8_isWord_31 kk_b_10 rfl ?_
      refine r_iload C dX8_isWord_33 4 rfl rfl ?_
      refine r_imul C dX8_isWord_35 rfl ?_
      refine r_aload_n C dX8_isWord_36 rfl 0 rfl rfl ?_
      refine r_get C dX8_isWord_37 fw_X8_isWord_X8 0 rfl rfl 28 (by decide) rfl fl_X8_isWord_55 rfl rfl ?_
      refine r_iload C dX8_isWord_40 5 rfl rfl ?_
      obtain ⟨g4, hf⟩ := gd_n hf
      refine r_iald C dX8_isWord_42 1 0 rfl rfl g4 rfl ?_
      refine r_iadd C dX8_isWord_43 rfl ?_
      refine r_istore (lv' := [(5, .int (((10 : Int32) * u5) + (signs u6.toNatClampNeg))), (0, .ref h), (1, .int u1), (2, .int u2), (4, .int u4), (6, .int u6)]) C dX8_isWord_44 (by decide) rfl rfl ?_
      refine r_iinc (lv' := [(6, .int (u6 + (1 : Int32))), (5, .int (((10 : Int32) * u5) + (signs u6.toNatClampNeg))), (0, .ref h), (1, .int u1), (2, .int u2), (4, .int u4)]) C dX8_isWord_46 5 rfl (ki_1 _) (by decide) rfl rfl ?_
      refine r_goto (tgt := 22) C dX8_isWord_49 rfl ?_
      refine r_lv (lv' := [(0, .ref h), (1, .int u1), (2, .int u2), (4, .int u4), (5, .int (((10 : Int32) * u5) + (signs u6.toNatClampNeg))), (6, .int (u6 + (1 : Int32)))]) [2, 3, 4, 5, 1, 0] rfl ?_
      exact ih _ _ hf
def f_X8_isWord (signs : Nat → Int32) (u1 : Int32) (u2 : Int32) (u3 : Int32) : Option (Int32) := (f_X8_digitsOf u1).bind (fun r1 => if (u2 + r1) ≤ u3 then f_X8_isWord_22 u2 r1 signs (fun u5_5 => if u5_5 = u1 then some ((1 : Int32)) else some ((0 : Int32))) 2000 (0 : Int32) u2 else some ((0 : Int32)))
set_option maxHeartbeats 4000000 in
set_option maxRecDepth 100000 in
theorem c_X8_isWord (l : Launch) (D : va_G) (cI cZ cG : ClassId) (h : Nat) (A : Nat → Nat) (holding : Int32) (wool : Int32) (days : Int32) (sights : Int32) (padMany : Int32) (acts : Int32) (drawnBits : Int32) (drawnMany : Int32) (drawnNow : Int32) (badAct : Int32) (badWhy : Int32) (drawnAct : Int32) (drawnChild : Int32) (signs : Nat → Int32) (keptAt : Int32) (isWriting : Int32) (u1 : Int32) (u2 : Int32) (u3 : Int32) (res : Int32) (hf : f_X8_isWord signs u1 u2 u3 = some res) : CI l D (tysW cI cZ cG) yX8_isWord wsX8_isWord rm_X8_isWord [.ref h, .int u1, .int u2, .int u3] [(h, oX8 A holding wool days sights padMany acts drawnBits drawnMany drawnNow badAct badWhy drawnAct drawnChild keptAt isWriting), ((A 28), aI cI 9 signs)] res [(h, oX8 A holding wool days sights padMany acts drawnBits drawnMany drawnNow badAct badWhy drawnAct drawnChild keptAt isWriting), ((A 28), aI cI 9 signs)] := by
  refine CG.intro (own := RX8) (by decide +kernel) rfl rfl (Nat.le_of_ble_eq_true rfl) (fun p e s m args below meth c C => ?_)
  refine r_lv (lv' := [(0, .ref h), (1, .int u1), (2, .int u2), (3, .int u3)]) [0, 1, 2, 3] rfl ?_
  unfold f_X8_isWord at hf
  refine r_iload_n C dX8_isWord_0 rfl 1 rfl rfl ?_
  obtain ⟨r1, e1, hf⟩ := gd_b hf
  refine o_I (wn := [(h, oX8 A holding wool days sights padMany acts drawnBits drawnMany drawnNow badAct badWhy drawnAct drawnChild keptAt isWriting), ((A 28), aI cI 9 signs)]) C [] rfl (x_S C dX8_isWord_1 (c_X8_digitsOf l D cI cZ cG u1 r1 e1) rfl gX8_isWord_X8_digitsOf hs_X8_digitsOf rfl ⟨Nat.le_of_ble_eq_true rfl, Nat.le_of_ble_eq_true rfl⟩ ⟨rfl, rfl⟩ ⟨Nat.zero_le _, Nat.zero_le _⟩ rfl [] rfl rfl (Nat.le_of_ble_eq_true rfl) rfl) rfl rfl rfl ?_
  refine r_istore (lv' := [(4, .int r1), (0, .ref h), (1, .int u1), (2, .int u2), (3, .int u3)]) C dX8_isWord_4 (by decide) rfl rfl ?_
  refine r_iload_n C dX8_isWord_6 rfl 3 rfl rfl ?_
  refine r_iload C dX8_isWord_7 0 rfl rfl ?_
  refine r_iadd C dX8_isWord_9 rfl ?_
  refine r_iload_n C dX8_isWord_10 rfl 4 rfl rfl ?_
  refine r_icmp_le (tgt := 16) C dX8_isWord_11 rfl rfl (fun c2 => ?_) (fun c2 => ?_)
  · have hf := gd_t c2 hf
    refine r_iconst C dX8_isWord_16 kk_i_0 rfl ?_
    refine r_istore (lv' := [(5, .int (0 : Int32)), (4, .int r1), (0, .ref h), (1, .int u1), (2, .int u2), (3, .int u3)]) C dX8_isWord_17 (by decide) rfl rfl ?_
    refine r_iload_n C dX8_isWord_19 rfl 4 rfl rfl ?_
    refine r_istore (lv' := [(6, .int u2), (5, .int (0 : Int32)), (4, .int r1), (0, .ref h), (1, .int u1), (2, .int u2), (3, .int u3)]) C dX8_isWord_20 (by decide) rfl rfl ?_
    refine r_lv (lv' := [(0, .ref h), (1, .int u1), (2, .int u2), (4, .int r1), (5, .int (0 : Int32)), (6, .int u2)]) [3, 4, 5, 2, 1, 0] rfl ?_
    refine k_X8_isWord_22 C h A holding wool days sights padMany acts drawnBits drawnMany drawnNow badAct badWhy drawnAct drawnChild signs keptAt isWriting u1 u2 r1 _ _ ?_ 2000 _ _ hf
    · intro u5_5 hf
      refine r_iload C dX8_isWord_52 1 rfl rfl ?_
      refine r_iload_n C dX8_isWord_54 rfl 0 rfl rfl ?_
      refine r_icmp_ne (tgt := 62) C dX8_isWord_55 rfl rfl (fun c6 => ?_) (fun c6 => ?_)
      · have hf := gd_f c6 hf
        refine r_iconst C dX8_isWord_62 kk_i_0 rfl ?_
        cases hf
        exact r_zret C dX8_isWord_63 nb0 rfl
      · have hf := gd_t c6 hf
        refine r_iconst C dX8_isWord_58 kk_i_1 rfl ?_
        refine r_goto (tgt := 63) C dX8_isWord_59 rfl ?_
        cases hf
        exact r_zret C dX8_isWord_63 nb1 rfl
  · have hf := gd_f c2 hf
    refine r_iconst C dX8_isWord_14 kk_i_0 rfl ?_
    cases hf
    exact r_zret C dX8_isWord_15 nb0 rfl
theorem fw_X8_isAnew_X8 : ∀ w ∈ u_ws RX8 TX8 37, w ∈ wsX8_isAnew := by decide +kernel
theorem fl_X8_isAnew_52 : Cond.fieldLink RX8 52 "MittenLineModel" "words" "[I" ∈ wsX8_isAnew := by decide +kernel
abbrev rm_X8_isAnew : Jvm.Room := { frames := 0, cells := 0, slots := 0, locals := 0 }
def f_X8_isAnew_4 (u1 : Int32) (words : Nat → Int32) : Nat → Int32 → Int32 → Option (Int32)
  | 0, _, _ => none
  | n + 1, u2, u3 => if u1 ≤ u3 then if u2 &&& 1 = u2 then some (u2) else none else if u2 = 0 then f_X8_isAnew_4 u1 words n (0 : Int32) (u3 + (1 : Int32)) else if u3 < 0 ∨ 4 ≤ u3.toNatClampNeg then none else if u1 < 0 ∨ 4 ≤ u1.toNatClampNeg then none else if (words u3.toNatClampNeg) = (words u1.toNatClampNeg) then f_X8_isAnew_4 u1 words n (0 : Int32) (u3 + (1 : Int32)) else f_X8_isAnew_4 u1 words n (1 : Int32) (u3 + (1 : Int32))
set_option maxHeartbeats 4000000 in
set_option maxRecDepth 100000 in
theorem k_X8_isAnew_4 (C : Cx p s m args meth c D (tysW cI cZ cG) RX8 cX8_isAnew 4 wsX8_isAnew (some .boolean)) (h : Nat) (A : Nat → Nat) (holding : Int32) (wool : Int32) (days : Int32) (sights : Int32) (padMany : Int32) (acts : Int32) (drawnBits : Int32) (drawnMany : Int32) (drawnNow : Int32) (badAct : Int32) (badWhy : Int32) (drawnAct : Int32) (drawnChild : Int32) (words : Nat → Int32) (keptAt : Int32) (isWriting : Int32) (u1 : Int32)  (res : Int32) : ∀ (n : Nat) (u2 : Int32) (u3 : Int32), f_X8_isAnew_4 u1 words n u2 u3 = some res → Wd p l e rm_X8_isAnew s m args below meth c D w0 4 0 0 (MQ below (QcI D (tysW cI cZ cG) w0 [(h, oX8 A holding wool days sights padMany acts drawnBits drawnMany drawnNow badAct badWhy drawnAct drawnChild keptAt isWriting), ((A 27), aI cI 4 words)] res s.heap.size) args s 0 0 (va_A w0 s.heap.size)) [(h, oX8 A holding wool days sights padMany acts drawnBits drawnMany drawnNow badAct badWhy drawnAct drawnChild keptAt isWriting), ((A 27), aI cI 4 words)] [(0, .ref h), (1, .int u1), (2, .int u2), (3, .int u3)] 4 [] := by
  intro n
  induction n with
  | zero =>
    intro u2 u3 hf
    exact no_none hf
  | succ n ih =>
    intro u2 u3 hf
    unfold f_X8_isAnew_4 at hf
    refine r_iload_n C dX8_isAnew_4 rfl 3 rfl rfl ?_
    refine r_iload_n C dX8_isAnew_5 rfl 1 rfl rfl ?_
    refine r_icmp_ge (tgt := 40) C dX8_isAnew_6 rfl rfl (fun c1 => ?_) (fun c1 => ?_)
    · have hf := gd_t c1 hf
      refine r_iload_n C dX8_isAnew_40 rfl 2 rfl rfl ?_
      obtain ⟨z2, hf⟩ := gd_p hf
      cases hf
      exact r_zret C dX8_isAnew_41 (nb_of z2) rfl
    · have hf := gd_f c1 hf
      refine r_iload_n C dX8_isAnew_9 rfl 2 rfl rfl ?_
      refine r_if_eq (y := 0) (tgt := 32) C dX8_isAnew_10 rfl rfl (fun c3 => ?_) (fun c3 => ?_)
      · have hf := gd_t c3 hf
        refine r_iconst C dX8_isAnew_32 kk_i_0 rfl ?_
        refine r_istore_n (lv' := [(2, .int (0 : Int32)), (0, .ref h), (1, .int u1), (3, .int u3)]) C dX8_isAnew_33 rfl (by decide) rfl rfl ?_
        refine r_iinc (lv' := [(3, .int (u3 + (1 : Int32))), (2, .int (0 : Int32)), (0, .ref h), (1, .int u1)]) C dX8_isAnew_34 3 rfl (ki_1 _) (by decide) rfl rfl ?_
        refine r_goto (tgt := 4) C dX8_isAnew_37 rfl ?_
        refine r_lv (lv' := [(0, .ref h), (1, .int u1), (2, .int (0 : Int32)), (3, .int (u3 + (1 : Int32)))]) [2, 3, 1, 0] rfl ?_
        exact ih _ _ hf
      · have hf := gd_f c3 hf
        refine r_aload_n C dX8_isAnew_13 rfl 0 rfl rfl ?_
        refine r_get C dX8_isAnew_14 fw_X8_isAnew_X8 0 rfl rfl 27 (by decide) rfl fl_X8_isAnew_52 rfl rfl ?_
        refine r_iload_n C dX8_isAnew_17 rfl 3 rfl rfl ?_
        obtain ⟨g4, hf⟩ := gd_n hf
        refine r_iald C dX8_isAnew_18 1 0 rfl rfl g4 rfl ?_
        refine r_aload_n C dX8_isAnew_19 rfl 0 rfl rfl ?_
        refine r_get C dX8_isAnew_20 fw_X8_isAnew_X8 0 rfl rfl 27 (by decide) rfl fl_X8_isAnew_52 rfl rfl ?_
        refine r_iload_n C dX8_isAnew_23 rfl 1 rfl rfl ?_
        obtain ⟨g5, hf⟩ := gd_n hf
        refine r_iald C dX8_isAnew_24 1 0 rfl rfl g5 rfl ?_
        refine r_icmp_eq (tgt := 32) C dX8_isAnew_25 rfl rfl (fun c6 => ?_) (fun c6 => ?_)
        · have hf := gd_t c6 hf
          refine r_iconst C dX8_isAnew_32 kk_i_0 rfl ?_
          refine r_istore_n (lv' := [(2, .int (0 : Int32)), (0, .ref h), (1, .int u1), (3, .int u3)]) C dX8_isAnew_33 rfl (by decide) rfl rfl ?_
          refine r_iinc (lv' := [(3, .int (u3 + (1 : Int32))), (2, .int (0 : Int32)), (0, .ref h), (1, .int u1)]) C dX8_isAnew_34 3 rfl (ki_1 _) (by decide) rfl rfl ?_
          refine r_goto (tgt := 4) C dX8_isAnew_37 rfl ?_
          refine r_lv (lv' := [(0, .ref h), (1, .int u1), (2, .int (0 : Int32)), (3, .int (u3 + (1 : Int32)))]) [2, 3, 1, 0] rfl ?_
          exact ih _ _ hf
        · have hf := gd_f c6 hf
          refine r_iconst C dX8_isAnew_28 kk_i_1 rfl ?_
          refine r_goto (tgt := 33) C dX8_isAnew_29 rfl ?_
          refine r_istore_n (lv' := [(2, .int (1 : Int32)), (0, .ref h), (1, .int u1), (3, .int u3)]) C dX8_isAnew_33 rfl (by decide) rfl rfl ?_
          refine r_iinc (lv' := [(3, .int (u3 + (1 : Int32))), (2, .int (1 : Int32)), (0, .ref h), (1, .int u1)]) C dX8_isAnew_34 3 rfl (ki_1 _) (by decide) rfl rfl ?_
          refine r_goto (tgt := 4) C dX8_isAnew_37 rfl ?_
          refine r_lv (lv' := [(0, .ref h), (1, .int u1), (2, .int (1 : Int32)), (3, .int (u3 + (1 : Int32)))]) [2, 3, 1, 0] rfl ?_
          exact ih _ _ hf
def f_X8_isAnew (words : Nat → Int32) (u1 : Int32) : Option (Int32) := f_X8_isAnew_4 u1 words 2000 (1 : Int32) (0 : Int32)
set_option maxHeartbeats 4000000 in
set_option maxRecDepth 100000 in
theorem c_X8_isAnew (l : Launch) (D : va_G) (cI cZ cG : ClassId) (h : Nat) (A : Nat → Nat) (holding : Int32) (wool : Int32) (days : Int32) (sights : Int32) (padMany : Int32) (acts : Int32) (drawnBits : Int32) (drawnMany : Int32) (drawnNow : Int32) (badAct : Int32) (badWhy : Int32) (drawnAct : Int32) (drawnChild : Int32) (words : Nat → Int32) (keptAt : Int32) (isWriting : Int32) (u1 : Int32) (res : Int32) (hf : f_X8_isAnew words u1 = some res) : CI l D (tysW cI cZ cG) yX8_isAnew wsX8_isAnew rm_X8_isAnew [.ref h, .int u1] [(h, oX8 A holding wool days sights padMany acts drawnBits drawnMany drawnNow badAct badWhy drawnAct drawnChild keptAt isWriting), ((A 27), aI cI 4 words)] res [(h, oX8 A holding wool days sights padMany acts drawnBits drawnMany drawnNow badAct badWhy drawnAct drawnChild keptAt isWriting), ((A 27), aI cI 4 words)] := by
  refine CG.intro (own := RX8) (by decide +kernel) rfl rfl (Nat.le_of_ble_eq_true rfl) (fun p e s m args below meth c C => ?_)
  refine r_lv (lv' := [(0, .ref h), (1, .int u1)]) [0, 1] rfl ?_
  unfold f_X8_isAnew at hf
  refine r_iconst C dX8_isAnew_0 kk_i_1 rfl ?_
  refine r_istore_n (lv' := [(2, .int (1 : Int32)), (0, .ref h), (1, .int u1)]) C dX8_isAnew_1 rfl (by decide) rfl rfl ?_
  refine r_iconst C dX8_isAnew_2 kk_i_0 rfl ?_
  refine r_istore_n (lv' := [(3, .int (0 : Int32)), (2, .int (1 : Int32)), (0, .ref h), (1, .int u1)]) C dX8_isAnew_3 rfl (by decide) rfl rfl ?_
  refine r_lv (lv' := [(0, .ref h), (1, .int u1), (2, .int (1 : Int32)), (3, .int (0 : Int32))]) [2, 3, 1, 0] rfl ?_
  refine k_X8_isAnew_4 C h A holding wool days sights padMany acts drawnBits drawnMany drawnNow badAct badWhy drawnAct drawnChild words keptAt isWriting u1 _ 2000 _ _ hf
theorem fw_X8_readFrom_X8 : ∀ w ∈ u_ws RX8 TX8 37, w ∈ wsX8_readFrom := by decide +kernel
theorem fl_X8_readFrom_58 : Cond.fieldLink RX8 58 "MittenLineModel" "readings" "[I" ∈ wsX8_readFrom := by decide +kernel
theorem fl_X8_readFrom_61 : Cond.fieldLink RX8 61 "MittenLineModel" "fewest" "[I" ∈ wsX8_readFrom := by decide +kernel
theorem fl_X8_readFrom_52 : Cond.fieldLink RX8 52 "MittenLineModel" "words" "[I" ∈ wsX8_readFrom := by decide +kernel
abbrev rm_X8_readFrom : Jvm.Room := { frames := 2, cells := 0, slots := 0, locals := 46 }
def f_X8_readFrom_17 (u1 : Int32) (u2 : Int32) (words : Nat → Int32) (signs : Nat → Int32) : Nat → Int32 → (Nat → Int32) → (Nat → Int32) → Option ((Nat → Int32) × (Nat → Int32))
  | 0, _, _, _ => none
  | n + 1, u3, readings, fewest => if (4 : Int32) ≤ u3 then some (readings, fewest) else (f_X8_isAnew words u3).bind (fun r3 => if r3 = 0 then f_X8_readFrom_17 u1 u2 words signs n (u3 + (1 : Int32)) readings fewest else if u3 < 0 ∨ 4 ≤ u3.toNatClampNeg then none else (f_X8_isWord signs (words u3.toNatClampNeg) u1 u2).bind (fun r6 => if r6 = 0 then f_X8_readFrom_17 u1 u2 words signs n (u3 + (1 : Int32)) readings fewest else (f_X8_digitsOf (words u3.toNatClampNeg)).bind (fun r8 => if u1 < 0 ∨ 10 ≤ u1.toNatClampNeg then none else if (u1 + r8) < 0 ∨ 10 ≤ (u1 + r8).toNatClampNeg then none else if (fewest (u1 + r8).toNatClampNeg) < 0 then f_X8_readFrom_17 u1 u2 words signs n (u3 + (1 : Int32)) (upd readings u1.toNatClampNeg ((readings u1.toNatClampNeg) + (readings (u1 + r8).toNatClampNeg))) (upd fewest u1.toNatClampNeg (fewest u1.toNatClampNeg)) else if (fewest u1.toNatClampNeg) < 0 then f_X8_readFrom_17 u1 u2 words signs n (u3 + (1 : Int32)) (upd readings u1.toNatClampNeg ((readings u1.toNatClampNeg) + (readings (u1 + r8).toNatClampNeg))) (upd fewest u1.toNatClampNeg ((fewest (u1 + r8).toNatClampNeg) + (1 : Int32))) else if (fewest u1.toNatClampNeg) ≤ ((fewest (u1 + r8).toNatClampNeg) + (1 : Int32)) then f_X8_readFrom_17 u1 u2 words signs n (u3 + (1 : Int32)) (upd readings u1.toNatClampNeg ((readings u1.toNatClampNeg) + (readings (u1 + r8).toNatClampNeg))) (upd fewest u1.toNatClampNeg (fewest u1.toNatClampNeg)) else f_X8_readFrom_17 u1 u2 words signs n (u3 + (1 : Int32)) (upd readings u1.toNatClampNeg ((readings u1.toNatClampNeg) + (readings (u1 + r8).toNatClampNeg))) (upd fewest u1.toNatClampNeg ((fewest (u1 + r8).toNatClampNeg) + (1 : Int32))))))
set_option maxHeartbeats 4000000 in
set_option maxRecDepth 100000 in
theorem k_X8_readFrom_17 (C : Cx p s m args meth c D (tysW cI cZ cG) RX8 cX8_readFrom 6 wsX8_readFrom none) (h : Nat) (A : Nat → Nat) (holding : Int32) (wool : Int32) (days : Int32) (sights : Int32) (padMany : Int32) (acts : Int32) (drawnBits : Int32) (drawnMany : Int32) (drawnNow : Int32) (badAct : Int32) (badWhy : Int32) (drawnAct : Int32) (drawnChild : Int32) (words : Nat → Int32) (signs : Nat → Int32) (keptAt : Int32) (isWriting : Int32) (u1 : Int32) (u2 : Int32)  (res : (Nat → Int32) × (Nat → Int32)) : ∀ (n : Nat) (u3 : Int32) (readings : Nat → Int32) (fewest : Nat → Int32), f_X8_readFrom_17 u1 u2 words signs n u3 readings fewest = some res → Wd p l e rm_X8_readFrom s m args below meth c D w0 6 0 0 (MQ below (QcV D (tysW cI cZ cG) w0 [(h, oX8 A holding wool days sights padMany acts drawnBits drawnMany drawnNow badAct badWhy drawnAct drawnChild keptAt isWriting), ((A 27), aI cI 4 words), ((A 28), aI cI 9 signs), ((A 29), aI cI 10 res.1), ((A 30), aI cI 10 res.2)] s.heap.size) args s 0 0 (va_A w0 s.heap.size)) [(h, oX8 A holding wool days sights padMany acts drawnBits drawnMany drawnNow badAct badWhy drawnAct drawnChild keptAt isWriting), ((A 27), aI cI 4 words), ((A 28), aI cI 9 signs), ((A 29), aI cI 10 readings), ((A 30), aI cI 10 fewest)] [(0, .ref h), (1, .int u1), (2, .int u2), (3, .int u3)] 17 [] := by
  intro n
  induction n with
  | zero =>
    intro u3 readings fewest hf
    exact no_none hf
  | succ n ih =>
    intro u3 readings fewest hf
    unfold f_X8_readFrom_17 at hf
    refine r_iload_n C dX8_readFrom_17 rfl 3 rfl rfl ?_
    refine r_iconst C dX8_readFrom_18 kk_i_4 rfl ?_
    refine r_icmp_ge (tgt := 153) C dX8_readFrom_19 rfl rfl (fun c2 => ?_) (fun c2 => ?_)
    · have hf := gd_t c2 hf
      cases hf
      exact r_vret C dX8_readFrom_153 rfl
    · have hf := gd_f c2 hf
      refine r_aload_n C dX8_readFrom_22 rfl 0 rfl rfl ?_
      refine r_iload_n C dX8_readFrom_23 rfl 3 rfl rfl ?_
      obtain ⟨r3, e3, hf⟩ := gd_b hf
      refine o_I (wn := [(h, oX8 A holding wool days sights padMany acts drawnBits drawnMany drawnNow badAct badWhy drawnAct drawnChild keptAt isWriting), ((A 27), aI cI 4 words), ((A 28), aI cI 9 signs), ((A 29), aI cI 10 readings), ((A 30), aI cI 10 fewest)]) C [0, 1] rfl (x_V C dX8_readFrom_24 (c_X8_isAnew l D cI cZ cG h A holding wool days sights padMany acts drawnBits drawnMany drawnNow badAct badWhy drawnAct drawnChild words keptAt isWriting u3 r3 e3) rfl gX8_readFrom_X8_isAnew hd_X8_isAnew rfl ⟨Nat.le_of_ble_eq_true rfl, Nat.le_of_ble_eq_true rfl⟩ ⟨rfl, rfl⟩ ⟨Nat.zero_le _, Nat.zero_le _⟩ rfl [0, 1] rfl rfl 0 rfl rfl (Nat.le_of_ble_eq_true rfl) rfl) rfl rfl rfl ?_
      refine r_if_eq (y := 0) (tgt := 147) C dX8_readFrom_27 rfl rfl (fun c4 => ?_) (fun c4 => ?_)
      · have hf := gd_t c4 hf
        refine r_iinc (lv' := [(3, .int (u3 + (1 : Int32))), (0, .ref h), (1, .int u1), (2, .int u2)]) C dX8_readFrom_147 3 rfl (ki_1 _) (by decide) rfl rfl ?_
        refine r_goto (tgt := 17) C dX8_readFrom_150 rfl ?_
        refine r_lv (lv' := [(0, .ref h), (1, .int u1), (2, .int u2), (3, .int (u3 + (1 : Int32)))]) [1, 2, 3, 0] rfl ?_
        exact ih _ _ _ hf
      · have hf := gd_f c4 hf
        refine r_aload_n C dX8_readFrom_30 rfl 0 rfl rfl ?_
        refine r_aload_n C dX8_readFrom_31 rfl 0 rfl rfl ?_
        refine r_get C dX8_readFrom_32 fw_X8_readFrom_X8 0 rfl rfl 27 (by decide) rfl fl_X8_readFrom_52 rfl rfl ?_
        refine r_iload_n C dX8_readFrom_35 rfl 3 rfl rfl ?_
        obtain ⟨g5, hf⟩ := gd_n hf
        refine r_iald C dX8_readFrom_36 1 0 rfl rfl g5 rfl ?_
        refine r_iload_n C dX8_readFrom_37 rfl 1 rfl rfl ?_
        refine r_iload_n C dX8_readFrom_38 rfl 2 rfl rfl ?_
        obtain ⟨r6, e6, hf⟩ := gd_b hf
        refine o_I (wn := [(h, oX8 A holding wool days sights padMany acts drawnBits drawnMany drawnNow badAct badWhy drawnAct drawnChild keptAt isWriting), ((A 27), aI cI 4 words), ((A 28), aI cI 9 signs), ((A 29), aI cI 10 readings), ((A 30), aI cI 10 fewest)]) C [0, 2] rfl (x_V C dX8_readFrom_39 (c_X8_isWord l D cI cZ cG h A holding wool days sights padMany acts drawnBits drawnMany drawnNow badAct badWhy drawnAct drawnChild signs keptAt isWriting (words u3.toNatClampNeg) u1 u2 r6 e6) rfl gX8_readFrom_X8_isWord hd_X8_isWord rfl ⟨Nat.le_of_ble_eq_true rfl, Nat.le_of_ble_eq_true rfl⟩ ⟨rfl, rfl⟩ ⟨Nat.zero_le _, Nat.zero_le _⟩ rfl [0, 2] rfl rfl 0 rfl rfl (Nat.le_of_ble_eq_true rfl) rfl) rfl rfl rfl ?_
        refine r_if_eq (y := 0) (tgt := 147) C dX8_readFrom_42 rfl rfl (fun c7 => ?_) (fun c7 => ?_)
        · have hf := gd_t c7 hf
          refine r_iinc (lv' := [(3, .int (u3 + (1 : Int32))), (0, .ref h), (1, .int u1), (2, .int u2)]) C dX8_readFrom_147 3 rfl (ki_1 _) (by decide) rfl rfl ?_
          refine r_goto (tgt := 17) C dX8_readFrom_150 rfl ?_
          refine r_lv (lv' := [(0, .ref h), (1, .int u1), (2, .int u2), (3, .int (u3 + (1 : Int32)))]) [1, 2, 3, 0] rfl ?_
          exact ih _ _ _ hf
        · have hf := gd_f c7 hf
          refine r_iload_n C dX8_readFrom_45 rfl 1 rfl rfl ?_
          refine r_aload_n C dX8_readFrom_46 rfl 0 rfl rfl ?_
          refine r_get C dX8_readFrom_47 fw_X8_readFrom_X8 0 rfl rfl 27 (by decide) rfl fl_X8_readFrom_52 rfl rfl ?_
          refine r_iload_n C dX8_readFrom_50 rfl 3 rfl rfl ?_
          refine r_iald C dX8_readFrom_51 1 0 rfl rfl g5 rfl ?_
          obtain ⟨r8, e8, hf⟩ := gd_b hf
          refine o_I (wn := [(h, oX8 A holding wool days sights padMany acts drawnBits drawnMany drawnNow badAct badWhy drawnAct drawnChild keptAt isWriting), ((A 27), aI cI 4 words), ((A 28), aI cI 9 signs), ((A 29), aI cI 10 readings), ((A 30), aI cI 10 fewest)]) C [] rfl (x_S C dX8_readFrom_52 (c_X8_digitsOf l D cI cZ cG (words u3.toNatClampNeg) r8 e8) rfl gX8_readFrom_X8_digitsOf hs_X8_digitsOf rfl ⟨Nat.le_of_ble_eq_true rfl, Nat.le_of_ble_eq_true rfl⟩ ⟨rfl, rfl⟩ ⟨Nat.zero_le _, Nat.zero_le _⟩ rfl [] rfl rfl (Nat.le_of_ble_eq_true rfl) rfl) rfl rfl rfl ?_
          refine r_iadd C dX8_readFrom_55 rfl ?_
          refine r_istore (lv' := [(4, .int (u1 + r8)), (0, .ref h), (1, .int u1), (2, .int u2), (3, .int u3)]) C dX8_readFrom_56 (by decide) rfl rfl ?_
          refine r_aload_n C dX8_readFrom_58 rfl 1 rfl rfl ?_
          refine r_get C dX8_readFrom_59 fw_X8_readFrom_X8 0 rfl rfl 29 (by decide) rfl fl_X8_readFrom_58 rfl rfl ?_
          refine r_iload_n C dX8_readFrom_62 rfl 2 rfl rfl ?_
          refine r_dup2 C dX8_readFrom_63 rfl rfl rfl ?_
          obtain ⟨g9, hf⟩ := gd_n hf
          refine r_iald C dX8_readFrom_64 3 0 rfl rfl g9 rfl ?_
          refine r_aload_n C dX8_readFrom_65 rfl 1 rfl rfl ?_
          refine r_get C dX8_readFrom_66 fw_X8_readFrom_X8 0 rfl rfl 29 (by decide) rfl fl_X8_readFrom_58 rfl rfl ?_
          refine r_iload C dX8_readFrom_69 0 rfl rfl ?_
          obtain ⟨g10, hf⟩ := gd_n hf
          refine r_iald C dX8_readFrom_71 3 0 rfl rfl g10 rfl ?_
          refine r_iadd C dX8_readFrom_72 rfl ?_
          refine r_iast (ws' := [(h, oX8 A holding wool days sights padMany acts drawnBits drawnMany drawnNow badAct badWhy drawnAct drawnChild keptAt isWriting), ((A 27), aI cI 4 words), ((A 28), aI cI 9 signs), ((A 29), aI cI 10 (upd readings u1.toNatClampNeg ((readings u1.toNatClampNeg) + (readings (u1 + r8).toNatClampNeg)))), ((A 30), aI cI 10 fewest)]) C dX8_readFrom_73 3 0 rfl rfl g9 rfl rfl ?_
          refine r_aload_n C dX8_readFrom_74 rfl 1 rfl rfl ?_
          refine r_get C dX8_readFrom_75 fw_X8_readFrom_X8 0 rfl rfl 30 (by decide) rfl fl_X8_readFrom_61 rfl rfl ?_
          refine r_iload C dX8_readFrom_78 0 rfl rfl ?_
          refine r_iald C dX8_readFrom_80 4 0 rfl rfl g10 rfl ?_
          refine r_if_lt (y := 0) (tgt := 115) C dX8_readFrom_81 rfl rfl (fun c11 => ?_) (fun c11 => ?_)
          · have hf := gd_t c11 hf
            refine r_iconst C dX8_readFrom_115 kk_i_0 rfl ?_
            refine r_istore (lv' := [(5, .int (0 : Int32)), (4, .int (u1 + r8)), (0, .ref h), (1, .int u1), (2, .int u2), (3, .int u3)]) C dX8_readFrom_116 (by decide) rfl rfl ?_
            refine r_aload_n C dX8_readFrom_118 rfl 2 rfl rfl ?_
            refine r_get C dX8_readFrom_119 fw_X8_readFrom_X8 0 rfl rfl 30 (by decide) rfl fl_X8_readFrom_61 rfl rfl ?_
            refine r_iload_n C dX8_readFrom_122 rfl 3 rfl rfl ?_
            refine r_iload C dX8_readFrom_123 0 rfl rfl ?_
            refine r_if_eq (y := 0) (tgt := 140) C dX8_readFrom_125 rfl rfl (fun _ => ?_) (fun c12 => absurd (by decide) c12)
            refine r_aload_n C dX8_readFrom_140 rfl 2 rfl rfl ?_
            refine r_get C dX8_readFrom_141 fw_X8_readFrom_X8 0 rfl rfl 30 (by decide) rfl fl_X8_readFrom_61 rfl rfl ?_
            refine r_iload_n C dX8_readFrom_144 rfl 3 rfl rfl ?_
            refine r_iald C dX8_readFrom_145 4 0 rfl rfl g9 rfl ?_
            refine r_iast (ws' := [(h, oX8 A holding wool days sights padMany acts drawnBits drawnMany drawnNow badAct badWhy drawnAct drawnChild keptAt isWriting), ((A 27), aI cI 4 words), ((A 28), aI cI 9 signs), ((A 29), aI cI 10 (upd readings u1.toNatClampNeg ((readings u1.toNatClampNeg) + (readings (u1 + r8).toNatClampNeg)))), ((A 30), aI cI 10 (upd fewest u1.toNatClampNeg (fewest u1.toNatClampNeg)))]) C dX8_readFrom_146 4 0 rfl rfl g9 rfl rfl ?_
            refine r_iinc (lv' := [(3, .int (u3 + (1 : Int32))), (5, .int (0 : Int32)), (4, .int (u1 + r8)), (0, .ref h), (1, .int u1), (2, .int u2)]) C dX8_readFrom_147 5 rfl (ki_1 _) (by decide) rfl rfl ?_
            refine r_goto (tgt := 17) C dX8_readFrom_150 rfl ?_
            refine r_lv (lv' := [(0, .ref h), (1, .int u1), (2, .int u2), (3, .int (u3 + (1 : Int32)))]) [3, 4, 5, 0] rfl ?_
            exact ih _ _ _ hf
          · have hf := gd_f c11 hf
            refine r_aload_n C dX8_readFrom_84 rfl 1 rfl rfl ?_
            refine r_get C dX8_readFrom_85 fw_X8_readFrom_X8 0 rfl rfl 30 (by decide) rfl fl_X8_readFrom_61 rfl rfl ?_
            refine r_iload_n C dX8_readFrom_88 rfl 2 rfl rfl ?_
            refine r_iald C dX8_readFrom_89 4 0 rfl rfl g9 rfl ?_
            refine r_if_lt (y := 0) (tgt := 111) C dX8_readFrom_90 rfl rfl (fun c13 => ?_) (fun c13 => ?_)
            · have hf := gd_t c13 hf
              refine r_iconst C dX8_readFrom_111 kk_i_1 rfl ?_
              refine r_goto (tgt := 116) C dX8_readFrom_112 rfl ?_
              refine r_istore (lv' := [(5, .int (1 : Int32)), (4, .int (u1 + r8)), (0, .ref h), (1, .int u1), (2, .int u2), (3, .int u3)]) C dX8_readFrom_116 (by decide) rfl rfl ?_
              refine r_aload_n C dX8_readFrom_118 rfl 2 rfl rfl ?_
              refine r_get C dX8_readFrom_119 fw_X8_readFrom_X8 0 rfl rfl 30 (by decide) rfl fl_X8_readFrom_61 rfl rfl ?_
              refine r_iload_n C dX8_readFrom_122 rfl 3 rfl rfl ?_
              refine r_iload C dX8_readFrom_123 0 rfl rfl ?_
              refine r_if_eq (y := 0) (tgt := 140) C dX8_readFrom_125 rfl rfl (fun c14 => absurd c14 (by decide)) (fun _ => ?_)
              refine r_aload_n C dX8_readFrom_128 rfl 2 rfl rfl ?_
              refine r_get C dX8_readFrom_129 fw_X8_readFrom_X8 0 rfl rfl 30 (by decide) rfl fl_X8_readFrom_61 rfl rfl ?_
              refine r_iload C dX8_readFrom_132 1 rfl rfl ?_
              refine r_iald C dX8_readFrom_134 4 0 rfl rfl g10 rfl ?_
              refine r_iconst C dX8_readFrom_135 kk_i_1 rfl ?_
              refine r_iadd C dX8_readFrom_136 rfl ?_
              refine r_goto (tgt := 146) C dX8_readFrom_137 rfl ?_
              refine r_iast (ws' := [(h, oX8 A holding wool days sights padMany acts drawnBits drawnMany drawnNow badAct badWhy drawnAct drawnChild keptAt isWriting), ((A 27), aI cI 4 words), ((A 28), aI cI 9 signs), ((A 29), aI cI 10 (upd readings u1.toNatClampNeg ((readings u1.toNatClampNeg) + (readings (u1 + r8).toNatClampNeg)))), ((A 30), aI cI 10 (upd fewest u1.toNatClampNeg ((fewest (u1 + r8).toNatClampNeg) + (1 : Int32))))]) C dX8_readFrom_146 4 0 rfl rfl g9 rfl rfl ?_
              refine r_iinc (lv' := [(3, .int (u3 + (1 : Int32))), (5, .int (1 : Int32)), (4, .int (u1 + r8)), (0, .ref h), (1, .int u1), (2, .int u2)]) C dX8_readFrom_147 5 rfl (ki_1 _) (by decide) rfl rfl ?_
              refine r_goto (tgt := 17) C dX8_readFrom_150 rfl ?_
              refine r_lv (lv' := [(0, .ref h), (1, .int u1), (2, .int u2), (3, .int (u3 + (1 : Int32)))]) [3, 4, 5, 0] rfl ?_
              exact ih _ _ _ hf
            · have hf := gd_f c13 hf
              refine r_aload_n C dX8_readFrom_93 rfl 1 rfl rfl ?_
              refine r_get C dX8_readFrom_94 fw_X8_readFrom_X8 0 rfl rfl 30 (by decide) rfl fl_X8_readFrom_61 rfl rfl ?_
              refine r_iload C dX8_readFrom_97 0 rfl rfl ?_
              refine r_iald C dX8_readFrom_99 4 0 rfl rfl g10 rfl ?_
              refine r_iconst C dX8_readFrom_100 kk_i_1 rfl ?_
              refine r_iadd C dX8_readFrom_101 rfl ?_
              refine r_aload_n C dX8_readFrom_102 rfl 1 rfl rfl ?_
              refine r_get C dX8_readFrom_103 fw_X8_readFrom_X8 0 rfl rfl 30 (by decide) rfl fl_X8_readFrom_61 rfl rfl ?_
              refine r_iload_n C dX8_readFrom_106 rfl 2 rfl rfl ?_
              refine r_iald C dX8_readFrom_107 4 0 rfl rfl g9 rfl ?_
              refine r_icmp_ge (tgt := 115) C dX8_readFrom_108 rfl rfl (fun c15 => ?_) (fun c15 => ?_)
              · have hf := gd_t c15 hf
                refine r_iconst C dX8_readFrom_115 kk_i_0 rfl ?_
                refine r_istore (lv' := [(5, .int (0 : Int32)), (4, .int (u1 + r8)), (0, .ref h), (1, .int u1), (2, .int u2), (3, .int u3)]) C dX8_readFrom_116 (by decide) rfl rfl ?_
                refine r_aload_n C dX8_readFrom_118 rfl 2 rfl rfl ?_
                refine r_get C dX8_readFrom_119 fw_X8_readFrom_X8 0 rfl rfl 30 (by decide) rfl fl_X8_readFrom_61 rfl rfl ?_
                refine r_iload_n C dX8_readFrom_122 rfl 3 rfl rfl ?_
                refine r_iload C dX8_readFrom_123 0 rfl rfl ?_
                refine r_if_eq (y := 0) (tgt := 140) C dX8_readFrom_125 rfl rfl (fun _ => ?_) (fun c16 => absurd (by decide) c16)
                refine r_aload_n C dX8_readFrom_140 rfl 2 rfl rfl ?_
                refine r_get C dX8_readFrom_141 fw_X8_readFrom_X8 0 rfl rfl 30 (by decide) rfl fl_X8_readFrom_61 rfl rfl ?_
                refine r_iload_n C dX8_readFrom_144 rfl 3 rfl rfl ?_
                refine r_iald C dX8_readFrom_145 4 0 rfl rfl g9 rfl ?_
                refine r_iast (ws' := [(h, oX8 A holding wool days sights padMany acts drawnBits drawnMany drawnNow badAct badWhy drawnAct drawnChild keptAt isWriting), ((A 27), aI cI 4 words), ((A 28), aI cI 9 signs), ((A 29), aI cI 10 (upd readings u1.toNatClampNeg ((readings u1.toNatClampNeg) + (readings (u1 + r8).toNatClampNeg)))), ((A 30), aI cI 10 (upd fewest u1.toNatClampNeg (fewest u1.toNatClampNeg)))]) C dX8_readFrom_146 4 0 rfl rfl g9 rfl rfl ?_
                refine r_iinc (lv' := [(3, .int (u3 + (1 : Int32))), (5, .int (0 : Int32)), (4, .int (u1 + r8)), (0, .ref h), (1, .int u1), (2, .int u2)]) C dX8_readFrom_147 5 rfl (ki_1 _) (by decide) rfl rfl ?_
                refine r_goto (tgt := 17) C dX8_readFrom_150 rfl ?_
                refine r_lv (lv' := [(0, .ref h), (1, .int u1), (2, .int u2), (3, .int (u3 + (1 : Int32)))]) [3, 4, 5, 0] rfl ?_
                exact ih _ _ _ hf
              · have hf := gd_f c15 hf
                refine r_iconst C dX8_readFrom_111 kk_i_1 rfl ?_
                refine r_goto (tgt := 116) C dX8_readFrom_112 rfl ?_
                refine r_istore (lv' := [(5, .int (1 : Int32)), (4, .int (u1 + r8)), (0, .ref h), (1, .int u1), (2, .int u2), (3, .int u3)]) C dX8_readFrom_116 (by decide) rfl rfl ?_
                refine r_aload_n C dX8_readFrom_118 rfl 2 rfl rfl ?_
                refine r_get C dX8_readFrom_119 fw_X8_readFrom_X8 0 rfl rfl 30 (by decide) rfl fl_X8_readFrom_61 rfl rfl ?_
                refine r_iload_n C dX8_readFrom_122 rfl 3 rfl rfl ?_
                refine r_iload C dX8_readFrom_123 0 rfl rfl ?_
                refine r_if_eq (y := 0) (tgt := 140) C dX8_readFrom_125 rfl rfl (fun c17 => absurd c17 (by decide)) (fun _ => ?_)
                refine r_aload_n C dX8_readFrom_128 rfl 2 rfl rfl ?_
                refine r_get C dX8_readFrom_129 fw_X8_readFrom_X8 0 rfl rfl 30 (by decide) rfl fl_X8_readFrom_61 rfl rfl ?_
                refine r_iload C dX8_readFrom_132 1 rfl rfl ?_
                refine r_iald C dX8_readFrom_134 4 0 rfl rfl g10 rfl ?_
                refine r_iconst C dX8_readFrom_135 kk_i_1 rfl ?_
                refine r_iadd C dX8_readFrom_136 rfl ?_
                refine r_goto (tgt := 146) C dX8_readFrom_137 rfl ?_
                refine r_iast (ws' := [(h, oX8 A holding wool days sights padMany acts drawnBits drawnMany drawnNow badAct badWhy drawnAct drawnChild keptAt isWriting), ((A 27), aI cI 4 words), ((A 28), aI cI 9 signs), ((A 29), aI cI 10 (upd readings u1.toNatClampNeg ((readings u1.toNatClampNeg) + (readings (u1 + r8).toNatClampNeg)))), ((A 30), aI cI 10 (upd fewest u1.toNatClampNeg ((fewest (u1 + r8).toNatClampNeg) + (1 : Int32))))]) C dX8_readFrom_146 4 0 rfl rfl g9 rfl rfl ?_
                refine r_iinc (lv' := [(3, .int (u3 + (1 : Int32))), (5, .int (1 : Int32)), (4, .int (u1 + r8)), (0, .ref h), (1, .int u1), (2, .int u2)]) C dX8_readFrom_147 5 rfl (ki_1 _) (by decide) rfl rfl ?_
                refine r_goto (tgt := 17) C dX8_readFrom_150 rfl ?_
                refine r_lv (lv' := [(0, .ref h), (1, .int u1), (2, .int u2), (3, .int (u3 + (1 : Int32)))]) [3, 4, 5, 0] rfl ?_
                exact ih _ _ _ hf
def f_X8_readFrom (words : Nat → Int32) (signs : Nat → Int32) (readings : Nat → Int32) (fewest : Nat → Int32) (u1 : Int32) (u2 : Int32) : Option ((Nat → Int32) × (Nat → Int32)) := if u1 < 0 ∨ 10 ≤ u1.toNatClampNeg then none else f_X8_readFrom_17 u1 u2 words signs 2000 (0 : Int32) (upd readings u1.toNatClampNeg (0 : Int32)) (upd fewest u1.toNatClampNeg (-6 : Int32))
set_option maxHeartbeats 4000000 in
set_option maxRecDepth 100000 in
theorem c_X8_readFrom (l : Launch) (D : va_G) (cI cZ cG : ClassId) (h : Nat) (A : Nat → Nat) (holding : Int32) (wool : Int32) (days : Int32) (sights : Int32) (padMany : Int32) (acts : Int32) (drawnBits : Int32) (drawnMany : Int32) (drawnNow : Int32) (badAct : Int32) (badWhy : Int32) (drawnAct : Int32) (drawnChild : Int32) (words : Nat → Int32) (signs : Nat → Int32) (readings : Nat → Int32) (fewest : Nat → Int32) (keptAt : Int32) (isWriting : Int32) (u1 : Int32) (u2 : Int32) (res : (Nat → Int32) × (Nat → Int32)) (hf : f_X8_readFrom words signs readings fewest u1 u2 = some res) : CV l D (tysW cI cZ cG) yX8_readFrom wsX8_readFrom rm_X8_readFrom [.ref h, .int u1, .int u2] [(h, oX8 A holding wool days sights padMany acts drawnBits drawnMany drawnNow badAct badWhy drawnAct drawnChild keptAt isWriting), ((A 27), aI cI 4 words), ((A 28), aI cI 9 signs), ((A 29), aI cI 10 readings), ((A 30), aI cI 10 fewest)] [(h, oX8 A holding wool days sights padMany acts drawnBits drawnMany drawnNow badAct badWhy drawnAct drawnChild keptAt isWriting), ((A 27), aI cI 4 words), ((A 28), aI cI 9 signs), ((A 29), aI cI 10 res.1), ((A 30), aI cI 10 res.2)] := by
  refine CG.intro (own := RX8) (by decide +kernel) rfl rfl (Nat.le_of_ble_eq_true rfl) (fun p e s m args below meth c C => ?_)
  refine r_lv (lv' := [(0, .ref h), (1, .int u1), (2, .int u2)]) [0, 1, 2] rfl ?_
  unfold f_X8_readFrom at hf
  refine r_aload_n C dX8_readFrom_0 rfl 0 rfl rfl ?_
  refine r_get C dX8_readFrom_1 fw_X8_readFrom_X8 0 rfl rfl 29 (by decide) rfl fl_X8_readFrom_58 rfl rfl ?_
  refine r_iload_n C dX8_readFrom_4 rfl 1 rfl rfl ?_
  refine r_iconst C dX8_readFrom_5 kk_i_0 rfl ?_
  obtain ⟨g1, hf⟩ := gd_n hf
  refine r_iast (ws' := [(h, oX8 A holding wool days sights padMany acts drawnBits drawnMany drawnNow badAct badWhy drawnAct drawnChild keptAt isWriting), ((A 27), aI cI 4 words), ((A 28), aI cI 9 signs), ((A 29), aI cI 10 (upd readings u1.toNatClampNeg (0 : Int32))), ((A 30), aI cI 10 fewest)]) C dX8_readFrom_6 3 0 rfl rfl g1 rfl rfl ?_
  refine r_aload_n C dX8_readFrom_7 rfl 0 rfl rfl ?_
  refine r_get C dX8_readFrom_8 fw_X8_readFrom_X8 0 rfl rfl 30 (by decide) rfl fl_X8_readFrom_61 rfl rfl ?_
  refine r_iload_n C dX8_readFrom_11 rfl 1 rfl rfl ?_
  refine r_bipush C dX8_readFrom_12 kk_b_m6 rfl ?_
  refine r_iast (ws' := [(h, oX8 A holding wool days sights padMany acts drawnBits drawnMany drawnNow badAct badWhy drawnAct drawnChild keptAt isWriting), ((A 27), aI cI 4 words), ((A 28), aI cI 9 signs), ((A 29), aI cI 10 (upd readings u1.toNatClampNeg (0 : Int32))), ((A 30), aI cI 10 (upd fewest u1.toNatClampNeg (-6 : Int32)))]) C dX8_readFrom_14 4 0 rfl rfl g1 rfl rfl ?_
  refine r_iconst C dX8_readFrom_15 kk_i_0 rfl ?_
  refine r_istore_n (lv' := [(3, .int (0 : Int32)), (0, .ref h), (1, .int u1), (2, .int u2)]) C dX8_readFrom_16 rfl (by decide) rfl rfl ?_
  refine r_lv (lv' := [(0, .ref h), (1, .int u1), (2, .int u2), (3, .int (0 : Int32))]) [1, 2, 3, 0] rfl ?_
  refine k_X8_readFrom_17 C h A holding wool days sights padMany acts drawnBits drawnMany drawnNow badAct badWhy drawnAct drawnChild words signs keptAt isWriting u1 u2 _ 2000 _ _ _ hf
theorem wc_X8_isAWord_95 : Cond.constantLong RX8 95 (999 : Int64) ∈ wsX8_isAWord := by decide +kernel
abbrev rm_X8_isAWord : Jvm.Room := { frames := 1, cells := 0, slots := 0, locals := 25 }
def f_X8_isAWord (u0 : Int32) : Option (Int32) := (f_X8_in u0.toInt64 (1 : Int64) (999 : Int64)).bind (fun r1 => if r1 &&& 1 = r1 then some (r1) else none)
set_option maxHeartbeats 4000000 in
set_option maxRecDepth 100000 in
theorem c_X8_isAWord (l : Launch) (D : va_G) (cI cZ cG : ClassId) (u0 : Int32) (res : Int32) (hf : f_X8_isAWord u0 = some res) : CI l D (tysW cI cZ cG) yX8_isAWord wsX8_isAWord rm_X8_isAWord [.int u0] [] res [] := by
  refine CG.intro (own := RX8) (by decide +kernel) rfl rfl (Nat.le_of_ble_eq_true rfl) (fun p e s m args below meth c C => ?_)
  refine r_lv (lv' := [(0, .int u0)]) [0] rfl ?_
  unfold f_X8_isAWord at hf
  refine r_iload_n C dX8_isAWord_0 rfl 0 rfl rfl ?_
  refine r_i2l C dX8_isAWord_1 rfl ?_
  refine r_lconst (v := (1 : Int64)) C dX8_isAWord_2 rfl rfl ?_
  refine r_ldc2 C dX8_isAWord_3 wc_X8_isAWord_95 rfl ?_
  obtain ⟨r1, e1, hf⟩ := gd_b hf
  refine o_I (wn := []) C [] rfl (x_S C dX8_isAWord_6 (c_X8_in l D cI cZ cG u0.toInt64 (1 : Int64) (999 : Int64) r1 e1) rfl gX8_isAWord_X8_in hs_X8_in rfl ⟨Nat.le_of_ble_eq_true rfl, Nat.le_of_ble_eq_true rfl⟩ ⟨rfl, rfl⟩ ⟨Nat.zero_le _, Nat.zero_le _⟩ rfl [] rfl rfl (Nat.le_of_ble_eq_true rfl) rfl) rfl rfl rfl ?_
  obtain ⟨z2, hf⟩ := gd_p hf
  cases hf
  exact r_zret C dX8_isAWord_9 (nb_of z2) rfl
theorem wc_X8_read_269 : Cond.constantLong RX8 269 (999999999 : Int64) ∈ wsX8_read := by decide +kernel
theorem fw_X8_read_X8 : ∀ w ∈ u_ws RX8 TX8 37, w ∈ wsX8_read := by decide +kernel
theorem fl_X8_read_52 : Cond.fieldLink RX8 52 "MittenLineModel" "words" "[I" ∈ wsX8_read := by decide +kernel
theorem fl_X8_read_55 : Cond.fieldLink RX8 55 "MittenLineModel" "signs" "[I" ∈ wsX8_read := by decide +kernel
theorem fl_X8_read_58 : Cond.fieldLink RX8 58 "MittenLineModel" "readings" "[I" ∈ wsX8_read := by decide +kernel
theorem fl_X8_read_61 : Cond.fieldLink RX8 61 "MittenLineModel" "fewest" "[I" ∈ wsX8_read := by decide +kernel
abbrev rm_X8_read : Jvm.Room := { frames := 3, cells := 0, slots := 0, locals := 71 }
def f_X8_read_95 (kx113 : Int32 → Option (Int32 × (Nat → Int32) × (Nat → Int32) × (Nat → Int32) × (Nat → Int32))) : Nat → Int32 → Int32 → Option (Int32 × (Nat → Int32) × (Nat → Int32) × (Nat → Int32) × (Nat → Int32))
  | 0, _, _ => none
  | n + 1, u7, u8 => if u8 ≤ 0 then kx113 u7 else f_X8_read_95 kx113 n (u7 + (1 : Int32)) (u8 / (10 : Int32))
set_option maxHeartbeats 4000000 in
set_option maxRecDepth 100000 in
theorem k_X8_read_95 (C : Cx p s m args meth c D (tysW cI cZ cG) RX8 cX8_read 10 wsX8_read (some .int)) (h : Nat) (A : Nat → Nat) (holding : Int32) (wool : Int32) (days : Int32) (sights : Int32) (padMany : Int32) (acts : Int32) (drawnBits : Int32) (drawnMany : Int32) (drawnNow : Int32) (badAct : Int32) (badWhy : Int32) (drawnAct : Int32) (drawnChild : Int32) (words : Nat → Int32) (signs : Nat → Int32) (readings : Nat → Int32) (fewest : Nat → Int32) (keptAt : Int32) (isWriting : Int32) (u5 : Int32) (u6 : Int32)  (kx113 : Int32 → Option (Int32 × (Nat → Int32) × (Nat → Int32) × (Nat → Int32) × (Nat → Int32))) (res : Int32 × (Nat → Int32) × (Nat → Int32) × (Nat → Int32) × (Nat → Int32)) (hkx113 : ∀ (u7 : Int32) , kx113 u7 = some res → Wd p l e rm_X8_read s m args below meth c D w0 10 0 0 (MQ below (QcI D (tysW cI cZ cG) w0 [(h, oX8 A holding wool days sights padMany acts drawnBits drawnMany drawnNow badAct badWhy drawnAct drawnChild keptAt isWriting), ((A 27), aI cI 4 res.2.1), ((A 28), aI cI 9 res.2.2.1), ((A 29), aI cI 10 res.2.2.2.1), ((A 30), aI cI 10 res.2.2.2.2)] res.1 s.heap.size) args s 0 0 (va_A w0 s.heap.size)) [(h, oX8 A holding wool days sights padMany acts drawnBits drawnMany drawnNow badAct badWhy drawnAct drawnChild keptAt isWriting), ((A 27), aI cI 4 words), ((A 28), aI cI 9 signs), ((A 29), aI cI 10 readings), ((A 30), aI cI 10 fewest)] [(0, .ref h), (5, .int u5), (6, .int u6), (7, .int u7)] 113 []) : ∀ (n : Nat) (u7 : Int32) (u8 : Int32), f_X8_read_95 kx113 n u7 u8 = some res → Wd p l e rm_X8_read s m args below meth c D w0 10 0 0 (MQ below (QcI D (tysW cI cZ cG) w0 [(h, oX8 A holding wool days sights padMany acts drawnBits drawnMany drawnNow badAct badWhy drawnAct drawnChild keptAt isWriting), ((A 27), aI cI 4 res.2.1), ((A 28), aI cI 9 res.2.2.1), ((A 29), aI cI 10 res.2.2.2.1), ((A 30), aI cI 10 res.2.2.2.2)] res.1 s.heap.size) args s 0 0 (va_A w0 s.heap.size)) [(h, oX8 A holding wool days sights padMany acts drawnBits drawnMany drawnNow badAct badWhy drawnAct drawnChild keptAt isWriting), ((A 27), aI cI 4 words), ((A 28), aI cI 9 signs), ((A 29), aI cI 10 readings), ((A 30), aI cI 10 fewest)] [(0, .ref h), (5, .int u5), (6, .int u6), (7, .int u7), (8, .int u8)] 95 [] := by
  intro n
  induction n with
  | zero =>
    intro u7 u8 hf
    exact no_none hf
  | succ n ih =>
    intro u7 u8 hf
    unfold f_X8_read_95 at hf
    refine r_iload C dX8_read_95 4 rfl rfl ?_
    refine r_if_le (y := 0) (tgt := 113) C dX8_read_97 rfl rfl (fun c13 => ?_) (fun c13 => ?_)
    · have hf := gd_t c13 hf
      refine r_lv (lv' := [(0, .ref h), (5, .int u5), (6, .int u6), (7, .int u7)]) [0, 1, 2, 3] rfl ?_
      exact hkx113 _ hf
    · have hf := gd_f c13 hf
      refine r_iinc (lv' := [(7, .int (u7 + (1 : Int32))), (0, .ref h), (5, .int u5), (6, .int u6), (8, .int u8)]) C dX8_read_100 3 rfl (ki_1 _) (by decide) rfl rfl ?_
      refine r_iload C dX8_read_103 4 rfl rfl ?_
      refine r_bipush C dX8_read_105 kk_b_10 rfl ?_
      refine r_idiv C dX8_read_107 (by decide) rfl ?_
      refine r_istore (lv' := [(8, .int (u8 / (10 : Int32))), (7, .int (u7 + (1 : Int32))), (0, .ref h), (5, .int u5), (6, .int u6)]) C dX8_read_108 (by decide) rfl rfl ?_
      refine r_goto (tgt := 95) C dX8_read_110 rfl ?_
      refine r_lv (lv' := [(0, .ref h), (5, .int u5), (6, .int u6), (7, .int (u7 + (1 : Int32))), (8, .int (u8 / (10 : Int32)))]) [2, 3, 4, 1, 0] rfl ?_
      exact ih _ _ hf
def f_X8_read_123 (kx153 : (Nat → Int32) → Option (Int32 × (Nat → Int32) × (Nat → Int32) × (Nat → Int32) × (Nat → Int32))) : Nat → Int32 → Int32 → (Nat → Int32) → Option (Int32 × (Nat → Int32) × (Nat → Int32) × (Nat → Int32) × (Nat → Int32))
  | 0, _, _, _ => none
  | n + 1, u8, u9, signs => if u9 < 0 then kx153 signs else if u9 < 0 ∨ 9 ≤ u9.toNatClampNeg then none else f_X8_read_123 kx153 n (u8 / (10 : Int32)) (u9 + (-1 : Int32)) (upd signs u9.toNatClampNeg (u8 - u8 / (10 : Int32) * (10 : Int32)))
set_option maxHeartbeats 4000000 in
set_option maxRecDepth 100000 in
theorem k_X8_read_123 (C : Cx p s m args meth c D (tysW cI cZ cG) RX8 cX8_read 10 wsX8_read (some .int)) (h : Nat) (A : Nat → Nat) (holding : Int32) (wool : Int32) (days : Int32) (sights : Int32) (padMany : Int32) (acts : Int32) (drawnBits : Int32) (drawnMany : Int32) (drawnNow : Int32) (badAct : Int32) (badWhy : Int32) (drawnAct : Int32) (drawnChild : Int32) (words : Nat → Int32) (readings : Nat → Int32) (fewest : Nat → Int32) (keptAt : Int32) (isWriting : Int32) (u6 : Int32) (u7 : Int32)  (kx153 : (Nat → Int32) → Option (Int32 × (Nat → Int32) × (Nat → Int32) × (Nat → Int32) × (Nat → Int32))) (res : Int32 × (Nat → Int32) × (Nat → Int32) × (Nat → Int32) × (Nat → Int32)) (hkx153 : ∀ (signs : Nat → Int32) , kx153 signs = some res → Wd p l e rm_X8_read s m args below meth c D w0 10 0 0 (MQ below (QcI D (tysW cI cZ cG) w0 [(h, oX8 A holding wool days sights padMany acts drawnBits drawnMany drawnNow badAct badWhy drawnAct drawnChild keptAt isWriting), ((A 27), aI cI 4 res.2.1), ((A 28), aI cI 9 res.2.2.1), ((A 29), aI cI 10 res.2.2.2.1), ((A 30), aI cI 10 res.2.2.2.2)] res.1 s.heap.size) args s 0 0 (va_A w0 s.heap.size)) [(h, oX8 A holding wool days sights padMany acts drawnBits drawnMany drawnNow badAct badWhy drawnAct drawnChild keptAt isWriting), ((A 27), aI cI 4 words), ((A 28), aI cI 9 signs), ((A 29), aI cI 10 readings), ((A 30), aI cI 10 fewest)] [(0, .ref h), (6, .int u6), (7, .int u7)] 153 []) : ∀ (n : Nat) (u8 : Int32) (u9 : Int32) (signs : Nat → Int32), f_X8_read_123 kx153 n u8 u9 signs = some res → Wd p l e rm_X8_read s m args below meth c D w0 10 0 0 (MQ below (QcI D (tysW cI cZ cG) w0 [(h, oX8 A holding wool days sights padMany acts drawnBits drawnMany drawnNow badAct badWhy drawnAct drawnChild keptAt isWriting), ((A 27), aI cI 4 res.2.1), ((A 28), aI cI 9 res.2.2.1), ((A 29), aI cI 10 res.2.2.2.1), ((A 30), aI cI 10 res.2.2.2.2)] res.1 s.heap.size) args s 0 0 (va_A w0 s.heap.size)) [(h, oX8 A holding wool days sights padMany acts drawnBits drawnMany drawnNow badAct badWhy drawnAct drawnChild keptAt isWriting), ((A 27), aI cI 4 words), ((A 28), aI cI 9 signs), ((A 29), aI cI 10 readings), ((A 30), aI cI 10 fewest)] [(0, .ref h), (6, .int u6), (7, .int u7), (8, .int u8), (9, .int u9)] 123 [] := by
  intro n
  induction n with
  | zero =>
    intro u8 u9 signs hf
    exact no_none hf
  | succ n ih =>
    intro u8 u9 signs hf
    unfold f_X8_read_123 at hf
    refine r_iload C dX8_read_123 4 rfl rfl ?_
    refine r_if_lt (y := 0) (tgt := 153) C dX8_read_125 rfl rfl (fun c15 => ?_) (fun c15 => ?_)
    · have hf := gd_t c15 hf
      refine r_lv (lv' := [(0, .ref h), (6, .int u6), (7, .int u7)]) [0, 1, 2] rfl ?_
      exact hkx153 _ hf
    · have hf := gd_f c15 hf
      refine r_aload_n C dX8_read_128 rfl 0 rfl rfl ?_
      refine r_get C dX8_read_129 fw_X8_read_X8 0 rfl rfl 28 (by decide) rfl fl_X8_read_55 rfl rfl ?_
      refine r_iload C dX8_read_132 4 rfl rfl ?_
      refine r_iload C dX8_read_134 3 rfl rfl ?_
      refine r_bipush C dX8_read_136 kk_b_10 rfl ?_
      refine r_irem C dX8_read_138 (by decide) rfl ?_
      obtain ⟨g16, hf⟩ := gd_n hf
      refine r_iast (ws' := [(h, oX8 A holding wool days sights padMany acts drawnBits drawnMany drawnNow badAct badWhy drawnAct drawnChild keptAt isWriting), ((A 27), aI cI 4 words), ((A 28), aI cI 9 (upd signs u9.toNatClampNeg (u8 - u8 / (10 : Int32) * (10 : Int32)))), ((A 29), aI cI 10 readings), ((A 30), aI cI 10 fewest)]) C dX8_read_139 2 0 rfl rfl g16 rfl rfl ?_
      refine r_iload C dX8_read_140 3 rfl rfl ?_
      refine r_bipush C dX8_read_142 kk_b_10 rfl ?_
      refine r_idiv C dX8_read_144 (by decide) rfl ?_
      refine r_istore (lv' := [(8, .int (u8 / (10 : Int32))), (0, .ref h), (6, .int u6), (7, .int u7), (9, .int u9)]) C dX8_read_145 (by decide) rfl rfl ?_
      refine r_iinc (lv' := [(9, .int (u9 + (-1 : Int32))), (8, .int (u8 / (10 : Int32))), (0, .ref h), (6, .int u6), (7, .int u7)]) C dX8_read_147 4 rfl (ki_m1 _) (by decide) rfl rfl ?_
      refine r_goto (tgt := 123) C dX8_read_150 rfl ?_
      refine r_lv (lv' := [(0, .ref h), (6, .int u6), (7, .int u7), (8, .int (u8 / (10 : Int32))), (9, .int (u9 + (-1 : Int32)))]) [2, 3, 4, 1, 0] rfl ?_
      exact ih _ _ _ hf
def f_X8_read_175 (u7 : Int32) (words : Nat → Int32) (signs : Nat → Int32) (kx194 : (Nat → Int32) → (Nat → Int32) → Option (Int32 × (Nat → Int32) × (Nat → Int32) × (Nat → Int32) × (Nat → Int32))) : Nat → Int32 → (Nat → Int32) → (Nat → Int32) → Option (Int32 × (Nat → Int32) × (Nat → Int32) × (Nat → Int32) × (Nat → Int32))
  | 0, _, _, _ => none
  | n + 1, u9, readings, fewest => if u9 < 0 then kx194 readings fewest else (f_X8_readFrom words signs readings fewest u9 u7).bind (fun r20 => f_X8_read_175 u7 words signs kx194 n (u9 + (-1 : Int32)) r20.1 r20.2)
set_option maxHeartbeats 4000000 in
set_option maxRecDepth 100000 in
theorem k_X8_read_175 (C : Cx p s m args meth c D (tysW cI cZ cG) RX8 cX8_read 10 wsX8_read (some .int)) (h : Nat) (A : Nat → Nat) (holding : Int32) (wool : Int32) (days : Int32) (sights : Int32) (padMany : Int32) (acts : Int32) (drawnBits : Int32) (drawnMany : Int32) (drawnNow : Int32) (badAct : Int32) (badWhy : Int32) (drawnAct : Int32) (drawnChild : Int32) (words : Nat → Int32) (signs : Nat → Int32) (keptAt : Int32) (isWriting : Int32) (u6 : Int32) (u7 : Int32)  (kx194 : (Nat → Int32) → (Nat → Int32) → Option (Int32 × (Nat → Int32) × (Nat → Int32) × (Nat → Int32) × (Nat → Int32))) (res : Int32 × (Nat → Int32) × (Nat → Int32) × (Nat → Int32) × (Nat → Int32)) (hkx194 : ∀ (readings : Nat → Int32) (fewest : Nat → Int32) , kx194 readings fewest = some res → Wd p l e rm_X8_read s m args below meth c D w0 10 0 0 (MQ below (QcI D (tysW cI cZ cG) w0 [(h, oX8 A holding wool days sights padMany acts drawnBits drawnMany drawnNow badAct badWhy drawnAct drawnChild keptAt isWriting), ((A 27), aI cI 4 res.2.1), ((A 28), aI cI 9 res.2.2.1), ((A 29), aI cI 10 res.2.2.2.1), ((A 30), aI cI 10 res.2.2.2.2)] res.1 s.heap.size) args s 0 0 (va_A w0 s.heap.size)) [(h, oX8 A holding wool days sights padMany acts drawnBits drawnMany drawnNow badAct badWhy drawnAct drawnChild keptAt isWriting), ((A 27), aI cI 4 words), ((A 28), aI cI 9 signs), ((A 29), aI cI 10 readings), ((A 30), aI cI 10 fewest)] [(0, .ref h), (6, .int u6)] 194 []) : ∀ (n : Nat) (u9 : Int32) (readings : Nat → Int32) (fewest : Nat → Int32), f_X8_read_175 u7 words signs kx194 n u9 readings fewest = some res → Wd p l e rm_X8_read s m args below meth c D w0 10 0 0 (MQ below (QcI D (tysW cI cZ cG) w0 [(h, oX8 A holding wool days sights padMany acts drawnBits drawnMany drawnNow badAct badWhy drawnAct drawnChild keptAt isWriting), ((A 27), aI cI 4 res.2.1), ((A 28), aI cI 9 res.2.2.1), ((A 29), aI cI 10 res.2.2.2.1), ((A 30), aI cI 10 res.2.2.2.2)] res.1 s.heap.size) args s 0 0 (va_A w0 s.heap.size)) [(h, oX8 A holding wool days sights padMany acts drawnBits drawnMany drawnNow badAct badWhy drawnAct drawnChild keptAt isWriting), ((A 27), aI cI 4 words), ((A 28), aI cI 9 signs), ((A 29), aI cI 10 readings), ((A 30), aI cI 10 fewest)] [(0, .ref h), (6, .int u6), (7, .int u7), (9, .int u9)] 175 [] := by
  intro n
  induction n with
  | zero =>
    intro u9 readings fewest hf
    exact no_none hf
  | succ n ih =>
    intro u9 readings fewest hf
    unfold f_X8_read_175 at hf
    refine r_iload C dX8_read_175 3 rfl rfl ?_
    refine r_if_lt (y := 0) (tgt := 194) C dX8_read_177 rfl rfl (fun c19 => ?_) (fun c19 => ?_)
    · have hf := gd_t c19 hf
      refine r_lv (lv' := [(0, .ref h), (6, .int u6)]) [0, 1] rfl ?_
      exact hkx194 _ _ hf
    · have hf := gd_f c19 hf
      refine r_aload_n C dX8_read_180 rfl 0 rfl rfl ?_
      refine r_iload C dX8_read_181 3 rfl rfl ?_
      refine r_iload C dX8_read_183 2 rfl rfl ?_
      obtain ⟨r20, e20, hf⟩ := gd_b hf
      refine o_V (wn := [(h, oX8 A holding wool days sights padMany acts drawnBits drawnMany drawnNow badAct badWhy drawnAct drawnChild keptAt isWriting), ((A 27), aI cI 4 words), ((A 28), aI cI 9 signs), ((A 29), aI cI 10 r20.1), ((A 30), aI cI 10 r20.2)]) C [0, 1, 2, 3, 4] rfl (x_V C dX8_read_185 (c_X8_readFrom l D cI cZ cG h A holding wool days sights padMany acts drawnBits drawnMany drawnNow badAct badWhy drawnAct drawnChild words signs readings fewest keptAt isWriting u9 u7 r20 e20) rfl gX8_read_X8_readFrom hd_X8_readFrom rfl ⟨Nat.le_of_ble_eq_true rfl, Nat.le_of_ble_eq_true rfl⟩ ⟨rfl, rfl⟩ ⟨Nat.zero_le _, Nat.zero_le _⟩ rfl [0, 1, 2, 3, 4] rfl rfl 0 rfl rfl (Nat.le_of_ble_eq_true rfl) rfl) rfl rfl rfl ?_
      refine r_iinc (lv' := [(9, .int (u9 + (-1 : Int32))), (0, .ref h), (6, .int u6), (7, .int u7)]) C dX8_read_188 3 rfl (ki_m1 _) (by decide) rfl rfl ?_
      refine r_goto (tgt := 175) C dX8_read_191 rfl ?_
      refine r_lv (lv' := [(0, .ref h), (6, .int u6), (7, .int u7), (9, .int (u9 + (-1 : Int32)))]) [1, 2, 3, 0] rfl ?_
      exact ih _ _ _ hf
def f_X8_read (words : Nat → Int32) (signs : Nat → Int32) (readings : Nat → Int32) (fewest : Nat → Int32) (u1 : Int32) (u2 : Int32) (u3 : Int32) (u4 : Int32) (u5 : Int32) (u6 : Int32) : Option (Int32 × (Nat → Int32) × (Nat → Int32) × (Nat → Int32) × (Nat → Int32)) := (f_X8_isAWord u1).bind (fun r1 => if r1 = 0 then some ((-2 : Int32), words, signs, readings, fewest) else (f_X8_isAWord u2).bind (fun r3 => if r3 = 0 then some ((-2 : Int32), words, signs, readings, fewest) else (f_X8_isAWord u3).bind (fun r5 => if r5 = 0 then some ((-2 : Int32), words, signs, readings, fewest) else (f_X8_isAWord u4).bind (fun r7 => if r7 = 0 then some ((-2 : Int32), words, signs, readings, fewest) else (f_X8_in u5.toInt64 (0 : Int64) (999999999 : Int64)).bind (fun r9 => if r9 = 0 then some ((-2 : Int32), words, signs, readings, fewest) else (f_X8_in u6.toInt64 (0 : Int64) (1 : Int64)).bind (fun r11 => if r11 = 0 then some ((-2 : Int32), words, signs, readings, fewest) else f_X8_read_95 (fun u7_14 => f_X8_read_123 (fun signs_17 => if u7_14 < 0 ∨ 10 ≤ u7_14.toNatClampNeg then none else f_X8_read_175 u7_14 (upd (upd (upd (upd words (0 : Int32).toNatClampNeg u1) (1 : Int32).toNatClampNeg u2) (2 : Int32).toNatClampNeg u3) (3 : Int32).toNatClampNeg u4) signs_17 (fun readings_21 fewest_22 => if u6 = 0 then some ((readings_21 (0 : Int32).toNatClampNeg), (upd (upd (upd (upd words (0 : Int32).toNatClampNeg u1) (1 : Int32).toNatClampNeg u2) (2 : Int32).toNatClampNeg u3) (3 : Int32).toNatClampNeg u4), signs_17, readings_21, fewest_22) else some ((fewest_22 (0 : Int32).toNatClampNeg), (upd (upd (upd (upd words (0 : Int32).toNatClampNeg u1) (1 : Int32).toNatClampNeg u2) (2 : Int32).toNatClampNeg u3) (3 : Int32).toNatClampNeg u4), signs_17, readings_21, fewest_22)) 2000 (u7_14 - (1 : Int32)) (upd readings u7_14.toNatClampNeg (1 : Int32)) (upd fewest u7_14.toNatClampNeg (0 : Int32))) 2000 u5 (u7_14 - (1 : Int32)) signs) 2000 (1 : Int32) (u5 / (10 : Int32))))))))
set_option maxHeartbeats 4000000 in
set_option maxRecDepth 100000 in
theorem c_X8_read (l : Launch) (D : va_G) (cI cZ cG : ClassId) (h : Nat) (A : Nat → Nat) (holding : Int32) (wool : Int32) (days : Int32) (sights : Int32) (padMany : Int32) (acts : Int32) (drawnBits : Int32) (drawnMany : Int32) (drawnNow : Int32) (badAct : Int32) (badWhy : Int32) (drawnAct : Int32) (drawnChild : Int32) (words : Nat → Int32) (signs : Nat → Int32) (readings : Nat → Int32) (fewest : Nat → Int32) (keptAt : Int32) (isWriting : Int32) (u1 : Int32) (u2 : Int32) (u3 : Int32) (u4 : Int32) (u5 : Int32) (u6 : Int32) (res : Int32 × (Nat → Int32) × (Nat → Int32) × (Nat → Int32) × (Nat → Int32)) (hf : f_X8_read words signs readings fewest u1 u2 u3 u4 u5 u6 = some res) : CI l D (tysW cI cZ cG) yX8_read wsX8_read rm_X8_read [.ref h, .int u1, .int u2, .int u3, .int u4, .int u5, .int u6] [(h, oX8 A holding wool days sights padMany acts drawnBits drawnMany drawnNow badAct badWhy drawnAct drawnChild keptAt isWriting), ((A 27), aI cI 4 words), ((A 28), aI cI 9 signs), ((A 29), aI cI 10 readings), ((A 30), aI cI 10 fewest)] res.1 [(h, oX8 A holding wool days sights padMany acts drawnBits drawnMany drawnNow badAct badWhy drawnAct drawnChild keptAt isWriting), ((A 27), aI cI 4 res.2.1), ((A 28), aI cI 9 res.2.2.1), ((A 29), aI cI 10 res.2.2.2.1), ((A 30), aI cI 10 res.2.2.2.2)] := by
  refine CG.intro (own := RX8) (by decide +kernel) rfl rfl (Nat.le_of_ble_eq_true rfl) (fun p e s m args below meth c C => ?_)
  refine r_lv (lv' := [(0, .ref h), (1, .int u1), (2, .int u2), (3, .int u3), (4, .int u4), (5, .int u5), (6, .int u6)]) [0, 1, 2, 3, 4, 5, 6] rfl ?_
  unfold f_X8_read at hf
  refine r_iload_n C dX8_read_0 rfl 1 rfl rfl ?_
  obtain ⟨r1, e1, hf⟩ := gd_b hf
  refine o_I (wn := [(h, oX8 A holding wool days sights padMany acts drawnBits drawnMany drawnNow badAct badWhy drawnAct drawnChild keptAt isWriting), ((A 27), aI cI 4 words), ((A 28), aI cI 9 signs), ((A 29), aI cI 10 readings), ((A 30), aI cI 10 fewest)]) C [] rfl (x_S C dX8_read_1 (c_X8_isAWord l D cI cZ cG u1 r1 e1) rfl gX8_read_X8_isAWord hs_X8_isAWord rfl ⟨Nat.le_of_ble_eq_true rfl, Nat.le_of_ble_eq_true rfl⟩ ⟨rfl, rfl⟩ ⟨Nat.zero_le _, Nat.zero_le _⟩ rfl [] rfl rfl (Nat.le_of_ble_eq_true rfl) rfl) rfl rfl rfl ?_
  refine r_if_eq (y := 0) (tgt := 53) C dX8_read_4 rfl rfl (fun c2 => ?_) (fun c2 => ?_)
  · have hf := gd_t c2 hf
    refine r_bipush C dX8_read_53 kk_b_m2 rfl ?_
    cases hf
    exact r_iret C dX8_read_55 rfl
  · have hf := gd_f c2 hf
    refine r_iload_n C dX8_read_7 rfl 2 rfl rfl ?_
    obtain ⟨r3, e3, hf⟩ := gd_b hf
    refine o_I (wn := [(h, oX8 A holding wool days sights padMany acts drawnBits drawnMany drawnNow badAct badWhy drawnAct drawnChild keptAt isWriting), ((A 27), aI cI 4 words), ((A 28), aI cI 9 signs), ((A 29), aI cI 10 readings), ((A 30), aI cI 10 fewest)]) C [] rfl (x_S C dX8_read_8 (c_X8_isAWord l D cI cZ cG u2 r3 e3) rfl gX8_read_X8_isAWord hs_X8_isAWord rfl ⟨Nat.le_of_ble_eq_true rfl, Nat.le_of_ble_eq_true rfl⟩ ⟨rfl, rfl⟩ ⟨Nat.zero_le _, Nat.zero_le _⟩ rfl [] rfl rfl (Nat.le_of_ble_eq_true rfl) rfl) rfl rfl rfl ?_
    refine r_if_eq (y := 0) (tgt := 53) C dX8_read_11 rfl rfl (fun c4 => ?_) (fun c4 => ?_)
    · have hf := gd_t c4 hf
      refine r_bipush C dX8_read_53 kk_b_m2 rfl ?_
      cases hf
      exact r_iret C dX8_read_55 rfl
    · have hf := gd_f c4 hf
      refine r_iload_n C dX8_read_14 rfl 3 rfl rfl ?_
      obtain ⟨r5, e5, hf⟩ := gd_b hf
      refine o_I (wn := [(h, oX8 A holding wool days sights padMany acts drawnBits drawnMany drawnNow badAct badWhy drawnAct drawnChild keptAt isWriting), ((A 27), aI cI 4 words), ((A 28), aI cI 9 signs), ((A 29), aI cI 10 readings), ((A 30), aI cI 10 fewest)]) C [] rfl (x_S C dX8_read_15 (c_X8_isAWord l D cI cZ cG u3 r5 e5) rfl gX8_read_X8_isAWord hs_X8_isAWord rfl ⟨Nat.le_of_ble_eq_true rfl, Nat.le_of_ble_eq_true rfl⟩ ⟨rfl, rfl⟩ ⟨Nat.zero_le _, Nat.zero_le _⟩ rfl [] rfl rfl (Nat.le_of_ble_eq_true rfl) rfl) rfl rfl rfl ?_
      refine r_if_eq (y := 0) (tgt := 53) C dX8_read_18 rfl rfl (fun c6 => ?_) (fun c6 => ?_)
      · have hf := gd_t c6 hf
        refine r_bipush C dX8_read_53 kk_b_m2 rfl ?_
        cases hf
        exact r_iret C dX8_read_55 rfl
      · have hf := gd_f c6 hf
        refine r_iload C dX8_read_21 4 rfl rfl ?_
        obtain ⟨r7, e7, hf⟩ := gd_b hf
        refine o_I (wn := [(h, oX8 A holding wool days sights padMany acts drawnBits drawnMany drawnNow badAct badWhy drawnAct drawnChild keptAt isWriting), ((A 27), aI cI 4 words), ((A 28), aI cI 9 signs), ((A 29), aI cI 10 readings), ((A 30), aI cI 10 fewest)]) C [] rfl (x_S C dX8_read_23 (c_X8_isAWord l D cI cZ cG u4 r7 e7) rfl gX8_read_X8_isAWord hs_X8_isAWord rfl ⟨Nat.le_of_ble_eq_true rfl, Nat.le_of_ble_eq_true rfl⟩ ⟨rfl, rfl⟩ ⟨Nat.zero_le _, Nat.zero_le _⟩ rfl [] rfl rfl (Nat.le_of_ble_eq_true rfl) rfl) rfl rfl rfl ?_
        refine r_if_eq (y := 0) (tgt := 53) C dX8_read_26 rfl rfl (fun c8 => ?_) (fun c8 => ?_)
        · have hf := gd_t c8 hf
          refine r_bipush C dX8_read_53 kk_b_m2 rfl ?_
          cases hf
          exact r_iret C dX8_read_55 rfl
        · have hf := gd_f c8 hf
          refine r_iload C dX8_read_29 5 rfl rfl ?_
          refine r_i2l C dX8_read_31 rfl ?_
          refine r_lconst (v := (0 : Int64)) C dX8_read_32 rfl rfl ?_
          refine r_ldc2 C dX8_read_33 wc_X8_read_269 rfl ?_
          obtain ⟨r9, e9, hf⟩ := gd_b hf
          refine o_I (wn := [(h, oX8 A holding wool days sights padMany acts drawnBits drawnMany drawnNow badAct badWhy drawnAct drawnChild keptAt isWriting), ((A 27), aI cI 4 words), ((A 28), aI cI 9 signs), ((A 29), aI cI 10 readings), ((A 30), aI cI 10 fewest)]) C [] rfl (x_S C dX8_read_36 (c_X8_in l D cI cZ cG u5.toInt64 (0 : Int64) (999999999 : Int64) r9 e9) rfl gX8_read_X8_in hs_X8_in rfl ⟨Nat.le_of_ble_eq_true rfl, Nat.le_of_ble_eq_true rfl⟩ ⟨rfl, rfl⟩ ⟨Nat.zero_le _, Nat.zero_le _⟩ rfl [] rfl rfl (Nat.le_of_ble_eq_true rfl) rfl) rfl rfl rfl ?_
          refine r_if_eq (y := 0) (tgt := 53) C dX8_read_39 rfl rfl (fun c10 => ?_) (fun c10 => ?_)
          · have hf := gd_t c10 hf
            refine r_bipush C dX8_read_53 kk_b_m2 rfl ?_
            cases hf
            exact r_iret C dX8_read_55 rfl
          · have hf := gd_f c10 hf
            refine r_iload C dX8_read_42 6 rfl rfl ?_
            refine r_i2l C dX8_read_44 rfl ?_
            refine r_lconst (v := (0 : Int64)) C dX8_read_45 rfl rfl ?_
            refine r_lconst (v := (1 : Int64)) C dX8_read_46 rfl rfl ?_
            obtain ⟨r11, e11, hf⟩ := gd_b hf
            refine o_I (wn := [(h, oX8 A holding wool days sights padMany acts drawnBits drawnMany drawnNow badAct badWhy drawnAct drawnChild keptAt isWriting), ((A 27), aI cI 4 words), ((A 28), aI cI 9 signs), ((A 29), aI cI 10 readings), ((A 30), aI cI 10 fewest)]) C [] rfl (x_S C dX8_read_47 (c_X8_in l D cI cZ cG u6.toInt64 (0 : Int64) (1 : Int64) r11 e11) rfl gX8_read_X8_in hs_X8_in rfl ⟨Nat.le_of_ble_eq_true rfl, Nat.le_of_ble_eq_true rfl⟩ ⟨rfl, rfl⟩ ⟨Nat.zero_le _, Nat.zero_le _⟩ rfl [] rfl rfl (Nat.le_of_ble_eq_true rfl) rfl) rfl rfl rfl ?_
            refine r_if_ne (y := 0) (tgt := 56) C dX8_read_50 rfl rfl (fun c12 => ?_) (fun c12 => ?_)
            · have hf := gd_f c12 hf
              refine r_aload_n C dX8_read_56 rfl 0 rfl rfl ?_
              refine r_get C dX8_read_57 fw_X8_read_X8 0 rfl rfl 27 (by decide) rfl fl_X8_read_52 rfl rfl ?_
              refine r_iconst C dX8_read_60 kk_i_0 rfl ?_
              refine r_iload_n C dX8_read_61 rfl 1 rfl rfl ?_
              refine r_iast (ws' := [(h, oX8 A holding wool days sights padMany acts drawnBits drawnMany drawnNow badAct badWhy drawnAct drawnChild keptAt isWriting), ((A 27), aI cI 4 (upd words (0 : Int32).toNatClampNeg u1)), ((A 28), aI cI 9 signs), ((A 29), aI cI 10 readings), ((A 30), aI cI 10 fewest)]) C dX8_read_62 1 0 rfl rfl (by decide) rfl rfl ?_
              refine r_aload_n C dX8_read_63 rfl 0 rfl rfl ?_
              refine r_get C dX8_read_64 fw_X8_read_X8 0 rfl rfl 27 (by decide) rfl fl_X8_read_52 rfl rfl ?_
              refine r_iconst C dX8_read_67 kk_i_1 rfl ?_
              refine r_iload_n C dX8_read_68 rfl 2 rfl rfl ?_
              refine r_iast (ws' := [(h, oX8 A holding wool days sights padMany acts drawnBits drawnMany drawnNow badAct badWhy drawnAct drawnChild keptAt isWriting), ((A 27), aI cI 4 (upd (upd words (0 : Int32).toNatClampNeg u1) (1 : Int32).toNatClampNeg u2)), ((A 28), aI cI 9 signs), ((A 29), aI cI 10 readings), ((A 30), aI cI 10 fewest)]) C dX8_read_69 1 0 rfl rfl (by decide) rfl rfl ?_
              refine r_aload_n C dX8_read_70 rfl 0 rfl rfl ?_
              refine r_get C dX8_read_71 fw_X8_read_X8 0 rfl rfl 27 (by decide) rfl fl_X8_read_52 rfl rfl ?_
              refine r_iconst C dX8_read_74 kk_i_2 rfl ?_
              refine r_iload_n C dX8_read_75 rfl 3 rfl rfl ?_
              refine r_iast (ws' := [(h, oX8 A holding wool days sights padMany acts drawnBits drawnMany drawnNow badAct badWhy drawnAct drawnChild keptAt isWriting), ((A 27), aI cI 4 (upd (upd (upd words (0 : Int32).toNatClampNeg u1) (1 : Int32).toNatClampNeg u2) (2 : Int32).toNatClampNeg u3)), ((A 28), aI cI 9 signs), ((A 29), aI cI 10 readings), ((A 30), aI cI 10 fewest)]) C dX8_read_76 1 0 rfl rfl (by decide) rfl rfl ?_
              refine r_aload_n C dX8_read_77 rfl 0 rfl rfl ?_
              refine r_get C dX8_read_78 fw_X8_read_X8 0 rfl rfl 27 (by decide) rfl fl_X8_read_52 rfl rfl ?_
              refine r_iconst C dX8_read_81 kk_i_3 rfl ?_
              refine r_iload C dX8_read_82 4 rfl rfl ?_
              refine r_iast (ws' := [(h, oX8 A holding wool days sights padMany acts drawnBits drawnMany drawnNow badAct badWhy drawnAct drawnChild keptAt isWriting), ((A 27), aI cI 4 (upd (upd (upd (upd words (0 : Int32).toNatClampNeg u1) (1 : Int32).toNatClampNeg u2) (2 : Int32).toNatClampNeg u3) (3 : Int32).toNatClampNeg u4)), ((A 28), aI cI 9 signs), ((A 29), aI cI 10 readings), ((A 30), aI cI 10 fewest)]) C dX8_read_84 1 0 rfl rfl (by decide) rfl rfl ?_
              refine r_iconst C dX8_read_85 kk_i_1 rfl ?_
              refine r_istore (lv' := [(7, .int (1 : Int32)), (0, .ref h), (1, .int u1), (2, .int u2), (3, .int u3), (4, .int u4), (5, .int u5), (6, .int u6)]) C dX8_read_86 (by decide) rfl rfl ?_
              refine r_iload C dX8_read_88 6 rfl rfl ?_
              refine r_bipush C dX8_read_90 kk_b_10 rfl ?_
              refine r_idiv C dX8_read_92 (by decide) rfl ?_
              refine r_istore (lv' := [(8, .int (u5 / (10 : Int32))), (7, .int (1 : Int32)), (0, .ref h), (1, .int u1), (2, .int u2), (3, .int u3), (4, .int u4), (5, .int u5), (6, .int u6)]) C dX8_read_93 (by decide) rfl rfl ?_
              refine r_lv (lv' := [(0, .ref h), (5, .int u5), (6, .int u6), (7, .int (1 : Int32)), (8, .int (u5 / (10 : Int32)))]) [2, 7, 8, 1, 0] rfl ?_
              refine k_X8_read_95 C h A holding wool days sights padMany acts drawnBits drawnMany drawnNow badAct badWhy drawnAct drawnChild (upd (upd (upd (upd words (0 : Int32).toNatClampNeg u1) (1 : Int32).toNatClampNeg u2) (2 : Int32).toNatClampNeg u3) (3 : Int32).toNatClampNeg u4) signs readings fewest keptAt isWriting u5 u6 _ _ ?_ 2000 _ _ hf
              · intro u7_14 hf
                refine r_iload C dX8_read_113 1 rfl rfl ?_
                refine r_istore (lv' := [(8, .int u5), (0, .ref h), (5, .int u5), (6, .int u6), (7, .int u7_14)]) C dX8_read_115 (by decide) rfl rfl ?_
                refine r_iload C dX8_read_117 4 rfl rfl ?_
                refine r_iconst C dX8_read_119 kk_i_1 rfl ?_
                refine r_isub C dX8_read_120 rfl ?_
                refine r_istore (lv' := [(9, .int (u7_14 - (1 : Int32))), (8, .int u5), (0, .ref h), (5, .int u5), (6, .int u6), (7, .int u7_14)]) C dX8_read_121 (by decide) rfl rfl ?_
                refine r_lv (lv' := [(0, .ref h), (6, .int u6), (7, .int u7_14), (8, .int u5), (9, .int (u7_14 - (1 : Int32)))]) [2, 4, 5, 1, 0] rfl ?_
                refine k_X8_read_123 C h A holding wool days sights padMany acts drawnBits drawnMany drawnNow badAct badWhy drawnAct drawnChild (upd (upd (upd (upd words (0 : Int32).toNatClampNeg u1) (1 : Int32).toNatClampNeg u2) (2 : Int32).toNatClampNeg u3) (3 : Int32).toNatClampNeg u4) readings fewest keptAt isWriting u6 u7_14 _ _ ?_ 2000 _ _ _ hf
                · intro signs_17 hf
                  refine r_aload_n C dX8_read_153 rfl 0 rfl rfl ?_
                  refine r_get C dX8_read_154 fw_X8_read_X8 0 rfl rfl 29 (by decide) rfl fl_X8_read_58 rfl rfl ?_
                  refine r_iload C dX8_read_157 2 rfl rfl ?_
                  refine r_iconst C dX8_read_159 kk_i_1 rfl ?_
                  obtain ⟨g18, hf⟩ := gd_n hf
                  refine r_iast (ws' := [(h, oX8 A holding wool days sights padMany acts drawnBits drawnMany drawnNow badAct badWhy drawnAct drawnChild keptAt isWriting), ((A 27), aI cI 4 (upd (upd (upd (upd words (0 : Int32).toNatClampNeg u1) (1 : Int32).toNatClampNeg u2) (2 : Int32).toNatClampNeg u3) (3 : Int32).toNatClampNeg u4)), ((A 28), aI cI 9 signs_17), ((A 29), aI cI 10 (upd readings u7_14.toNatClampNeg (1 : Int32))), ((A 30), aI cI 10 fewest)]) C dX8_read_160 3 0 rfl rfl g18 rfl rfl ?_
                  refine r_aload_n C dX8_read_161 rfl 0 rfl rfl ?_
                  refine r_get C dX8_read_162 fw_X8_read_X8 0 rfl rfl 30 (by decide) rfl fl_X8_read_61 rfl rfl ?_
                  refine r_iload C dX8_read_165 2 rfl rfl ?_
                  refine r_iconst C dX8_read_167 kk_i_0 rfl ?_
                  refine r_iast (ws' := [(h, oX8 A holding wool days sights padMany acts drawnBits drawnMany drawnNow badAct badWhy drawnAct drawnChild keptAt isWriting), ((A 27), aI cI 4 (upd (upd (upd (upd words (0 : Int32).toNatClampNeg u1) (1 : Int32).toNatClampNeg u2) (2 : Int32).toNatClampNeg u3) (3 : Int32).toNatClampNeg u4)), ((A 28), aI cI 9 signs_17), ((A 29), aI cI 10 (upd readings u7_14.toNatClampNeg (1 : Int32))), ((A 30), aI cI 10 (upd fewest u7_14.toNatClampNeg (0 : Int32)))]) C dX8_read_168 4 0 rfl rfl g18 rfl rfl ?_
                  refine r_iload C dX8_read_169 2 rfl rfl ?_
                  refine r_iconst C dX8_read_171 kk_i_1 rfl ?_
                  refine r_isub C dX8_read_172 rfl ?_
                  refine r_istore (lv' := [(9, .int (u7_14 - (1 : Int32))), (0, .ref h), (6, .int u6), (7, .int u7_14)]) C dX8_read_173 (by decide) rfl rfl ?_
                  refine r_lv (lv' := [(0, .ref h), (6, .int u6), (7, .int u7_14), (9, .int (u7_14 - (1 : Int32)))]) [1, 2, 3, 0] rfl ?_
                  refine k_X8_read_175 C h A holding wool days sights padMany acts drawnBits drawnMany drawnNow badAct badWhy drawnAct drawnChild (upd (upd (upd (upd words (0 : Int32).toNatClampNeg u1) (1 : Int32).toNatClampNeg u2) (2 : Int32).toNatClampNeg u3) (3 : Int32).toNatClampNeg u4) signs_17 keptAt isWriting u6 u7_14 _ _ ?_ 2000 _ _ _ hf
                  · intro readings_21 fewest_22 hf
                    refine r_iload C dX8_read_194 1 rfl rfl ?_
                    refine r_if_ne (y := 0) (tgt := 208) C dX8_read_196 rfl rfl (fun c23 => ?_) (fun c23 => ?_)
                    · have hf := gd_f c23 hf
                      refine r_aload_n C dX8_read_208 rfl 0 rfl rfl ?_
                      refine r_get C dX8_read_209 fw_X8_read_X8 0 rfl rfl 30 (by decide) rfl fl_X8_read_61 rfl rfl ?_
                      refine r_iconst C dX8_read_212 kk_i_0 rfl ?_
                      refine r_iald C dX8_read_213 4 0 rfl rfl (by decide) rfl ?_
                      cases hf
                      exact r_iret C dX8_read_214 rfl
                    · have hf := gd_t c23 hf
                      refine r_aload_n C dX8_read_199 rfl 0 rfl rfl ?_
                      refine r_get C dX8_read_200 fw_X8_read_X8 0 rfl rfl 29 (by decide) rfl fl_X8_read_58 rfl rfl ?_
                      refine r_iconst C dX8_read_203 kk_i_0 rfl ?_
                      refine r_iald C dX8_read_204 3 0 rfl rfl (by decide) rfl ?_
                      refine r_goto (tgt := 214) C dX8_read_205 rfl ?_
                      cases hf
                      exact r_iret C dX8_read_214 rfl
            · have hf := gd_t c12 hf
              refine r_bipush C dX8_read_53 kk_b_m2 rfl ?_
              cases hf
              exact r_iret C dX8_read_55 rfl
theorem wc_X8_felt_81 : Cond.constantLong RX8 81 (9 : Int64) ∈ wsX8_felt := by decide +kernel
theorem fw_X8_felt_X8 : ∀ w ∈ u_ws RX8 TX8 37, w ∈ wsX8_felt := by decide +kernel
theorem fl_X8_felt_274 : Cond.fieldLink RX8 274 "MittenLineModel" "sights" "I" ∈ wsX8_felt := by decide +kernel
theorem fl_X8_felt_19 : Cond.fieldLink RX8 19 "MittenLineModel" "sightChild" "[I" ∈ wsX8_felt := by decide +kernel
theorem fl_X8_felt_22 : Cond.fieldLink RX8 22 "MittenLineModel" "sightFelt" "[I" ∈ wsX8_felt := by decide +kernel
abbrev rm_X8_felt : Jvm.Room := { frames := 2, cells := 0, slots := 0, locals := 45 }
def f_X8_felt (sightChild : Nat → Int32) (sightFelt : Nat → Int32) (sights : Int32) (u1 : Int32) (u2 : Int32) : Option (Int32 × (Nat → Int32) × (Nat → Int32) × Int32) := (f_X8_isChild u1).bind (fun r1 => if r1 = 0 then some ((-1 : Int32), sightChild, sightFelt, sights) else (f_X8_in u2.toInt64 (0 : Int64) (9 : Int64)).bind (fun r3 => if r3 = 0 then some ((-2 : Int32), sightChild, sightFelt, sights) else if sights = (8 : Int32) then some ((-4 : Int32), sightChild, sightFelt, sights) else if sights < 0 ∨ 8 ≤ sights.toNatClampNeg then none else some ((sights + (1 : Int32)), (upd sightChild sights.toNatClampNeg u1), (upd sightFelt sights.toNatClampNeg u2), (sights + (1 : Int32)))))
set_option maxHeartbeats 4000000 in
set_option maxRecDepth 100000 in
theorem c_X8_felt (l : Launch) (D : va_G) (cI cZ cG : ClassId) (h : Nat) (A : Nat → Nat) (holding : Int32) (wool : Int32) (days : Int32) (sightChild : Nat → Int32) (sightFelt : Nat → Int32) (sights : Int32) (padMany : Int32) (acts : Int32) (drawnBits : Int32) (drawnMany : Int32) (drawnNow : Int32) (badAct : Int32) (badWhy : Int32) (drawnAct : Int32) (drawnChild : Int32) (keptAt : Int32) (isWriting : Int32) (u1 : Int32) (u2 : Int32) (res : Int32 × (Nat → Int32) × (Nat → Int32) × Int32) (hf : f_X8_felt sightChild sightFelt sights u1 u2 = some res) : CI l D (tysW cI cZ cG) yX8_felt wsX8_felt rm_X8_felt [.ref h, .int u1, .int u2] [(h, oX8 A holding wool days sights padMany acts drawnBits drawnMany drawnNow badAct badWhy drawnAct drawnChild keptAt isWriting), ((A 6), aI cI 8 sightChild), ((A 7), aI cI 8 sightFelt)] res.1 [(h, oX8 A holding wool days res.2.2.2 padMany acts drawnBits drawnMany drawnNow badAct badWhy drawnAct drawnChild keptAt isWriting), ((A 6), aI cI 8 res.2.1), ((A 7), aI cI 8 res.2.2.1)] := by
  refine CG.intro (own := RX8) (by decide +kernel) rfl rfl (Nat.le_of_ble_eq_true rfl) (fun p e s m args below meth c C => ?_)
  refine r_lv (lv' := [(0, .ref h), (1, .int u1), (2, .int u2)]) [0, 1, 2] rfl ?_
  unfold f_X8_felt at hf
  refine r_iload_n C dX8_felt_0 rfl 1 rfl rfl ?_
  obtain ⟨r1, e1, hf⟩ := gd_b hf
  refine o_I (wn := [(h, oX8 A holding wool days sights padMany acts drawnBits drawnMany drawnNow badAct badWhy drawnAct drawnChild keptAt isWriting), ((A 6), aI cI 8 sightChild), ((A 7), aI cI 8 sightFelt)]) C [] rfl (x_S C dX8_felt_1 (c_X8_isChild l D cI cZ cG u1 r1 e1) rfl gX8_felt_X8_isChild hs_X8_isChild rfl ⟨Nat.le_of_ble_eq_true rfl, Nat.le_of_ble_eq_true rfl⟩ ⟨rfl, rfl⟩ ⟨Nat.zero_le _, Nat.zero_le _⟩ rfl [] rfl rfl (Nat.le_of_ble_eq_true rfl) rfl) rfl rfl rfl ?_
  refine r_if_ne (y := 0) (tgt := 9) C dX8_felt_4 rfl rfl (fun c2 => ?_) (fun c2 => ?_)
  · have hf := gd_f c2 hf
    refine r_iload_n C dX8_felt_9 rfl 2 rfl rfl ?_
    refine r_i2l C dX8_felt_10 rfl ?_
    refine r_lconst (v := (0 : Int64)) C dX8_felt_11 rfl rfl ?_
    refine r_ldc2 C dX8_felt_12 wc_X8_felt_81 rfl ?_
    obtain ⟨r3, e3, hf⟩ := gd_b hf
    refine o_I (wn := [(h, oX8 A holding wool days sights padMany acts drawnBits drawnMany drawnNow badAct badWhy drawnAct drawnChild keptAt isWriting), ((A 6), aI cI 8 sightChild), ((A 7), aI cI 8 sightFelt)]) C [] rfl (x_S C dX8_felt_15 (c_X8_in l D cI cZ cG u2.toInt64 (0 : Int64) (9 : Int64) r3 e3) rfl gX8_felt_X8_in hs_X8_in rfl ⟨Nat.le_of_ble_eq_true rfl, Nat.le_of_ble_eq_true rfl⟩ ⟨rfl, rfl⟩ ⟨Nat.zero_le _, Nat.zero_le _⟩ rfl [] rfl rfl (Nat.le_of_ble_eq_true rfl) rfl) rfl rfl rfl ?_
    refine r_if_ne (y := 0) (tgt := 24) C dX8_felt_18 rfl rfl (fun c4 => ?_) (fun c4 => ?_)
    · have hf := gd_f c4 hf
      refine r_aload_n C dX8_felt_24 rfl 0 rfl rfl ?_
      refine r_get C dX8_felt_25 fw_X8_felt_X8 0 rfl rfl 8 (by decide) rfl fl_X8_felt_274 rfl rfl ?_
      refine r_bipush C dX8_felt_28 kk_b_8 rfl ?_
      refine r_icmp_ne (tgt := 36) C dX8_felt_30 rfl rfl (fun c5 => ?_) (fun c5 => ?_)
      · have hf := gd_f c5 hf
        refine r_aload_n C dX8_felt_36 rfl 0 rfl rfl ?_
        refine r_get C dX8_felt_37 fw_X8_felt_X8 0 rfl rfl 6 (by decide) rfl fl_X8_felt_19 rfl rfl ?_
        refine r_aload_n C dX8_felt_40 rfl 0 rfl rfl ?_
        refine r_get C dX8_felt_41 fw_X8_felt_X8 0 rfl rfl 8 (by decide) rfl fl_X8_felt_274 rfl rfl ?_
        refine r_iload_n C dX8_felt_44 rfl 1 rfl rfl ?_
        obtain ⟨g6, hf⟩ := gd_n hf
        refine r_iast (ws' := [(h, oX8 A holding wool days sights padMany acts drawnBits drawnMany drawnNow badAct badWhy drawnAct drawnChild keptAt isWriting), ((A 6), aI cI 8 (upd sightChild sights.toNatClampNeg u1)), ((A 7), aI cI 8 sightFelt)]) C dX8_felt_45 1 0 rfl rfl g6 rfl rfl ?_
        refine r_aload_n C dX8_felt_46 rfl 0 rfl rfl ?_
        refine r_get C dX8_felt_47 fw_X8_felt_X8 0 rfl rfl 7 (by decide) rfl fl_X8_felt_22 rfl rfl ?_
        refine r_aload_n C dX8_felt_50 rfl 0 rfl rfl ?_
        refine r_get C dX8_felt_51 fw_X8_felt_X8 0 rfl rfl 8 (by decide) rfl fl_X8_felt_274 rfl rfl ?_
        refine r_iload_n C dX8_felt_54 rfl 2 rfl rfl ?_
        refine r_iast (ws' := [(h, oX8 A holding wool days sights padMany acts drawnBits drawnMany drawnNow badAct badWhy drawnAct drawnChild keptAt isWriting), ((A 6), aI cI 8 (upd sightChild sights.toNatClampNeg u1)), ((A 7), aI cI 8 (upd sightFelt sights.toNatClampNeg u2))]) C dX8_felt_55 2 0 rfl rfl g6 rfl rfl ?_
        refine r_aload_n C dX8_felt_56 rfl 0 rfl rfl ?_
        refine r_dup C dX8_felt_57 rfl rfl ?_
        refine r_get C dX8_felt_58 fw_X8_felt_X8 0 rfl rfl 8 (by decide) rfl fl_X8_felt_274 rfl rfl ?_
        refine r_iconst C dX8_felt_61 kk_i_1 rfl ?_
        refine r_iadd C dX8_felt_62 rfl ?_
        refine r_put (ty := .int) (ws' := [(h, oX8 A holding wool days (sights + (1 : Int32)) padMany acts drawnBits drawnMany drawnNow badAct badWhy drawnAct drawnChild keptAt isWriting), ((A 6), aI cI 8 (upd sightChild sights.toNatClampNeg u1)), ((A 7), aI cI 8 (upd sightFelt sights.toNatClampNeg u2))]) C dX8_felt_63 fw_X8_felt_X8 tyX8 tyX8_ok nmX8 0 rfl rfl 8 (by decide) rfl fl_X8_felt_274 rfl (by decide +kernel) rfl rfl (Nat.le_of_ble_eq_true rfl) rfl rfl ?_
        refine r_aload_n C dX8_felt_66 rfl 0 rfl rfl ?_
        refine r_get C dX8_felt_67 fw_X8_felt_X8 0 rfl rfl 8 (by decide) rfl fl_X8_felt_274 rfl rfl ?_
        cases hf
        exact r_iret C dX8_felt_70 rfl
      · have hf := gd_t c5 hf
        refine r_bipush C dX8_felt_33 kk_b_m4 rfl ?_
        cases hf
        exact r_iret C dX8_felt_35 rfl
    · have hf := gd_t c4 hf
      refine r_bipush C dX8_felt_21 kk_b_m2 rfl ?_
      cases hf
      exact r_iret C dX8_felt_23 rfl
  · have hf := gd_t c2 hf
    refine r_iconst C dX8_felt_7 kk_i_m1 rfl ?_
    cases hf
    exact r_iret C dX8_felt_8 rfl
theorem fw_X8_forget_X8 : ∀ w ∈ u_ws RX8 TX8 37, w ∈ wsX8_forget := by decide +kernel
theorem fl_X8_forget_274 : Cond.fieldLink RX8 274 "MittenLineModel" "sights" "I" ∈ wsX8_forget := by decide +kernel
abbrev rm_X8_forget : Jvm.Room := { frames := 0, cells := 0, slots := 0, locals := 0 }
def f_X8_forget (sights : Int32) : Option (Int32 × Int32) := some (sights, (0 : Int32))
set_option maxHeartbeats 4000000 in
set_option maxRecDepth 100000 in
theorem c_X8_forget (l : Launch) (D : va_G) (cI cZ cG : ClassId) (h : Nat) (A : Nat → Nat) (holding : Int32) (wool : Int32) (days : Int32) (sights : Int32) (padMany : Int32) (acts : Int32) (drawnBits : Int32) (drawnMany : Int32) (drawnNow : Int32) (badAct : Int32) (badWhy : Int32) (drawnAct : Int32) (drawnChild : Int32) (keptAt : Int32) (isWriting : Int32) (res : Int32 × Int32) (hf : f_X8_forget sights = some res) : CI l D (tysW cI cZ cG) yX8_forget wsX8_forget rm_X8_forget [.ref h] [(h, oX8 A holding wool days sights padMany acts drawnBits drawnMany drawnNow badAct badWhy drawnAct drawnChild keptAt isWriting)] res.1 [(h, oX8 A holding wool days res.2 padMany acts drawnBits drawnMany drawnNow badAct badWhy drawnAct drawnChild keptAt isWriting)] := by
  refine CG.intro (own := RX8) (by decide +kernel) rfl rfl (Nat.le_of_ble_eq_true rfl) (fun p e s m args below meth c C => ?_)
  refine r_lv (lv' := [(0, .ref h)]) [0] rfl ?_
  unfold f_X8_forget at hf
  refine r_aload_n C dX8_forget_0 rfl 0 rfl rfl ?_
  refine r_get C dX8_forget_1 fw_X8_forget_X8 0 rfl rfl 8 (by decide) rfl fl_X8_forget_274 rfl rfl ?_
  refine r_istore_n (lv' := [(1, .int sights), (0, .ref h)]) C dX8_forget_4 rfl (by decide) rfl rfl ?_
  refine r_aload_n C dX8_forget_5 rfl 1 rfl rfl ?_
  refine r_iconst C dX8_forget_6 kk_i_0 rfl ?_
  refine r_put (ty := .int) (ws' := [(h, oX8 A holding wool days (0 : Int32) padMany acts drawnBits drawnMany drawnNow badAct badWhy drawnAct drawnChild keptAt isWriting)]) C dX8_forget_7 fw_X8_forget_X8 tyX8 tyX8_ok nmX8 0 rfl rfl 8 (by decide) rfl fl_X8_forget_274 rfl (by decide +kernel) rfl rfl (Nat.le_of_ble_eq_true rfl) rfl rfl ?_
  refine r_iload_n C dX8_forget_10 rfl 0 rfl rfl ?_
  cases hf
  exact r_iret C dX8_forget_11 rfl
abbrev rm_X8_feltBy : Jvm.Room := { frames := 1, cells := 0, slots := 0, locals := 21 }
def f_X8_feltBy (u0 : Int32) (u1 : Int32) : Option (Int32) := (f_X8_off (u0 / (100 : Int32)) u1).bind (fun r1 => if 0 ≤ (((u0 / (10 : Int32)) - (u0 / (10 : Int32)) / (10 : Int32) * (10 : Int32)) - ((u0 - u0 / (10 : Int32) * (10 : Int32)) * r1)) then some ((((u0 / (10 : Int32)) - (u0 / (10 : Int32)) / (10 : Int32) * (10 : Int32)) - ((u0 - u0 / (10 : Int32) * (10 : Int32)) * r1))) else some ((0 : Int32)))
set_option maxHeartbeats 4000000 in
set_option maxRecDepth 100000 in
theorem c_X8_feltBy (l : Launch) (D : va_G) (cI cZ cG : ClassId) (u0 : Int32) (u1 : Int32) (res : Int32) (hf : f_X8_feltBy u0 u1 = some res) : CI l D (tysW cI cZ cG) yX8_feltBy wsX8_feltBy rm_X8_feltBy [.int u0, .int u1] [] res [] := by
  refine CG.intro (own := RX8) (by decide +kernel) rfl rfl (Nat.le_of_ble_eq_true rfl) (fun p e s m args below meth c C => ?_)
  refine r_lv (lv' := [(0, .int u0), (1, .int u1)]) [0, 1] rfl ?_
  unfold f_X8_feltBy at hf
  refine r_iload_n C dX8_feltBy_0 rfl 0 rfl rfl ?_
  refine r_bipush C dX8_feltBy_1 kk_b_10 rfl ?_
  refine r_idiv C dX8_feltBy_3 (by decide) rfl ?_
  refine r_bipush C dX8_feltBy_4 kk_b_10 rfl ?_
  refine r_irem C dX8_feltBy_6 (by decide) rfl ?_
  refine r_iload_n C dX8_feltBy_7 rfl 0 rfl rfl ?_
  refine r_bipush C dX8_feltBy_8 kk_b_10 rfl ?_
  refine r_irem C dX8_feltBy_10 (by decide) rfl ?_
  refine r_iload_n C dX8_feltBy_11 rfl 0 rfl rfl ?_
  refine r_bipush C dX8_feltBy_12 kk_b_100 rfl ?_
  refine r_idiv C dX8_feltBy_14 (by decide) rfl ?_
  refine r_iload_n C dX8_feltBy_15 rfl 1 rfl rfl ?_
  obtain ⟨r1, e1, hf⟩ := gd_b hf
  refine o_I (wn := []) C [] rfl (x_S C dX8_feltBy_16 (c_X8_off l D cI cZ cG (u0 / (100 : Int32)) u1 r1 e1) rfl gX8_feltBy_X8_off hs_X8_off rfl ⟨Nat.le_of_ble_eq_true rfl, Nat.le_of_ble_eq_true rfl⟩ ⟨rfl, rfl⟩ ⟨Nat.zero_le _, Nat.zero_le _⟩ rfl [] rfl rfl (Nat.le_of_ble_eq_true rfl) rfl) rfl rfl rfl ?_
  refine r_imul C dX8_feltBy_19 rfl ?_
  refine r_isub C dX8_feltBy_20 rfl ?_
  refine r_istore_n (lv' := [(2, .int (((u0 / (10 : Int32)) - (u0 / (10 : Int32)) / (10 : Int32) * (10 : Int32)) - ((u0 - u0 / (10 : Int32) * (10 : Int32)) * r1))), (0, .int u0), (1, .int u1)]) C dX8_feltBy_21 rfl (by decide) rfl rfl ?_
  refine r_iload_n C dX8_feltBy_22 rfl 0 rfl rfl ?_
  refine r_if_ge (y := 0) (tgt := 30) C dX8_feltBy_23 rfl rfl (fun c2 => ?_) (fun c2 => ?_)
  · have hf := gd_t c2 hf
    refine r_iload_n C dX8_feltBy_30 rfl 0 rfl rfl ?_
    cases hf
    exact r_iret C dX8_feltBy_31 rfl
  · have hf := gd_f c2 hf
    refine r_iconst C dX8_feltBy_26 kk_i_0 rfl ?_
    refine r_goto (tgt := 31) C dX8_feltBy_27 rfl ?_
    cases hf
    exact r_iret C dX8_feltBy_31 rfl
theorem fw_X8_isFit_X8 : ∀ w ∈ u_ws RX8 TX8 37, w ∈ wsX8_isFit := by decide +kernel
theorem fl_X8_isFit_274 : Cond.fieldLink RX8 274 "MittenLineModel" "sights" "I" ∈ wsX8_isFit := by decide +kernel
theorem fl_X8_isFit_19 : Cond.fieldLink RX8 19 "MittenLineModel" "sightChild" "[I" ∈ wsX8_isFit := by decide +kernel
theorem fl_X8_isFit_22 : Cond.fieldLink RX8 22 "MittenLineModel" "sightFelt" "[I" ∈ wsX8_isFit := by decide +kernel
theorem wc_X8_isFit_240 : Cond.constantLong RX8 240 (3 : Int64) ∈ wsX8_isFit := by decide +kernel
abbrev rm_X8_isFit : Jvm.Room := { frames := 2, cells := 0, slots := 0, locals := 43 }
def f_X8_isFit_33 (u1 : Int32) (sightChild : Nat → Int32) (sightFelt : Nat → Int32) (sights : Int32) : Nat → Int32 → Int32 → Option (Int32)
  | 0, _, _ => none
  | n + 1, u2, u3 => if sights ≤ u3 then if u2 &&& 1 = u2 then some (u2) else none else if u2 = 0 then if u2 &&& 1 = u2 then some (u2) else none else if u3 < 0 ∨ 8 ≤ u3.toNatClampNeg then none else (f_X8_feltBy u1 (sightChild u3.toNatClampNeg)).bind (fun r7 => if r7 = (sightFelt u3.toNatClampNeg) then f_X8_isFit_33 u1 sightChild sightFelt sights n (1 : Int32) (u3 + (1 : Int32)) else f_X8_isFit_33 u1 sightChild sightFelt sights n (0 : Int32) (u3 + (1 : Int32)))
set_option maxHeartbeats 4000000 in
set_option maxRecDepth 100000 in
theorem k_X8_isFit_33 (C : Cx p s m args meth c D (tysW cI cZ cG) RX8 cX8_isFit 4 wsX8_isFit (some .boolean)) (h : Nat) (A : Nat → Nat) (holding : Int32) (wool : Int32) (days : Int32) (sightChild : Nat → Int32) (sightFelt : Nat → Int32) (sights : Int32) (padMany : Int32) (acts : Int32) (drawnBits : Int32) (drawnMany : Int32) (drawnNow : Int32) (badAct : Int32) (badWhy : Int32) (drawnAct : Int32) (drawnChild : Int32) (keptAt : Int32) (isWriting : Int32) (u1 : Int32)  (res : Int32) : ∀ (n : Nat) (u2 : Int32) (u3 : Int32), f_X8_isFit_33 u1 sightChild sightFelt sights n u2 u3 = some res → Wd p l e rm_X8_isFit s m args below meth c D w0 4 0 0 (MQ below (QcI D (tysW cI cZ cG) w0 [(h, oX8 A holding wool days sights padMany acts drawnBits drawnMany drawnNow badAct badWhy drawnAct drawnChild keptAt isWriting), ((A 6), aI cI 8 sightChild), ((A 7), aI cI 8 sightFelt)] res s.heap.size) args s 0 0 (va_A w0 s.heap.size)) [(h, oX8 A holding wool days sights padMany acts drawnBits drawnMany drawnNow badAct badWhy drawnAct drawnChild keptAt isWriting), ((A 6), aI cI 8 sightChild), ((A 7), aI cI 8 sightFelt)] [(0, .ref h), (1, .int u1), (2, .int u2), (3, .int u3)] 33 [] := by
  intro n
  induction n with
  | zero =>
    intro u2 u3 hf
    exact no_none hf
  | succ n ih =>
    intro u2 u3 hf
    unfold f_X8_isFit_33 at hf
    refine r_iload_n C dX8_isFit_33 rfl 3 rfl rfl ?_
    refine r_aload_n C dX8_isFit_34 rfl 0 rfl rfl ?_
    refine r_get C dX8_isFit_35 fw_X8_isFit_X8 0 rfl rfl 8 (by decide) rfl fl_X8_isFit_274 rfl rfl ?_
    refine r_icmp_ge (tgt := 76) C dX8_isFit_38 rfl rfl (fun c2 => ?_) (fun c2 => ?_)
    · have hf := gd_t c2 hf
      refine r_iload_n C dX8_isFit_76 rfl 2 rfl rfl ?_
      obtain ⟨z3, hf⟩ := gd_p hf
      cases hf
      exact r_zret C dX8_isFit_77 (nb_of z3) rfl
    · have hf := gd_f c2 hf
      refine r_iload_n C dX8_isFit_41 rfl 2 rfl rfl ?_
      refine r_if_eq (y := 0) (tgt := 76) C dX8_isFit_42 rfl rfl (fun c4 => ?_) (fun c4 => ?_)
      · have hf := gd_t c4 hf
        refine r_iload_n C dX8_isFit_76 rfl 2 rfl rfl ?_
        obtain ⟨z5, hf⟩ := gd_p hf
        cases hf
        exact r_zret C dX8_isFit_77 (nb_of z5) rfl
      · have hf := gd_f c4 hf
        refine r_iload_n C dX8_isFit_45 rfl 1 rfl rfl ?_
        refine r_aload_n C dX8_isFit_46 rfl 0 rfl rfl ?_
        refine r_get C dX8_isFit_47 fw_X8_isFit_X8 0 rfl rfl 6 (by decide) rfl fl_X8_isFit_19 rfl rfl ?_
        refine r_iload_n C dX8_isFit_50 rfl 3 rfl rfl ?_
        obtain ⟨g6, hf⟩ := gd_n hf
        refine r_iald C dX8_isFit_51 1 0 rfl rfl g6 rfl ?_
        obtain ⟨r7, e7, hf⟩ := gd_b hf
        refine o_I (wn := [(h, oX8 A holding wool days sights padMany acts drawnBits drawnMany drawnNow badAct badWhy drawnAct drawnChild keptAt isWriting), ((A 6), aI cI 8 sightChild), ((A 7), aI cI 8 sightFelt)]) C [] rfl (x_S C dX8_isFit_52 (c_X8_feltBy l D cI cZ cG u1 (sightChild u3.toNatClampNeg) r7 e7) rfl gX8_isFit_X8_feltBy hs_X8_feltBy rfl ⟨Nat.le_of_ble_eq_true rfl, Nat.le_of_ble_eq_true rfl⟩ ⟨rfl, rfl⟩ ⟨Nat.zero_le _, Nat.zero_le _⟩ rfl [] rfl rfl (Nat.le_of_ble_eq_true rfl) rfl) rfl rfl rfl ?_
        refine r_aload_n C dX8_isFit_55 rfl 0 rfl rfl ?_
        refine r_get C dX8_isFit_56 fw_X8_isFit_X8 0 rfl rfl 7 (by decide) rfl fl_X8_isFit_22 rfl rfl ?_
        refine r_iload_n C dX8_isFit_59 rfl 3 rfl rfl ?_
        refine r_iald C dX8_isFit_60 2 0 rfl rfl g6 rfl ?_
        refine r_icmp_ne (tgt := 68) C dX8_isFit_61 rfl rfl (fun c8 => ?_) (fun c8 => ?_)
        · have hf := gd_f c8 hf
          refine r_iconst C dX8_isFit_68 kk_i_0 rfl ?_
          refine r_istore_n (lv' := [(2, .int (0 : Int32)), (0, .ref h), (1, .int u1), (3, .int u3)]) C dX8_isFit_69 rfl (by decide) rfl rfl ?_
          refine r_iinc (lv' := [(3, .int (u3 + (1 : Int32))), (2, .int (0 : Int32)), (0, .ref h), (1, .int u1)]) C dX8_isFit_70 3 rfl (ki_1 _) (by decide) rfl rfl ?_
          refine r_goto (tgt := 33) C dX8_isFit_73 rfl ?_
          refine r_lv (lv' := [(0, .ref h), (1, .int u1), (2, .int (0 : Int32)), (3, .int (u3 + (1 : Int32)))]) [2, 3, 1, 0] rfl ?_
          exact ih _ _ hf
        · have hf := gd_t c8 hf
          refine r_iconst C dX8_isFit_64 kk_i_1 rfl ?_
          refine r_goto (tgt := 69) C dX8_isFit_65 rfl ?_
          refine r_istore_n (lv' := [(2, .int (1 : Int32)), (0, .ref h), (1, .int u1), (3, .int u3)]) C dX8_isFit_69 rfl (by decide) rfl rfl ?_
          refine r_iinc (lv' := [(3, .int (u3 + (1 : Int32))), (2, .int (1 : Int32)), (0, .ref h), (1, .int u1)]) C dX8_isFit_70 3 rfl (ki_1 _) (by decide) rfl rfl ?_
          refine r_goto (tgt := 33) C dX8_isFit_73 rfl ?_
          refine r_lv (lv' := [(0, .ref h), (1, .int u1), (2, .int (1 : Int32)), (3, .int (u3 + (1 : Int32)))]) [2, 3, 1, 0] rfl ?_
          exact ih _ _ hf
def f_X8_isFit (sightChild : Nat → Int32) (sightFelt : Nat → Int32) (sights : Int32) (u1 : Int32) : Option (Int32) := if ((u1 / (10 : Int32)) - (u1 / (10 : Int32)) / (10 : Int32) * (10 : Int32)) ≤ 0 then f_X8_isFit_33 u1 sightChild sightFelt sights 2000 (0 : Int32) (0 : Int32) else (f_X8_in (u1 - u1 / (10 : Int32) * (10 : Int32)).toInt64 (1 : Int64) (3 : Int64)).bind (fun r9 => if r9 = 0 then f_X8_isFit_33 u1 sightChild sightFelt sights 2000 (0 : Int32) (0 : Int32) else f_X8_isFit_33 u1 sightChild sightFelt sights 2000 (1 : Int32) (0 : Int32))
set_option maxHeartbeats 4000000 in
set_option maxRecDepth 100000 in
theorem c_X8_isFit (l : Launch) (D : va_G) (cI cZ cG : ClassId) (h : Nat) (A : Nat → Nat) (holding : Int32) (wool : Int32) (days : Int32) (sightChild : Nat → Int32) (sightFelt : Nat → Int32) (sights : Int32) (padMany : Int32) (acts : Int32) (drawnBits : Int32) (drawnMany : Int32) (drawnNow : Int32) (badAct : Int32) (badWhy : Int32) (drawnAct : Int32) (drawnChild : Int32) (keptAt : Int32) (isWriting : Int32) (u1 : Int32) (res : Int32) (hf : f_X8_isFit sightChild sightFelt sights u1 = some res) : CI l D (tysW cI cZ cG) yX8_isFit wsX8_isFit rm_X8_isFit [.ref h, .int u1] [(h, oX8 A holding wool days sights padMany acts drawnBits drawnMany drawnNow badAct badWhy drawnAct drawnChild keptAt isWriting), ((A 6), aI cI 8 sightChild), ((A 7), aI cI 8 sightFelt)] res [(h, oX8 A holding wool days sights padMany acts drawnBits drawnMany drawnNow badAct badWhy drawnAct drawnChild keptAt isWriting), ((A 6), aI cI 8 sightChild), ((A 7), aI cI 8 sightFelt)] := by
  refine CG.intro (own := RX8) (by decide +kernel) rfl rfl (Nat.le_of_ble_eq_true rfl) (fun p e s m args below meth c C => ?_)
  refine r_lv (lv' := [(0, .ref h), (1, .int u1)]) [0, 1] rfl ?_
  unfold f_X8_isFit at hf
  refine r_iload_n C dX8_isFit_0 rfl 1 rfl rfl ?_
  refine r_bipush C dX8_isFit_1 kk_b_10 rfl ?_
  refine r_idiv C dX8_isFit_3 (by decide) rfl ?_
  refine r_bipush C dX8_isFit_4 kk_b_10 rfl ?_
  refine r_irem C dX8_isFit_6 (by decide) rfl ?_
  refine r_if_le (y := 0) (tgt := 29) C dX8_isFit_7 rfl rfl (fun c1 => ?_) (fun c1 => ?_)
  · have hf := gd_t c1 hf
    refine r_iconst C dX8_isFit_29 kk_i_0 rfl ?_
    refine r_istore_n (lv' := [(2, .int (0 : Int32)), (0, .ref h), (1, .int u1)]) C dX8_isFit_30 rfl (by decide) rfl rfl ?_
    refine r_iconst C dX8_isFit_31 kk_i_0 rfl ?_
    refine r_istore_n (lv' := [(3, .int (0 : Int32)), (2, .int (0 : Int32)), (0, .ref h), (1, .int u1)]) C dX8_isFit_32 rfl (by decide) rfl rfl ?_
    refine r_lv (lv' := [(0, .ref h), (1, .int u1), (2, .int (0 : Int32)), (3, .int (0 : Int32))]) [2, 3, 1, 0] rfl ?_
    refine k_X8_isFit_33 C h A holding wool days sightChild sightFelt sights padMany acts drawnBits drawnMany drawnNow badAct badWhy drawnAct drawnChild keptAt isWriting u1 _ 2000 _ _ hf
  · have hf := gd_f c1 hf
    refine r_iload_n C dX8_isFit_10 rfl 1 rfl rfl ?_
    refine r_bipush C dX8_isFit_11 kk_b_10 rfl ?_
    refine r_irem C dX8_isFit_13 (by decide) rfl ?_
    refine r_i2l C dX8_isFit_14 rfl ?_
    refine r_lconst (v := (1 : Int64)) C dX8_isFit_15 rfl rfl ?_
    refine r_ldc2 C dX8_isFit_16 wc_X8_isFit_240 rfl ?_
    obtain ⟨r9, e9, hf⟩ := gd_b hf
    refine o_I (wn := [(h, oX8 A holding wool days sights padMany acts drawnBits drawnMany drawnNow badAct badWhy drawnAct drawnChild keptAt isWriting), ((A 6), aI cI 8 sightChild), ((A 7), aI cI 8 sightFelt)]) C [] rfl (x_S C dX8_isFit_19 (c_X8_in l D cI cZ cG (u1 - u1 / (10 : Int32) * (10 : Int32)).toInt64 (1 : Int64) (3 : Int64) r9 e9) rfl gX8_isFit_X8_in hs_X8_in rfl ⟨Nat.le_of_ble_eq_true rfl, Nat.le_of_ble_eq_true rfl⟩ ⟨rfl, rfl⟩ ⟨Nat.zero_le _, Nat.zero_le _⟩ rfl [] rfl rfl (Nat.le_of_ble_eq_true rfl) rfl) rfl rfl rfl ?_
    refine r_if_eq (y := 0) (tgt := 29) C dX8_isFit_22 rfl rfl (fun c10 => ?_) (fun c10 => ?_)
    · have hf := gd_t c10 hf
      refine r_iconst C dX8_isFit_29 kk_i_0 rfl ?_
      refine r_istore_n (lv' := [(2, .int (0 : Int32)), (0, .ref h), (1, .int u1)]) C dX8_isFit_30 rfl (by decide) rfl rfl ?_
      refine r_iconst C dX8_isFit_31 kk_i_0 rfl ?_
      refine r_istore_n (lv' := [(3, .int (0 : Int32)), (2, .int (0 : Int32)), (0, .ref h), (1, .int u1)]) C dX8_isFit_32 rfl (by decide) rfl rfl ?_
      refine r_lv (lv' := [(0, .ref h), (1, .int u1), (2, .int (0 : Int32)), (3, .int (0 : Int32))]) [2, 3, 1, 0] rfl ?_
      refine k_X8_isFit_33 C h A holding wool days sightChild sightFelt sights padMany acts drawnBits drawnMany drawnNow badAct badWhy drawnAct drawnChild keptAt isWriting u1 _ 2000 _ _ hf
    · have hf := gd_f c10 hf
      refine r_iconst C dX8_isFit_25 kk_i_1 rfl ?_
      refine r_goto (tgt := 30) C dX8_isFit_26 rfl ?_
      refine r_istore_n (lv' := [(2, .int (1 : Int32)), (0, .ref h), (1, .int u1)]) C dX8_isFit_30 rfl (by decide) rfl rfl ?_
      refine r_iconst C dX8_isFit_31 kk_i_0 rfl ?_
      refine r_istore_n (lv' := [(3, .int (0 : Int32)), (2, .int (1 : Int32)), (0, .ref h), (1, .int u1)]) C dX8_isFit_32 rfl (by decide) rfl rfl ?_
      refine r_lv (lv' := [(0, .ref h), (1, .int u1), (2, .int (1 : Int32)), (3, .int (0 : Int32))]) [2, 3, 1, 0] rfl ?_
      refine k_X8_isFit_33 C h A holding wool days sightChild sightFelt sights padMany acts drawnBits drawnMany drawnNow badAct badWhy drawnAct drawnChild keptAt isWriting u1 _ 2000 _ _ hf
abbrev rm_X8_fits : Jvm.Room := { frames := 3, cells := 0, slots := 0, locals := 66 }
def f_X8_fits_4 (u1 : Int32) (sightChild : Nat → Int32) (sightFelt : Nat → Int32) (sights : Int32) (kx35 : Int32 → Option (Int32)) : Nat → Int32 → Int32 → Option (Int32)
  | 0, _, _ => none
  | n + 1, u2, u3 => if (1000 : Int32) ≤ u3 then kx35 u2 else (f_X8_isFit sightChild sightFelt sights u3).bind (fun r2 => if r2 = 0 then f_X8_fits_4 u1 sightChild sightFelt sights kx35 n u2 (u3 + (1 : Int32)) else if u2 = u1 then some (u3) else f_X8_fits_4 u1 sightChild sightFelt sights kx35 n (u2 + (1 : Int32)) (u3 + (1 : Int32)))
set_option maxHeartbeats 4000000 in
set_option maxRecDepth 100000 in
theorem k_X8_fits_4 (C : Cx p s m args meth c D (tysW cI cZ cG) RX8 cX8_fits 4 wsX8_fits (some .int)) (h : Nat) (A : Nat → Nat) (holding : Int32) (wool : Int32) (days : Int32) (sightChild : Nat → Int32) (sightFelt : Nat → Int32) (sights : Int32) (padMany : Int32) (acts : Int32) (drawnBits : Int32) (drawnMany : Int32) (drawnNow : Int32) (badAct : Int32) (badWhy : Int32) (drawnAct : Int32) (drawnChild : Int32) (keptAt : Int32) (isWriting : Int32) (u1 : Int32)  (kx35 : Int32 → Option (Int32)) (res : Int32) (hkx35 : ∀ (u2 : Int32) , kx35 u2 = some res → Wd p l e rm_X8_fits s m args below meth c D w0 4 0 0 (MQ below (QcI D (tysW cI cZ cG) w0 [(h, oX8 A holding wool days sights padMany acts drawnBits drawnMany drawnNow badAct badWhy drawnAct drawnChild keptAt isWriting), ((A 6), aI cI 8 sightChild), ((A 7), aI cI 8 sightFelt)] res s.heap.size) args s 0 0 (va_A w0 s.heap.size)) [(h, oX8 A holding wool days sights padMany acts drawnBits drawnMany drawnNow badAct badWhy drawnAct drawnChild keptAt isWriting), ((A 6), aI cI 8 sightChild), ((A 7), aI cI 8 sightFelt)] [(1, .int u1), (2, .int u2)] 35 []) : ∀ (n : Nat) (u2 : Int32) (u3 : Int32), f_X8_fits_4 u1 sightChild sightFelt sights kx35 n u2 u3 = some res → Wd p l e rm_X8_fits s m args below meth c D w0 4 0 0 (MQ below (QcI D (tysW cI cZ cG) w0 [(h, oX8 A holding wool days sights padMany acts drawnBits drawnMany drawnNow badAct badWhy drawnAct drawnChild keptAt isWriting), ((A 6), aI cI 8 sightChild), ((A 7), aI cI 8 sightFelt)] res s.heap.size) args s 0 0 (va_A w0 s.heap.size)) [(h, oX8 A holding wool days sights padMany acts drawnBits drawnMany drawnNow badAct badWhy drawnAct drawnChild keptAt isWriting), ((A 6), aI cI 8 sightChild), ((A 7), aI cI 8 sightFelt)] [(0, .ref h), (1, .int u1), (2, .int u2), (3, .int u3)] 4 [] := by
  intro n
  induction n with
  | zero =>
    intro u2 u3 hf
    exact no_none hf
  | succ n ih =>
    intro u2 u3 hf
    unfold f_X8_fits_4 at hf
    refine r_iload_n C dX8_fits_4 rfl 3 rfl rfl ?_
    refine r_sipush C dX8_fits_5 kk_s_1000 rfl ?_
    refine r_icmp_ge (tgt := 35) C dX8_fits_8 rfl rfl (fun c1 => ?_) (fun c1 => ?_)
    · have hf := gd_t c1 hf
      refine r_lv (lv' := [(1, .int u1), (2, .int u2)]) [1, 2] rfl ?_
      exact hkx35 _ hf
    · have hf := gd_f c1 hf
      refine r_aload_n C dX8_fits_11 rfl 0 rfl rfl ?_
      refine r_iload_n C dX8_fits_12 rfl 3 rfl rfl ?_
      obtain ⟨r2, e2, hf⟩ := gd_b hf
      refine o_I (wn := [(h, oX8 A holding wool days sights padMany acts drawnBits drawnMany drawnNow badAct badWhy drawnAct drawnChild keptAt isWriting), ((A 6), aI cI 8 sightChild), ((A 7), aI cI 8 sightFelt)]) C [0, 1, 2] rfl (x_V C dX8_fits_13 (c_X8_isFit l D cI cZ cG h A holding wool days sightChild sightFelt sights padMany acts drawnBits drawnMany drawnNow badAct badWhy drawnAct drawnChild keptAt isWriting u3 r2 e2) rfl gX8_fits_X8_isFit hd_X8_isFit rfl ⟨Nat.le_of_ble_eq_true rfl, Nat.le_of_ble_eq_true rfl⟩ ⟨rfl, rfl⟩ ⟨Nat.zero_le _, Nat.zero_le _⟩ rfl [0, 1, 2] rfl rfl 0 rfl rfl (Nat.le_of_ble_eq_true rfl) rfl) rfl rfl rfl ?_
      refine r_if_eq (y := 0) (tgt := 29) C dX8_fits_16 rfl rfl (fun c3 => ?_) (fun c3 => ?_)
      · have hf := gd_t c3 hf
        refine r_iinc (lv' := [(3, .int (u3 + (1 : Int32))), (0, .ref h), (1, .int u1), (2, .int u2)]) C dX8_fits_29 3 rfl (ki_1 _) (by decide) rfl rfl ?_
        refine r_goto (tgt := 4) C dX8_fits_32 rfl ?_
        refine r_lv (lv' := [(0, .ref h), (1, .int u1), (2, .int u2), (3, .int (u3 + (1 : Int32)))]) [1, 2, 3, 0] rfl ?_
        exact ih _ _ hf
      · have hf := gd_f c3 hf
        refine r_iload_n C dX8_fits_19 rfl 2 rfl rfl ?_
        refine r_iload_n C dX8_fits_20 rfl 1 rfl rfl ?_
        refine r_icmp_ne (tgt := 26) C dX8_fits_21 rfl rfl (fun c4 => ?_) (fun c4 => ?_)
        · have hf := gd_f c4 hf
          refine r_iinc (lv' := [(2, .int (u2 + (1 : Int32))), (0, .ref h), (1, .int u1), (3, .int u3)]) C dX8_fits_26 2 rfl (ki_1 _) (by decide) rfl rfl ?_
          refine r_iinc (lv' := [(3, .int (u3 + (1 : Int32))), (2, .int (u2 + (1 : Int32))), (0, .ref h), (1, .int u1)]) C dX8_fits_29 3 rfl (ki_1 _) (by decide) rfl rfl ?_
          refine r_goto (tgt := 4) C dX8_fits_32 rfl ?_
          refine r_lv (lv' := [(0, .ref h), (1, .int u1), (2, .int (u2 + (1 : Int32))), (3, .int (u3 + (1 : Int32)))]) [2, 3, 1, 0] rfl ?_
          exact ih _ _ hf
        · have hf := gd_t c4 hf
          refine r_iload_n C dX8_fits_24 rfl 3 rfl rfl ?_
          cases hf
          exact r_iret C dX8_fits_25 rfl
def f_X8_fits (sightChild : Nat → Int32) (sightFelt : Nat → Int32) (sights : Int32) (u1 : Int32) : Option (Int32) := f_X8_fits_4 u1 sightChild sightFelt sights (fun u2_5 => if u1 = (-1 : Int32) then some (u2_5) else some ((-6 : Int32))) 2000 (0 : Int32) (0 : Int32)
set_option maxHeartbeats 4000000 in
set_option maxRecDepth 100000 in
theorem c_X8_fits (l : Launch) (D : va_G) (cI cZ cG : ClassId) (h : Nat) (A : Nat → Nat) (holding : Int32) (wool : Int32) (days : Int32) (sightChild : Nat → Int32) (sightFelt : Nat → Int32) (sights : Int32) (padMany : Int32) (acts : Int32) (drawnBits : Int32) (drawnMany : Int32) (drawnNow : Int32) (badAct : Int32) (badWhy : Int32) (drawnAct : Int32) (drawnChild : Int32) (keptAt : Int32) (isWriting : Int32) (u1 : Int32) (res : Int32) (hf : f_X8_fits sightChild sightFelt sights u1 = some res) : CI l D (tysW cI cZ cG) yX8_fits wsX8_fits rm_X8_fits [.ref h, .int u1] [(h, oX8 A holding wool days sights padMany acts drawnBits drawnMany drawnNow badAct badWhy drawnAct drawnChild keptAt isWriting), ((A 6), aI cI 8 sightChild), ((A 7), aI cI 8 sightFelt)] res [(h, oX8 A holding wool days sights padMany acts drawnBits drawnMany drawnNow badAct badWhy drawnAct drawnChild keptAt isWriting), ((A 6), aI cI 8 sightChild), ((A 7), aI cI 8 sightFelt)] := by
  refine CG.intro (own := RX8) (by decide +kernel) rfl rfl (Nat.le_of_ble_eq_true rfl) (fun p e s m args below meth c C => ?_)
  refine r_lv (lv' := [(0, .ref h), (1, .int u1)]) [0, 1] rfl ?_
  unfold f_X8_fits at hf
  refine r_iconst C dX8_fits_0 kk_i_0 rfl ?_
  refine r_istore_n (lv' := [(2, .int (0 : Int32)), (0, .ref h), (1, .int u1)]) C dX8_fits_1 rfl (by decide) rfl rfl ?_
  refine r_iconst C dX8_fits_2 kk_i_0 rfl ?_
  refine r_istore_n (lv' := [(3, .int (0 : Int32)), (2, .int (0 : Int32)), (0, .ref h), (1, .int u1)]) C dX8_fits_3 rfl (by decide) rfl rfl ?_
  refine r_lv (lv' := [(0, .ref h), (1, .int u1), (2, .int (0 : Int32)), (3, .int (0 : Int32))]) [2, 3, 1, 0] rfl ?_
  refine k_X8_fits_4 C h A holding wool days sightChild sightFelt sights padMany acts drawnBits drawnMany drawnNow badAct badWhy drawnAct drawnChild keptAt isWriting u1 _ _ ?_ 2000 _ _ hf
  · intro u2_5 hf
    refine r_iload_n C dX8_fits_35 rfl 0 rfl rfl ?_
    refine r_iconst C dX8_fits_36 kk_i_m1 rfl ?_
    refine r_icmp_ne (tgt := 44) C dX8_fits_37 rfl rfl (fun c6 => ?_) (fun c6 => ?_)
    · have hf := gd_f c6 hf
      refine r_bipush C dX8_fits_44 kk_b_m6 rfl ?_
      cases hf
      exact r_iret C dX8_fits_46 rfl
    · have hf := gd_t c6 hf
      refine r_iload_n C dX8_fits_40 rfl 1 rfl rfl ?_
      refine r_goto (tgt := 46) C dX8_fits_41 rfl ?_
      cases hf
      exact r_iret C dX8_fits_46 rfl
theorem fw_X8_mostLeft_X8 : ∀ w ∈ u_ws RX8 TX8 37, w ∈ wsX8_mostLeft := by decide +kernel
theorem fl_X8_mostLeft_64 : Cond.fieldLink RX8 64 "MittenLineModel" "byFelt" "[I" ∈ wsX8_mostLeft := by decide +kernel
abbrev rm_X8_mostLeft : Jvm.Room := { frames := 3, cells := 0, slots := 0, locals := 66 }
def f_X8_mostLeft_4 (kx23 : (Nat → Int32) → Option (Int32 × (Nat → Int32))) : Nat → Int32 → (Nat → Int32) → Option (Int32 × (Nat → Int32))
  | 0, _, _ => none
  | n + 1, u3, byFelt => if (10 : Int32) ≤ u3 then kx23 byFelt else if u3 < 0 ∨ 10 ≤ u3.toNatClampNeg then none else f_X8_mostLeft_4 kx23 n (u3 + (1 : Int32)) (upd byFelt u3.toNatClampNeg (0 : Int32))
set_option maxHeartbeats 4000000 in
set_option maxRecDepth 100000 in
theorem k_X8_mostLeft_4 (C : Cx p s m args meth c D (tysW cI cZ cG) RX8 cX8_mostLeft 5 wsX8_mostLeft (some .int)) (h : Nat) (A : Nat → Nat) (holding : Int32) (wool : Int32) (days : Int32) (sightChild : Nat → Int32) (sightFelt : Nat → Int32) (sights : Int32) (padMany : Int32) (acts : Int32) (drawnBits : Int32) (drawnMany : Int32) (drawnNow : Int32) (badAct : Int32) (badWhy : Int32) (drawnAct : Int32) (drawnChild : Int32) (keptAt : Int32) (isWriting : Int32) (u1 : Int32) (u2 : Int32)  (kx23 : (Nat → Int32) → Option (Int32 × (Nat → Int32))) (res : Int32 × (Nat → Int32)) (hkx23 : ∀ (byFelt : Nat → Int32) , kx23 byFelt = some res → Wd p l e rm_X8_mostLeft s m args below meth c D w0 5 0 0 (MQ below (QcI D (tysW cI cZ cG) w0 [(h, oX8 A holding wool days sights padMany acts drawnBits drawnMany drawnNow badAct badWhy drawnAct drawnChild keptAt isWriting), ((A 6), aI cI 8 sightChild), ((A 7), aI cI 8 sightFelt), ((A 31), aI cI 10 res.2)] res.1 s.heap.size) args s 0 0 (va_A w0 s.heap.size)) [(h, oX8 A holding wool days sights padMany acts drawnBits drawnMany drawnNow badAct badWhy drawnAct drawnChild keptAt isWriting), ((A 6), aI cI 8 sightChild), ((A 7), aI cI 8 sightFelt), ((A 31), aI cI 10 byFelt)] [(0, .ref h), (1, .int u1), (2, .int u2)] 23 []) : ∀ (n : Nat) (u3 : Int32) (byFelt : Nat → Int32), f_X8_mostLeft_4 kx23 n u3 byFelt = some res → Wd p l e rm_X8_mostLeft s m args below meth c D w0 5 0 0 (MQ below (QcI D (tysW cI cZ cG) w0 [(h, oX8 A holding wool days sights padMany acts drawnBits drawnMany drawnNow badAct badWhy drawnAct drawnChild keptAt isWriting), ((A 6), aI cI 8 sightChild), ((A 7), aI cI 8 sightFelt), ((A 31), aI cI 10 res.2)] res.1 s.heap.size) args s 0 0 (va_A w0 s.heap.size)) [(h, oX8 A holding wool days sights padMany acts drawnBits drawnMany drawnNow badAct badWhy drawnAct drawnChild keptAt isWriting), ((A 6), aI cI 8 sightChild), ((A 7), aI cI 8 sightFelt), ((A 31), aI cI 10 byFelt)] [(0, .ref h), (1, .int u1), (2, .int u2), (3, .int u3)] 4 [] := by
  intro n
  induction n with
  | zero =>
    intro u3 byFelt hf
    exact no_none hf
  | succ n ih =>
    intro u3 byFelt hf
    unfold f_X8_mostLeft_4 at hf
    refine r_iload_n C dX8_mostLeft_4 rfl 3 rfl rfl ?_
    refine r_bipush C dX8_mostLeft_5 kk_b_10 rfl ?_
    refine r_icmp_ge (tgt := 23) C dX8_mostLeft_7 rfl rfl (fun c1 => ?_) (fun c1 => ?_)
    · have hf := gd_t c1 hf
      refine r_lv (lv' := [(0, .ref h), (1, .int u1), (2, .int u2)]) [0, 1, 2] rfl ?_
      exact hkx23 _ hf
    · have hf := gd_f c1 hf
      refine r_aload_n C dX8_mostLeft_10 rfl 0 rfl rfl ?_
      refine r_get C dX8_mostLeft_11 fw_X8_mostLeft_X8 0 rfl rfl 31 (by decide) rfl fl_X8_mostLeft_64 rfl rfl ?_
      refine r_iload_n C dX8_mostLeft_14 rfl 3 rfl rfl ?_
      refine r_iconst C dX8_mostLeft_15 kk_i_0 rfl ?_
      obtain ⟨g2, hf⟩ := gd_n hf
      refine r_iast (ws' := [(h, oX8 A holding wool days sights padMany acts drawnBits drawnMany drawnNow badAct badWhy drawnAct drawnChild keptAt isWriting), ((A 6), aI cI 8 sightChild), ((A 7), aI cI 8 sightFelt), ((A 31), aI cI 10 (upd byFelt u3.toNatClampNeg (0 : Int32)))]) C dX8_mostLeft_16 3 0 rfl rfl g2 rfl rfl ?_
      refine r_iinc (lv' := [(3, .int (u3 + (1 : Int32))), (0, .ref h), (1, .int u1), (2, .int u2)]) C dX8_mostLeft_17 3 rfl (ki_1 _) (by decide) rfl rfl ?_
      refine r_goto (tgt := 4) C dX8_mostLeft_20 rfl ?_
      refine r_lv (lv' := [(0, .ref h), (1, .int u1), (2, .int u2), (3, .int (u3 + (1 : Int32)))]) [1, 2, 3, 0] rfl ?_
      exact ih _ _ hf
def f_X8_mostLeft_25 (u1 : Int32) (sightChild : Nat → Int32) (sightFelt : Nat → Int32) (sights : Int32) : Nat → Int32 → Int32 → (Nat → Int32) → Option (Int32 × (Nat → Int32))
  | 0, _, _, _ => none
  | n + 1, u2, u3, byFelt => if (1000 : Int32) ≤ u3 then some (u2, byFelt) else (f_X8_isFit sightChild sightFelt sights u3).bind (fun r5 => if r5 = 0 then f_X8_mostLeft_25 u1 sightChild sightFelt sights n u2 (u3 + (1 : Int32)) byFelt else (f_X8_feltBy u3 u1).bind (fun r7 => if r7 < 0 ∨ 10 ≤ r7.toNatClampNeg then none else if ((upd byFelt r7.toNatClampNeg ((byFelt r7.toNatClampNeg) + (1 : Int32))) r7.toNatClampNeg) ≤ u2 then f_X8_mostLeft_25 u1 sightChild sightFelt sights n u2 (u3 + (1 : Int32)) (upd byFelt r7.toNatClampNeg ((byFelt r7.toNatClampNeg) + (1 : Int32))) else f_X8_mostLeft_25 u1 sightChild sightFelt sights n ((upd byFelt r7.toNatClampNeg ((byFelt r7.toNatClampNeg) + (1 : Int32))) r7.toNatClampNeg) (u3 + (1 : Int32)) (upd byFelt r7.toNatClampNeg ((byFelt r7.toNatClampNeg) + (1 : Int32)))))
set_option maxHeartbeats 4000000 in
set_option maxRecDepth 100000 in
theorem k_X8_mostLeft_25 (C : Cx p s m args meth c D (tysW cI cZ cG) RX8 cX8_mostLeft 5 wsX8_mostLeft (some .int)) (h : Nat) (A : Nat → Nat) (holding : Int32) (wool : Int32) (days : Int32) (sightChild : Nat → Int32) (sightFelt : Nat → Int32) (sights : Int32) (padMany : Int32) (acts : Int32) (drawnBits : Int32) (drawnMany : Int32) (drawnNow : Int32) (badAct : Int32) (badWhy : Int32) (drawnAct : Int32) (drawnChild : Int32) (keptAt : Int32) (isWriting : Int32) (u1 : Int32)  (res : Int32 × (Nat → Int32)) : ∀ (n : Nat) (u2 : Int32) (u3 : Int32) (byFelt : Nat → Int32), f_X8_mostLeft_25 u1 sightChild sightFelt sights n u2 u3 byFelt = some res → Wd p l e rm_X8_mostLeft s m args below meth c D w0 5 0 0 (MQ below (QcI D (tysW cI cZ cG) w0 [(h, oX8 A holding wool days sights padMany acts drawnBits drawnMany drawnNow badAct badWhy drawnAct drawnChild keptAt isWriting), ((A 6), aI cI 8 sightChild), ((A 7), aI cI 8 sightFelt), ((A 31), aI cI 10 res.2)] res.1 s.heap.size) args s 0 0 (va_A w0 s.heap.size)) [(h, oX8 A holding wool days sights padMany acts drawnBits drawnMany drawnNow badAct badWhy drawnAct drawnChild keptAt isWriting), ((A 6), aI cI 8 sightChild), ((A 7), aI cI 8 sightFelt), ((A 31), aI cI 10 byFelt)] [(0, .ref h), (1, .int u1), (2, .int u2), (3, .int u3)] 25 [] := by
  intro n
  induction n with
  | zero =>
    intro u2 u3 byFelt hf
    exact no_none hf
  | succ n ih =>
    intro u2 u3 byFelt hf
    unfold f_X8_mostLeft_25 at hf
    refine r_iload_n C dX8_mostLeft_25 rfl 3 rfl rfl ?_
    refine r_sipush C dX8_mostLeft_26 kk_s_1000 rfl ?_
    refine r_icmp_ge (tgt := 87) C dX8_mostLeft_29 rfl rfl (fun c4 => ?_) (fun c4 => ?_)
    · have hf := gd_t c4 hf
      refine r_iload_n C dX8_mostLeft_87 rfl 2 rfl rfl ?_
      cases hf
      exact r_iret C dX8_mostLeft_88 rfl
    · have hf := gd_f c4 hf
      refine r_aload_n C dX8_mostLeft_32 rfl 0 rfl rfl ?_
      refine r_iload_n C dX8_mostLeft_33 rfl 3 rfl rfl ?_
      obtain ⟨r5, e5, hf⟩ := gd_b hf
      refine o_I (wn := [(h, oX8 A holding wool days sights padMany acts drawnBits drawnMany drawnNow badAct badWhy drawnAct drawnChild keptAt isWriting), ((A 6), aI cI 8 sightChild), ((A 7), aI cI 8 sightFelt), ((A 31), aI cI 10 byFelt)]) C [0, 1, 2] rfl (x_V C dX8_mostLeft_34 (c_X8_isFit l D cI cZ cG h A holding wool days sightChild sightFelt sights padMany acts drawnBits drawnMany drawnNow badAct badWhy drawnAct drawnChild keptAt isWriting u3 r5 e5) rfl gX8_mostLeft_X8_isFit hd_X8_isFit rfl ⟨Nat.le_of_ble_eq_true rfl, Nat.le_of_ble_eq_true rfl⟩ ⟨rfl, rfl⟩ ⟨Nat.zero_le _, Nat.zero_le _⟩ rfl [0, 1, 2] rfl rfl 0 rfl rfl (Nat.le_of_ble_eq_true rfl) rfl) rfl rfl rfl ?_
      refine r_if_eq (y := 0) (tgt := 81) C dX8_mostLeft_37 rfl rfl (fun c6 => ?_) (fun c6 => ?_)
      · have hf := gd_t c6 hf
        refine r_iinc (lv' := [(3, .int (u3 + (1 : Int32))), (0, .ref h), (1, .int u1), (2, .int u2)]) C dX8_mostLeft_81 3 rfl (ki_1 _) (by decide) rfl rfl ?_
        refine r_goto (tgt := 25) C dX8_mostLeft_84 rfl ?_
        refine r_lv (lv' := [(0, .ref h), (1, .int u1), (2, .int u2), (3, .int (u3 + (1 : Int32)))]) [1, 2, 3, 0] rfl ?_
        exact ih _ _ _ hf
      · have hf := gd_f c6 hf
        refine r_iload_n C dX8_mostLeft_40 rfl 3 rfl rfl ?_
        refine r_iload_n C dX8_mostLeft_41 rfl 1 rfl rfl ?_
        obtain ⟨r7, e7, hf⟩ := gd_b hf
        refine o_I (wn := [(h, oX8 A holding wool days sights padMany acts drawnBits drawnMany drawnNow badAct badWhy drawnAct drawnChild keptAt isWriting), ((A 6), aI cI 8 sightChild), ((A 7), aI cI 8 sightFelt), ((A 31), aI cI 10 byFelt)]) C [] rfl (x_S C dX8_mostLeft_42 (c_X8_feltBy l D cI cZ cG u3 u1 r7 e7) rfl gX8_mostLeft_X8_feltBy hs_X8_feltBy rfl ⟨Nat.le_of_ble_eq_true rfl, Nat.le_of_ble_eq_true rfl⟩ ⟨rfl, rfl⟩ ⟨Nat.zero_le _, Nat.zero_le _⟩ rfl [] rfl rfl (Nat.le_of_ble_eq_true rfl) rfl) rfl rfl rfl ?_
        refine r_istore (lv' := [(4, .int r7), (0, .ref h), (1, .int u1), (2, .int u2), (3, .int u3)]) C dX8_mostLeft_45 (by decide) rfl rfl ?_
        refine r_aload_n C dX8_mostLeft_47 rfl 1 rfl rfl ?_
        refine r_get C dX8_mostLeft_48 fw_X8_mostLeft_X8 0 rfl rfl 31 (by decide) rfl fl_X8_mostLeft_64 rfl rfl ?_
        refine r_iload C dX8_mostLeft_51 0 rfl rfl ?_
        refine r_dup2 C dX8_mostLeft_53 rfl rfl rfl ?_
        obtain ⟨g8, hf⟩ := gd_n hf
        refine r_iald C dX8_mostLeft_54 3 0 rfl rfl g8 rfl ?_
        refine r_iconst C dX8_mostLeft_55 kk_i_1 rfl ?_
        refine r_iadd C dX8_mostLeft_56 rfl ?_
        refine r_iast (ws' := [(h, oX8 A holding wool days sights padMany acts drawnBits drawnMany drawnNow badAct badWhy drawnAct drawnChild keptAt isWriting), ((A 6), aI cI 8 sightChild), ((A 7), aI cI 8 sightFelt), ((A 31), aI cI 10 (upd byFelt r7.toNatClampNeg ((byFelt r7.toNatClampNeg) + (1 : Int32))))]) C dX8_mostLeft_57 3 0 rfl rfl g8 rfl rfl ?_
        refine r_aload_n C dX8_mostLeft_58 rfl 1 rfl rfl ?_
        refine r_get C dX8_mostLeft_59 fw_X8_mostLeft_X8 0 rfl rfl 31 (by decide) rfl fl_X8_mostLeft_64 rfl rfl ?_
        refine r_iload C dX8_mostLeft_62 0 rfl rfl ?_
        refine r_iald C dX8_mostLeft_64 3 0 rfl rfl g8 rfl ?_
        refine r_iload_n C dX8_mostLeft_65 rfl 3 rfl rfl ?_
        refine r_icmp_le (tgt := 79) C dX8_mostLeft_66 rfl rfl (fun c9 => ?_) (fun c9 => ?_)
        · have hf := gd_t c9 hf
          refine r_iload_n C dX8_mostLeft_79 rfl 3 rfl rfl ?_
          refine r_istore_n (lv' := [(2, .int u2), (4, .int r7), (0, .ref h), (1, .int u1), (3, .int u3)]) C dX8_mostLeft_80 rfl (by decide) rfl rfl ?_
          refine r_iinc (lv' := [(3, .int (u3 + (1 : Int32))), (2, .int u2), (4, .int r7), (0, .ref h), (1, .int u1)]) C dX8_mostLeft_81 4 rfl (ki_1 _) (by decide) rfl rfl ?_
          refine r_goto (tgt := 25) C dX8_mostLeft_84 rfl ?_
          refine r_lv (lv' := [(0, .ref h), (1, .int u1), (2, .int u2), (3, .int (u3 + (1 : Int32)))]) [3, 4, 1, 0] rfl ?_
          exact ih _ _ _ hf
        · have hf := gd_f c9 hf
          refine r_aload_n C dX8_mostLeft_69 rfl 1 rfl rfl ?_
          refine r_get C dX8_mostLeft_70 fw_X8_mostLeft_X8 0 rfl rfl 31 (by decide) rfl fl_X8_mostLeft_64 rfl rfl ?_
          refine r_iload C dX8_mostLeft_73 0 rfl rfl ?_
          refine r_iald C dX8_mostLeft_75 3 0 rfl rfl g8 rfl ?_
          refine r_goto (tgt := 80) C dX8_mostLeft_76 rfl ?_
          refine r_istore_n (lv' := [(2, .int ((upd byFelt r7.toNatClampNeg ((byFelt r7.toNatClampNeg) + (1 : Int32))) r7.toNatClampNeg)), (4, .int r7), (0, .ref h), (1, .int u1), (3, .int u3)]) C dX8_mostLeft_80 rfl (by decide) rfl rfl ?_
          refine r_iinc (lv' := [(3, .int (u3 + (1 : Int32))), (2, .int ((upd byFelt r7.toNatClampNeg ((byFelt r7.toNatClampNeg) + (1 : Int32))) r7.toNatClampNeg)), (4, .int r7), (0, .ref h), (1, .int u1)]) C dX8_mostLeft_81 4 rfl (ki_1 _) (by decide) rfl rfl ?_
          refine r_goto (tgt := 25) C dX8_mostLeft_84 rfl ?_
          refine r_lv (lv' := [(0, .ref h), (1, .int u1), (2, .int ((upd byFelt r7.toNatClampNeg ((byFelt r7.toNatClampNeg) + (1 : Int32))) r7.toNatClampNeg)), (3, .int (u3 + (1 : Int32)))]) [3, 4, 1, 0] rfl ?_
          exact ih _ _ _ hf
def f_X8_mostLeft (sightChild : Nat → Int32) (sightFelt : Nat → Int32) (sights : Int32) (byFelt : Nat → Int32) (u1 : Int32) : Option (Int32 × (Nat → Int32)) := f_X8_mostLeft_4 (fun byFelt_3 => f_X8_mostLeft_25 u1 sightChild sightFelt sights 2000 (0 : Int32) (0 : Int32) byFelt_3) 2000 (0 : Int32) byFelt
set_option maxHeartbeats 4000000 in
set_option maxRecDepth 100000 in
theorem c_X8_mostLeft (l : Launch) (D : va_G) (cI cZ cG : ClassId) (h : Nat) (A : Nat → Nat) (holding : Int32) (wool : Int32) (days : Int32) (sightChild : Nat → Int32) (sightFelt : Nat → Int32) (sights : Int32) (padMany : Int32) (acts : Int32) (drawnBits : Int32) (drawnMany : Int32) (drawnNow : Int32) (badAct : Int32) (badWhy : Int32) (drawnAct : Int32) (drawnChild : Int32) (byFelt : Nat → Int32) (keptAt : Int32) (isWriting : Int32) (u1 : Int32) (res : Int32 × (Nat → Int32)) (hf : f_X8_mostLeft sightChild sightFelt sights byFelt u1 = some res) : CI l D (tysW cI cZ cG) yX8_mostLeft wsX8_mostLeft rm_X8_mostLeft [.ref h, .int u1] [(h, oX8 A holding wool days sights padMany acts drawnBits drawnMany drawnNow badAct badWhy drawnAct drawnChild keptAt isWriting), ((A 6), aI cI 8 sightChild), ((A 7), aI cI 8 sightFelt), ((A 31), aI cI 10 byFelt)] res.1 [(h, oX8 A holding wool days sights padMany acts drawnBits drawnMany drawnNow badAct badWhy drawnAct drawnChild keptAt isWriting), ((A 6), aI cI 8 sightChild), ((A 7), aI cI 8 sightFelt), ((A 31), aI cI 10 res.2)] := by
  refine CG.intro (own := RX8) (by decide +kernel) rfl rfl (Nat.le_of_ble_eq_true rfl) (fun p e s m args below meth c C => ?_)
  refine r_lv (lv' := [(0, .ref h), (1, .int u1)]) [0, 1] rfl ?_
  unfold f_X8_mostLeft at hf
  refine r_iconst C dX8_mostLeft_0 kk_i_0 rfl ?_
  refine r_istore_n (lv' := [(2, .int (0 : Int32)), (0, .ref h), (1, .int u1)]) C dX8_mostLeft_1 rfl (by decide) rfl rfl ?_
  refine r_iconst C dX8_mostLeft_2 kk_i_0 rfl ?_
  refine r_istore_n (lv' := [(3, .int (0 : Int32)), (2, .int (0 : Int32)), (0, .ref h), (1, .int u1)]) C dX8_mostLeft_3 rfl (by decide) rfl rfl ?_
  refine r_lv (lv' := [(0, .ref h), (1, .int u1), (2, .int (0 : Int32)), (3, .int (0 : Int32))]) [2, 3, 1, 0] rfl ?_
  refine k_X8_mostLeft_4 C h A holding wool days sightChild sightFelt sights padMany acts drawnBits drawnMany drawnNow badAct badWhy drawnAct drawnChild keptAt isWriting u1 (0 : Int32) _ _ ?_ 2000 _ _ hf
  · intro byFelt_3 hf
    refine r_iconst C dX8_mostLeft_23 kk_i_0 rfl ?_
    refine r_istore_n (lv' := [(3, .int (0 : Int32)), (0, .ref h), (1, .int u1), (2, .int (0 : Int32))]) C dX8_mostLeft_24 rfl (by decide) rfl rfl ?_
    refine r_lv (lv' := [(0, .ref h), (1, .int u1), (2, .int (0 : Int32)), (3, .int (0 : Int32))]) [1, 2, 3, 0] rfl ?_
    refine k_X8_mostLeft_25 C h A holding wool days sightChild sightFelt sights padMany acts drawnBits drawnMany drawnNow badAct badWhy drawnAct drawnChild keptAt isWriting u1 _ 2000 _ _ _ hf
abbrev rm_X8_ask : Jvm.Room := { frames := 4, cells := 0, slots := 0, locals := 90 }
def f_X8_ask_24 (sightChild : Nat → Int32) (sightFelt : Nat → Int32) (sights : Int32) (kx65 : Int32 → Int32 → (Nat → Int32) → Option (Int32 × (Nat → Int32))) : Nat → Int32 → Int32 → Int32 → (Nat → Int32) → Option (Int32 × (Nat → Int32))
  | 0, _, _, _, _ => none
  | n + 1, u2, u3, u4, byFelt => if (10 : Int32) ≤ u4 then kx65 u2 u3 byFelt else (f_X8_mostLeft sightChild sightFelt sights byFelt u4).bind (fun r5 => if u3 ≤ r5.1 then (f_X8_less u3 r5.1).bind (fun r7 => f_X8_ask_24 sightChild sightFelt sights kx65 n u2 r7 (u4 + (1 : Int32)) r5.2) else (f_X8_less u3 r5.1).bind (fun r8 => f_X8_ask_24 sightChild sightFelt sights kx65 n u4 r8 (u4 + (1 : Int32)) r5.2))
set_option maxHeartbeats 4000000 in
set_option maxRecDepth 100000 in
theorem k_X8_ask_24 (C : Cx p s m args meth c D (tysW cI cZ cG) RX8 cX8_ask 6 wsX8_ask (some .int)) (h : Nat) (A : Nat → Nat) (holding : Int32) (wool : Int32) (days : Int32) (sightChild : Nat → Int32) (sightFelt : Nat → Int32) (sights : Int32) (padMany : Int32) (acts : Int32) (drawnBits : Int32) (drawnMany : Int32) (drawnNow : Int32) (badAct : Int32) (badWhy : Int32) (drawnAct : Int32) (drawnChild : Int32) (keptAt : Int32) (isWriting : Int32) (u1 : Int32)  (kx65 : Int32 → Int32 → (Nat → Int32) → Option (Int32 × (Nat → Int32))) (res : Int32 × (Nat → Int32)) (hkx65 : ∀ (u2 : Int32) (u3 : Int32) (byFelt : Nat → Int32) , kx65 u2 u3 byFelt = some res → Wd p l e rm_X8_ask s m args below meth c D w0 6 0 0 (MQ below (QcI D (tysW cI cZ cG) w0 [(h, oX8 A holding wool days sights padMany acts drawnBits drawnMany drawnNow badAct badWhy drawnAct drawnChild keptAt isWriting), ((A 6), aI cI 8 sightChild), ((A 7), aI cI 8 sightFelt), ((A 31), aI cI 10 res.2)] res.1 s.heap.size) args s 0 0 (va_A w0 s.heap.size)) [(h, oX8 A holding wool days sights padMany acts drawnBits drawnMany drawnNow badAct badWhy drawnAct drawnChild keptAt isWriting), ((A 6), aI cI 8 sightChild), ((A 7), aI cI 8 sightFelt), ((A 31), aI cI 10 byFelt)] [(1, .int u1), (2, .int u2), (3, .int u3)] 65 []) : ∀ (n : Nat) (u2 : Int32) (u3 : Int32) (u4 : Int32) (byFelt : Nat → Int32), f_X8_ask_24 sightChild sightFelt sights kx65 n u2 u3 u4 byFelt = some res → Wd p l e rm_X8_ask s m args below meth c D w0 6 0 0 (MQ below (QcI D (tysW cI cZ cG) w0 [(h, oX8 A holding wool days sights padMany acts drawnBits drawnMany drawnNow badAct badWhy drawnAct drawnChild keptAt isWriting), ((A 6), aI cI 8 sightChild), ((A 7), aI cI 8 sightFelt), ((A 31), aI cI 10 res.2)] res.1 s.heap.size) args s 0 0 (va_A w0 s.heap.size)) [(h, oX8 A holding wool days sights padMany acts drawnBits drawnMany drawnNow badAct badWhy drawnAct drawnChild keptAt isWriting), ((A 6), aI cI 8 sightChild), ((A 7), aI cI 8 sightFelt), ((A 31), aI cI 10 byFelt)] [(0, .ref h), (1, .int u1), (2, .int u2), (3, .int u3), (4, .int u4)] 24 [] := by
  intro n
  induction n with
  | zero =>
    intro u2 u3 u4 byFelt hf
    exact no_none hf
  | succ n ih =>
    intro u2 u3 u4 byFelt hf
    unfold f_X8_ask_24 at hf
    refine r_iload C dX8_ask_24 4 rfl rfl ?_
    refine r_bipush C dX8_ask_26 kk_b_10 rfl ?_
    refine r_icmp_ge (tgt := 65) C dX8_ask_28 rfl rfl (fun c4 => ?_) (fun c4 => ?_)
    · have hf := gd_t c4 hf
      refine r_lv (lv' := [(1, .int u1), (2, .int u2), (3, .int u3)]) [1, 2, 3] rfl ?_
      exact hkx65 _ _ _ hf
    · have hf := gd_f c4 hf
      refine r_aload_n C dX8_ask_31 rfl 0 rfl rfl ?_
      refine r_iload C dX8_ask_32 4 rfl rfl ?_
      obtain ⟨r5, e5, hf⟩ := gd_b hf
      refine o_I (wn := [(h, oX8 A holding wool days sights padMany acts drawnBits drawnMany drawnNow badAct badWhy drawnAct drawnChild keptAt isWriting), ((A 6), aI cI 8 sightChild), ((A 7), aI cI 8 sightFelt), ((A 31), aI cI 10 r5.2)]) C [0, 1, 2, 3] rfl (x_V C dX8_ask_34 (c_X8_mostLeft l D cI cZ cG h A holding wool days sightChild sightFelt sights padMany acts drawnBits drawnMany drawnNow badAct badWhy drawnAct drawnChild byFelt keptAt isWriting u4 r5 e5) rfl gX8_ask_X8_mostLeft hd_X8_mostLeft rfl ⟨Nat.le_of_ble_eq_true rfl, Nat.le_of_ble_eq_true rfl⟩ ⟨rfl, rfl⟩ ⟨Nat.zero_le _, Nat.zero_le _⟩ rfl [0, 1, 2, 3] rfl rfl 0 rfl rfl (Nat.le_of_ble_eq_true rfl) rfl) rfl rfl rfl ?_
      refine r_istore (lv' := [(5, .int r5.1), (0, .ref h), (1, .int u1), (2, .int u2), (3, .int u3), (4, .int u4)]) C dX8_ask_37 (by decide) rfl rfl ?_
      refine r_iload C dX8_ask_39 0 rfl rfl ?_
      refine r_iload_n C dX8_ask_41 rfl 4 rfl rfl ?_
      refine r_icmp_ge (tgt := 50) C dX8_ask_42 rfl rfl (fun c6 => ?_) (fun c6 => ?_)
      · have hf := gd_t c6 hf
        refine r_iload_n C dX8_ask_50 rfl 3 rfl rfl ?_
        refine r_istore_n (lv' := [(2, .int u2), (5, .int r5.1), (0, .ref h), (1, .int u1), (3, .int u3), (4, .int u4)]) C dX8_ask_51 rfl (by decide) rfl rfl ?_
        refine r_iload_n C dX8_ask_52 rfl 4 rfl rfl ?_
        refine r_iload C dX8_ask_53 1 rfl rfl ?_
        obtain ⟨r7, e7, hf⟩ := gd_b hf
        refine o_I (wn := [(h, oX8 A holding wool days sights padMany acts drawnBits drawnMany drawnNow badAct badWhy drawnAct drawnChild keptAt isWriting), ((A 6), aI cI 8 sightChild), ((A 7), aI cI 8 sightFelt), ((A 31), aI cI 10 r5.2)]) C [] rfl (x_S C dX8_ask_55 (c_X8_less l D cI cZ cG u3 r5.1 r7 e7) rfl gX8_ask_X8_less hs_X8_less rfl ⟨Nat.le_of_ble_eq_true rfl, Nat.le_of_ble_eq_true rfl⟩ ⟨rfl, rfl⟩ ⟨Nat.zero_le _, Nat.zero_le _⟩ rfl [] rfl rfl (Nat.le_of_ble_eq_true rfl) rfl) rfl rfl rfl ?_
        refine r_istore_n (lv' := [(3, .int r7), (2, .int u2), (5, .int r5.1), (0, .ref h), (1, .int u1), (4, .int u4)]) C dX8_ask_58 rfl (by decide) rfl rfl ?_
        refine r_iinc (lv' := [(4, .int (u4 + (1 : Int32))), (3, .int r7), (2, .int u2), (5, .int r5.1), (0, .ref h), (1, .int u1)]) C dX8_ask_59 5 rfl (ki_1 _) (by decide) rfl rfl ?_
        refine r_goto (tgt := 24) C dX8_ask_62 rfl ?_
        refine r_lv (lv' := [(0, .ref h), (1, .int u1), (2, .int u2), (3, .int r7), (4, .int (u4 + (1 : Int32)))]) [4, 5, 2, 1, 0] rfl ?_
        exact ih _ _ _ _ hf
      · have hf := gd_f c6 hf
        refine r_iload C dX8_ask_45 5 rfl rfl ?_
        refine r_goto (tgt := 51) C dX8_ask_47 rfl ?_
        refine r_istore_n (lv' := [(2, .int u4), (5, .int r5.1), (0, .ref h), (1, .int u1), (3, .int u3), (4, .int u4)]) C dX8_ask_51 rfl (by decide) rfl rfl ?_
        refine r_iload_n C dX8_ask_52 rfl 4 rfl rfl ?_
        refine r_iload C dX8_ask_53 1 rfl rfl ?_
        obtain ⟨r8, e8, hf⟩ := gd_b hf
        refine o_I (wn := [(h, oX8 A holding wool days sights padMany acts drawnBits drawnMany drawnNow badAct badWhy drawnAct drawnChild keptAt isWriting), ((A 6), aI cI 8 sightChild), ((A 7), aI cI 8 sightFelt), ((A 31), aI cI 10 r5.2)]) C [] rfl (x_S C dX8_ask_55 (c_X8_less l D cI cZ cG u3 r5.1 r8 e8) rfl gX8_ask_X8_less hs_X8_less rfl ⟨Nat.le_of_ble_eq_true rfl, Nat.le_of_ble_eq_true rfl⟩ ⟨rfl, rfl⟩ ⟨Nat.zero_le _, Nat.zero_le _⟩ rfl [] rfl rfl (Nat.le_of_ble_eq_true rfl) rfl) rfl rfl rfl ?_
        refine r_istore_n (lv' := [(3, .int r8), (2, .int u4), (5, .int r5.1), (0, .ref h), (1, .int u1), (4, .int u4)]) C dX8_ask_58 rfl (by decide) rfl rfl ?_
        refine r_iinc (lv' := [(4, .int (u4 + (1 : Int32))), (3, .int r8), (2, .int u4), (5, .int r5.1), (0, .ref h), (1, .int u1)]) C dX8_ask_59 5 rfl (ki_1 _) (by decide) rfl rfl ?_
        refine r_goto (tgt := 24) C dX8_ask_62 rfl ?_
        refine r_lv (lv' := [(0, .ref h), (1, .int u1), (2, .int u4), (3, .int r8), (4, .int (u4 + (1 : Int32)))]) [4, 5, 2, 1, 0] rfl ?_
        exact ih _ _ _ _ hf
def f_X8_ask (sightChild : Nat → Int32) (sightFelt : Nat → Int32) (sights : Int32) (byFelt : Nat → Int32) (u1 : Int32) : Option (Int32 × (Nat → Int32)) := (f_X8_in u1.toInt64 (0 : Int64) (1 : Int64)).bind (fun r1 => if r1 = 0 then some ((-2 : Int32), byFelt) else (f_X8_mostLeft sightChild sightFelt sights byFelt (0 : Int32)).bind (fun r3 => f_X8_ask_24 sightChild sightFelt sights (fun u2_9 u3_10 byFelt_11 => if u3_10 = 0 then some ((-6 : Int32), byFelt_11) else if u1 = 0 then some (u2_9, byFelt_11) else some (u3_10, byFelt_11)) 2000 (0 : Int32) r3.1 (1 : Int32) r3.2))
set_option maxHeartbeats 4000000 in
set_option maxRecDepth 100000 in
theorem c_X8_ask (l : Launch) (D : va_G) (cI cZ cG : ClassId) (h : Nat) (A : Nat → Nat) (holding : Int32) (wool : Int32) (days : Int32) (sightChild : Nat → Int32) (sightFelt : Nat → Int32) (sights : Int32) (padMany : Int32) (acts : Int32) (drawnBits : Int32) (drawnMany : Int32) (drawnNow : Int32) (badAct : Int32) (badWhy : Int32) (drawnAct : Int32) (drawnChild : Int32) (byFelt : Nat → Int32) (keptAt : Int32) (isWriting : Int32) (u1 : Int32) (res : Int32 × (Nat → Int32)) (hf : f_X8_ask sightChild sightFelt sights byFelt u1 = some res) : CI l D (tysW cI cZ cG) yX8_ask wsX8_ask rm_X8_ask [.ref h, .int u1] [(h, oX8 A holding wool days sights padMany acts drawnBits drawnMany drawnNow badAct badWhy drawnAct drawnChild keptAt isWriting), ((A 6), aI cI 8 sightChild), ((A 7), aI cI 8 sightFelt), ((A 31), aI cI 10 byFelt)] res.1 [(h, oX8 A holding wool days sights padMany acts drawnBits drawnMany drawnNow badAct badWhy drawnAct drawnChild keptAt isWriting), ((A 6), aI cI 8 sightChild), ((A 7), aI cI 8 sightFelt), ((A 31), aI cI 10 res.2)] := by
  refine CG.intro (own := RX8) (by decide +kernel) rfl rfl (Nat.le_of_ble_eq_true rfl) (fun p e s m args below meth c C => ?_)
  refine r_lv (lv' := [(0, .ref h), (1, .int u1)]) [0, 1] rfl ?_
  unfold f_X8_ask at hf
  refine r_iload_n C dX8_ask_0 rfl 1 rfl rfl ?_
  refine r_i2l C dX8_ask_1 rfl ?_
  refine r_lconst (v := (0 : Int64)) C dX8_ask_2 rfl rfl ?_
  refine r_lconst (v := (1 : Int64)) C dX8_ask_3 rfl rfl ?_
  obtain ⟨r1, e1, hf⟩ := gd_b hf
  refine o_I (wn := [(h, oX8 A holding wool days sights padMany acts drawnBits drawnMany drawnNow badAct badWhy drawnAct drawnChild keptAt isWriting), ((A 6), aI cI 8 sightChild), ((A 7), aI cI 8 sightFelt), ((A 31), aI cI 10 byFelt)]) C [] rfl (x_S C dX8_ask_4 (c_X8_in l D cI cZ cG u1.toInt64 (0 : Int64) (1 : Int64) r1 e1) rfl gX8_ask_X8_in hs_X8_in rfl ⟨Nat.le_of_ble_eq_true rfl, Nat.le_of_ble_eq_true rfl⟩ ⟨rfl, rfl⟩ ⟨Nat.zero_le _, Nat.zero_le _⟩ rfl [] rfl rfl (Nat.le_of_ble_eq_true rfl) rfl) rfl rfl rfl ?_
  refine r_if_ne (y := 0) (tgt := 13) C dX8_ask_7 rfl rfl (fun c2 => ?_) (fun c2 => ?_)
  · have hf := gd_f c2 hf
    refine r_iconst C dX8_ask_13 kk_i_0 rfl ?_
    refine r_istore_n (lv' := [(2, .int (0 : Int32)), (0, .ref h), (1, .int u1)]) C dX8_ask_14 rfl (by decide) rfl rfl ?_
    refine r_aload_n C dX8_ask_15 rfl 1 rfl rfl ?_
    refine r_iconst C dX8_ask_16 kk_i_0 rfl ?_
    obtain ⟨r3, e3, hf⟩ := gd_b hf
    refine o_I (wn := [(h, oX8 A holding wool days sights padMany acts drawnBits drawnMany drawnNow badAct badWhy drawnAct drawnChild keptAt isWriting), ((A 6), aI cI 8 sightChild), ((A 7), aI cI 8 sightFelt), ((A 31), aI cI 10 r3.2)]) C [0, 1, 2, 3] rfl (x_V C dX8_ask_17 (c_X8_mostLeft l D cI cZ cG h A holding wool days sightChild sightFelt sights padMany acts drawnBits drawnMany drawnNow badAct badWhy drawnAct drawnChild byFelt keptAt isWriting (0 : Int32) r3 e3) rfl gX8_ask_X8_mostLeft hd_X8_mostLeft rfl ⟨Nat.le_of_ble_eq_true rfl, Nat.le_of_ble_eq_true rfl⟩ ⟨rfl, rfl⟩ ⟨Nat.zero_le _, Nat.zero_le _⟩ rfl [0, 1, 2, 3] rfl rfl 0 rfl rfl (Nat.le_of_ble_eq_true rfl) rfl) rfl rfl rfl ?_
    refine r_istore_n (lv' := [(3, .int r3.1), (2, .int (0 : Int32)), (0, .ref h), (1, .int u1)]) C dX8_ask_20 rfl (by decide) rfl rfl ?_
    refine r_iconst C dX8_ask_21 kk_i_1 rfl ?_
    refine r_istore (lv' := [(4, .int (1 : Int32)), (3, .int r3.1), (2, .int (0 : Int32)), (0, .ref h), (1, .int u1)]) C dX8_ask_22 (by decide) rfl rfl ?_
    refine r_lv (lv' := [(0, .ref h), (1, .int u1), (2, .int (0 : Int32)), (3, .int r3.1), (4, .int (1 : Int32))]) [3, 4, 2, 1, 0] rfl ?_
    refine k_X8_ask_24 C h A holding wool days sightChild sightFelt sights padMany acts drawnBits drawnMany drawnNow badAct badWhy drawnAct drawnChild keptAt isWriting u1 _ _ ?_ 2000 _ _ _ _ hf
    · intro u2_9 u3_10 byFelt_11 hf
      refine r_iload_n C dX8_ask_65 rfl 2 rfl rfl ?_
      refine r_if_ne (y := 0) (tgt := 74) C dX8_ask_66 rfl rfl (fun c12 => ?_) (fun c12 => ?_)
      · have hf := gd_f c12 hf
        refine r_iload_n C dX8_ask_74 rfl 0 rfl rfl ?_
        refine r_if_ne (y := 0) (tgt := 82) C dX8_ask_75 rfl rfl (fun c13 => ?_) (fun c13 => ?_)
        · have hf := gd_f c13 hf
          refine r_iload_n C dX8_ask_82 rfl 2 rfl rfl ?_
          cases hf
          exact r_iret C dX8_ask_83 rfl
        · have hf := gd_t c13 hf
          refine r_iload_n C dX8_ask_78 rfl 1 rfl rfl ?_
          refine r_goto (tgt := 83) C dX8_ask_79 rfl ?_
          cases hf
          exact r_iret C dX8_ask_83 rfl
      · have hf := gd_t c12 hf
        refine r_bipush C dX8_ask_69 kk_b_m6 rfl ?_
        refine r_goto (tgt := 83) C dX8_ask_71 rfl ?_
        cases hf
        exact r_iret C dX8_ask_83 rfl
  · have hf := gd_t c2 hf
    refine r_bipush C dX8_ask_10 kk_b_m2 rfl ?_
    cases hf
    exact r_iret C dX8_ask_12 rfl
theorem fw_X8_leastPull_X8 : ∀ w ∈ u_ws RX8 TX8 37, w ∈ wsX8_leastPull := by decide +kernel
theorem fl_X8_leastPull_67 : Cond.fieldLink RX8 67 "MittenLineModel" "wins" "[Z" ∈ wsX8_leastPull := by decide +kernel
abbrev rm_X8_leastPull : Jvm.Room := { frames := 1, cells := 0, slots := 0, locals := 21 }
def f_X8_leastPull_11 (u1 : Int32) (u3 : Int32) (wins : Nat → Int32) : Nat → Int32 → Int32 → Option (Int32)
  | 0, _, _ => none
  | n + 1, u4, u5 => if u5 ≤ 0 then some (u4) else if u5 = u3 then f_X8_leastPull_11 u1 u3 wins n u4 (u5 + (-1 : Int32)) else if (((10 : Int32) * (u1 - u5)) + u5) < 0 ∨ 1000 ≤ (((10 : Int32) * (u1 - u5)) + u5).toNatClampNeg then none else if (wins (((10 : Int32) * (u1 - u5)) + u5).toNatClampNeg) = 0 then f_X8_leastPull_11 u1 u3 wins n u5 (u5 + (-1 : Int32)) else f_X8_leastPull_11 u1 u3 wins n u4 (u5 + (-1 : Int32))
set_option maxHeartbeats 4000000 in
set_option maxRecDepth 100000 in
theorem k_X8_leastPull_11 (C : Cx p s m args meth c D (tysW cI cZ cG) RX8 cX8_leastPull 7 wsX8_leastPull (some .int)) (h : Nat) (A : Nat → Nat) (holding : Int32) (wool : Int32) (days : Int32) (sights : Int32) (padMany : Int32) (acts : Int32) (drawnBits : Int32) (drawnMany : Int32) (drawnNow : Int32) (badAct : Int32) (badWhy : Int32) (drawnAct : Int32) (drawnChild : Int32) (wins : Nat → Int32) (keptAt : Int32) (isWriting : Int32) (u1 : Int32) (u3 : Int32)  (res : Int32) : ∀ (n : Nat) (u4 : Int32) (u5 : Int32), f_X8_leastPull_11 u1 u3 wins n u4 u5 = some res → Wd p l e rm_X8_leastPull s m args below meth c D w0 7 0 0 (MQ below (QcI D (tysW cI cZ cG) w0 [(h, oX8 A holding wool days sights padMany acts drawnBits drawnMany drawnNow badAct badWhy drawnAct drawnChild keptAt isWriting), ((A 32), aI cZ 1000 wins)] res s.heap.size) args s 0 0 (va_A w0 s.heap.size)) [(h, oX8 A holding wool days sights padMany acts drawnBits drawnMany drawnNow badAct badWhy drawnAct drawnChild keptAt isWriting), ((A 32), aI cZ 1000 wins)] [(0, .ref h), (1, .int u1), (3, .int u3), (4, .int u4), (5, .int u5)] 11 [] := by
  intro n
  induction n with
  | zero =>
    intro u4 u5 hf
    exact no_none hf
  | succ n ih =>
    intro u4 u5 hf
    unfold f_X8_leastPull_11 at hf
    refine r_iload C dX8_leastPull_11 4 rfl rfl ?_
    refine r_if_le (y := 0) (tgt := 67) C dX8_leastPull_13 rfl rfl (fun c2 => ?_) (fun c2 => ?_)
    · have hf := gd_t c2 hf
      refine r_iload C dX8_leastPull_67 3 rfl rfl ?_
      cases hf
      exact r_iret C dX8_leastPull_69 rfl
    · have hf := gd_f c2 hf
      refine r_iload C dX8_leastPull_16 4 rfl rfl ?_
      refine r_iload_n C dX8_leastPull_18 rfl 2 rfl rfl ?_
      refine r_icmp_eq (tgt := 44) C dX8_leastPull_19 rfl rfl (fun c3 => ?_) (fun c3 => ?_)
      · have hf := gd_t c3 hf
        refine r_iconst C dX8_leastPull_44 kk_i_0 rfl ?_
        refine r_istore (lv' := [(6, .int (0 : Int32)), (0, .ref h), (1, .int u1), (3, .int u3), (4, .int u4), (5, .int u5)]) C dX8_leastPull_45 (by decide) rfl rfl ?_
        refine r_iload C dX8_leastPull_47 0 rfl rfl ?_
        refine r_if_eq (y := 0) (tgt := 57) C dX8_leastPull_49 rfl rfl (fun _ => ?_) (fun c4 => absurd (by decide) c4)
        refine r_iload C dX8_leastPull_57 4 rfl rfl ?_
        refine r_istore (lv' := [(4, .int u4), (6, .int (0 : Int32)), (0, .ref h), (1, .int u1), (3, .int u3), (5, .int u5)]) C dX8_leastPull_59 (by decide) rfl rfl ?_
        refine r_iinc (lv' := [(5, .int (u5 + (-1 : Int32))), (4, .int u4), (6, .int (0 : Int32)), (0, .ref h), (1, .int u1), (3, .int u3)]) C dX8_leastPull_61 5 rfl (ki_m1 _) (by decide) rfl rfl ?_
        refine r_goto (tgt := 11) C dX8_leastPull_64 rfl ?_
        refine r_lv (lv' := [(0, .ref h), (1, .int u1), (3, .int u3), (4, .int u4), (5, .int (u5 + (-1 : Int32)))]) [3, 4, 5, 1, 0] rfl ?_
        exact ih _ _ hf
      · have hf := gd_f c3 hf
        refine r_aload_n C dX8_leastPull_22 rfl 0 rfl rfl ?_
        refine r_get C dX8_leastPull_23 fw_X8_leastPull_X8 0 rfl rfl 32 (by decide) rfl fl_X8_leastPull_67 rfl rfl ?_
        refine r_bipush C dX8_leastPull_26 kk_b_10 rfl ?_
        refine r_iload_n C dX8_leastPull_28 rfl 1 rfl rfl ?_
        refine r_iload C dX8_leastPull_29 4 rfl rfl ?_
        refine r_isub C dX8_leastPull_31 rfl ?_
        refine r_imul C dX8_leastPull_32 rfl ?_
        refine r_iload C dX8_leastPull_33 4 rfl rfl ?_
        refine r_iadd C dX8_leastPull_35 rfl ?_
        obtain ⟨g5, hf⟩ := gd_n hf
        refine r_zald C dX8_leastPull_36 1 1 rfl rfl g5 rfl ?_
        refine r_if_ne (y := 0) (tgt := 44) C dX8_leastPull_37 rfl rfl (fun c6 => ?_) (fun c6 => ?_)
        · have hf := gd_f c6 hf
          refine r_iconst C dX8_leastPull_44 kk_i_0 rfl ?_
          refine r_istore (lv' := [(6, .int (0 : Int32)), (0, .ref h), (1, .int u1), (3, .int u3), (4, .int u4), (5, .int u5)]) C dX8_leastPull_45 (by decide) rfl rfl ?_
          refine r_iload C dX8_leastPull_47 0 rfl rfl ?_
          refine r_if_eq (y := 0) (tgt := 57) C dX8_leastPull_49 rfl rfl (fun _ => ?_) (fun c7 => absurd (by decide) c7)
          refine r_iload C dX8_leastPull_57 4 rfl rfl ?_
          refine r_istore (lv' := [(4, .int u4), (6, .int (0 : Int32)), (0, .ref h), (1, .int u1), (3, .int u3), (5, .int u5)]) C dX8_leastPull_59 (by decide) rfl rfl ?_
          refine r_iinc (lv' := [(5, .int (u5 + (-1 : Int32))), (4, .int u4), (6, .int (0 : Int32)), (0, .ref h), (1, .int u1), (3, .int u3)]) C dX8_leastPull_61 5 rfl (ki_m1 _) (by decide) rfl rfl ?_
          refine r_goto (tgt := 11) C dX8_leastPull_64 rfl ?_
          refine r_lv (lv' := [(0, .ref h), (1, .int u1), (3, .int u3), (4, .int u4), (5, .int (u5 + (-1 : Int32)))]) [3, 4, 5, 1, 0] rfl ?_
          exact ih _ _ hf
        · have hf := gd_t c6 hf
          refine r_iconst C dX8_leastPull_40 kk_i_1 rfl ?_
          refine r_goto (tgt := 45) C dX8_leastPull_41 rfl ?_
          refine r_istore (lv' := [(6, .int (1 : Int32)), (0, .ref h), (1, .int u1), (3, .int u3), (4, .int u4), (5, .int u5)]) C dX8_leastPull_45 (by decide) rfl rfl ?_
          refine r_iload C dX8_leastPull_47 0 rfl rfl ?_
          refine r_if_eq (y := 0) (tgt := 57) C dX8_leastPull_49 rfl rfl (fun c8 => absurd c8 (by decide)) (fun _ => ?_)
          refine r_iload C dX8_leastPull_52 5 rfl rfl ?_
          refine r_goto (tgt := 59) C dX8_leastPull_54 rfl ?_
          refine r_istore (lv' := [(4, .int u5), (6, .int (1 : Int32)), (0, .ref h), (1, .int u1), (3, .int u3), (5, .int u5)]) C dX8_leastPull_59 (by decide) rfl rfl ?_
          refine r_iinc (lv' := [(5, .int (u5 + (-1 : Int32))), (4, .int u5), (6, .int (1 : Int32)), (0, .ref h), (1, .int u1), (3, .int u3)]) C dX8_leastPull_61 5 rfl (ki_m1 _) (by decide) rfl rfl ?_
          refine r_goto (tgt := 11) C dX8_leastPull_64 rfl ?_
          refine r_lv (lv' := [(0, .ref h), (1, .int u1), (3, .int u3), (4, .int u5), (5, .int (u5 + (-1 : Int32)))]) [3, 4, 5, 1, 0] rfl ?_
          exact ih _ _ hf
def f_X8_leastPull (wins : Nat → Int32) (u1 : Int32) (u2 : Int32) (u3 : Int32) : Option (Int32) := (f_X8_less u1 u2).bind (fun r1 => f_X8_leastPull_11 u1 u3 wins 2000 (-6 : Int32) r1)
set_option maxHeartbeats 4000000 in
set_option maxRecDepth 100000 in
theorem c_X8_leastPull (l : Launch) (D : va_G) (cI cZ cG : ClassId) (h : Nat) (A : Nat → Nat) (holding : Int32) (wool : Int32) (days : Int32) (sights : Int32) (padMany : Int32) (acts : Int32) (drawnBits : Int32) (drawnMany : Int32) (drawnNow : Int32) (badAct : Int32) (badWhy : Int32) (drawnAct : Int32) (drawnChild : Int32) (wins : Nat → Int32) (keptAt : Int32) (isWriting : Int32) (u1 : Int32) (u2 : Int32) (u3 : Int32) (res : Int32) (hf : f_X8_leastPull wins u1 u2 u3 = some res) : CI l D (tysW cI cZ cG) yX8_leastPull wsX8_leastPull rm_X8_leastPull [.ref h, .int u1, .int u2, .int u3] [(h, oX8 A holding wool days sights padMany acts drawnBits drawnMany drawnNow badAct badWhy drawnAct drawnChild keptAt isWriting), ((A 32), aI cZ 1000 wins)] res [(h, oX8 A holding wool days sights padMany acts drawnBits drawnMany drawnNow badAct badWhy drawnAct drawnChild keptAt isWriting), ((A 32), aI cZ 1000 wins)] := by
  refine CG.intro (own := RX8) (by decide +kernel) rfl rfl (Nat.le_of_ble_eq_true rfl) (fun p e s m args below meth c C => ?_)
  refine r_lv (lv' := [(0, .ref h), (1, .int u1), (2, .int u2), (3, .int u3)]) [0, 1, 2, 3] rfl ?_
  unfold f_X8_leastPull at hf
  refine r_bipush C dX8_leastPull_0 kk_b_m6 rfl ?_
  refine r_istore (lv' := [(4, .int (-6 : Int32)), (0, .ref h), (1, .int u1), (2, .int u2), (3, .int u3)]) C dX8_leastPull_2 (by decide) rfl rfl ?_
  refine r_iload_n C dX8_leastPull_4 rfl 2 rfl rfl ?_
  refine r_iload_n C dX8_leastPull_5 rfl 3 rfl rfl ?_
  obtain ⟨r1, e1, hf⟩ := gd_b hf
  refine o_I (wn := [(h, oX8 A holding wool days sights padMany acts drawnBits drawnMany drawnNow badAct badWhy drawnAct drawnChild keptAt isWriting), ((A 32), aI cZ 1000 wins)]) C [] rfl (x_S C dX8_leastPull_6 (c_X8_less l D cI cZ cG u1 u2 r1 e1) rfl gX8_leastPull_X8_less hs_X8_less rfl ⟨Nat.le_of_ble_eq_true rfl, Nat.le_of_ble_eq_true rfl⟩ ⟨rfl, rfl⟩ ⟨Nat.zero_le _, Nat.zero_le _⟩ rfl [] rfl rfl (Nat.le_of_ble_eq_true rfl) rfl) rfl rfl rfl ?_
  refine r_istore (lv' := [(5, .int r1), (4, .int (-6 : Int32)), (0, .ref h), (1, .int u1), (2, .int u2), (3, .int u3)]) C dX8_leastPull_9 (by decide) rfl rfl ?_
  refine r_lv (lv' := [(0, .ref h), (1, .int u1), (3, .int u3), (4, .int (-6 : Int32)), (5, .int r1)]) [2, 3, 5, 1, 0] rfl ?_
  refine k_X8_leastPull_11 C h A holding wool days sights padMany acts drawnBits drawnMany drawnNow badAct badWhy drawnAct drawnChild wins keptAt isWriting u1 u3 _ 2000 _ _ hf
theorem wc_X8_pull_106 : Cond.constantLong RX8 106 (99 : Int64) ∈ wsX8_pull := by decide +kernel
theorem wc_X8_pull_81 : Cond.constantLong RX8 81 (9 : Int64) ∈ wsX8_pull := by decide +kernel
theorem fw_X8_pull_X8 : ∀ w ∈ u_ws RX8 TX8 37, w ∈ wsX8_pull := by decide +kernel
theorem fl_X8_pull_67 : Cond.fieldLink RX8 67 "MittenLineModel" "wins" "[Z" ∈ wsX8_pull := by decide +kernel
abbrev rm_X8_pull : Jvm.Room := { frames := 2, cells := 0, slots := 0, locals := 47 }
def f_X8_pull_53 (u1 : Int32) (u2 : Int32) (kx98 : (Nat → Int32) → Option (Int32 × (Nat → Int32))) : Nat → Int32 → (Nat → Int32) → Option (Int32 × (Nat → Int32))
  | 0, _, _ => none
  | n + 1, u5, wins => if ((10 : Int32) * u1) ≤ u5 then kx98 wins else (f_X8_leastPull wins (u5 / (10 : Int32)) u2 (u5 - u5 / (10 : Int32) * (10 : Int32))).bind (fun r10 => if r10 < 0 then if u5 < 0 ∨ 1000 ≤ u5.toNatClampNeg then none else f_X8_pull_53 u1 u2 kx98 n (u5 + (1 : Int32)) (upd wins u5.toNatClampNeg (vp_nar .boolean (0 : Int32))) else if u5 < 0 ∨ 1000 ≤ u5.toNatClampNeg then none else f_X8_pull_53 u1 u2 kx98 n (u5 + (1 : Int32)) (upd wins u5.toNatClampNeg (vp_nar .boolean (1 : Int32))))
set_option maxHeartbeats 4000000 in
set_option maxRecDepth 100000 in
theorem k_X8_pull_53 (C : Cx p s m args meth c D (tysW cI cZ cG) RX8 cX8_pull 6 wsX8_pull (some .int)) (h : Nat) (A : Nat → Nat) (holding : Int32) (wool : Int32) (days : Int32) (sights : Int32) (padMany : Int32) (acts : Int32) (drawnBits : Int32) (drawnMany : Int32) (drawnNow : Int32) (badAct : Int32) (badWhy : Int32) (drawnAct : Int32) (drawnChild : Int32) (keptAt : Int32) (isWriting : Int32) (u1 : Int32) (u2 : Int32) (u3 : Int32) (u4 : Int32)  (kx98 : (Nat → Int32) → Option (Int32 × (Nat → Int32))) (res : Int32 × (Nat → Int32)) (hkx98 : ∀ (wins : Nat → Int32) , kx98 wins = some res → Wd p l e rm_X8_pull s m args below meth c D w0 6 0 0 (MQ below (QcI D (tysW cI cZ cG) w0 [(h, oX8 A holding wool days sights padMany acts drawnBits drawnMany drawnNow badAct badWhy drawnAct drawnChild keptAt isWriting), ((A 32), aI cZ 1000 res.2)] res.1 s.heap.size) args s 0 0 (va_A w0 s.heap.size)) [(h, oX8 A holding wool days sights padMany acts drawnBits drawnMany drawnNow badAct badWhy drawnAct drawnChild keptAt isWriting), ((A 32), aI cZ 1000 wins)] [(0, .ref h), (1, .int u1), (2, .int u2), (3, .int u3), (4, .int u4)] 98 []) : ∀ (n : Nat) (u5 : Int32) (wins : Nat → Int32), f_X8_pull_53 u1 u2 kx98 n u5 wins = some res → Wd p l e rm_X8_pull s m args below meth c D w0 6 0 0 (MQ below (QcI D (tysW cI cZ cG) w0 [(h, oX8 A holding wool days sights padMany acts drawnBits drawnMany drawnNow badAct badWhy drawnAct drawnChild keptAt isWriting), ((A 32), aI cZ 1000 res.2)] res.1 s.heap.size) args s 0 0 (va_A w0 s.heap.size)) [(h, oX8 A holding wool days sights padMany acts drawnBits drawnMany drawnNow badAct badWhy drawnAct drawnChild keptAt isWriting), ((A 32), aI cZ 1000 wins)] [(0, .ref h), (1, .int u1), (2, .int u2), (3, .int u3), (4, .int u4), (5, .int u5)] 53 [] := by
  intro n
  induction n with
  | zero =>
    intro u5 wins hf
    exact no_none hf
  | succ n ih =>
    intro u5 wins hf
    unfold f_X8_pull_53 at hf
    refine r_iload C dX8_pull_53 5 rfl rfl ?_
    refine r_bipush C dX8_pull_55 kk_b_10 rfl ?_
    refine r_iload_n C dX8_pull_57 rfl 1 rfl rfl ?_
    refine r_imul C dX8_pull_58 rfl ?_
    refine r_icmp_ge (tgt := 98) C dX8_pull_59 rfl rfl (fun c9 => ?_) (fun c9 => ?_)
    · have hf := gd_t c9 hf
      refine r_lv (lv' := [(0, .ref h), (1, .int u1), (2, .int u2), (3, .int u3), (4, .int u4)]) [0, 1, 2, 3, 4] rfl ?_
      exact hkx98 _ hf
    · have hf := gd_f c9 hf
      refine r_aload_n C dX8_pull_62 rfl 0 rfl rfl ?_
      refine r_get C dX8_pull_63 fw_X8_pull_X8 0 rfl rfl 32 (by decide) rfl fl_X8_pull_67 rfl rfl ?_
      refine r_iload C dX8_pull_66 5 rfl rfl ?_
      refine r_aload_n C dX8_pull_68 rfl 0 rfl rfl ?_
      refine r_iload C dX8_pull_69 5 rfl rfl ?_
      refine r_bipush C dX8_pull_71 kk_b_10 rfl ?_
      refine r_idiv C dX8_pull_73 (by decide) rfl ?_
      refine r_iload_n C dX8_pull_74 rfl 2 rfl rfl ?_
      refine r_iload C dX8_pull_75 5 rfl rfl ?_
      refine r_bipush C dX8_pull_77 kk_b_10 rfl ?_
      refine r_irem C dX8_pull_79 (by decide) rfl ?_
      obtain ⟨r10, e10, hf⟩ := gd_b hf
      refine o_I (wn := [(h, oX8 A holding wool days sights padMany acts drawnBits drawnMany drawnNow badAct badWhy drawnAct drawnChild keptAt isWriting), ((A 32), aI cZ 1000 wins)]) C [0, 1] rfl (x_V C dX8_pull_80 (c_X8_leastPull l D cI cZ cG h A holding wool days sights padMany acts drawnBits drawnMany drawnNow badAct badWhy drawnAct drawnChild wins keptAt isWriting (u5 / (10 : Int32)) u2 (u5 - u5 / (10 : Int32) * (10 : Int32)) r10 e10) rfl gX8_pull_X8_leastPull hd_X8_leastPull rfl ⟨Nat.le_of_ble_eq_true rfl, Nat.le_of_ble_eq_true rfl⟩ ⟨rfl, rfl⟩ ⟨Nat.zero_le _, Nat.zero_le _⟩ rfl [0, 1] rfl rfl 0 rfl rfl (Nat.le_of_ble_eq_true rfl) rfl) rfl rfl rfl ?_
      refine r_if_lt (y := 0) (tgt := 90) C dX8_pull_83 rfl rfl (fun c11 => ?_) (fun c11 => ?_)
      · have hf := gd_t c11 hf
        refine r_iconst C dX8_pull_90 kk_i_0 rfl ?_
        obtain ⟨g12, hf⟩ := gd_n hf
        refine r_zast (ws' := [(h, oX8 A holding wool days sights padMany acts drawnBits drawnMany drawnNow badAct badWhy drawnAct drawnChild keptAt isWriting), ((A 32), aI cZ 1000 (upd wins u5.toNatClampNeg (vp_nar .boolean (0 : Int32))))]) C dX8_pull_91 1 1 rfl rfl g12 rfl rfl ?_
        refine r_iinc (lv' := [(5, .int (u5 + (1 : Int32))), (0, .ref h), (1, .int u1), (2, .int u2), (3, .int u3), (4, .int u4)]) C dX8_pull_92 5 rfl (ki_1 _) (by decide) rfl rfl ?_
        refine r_goto (tgt := 53) C dX8_pull_95 rfl ?_
        refine r_lv (lv' := [(0, .ref h), (1, .int u1), (2, .int u2), (3, .int u3), (4, .int u4), (5, .int (u5 + (1 : Int32)))]) [1, 2, 3, 4, 5, 0] rfl ?_
        exact ih _ _ hf
      · have hf := gd_f c11 hf
        refine r_iconst C dX8_pull_86 kk_i_1 rfl ?_
        refine r_goto (tgt := 91) C dX8_pull_87 rfl ?_
        obtain ⟨g13, hf⟩ := gd_n hf
        refine r_zast (ws' := [(h, oX8 A holding wool days sights padMany acts drawnBits drawnMany drawnNow badAct badWhy drawnAct drawnChild keptAt isWriting), ((A 32), aI cZ 1000 (upd wins u5.toNatClampNeg (vp_nar .boolean (1 : Int32))))]) C dX8_pull_91 1 1 rfl rfl g13 rfl rfl ?_
        refine r_iinc (lv' := [(5, .int (u5 + (1 : Int32))), (0, .ref h), (1, .int u1), (2, .int u2), (3, .int u3), (4, .int u4)]) C dX8_pull_92 5 rfl (ki_1 _) (by decide) rfl rfl ?_
        refine r_goto (tgt := 53) C dX8_pull_95 rfl ?_
        refine r_lv (lv' := [(0, .ref h), (1, .int u1), (2, .int u2), (3, .int u3), (4, .int u4), (5, .int (u5 + (1 : Int32)))]) [1, 2, 3, 4, 5, 0] rfl ?_
        exact ih _ _ hf
def f_X8_pull (wins : Nat → Int32) (u1 : Int32) (u2 : Int32) (u3 : Int32) (u4 : Int32) : Option (Int32 × (Nat → Int32)) := (f_X8_in u1.toInt64 (0 : Int64) (99 : Int64)).bind (fun r1 => if r1 = 0 then some ((-2 : Int32), wins) else (f_X8_in u2.toInt64 (1 : Int64) (9 : Int64)).bind (fun r3 => if r3 = 0 then some ((-2 : Int32), wins) else (f_X8_in u3.toInt64 (0 : Int64) (9 : Int64)).bind (fun r5 => if r5 = 0 then some ((-2 : Int32), wins) else (f_X8_in u4.toInt64 (0 : Int64) (1 : Int64)).bind (fun r7 => if r7 = 0 then some ((-2 : Int32), wins) else f_X8_pull_53 u1 u2 (fun wins_14 => (f_X8_leastPull wins_14 u1 u2 u3).bind (fun r15 => if u4 = (1 : Int32) then some (r15, wins_14) else if 0 ≤ r15 then some ((1 : Int32), wins_14) else some ((0 : Int32), wins_14))) 2000 (0 : Int32) wins))))
set_option maxHeartbeats 4000000 in
set_option maxRecDepth 100000 in
theorem c_X8_pull (l : Launch) (D : va_G) (cI cZ cG : ClassId) (h : Nat) (A : Nat → Nat) (holding : Int32) (wool : Int32) (days : Int32) (sights : Int32) (padMany : Int32) (acts : Int32) (drawnBits : Int32) (drawnMany : Int32) (drawnNow : Int32) (badAct : Int32) (badWhy : Int32) (drawnAct : Int32) (drawnChild : Int32) (wins : Nat → Int32) (keptAt : Int32) (isWriting : Int32) (u1 : Int32) (u2 : Int32) (u3 : Int32) (u4 : Int32) (res : Int32 × (Nat → Int32)) (hf : f_X8_pull wins u1 u2 u3 u4 = some res) : CI l D (tysW cI cZ cG) yX8_pull wsX8_pull rm_X8_pull [.ref h, .int u1, .int u2, .int u3, .int u4] [(h, oX8 A holding wool days sights padMany acts drawnBits drawnMany drawnNow badAct badWhy drawnAct drawnChild keptAt isWriting), ((A 32), aI cZ 1000 wins)] res.1 [(h, oX8 A holding wool days sights padMany acts drawnBits drawnMany drawnNow badAct badWhy drawnAct drawnChild keptAt isWriting), ((A 32), aI cZ 1000 res.2)] := by
  refine CG.intro (own := RX8) (by decide +kernel) rfl rfl (Nat.le_of_ble_eq_true rfl) (fun p e s m args below meth c C => ?_)
  refine r_lv (lv' := [(0, .ref h), (1, .int u1), (2, .int u2), (3, .int u3), (4, .int u4)]) [0, 1, 2, 3, 4] rfl ?_
  unfold f_X8_pull at hf
  refine r_iload_n C dX8_pull_0 rfl 1 rfl rfl ?_
  refine r_i2l C dX8_pull_1 rfl ?_
  refine r_lconst (v := (0 : Int64)) C dX8_pull_2 rfl rfl ?_
  refine r_ldc2 C dX8_pull_3 wc_X8_pull_106 rfl ?_
  obtain ⟨r1, e1, hf⟩ := gd_b hf
  refine o_I (wn := [(h, oX8 A holding wool days sights padMany acts drawnBits drawnMany drawnNow badAct badWhy drawnAct drawnChild keptAt isWriting), ((A 32), aI cZ 1000 wins)]) C [] rfl (x_S C dX8_pull_6 (c_X8_in l D cI cZ cG u1.toInt64 (0 : Int64) (99 : Int64) r1 e1) rfl gX8_pull_X8_in hs_X8_in rfl ⟨Nat.le_of_ble_eq_true rfl, Nat.le_of_ble_eq_true rfl⟩ ⟨rfl, rfl⟩ ⟨Nat.zero_le _, Nat.zero_le _⟩ rfl [] rfl rfl (Nat.le_of_ble_eq_true rfl) rfl) rfl rfl rfl ?_
  refine r_if_eq (y := 0) (tgt := 47) C dX8_pull_9 rfl rfl (fun c2 => ?_) (fun c2 => ?_)
  · have hf := gd_t c2 hf
    refine r_bipush C dX8_pull_47 kk_b_m2 rfl ?_
    cases hf
    exact r_iret C dX8_pull_49 rfl
  · have hf := gd_f c2 hf
    refine r_iload_n C dX8_pull_12 rfl 2 rfl rfl ?_
    refine r_i2l C dX8_pull_13 rfl ?_
    refine r_lconst (v := (1 : Int64)) C dX8_pull_14 rfl rfl ?_
    refine r_ldc2 C dX8_pull_15 wc_X8_pull_81 rfl ?_
    obtain ⟨r3, e3, hf⟩ := gd_b hf
    refine o_I (wn := [(h, oX8 A holding wool days sights padMany acts drawnBits drawnMany drawnNow badAct badWhy drawnAct drawnChild keptAt isWriting), ((A 32), aI cZ 1000 wins)]) C [] rfl (x_S C dX8_pull_18 (c_X8_in l D cI cZ cG u2.toInt64 (1 : Int64) (9 : Int64) r3 e3) rfl gX8_pull_X8_in hs_X8_in rfl ⟨Nat.le_of_ble_eq_true rfl, Nat.le_of_ble_eq_true rfl⟩ ⟨rfl, rfl⟩ ⟨Nat.zero_le _, Nat.zero_le _⟩ rfl [] rfl rfl (Nat.le_of_ble_eq_true rfl) rfl) rfl rfl rfl ?_
    refine r_if_eq (y := 0) (tgt := 47) C dX8_pull_21 rfl rfl (fun c4 => ?_) (fun c4 => ?_)
    · have hf := gd_t c4 hf
      refine r_bipush C dX8_pull_47 kk_b_m2 rfl ?_
      cases hf
      exact r_iret C dX8_pull_49 rfl
    · have hf := gd_f c4 hf
      refine r_iload_n C dX8_pull_24 rfl 3 rfl rfl ?_
      refine r_i2l C dX8_pull_25 rfl ?_
      refine r_lconst (v := (0 : Int64)) C dX8_pull_26 rfl rfl ?_
      refine r_ldc2 C dX8_pull_27 wc_X8_pull_81 rfl ?_
      obtain ⟨r5, e5, hf⟩ := gd_b hf
      refine o_I (wn := [(h, oX8 A holding wool days sights padMany acts drawnBits drawnMany drawnNow badAct badWhy drawnAct drawnChild keptAt isWriting), ((A 32), aI cZ 1000 wins)]) C [] rfl (x_S C dX8_pull_30 (c_X8_in l D cI cZ cG u3.toInt64 (0 : Int64) (9 : Int64) r5 e5) rfl gX8_pull_X8_in hs_X8_in rfl ⟨Nat.le_of_ble_eq_true rfl, Nat.le_of_ble_eq_true rfl⟩ ⟨rfl, rfl⟩ ⟨Nat.zero_le _, Nat.zero_le _⟩ rfl [] rfl rfl (Nat.le_of_ble_eq_true rfl) rfl) rfl rfl rfl ?_
      refine r_if_eq (y := 0) (tgt := 47) C dX8_pull_33 rfl rfl (fun c6 => ?_) (fun c6 => ?_)
      · have hf := gd_t c6 hf
        refine r_bipush C dX8_pull_47 kk_b_m2 rfl ?_
        cases hf
        exact r_iret C dX8_pull_49 rfl
      · have hf := gd_f c6 hf
        refine r_iload C dX8_pull_36 4 rfl rfl ?_
        refine r_i2l C dX8_pull_38 rfl ?_
        refine r_lconst (v := (0 : Int64)) C dX8_pull_39 rfl rfl ?_
        refine r_lconst (v := (1 : Int64)) C dX8_pull_40 rfl rfl ?_
        obtain ⟨r7, e7, hf⟩ := gd_b hf
        refine o_I (wn := [(h, oX8 A holding wool days sights padMany acts drawnBits drawnMany drawnNow badAct badWhy drawnAct drawnChild keptAt isWriting), ((A 32), aI cZ 1000 wins)]) C [] rfl (x_S C dX8_pull_41 (c_X8_in l D cI cZ cG u4.toInt64 (0 : Int64) (1 : Int64) r7 e7) rfl gX8_pull_X8_in hs_X8_in rfl ⟨Nat.le_of_ble_eq_true rfl, Nat.le_of_ble_eq_true rfl⟩ ⟨rfl, rfl⟩ ⟨Nat.zero_le _, Nat.zero_le _⟩ rfl [] rfl rfl (Nat.le_of_ble_eq_true rfl) rfl) rfl rfl rfl ?_
        refine r_if_ne (y := 0) (tgt := 50) C dX8_pull_44 rfl rfl (fun c8 => ?_) (fun c8 => ?_)
        · have hf := gd_f c8 hf
          refine r_iconst C dX8_pull_50 kk_i_0 rfl ?_
          refine r_istore (lv' := [(5, .int (0 : Int32)), (0, .ref h), (1, .int u1), (2, .int u2), (3, .int u3), (4, .int u4)]) C dX8_pull_51 (by decide) rfl rfl ?_
          refine r_lv (lv' := [(0, .ref h), (1, .int u1), (2, .int u2), (3, .int u3), (4, .int u4), (5, .int (0 : Int32))]) [1, 2, 3, 4, 5, 0] rfl ?_
          refine k_X8_pull_53 C h A holding wool days sights padMany acts drawnBits drawnMany drawnNow badAct badWhy drawnAct drawnChild keptAt isWriting u1 u2 u3 u4 _ _ ?_ 2000 _ _ hf
          · intro wins_14 hf
            refine r_aload_n C dX8_pull_98 rfl 0 rfl rfl ?_
            refine r_iload_n C dX8_pull_99 rfl 1 rfl rfl ?_
            refine r_iload_n C dX8_pull_100 rfl 2 rfl rfl ?_
            refine r_iload_n C dX8_pull_101 rfl 3 rfl rfl ?_
            obtain ⟨r15, e15, hf⟩ := gd_b hf
            refine o_I (wn := [(h, oX8 A holding wool days sights padMany acts drawnBits drawnMany drawnNow badAct badWhy drawnAct drawnChild keptAt isWriting), ((A 32), aI cZ 1000 wins_14)]) C [0, 1] rfl (x_V C dX8_pull_102 (c_X8_leastPull l D cI cZ cG h A holding wool days sights padMany acts drawnBits drawnMany drawnNow badAct badWhy drawnAct drawnChild wins_14 keptAt isWriting u1 u2 u3 r15 e15) rfl gX8_pull_X8_leastPull hd_X8_leastPull rfl ⟨Nat.le_of_ble_eq_true rfl, Nat.le_of_ble_eq_true rfl⟩ ⟨rfl, rfl⟩ ⟨Nat.zero_le _, Nat.zero_le _⟩ rfl [0, 1] rfl rfl 0 rfl rfl (Nat.le_of_ble_eq_true rfl) rfl) rfl rfl rfl ?_
            refine r_istore (lv' := [(5, .int r15), (0, .ref h), (1, .int u1), (2, .int u2), (3, .int u3), (4, .int u4)]) C dX8_pull_105 (by decide) rfl rfl ?_
            refine r_iload C dX8_pull_107 5 rfl rfl ?_
            refine r_iconst C dX8_pull_109 kk_i_1 rfl ?_
            refine r_icmp_ne (tgt := 118) C dX8_pull_110 rfl rfl (fun c16 => ?_) (fun c16 => ?_)
            · have hf := gd_f c16 hf
              refine r_iload C dX8_pull_118 0 rfl rfl ?_
              refine r_if_ge (y := 0) (tgt := 127) C dX8_pull_120 rfl rfl (fun c17 => ?_) (fun c17 => ?_)
              · have hf := gd_t c17 hf
                refine r_iconst C dX8_pull_127 kk_i_1 rfl ?_
                cases hf
                exact r_iret C dX8_pull_128 rfl
              · have hf := gd_f c17 hf
                refine r_iconst C dX8_pull_123 kk_i_0 rfl ?_
                refine r_goto (tgt := 128) C dX8_pull_124 rfl ?_
                cases hf
                exact r_iret C dX8_pull_128 rfl
            · have hf := gd_t c16 hf
              refine r_iload C dX8_pull_113 0 rfl rfl ?_
              refine r_goto (tgt := 128) C dX8_pull_115 rfl ?_
              cases hf
              exact r_iret C dX8_pull_128 rfl
        · have hf := gd_t c8 hf
          refine r_bipush C dX8_pull_47 kk_b_m2 rfl ?_
          cases hf
          exact r_iret C dX8_pull_49 rfl
abbrev rm_X8_lowest : Jvm.Room := { frames := 0, cells := 0, slots := 0, locals := 0 }
def f_X8_lowest_6 (kx31 : Int64 → Option (Int64)) : Nat → Int64 → Int64 → Option (Int64)
  | 0, _, _ => none
  | n + 1, u5, u7 => if (lg_cmp u7 (0 : Int64)) = 0 then kx31 u5 else if u7 = 0 then none else f_X8_lowest_6 kx31 n u7 (u5 - u5 / u7 * u7)
set_option maxHeartbeats 4000000 in
set_option maxRecDepth 100000 in
theorem k_X8_lowest_6 (C : Cx p s m args meth c D (tysW cI cZ cG) RX8 cX8_lowest 11 wsX8_lowest (some .long)) (u0 : Int64) (u2 : Int64) (u4 : Int32)  (kx31 : Int64 → Option (Int64)) (res : Int64) (hkx31 : ∀ (u5 : Int64) , kx31 u5 = some res → Wd p l e rm_X8_lowest s m args below meth c D w0 11 0 0 (MQ below (QcL D (tysW cI cZ cG) w0 [] res s.heap.size) args s 0 0 (va_A w0 s.heap.size)) [] [(0, .long u0), (2, .long u2), (4, .int u4), (5, .long u5)] 31 []) : ∀ (n : Nat) (u5 : Int64) (u7 : Int64), f_X8_lowest_6 kx31 n u5 u7 = some res → Wd p l e rm_X8_lowest s m args below meth c D w0 11 0 0 (MQ below (QcL D (tysW cI cZ cG) w0 [] res s.heap.size) args s 0 0 (va_A w0 s.heap.size)) [] [(0, .long u0), (2, .long u2), (4, .int u4), (5, .long u5), (7, .long u7)] 6 [] := by
  intro n
  induction n with
  | zero =>
    intro u5 u7 hf
    exact no_none hf
  | succ n ih =>
    intro u5 u7 hf
    unfold f_X8_lowest_6 at hf
    refine r_lload C dX8_lowest_6 4 rfl rfl ?_
    refine r_lconst (v := (0 : Int64)) C dX8_lowest_8 rfl rfl ?_
    refine r_lcmp C dX8_lowest_9 rfl ?_
    refine r_if_eq (y := 0) (tgt := 31) C dX8_lowest_10 rfl rfl (fun c1 => ?_) (fun c1 => ?_)
    · have hf := gd_t c1 hf
      refine r_lv (lv' := [(0, .long u0), (2, .long u2), (4, .int u4), (5, .long u5)]) [0, 1, 2, 3] rfl ?_
      exact hkx31 _ hf
    · have hf := gd_f c1 hf
      refine r_lload C dX8_lowest_13 3 rfl rfl ?_
      refine r_lload C dX8_lowest_15 4 rfl rfl ?_
      obtain ⟨g2, hf⟩ := gd_n hf
      refine r_lrem C dX8_lowest_17 g2 rfl ?_
      refine r_lstore (lv' := [(9, .long (u5 - u5 / u7 * u7)), (0, .long u0), (2, .long u2), (4, .int u4), (5, .long u5), (7, .long u7)]) C dX8_lowest_18 (by decide) rfl rfl ?_
      refine r_lload C dX8_lowest_20 5 rfl rfl ?_
      refine r_lstore (lv' := [(5, .long u7), (9, .long (u5 - u5 / u7 * u7)), (0, .long u0), (2, .long u2), (4, .int u4), (7, .long u7)]) C dX8_lowest_22 (by decide) rfl rfl ?_
      refine r_lload C dX8_lowest_24 1 rfl rfl ?_
      refine r_lstore (lv' := [(7, .long (u5 - u5 / u7 * u7)), (5, .long u7), (9, .long (u5 - u5 / u7 * u7)), (0, .long u0), (2, .long u2), (4, .int u4)]) C dX8_lowest_26 (by decide) rfl rfl ?_
      refine r_goto (tgt := 6) C dX8_lowest_28 rfl ?_
      refine r_lv (lv' := [(0, .long u0), (2, .long u2), (4, .int u4), (5, .long u7), (7, .long (u5 - u5 / u7 * u7))]) [3, 4, 5, 1, 0] rfl ?_
      exact ih _ _ hf
def f_X8_lowest (u0 : Int64) (u2 : Int64) (u4 : Int32) : Option (Int64) := f_X8_lowest_6 (fun u5_3 => if u4 = 0 then if u5_3 = 0 then none else some ((u0 / u5_3)) else if u5_3 = 0 then none else some ((u2 / u5_3))) 2000 u2 u0
set_option maxHeartbeats 4000000 in
set_option maxRecDepth 100000 in
theorem c_X8_lowest (l : Launch) (D : va_G) (cI cZ cG : ClassId) (u0 : Int64) (u2 : Int64) (u4 : Int32) (res : Int64) (hf : f_X8_lowest u0 u2 u4 = some res) : CL l D (tysW cI cZ cG) yX8_lowest wsX8_lowest rm_X8_lowest [.long u0, .long u2, .int u4] [] res [] := by
  refine CG.intro (own := RX8) (by decide +kernel) rfl rfl (Nat.le_of_ble_eq_true rfl) (fun p e s m args below meth c C => ?_)
  refine r_lv (lv' := [(0, .long u0), (2, .long u2), (4, .int u4)]) [0, 1, 2] rfl ?_
  unfold f_X8_lowest at hf
  refine r_lload_n C dX8_lowest_0 rfl 1 rfl rfl ?_
  refine r_lstore (lv' := [(5, .long u2), (0, .long u0), (2, .long u2), (4, .int u4)]) C dX8_lowest_1 (by decide) rfl rfl ?_
  refine r_lload_n C dX8_lowest_3 rfl 1 rfl rfl ?_
  refine r_lstore (lv' := [(7, .long u0), (5, .long u2), (0, .long u0), (2, .long u2), (4, .int u4)]) C dX8_lowest_4 (by decide) rfl rfl ?_
  refine r_lv (lv' := [(0, .long u0), (2, .long u2), (4, .int u4), (5, .long u2), (7, .long u0)]) [2, 3, 4, 1, 0] rfl ?_
  refine k_X8_lowest_6 C u0 u2 u4 _ _ ?_ 2000 _ _ hf
  · intro u5_3 hf
    refine r_iload C dX8_lowest_31 2 rfl rfl ?_
    refine r_if_ne (y := 0) (tgt := 43) C dX8_lowest_33 rfl rfl (fun c4 => ?_) (fun c4 => ?_)
    · have hf := gd_f c4 hf
      refine r_lload_n C dX8_lowest_43 rfl 1 rfl rfl ?_
      refine r_lload C dX8_lowest_44 3 rfl rfl ?_
      obtain ⟨g5, hf⟩ := gd_n hf
      refine r_ldiv C dX8_lowest_46 g5 rfl ?_
      cases hf
      exact r_lret C dX8_lowest_47 rfl
    · have hf := gd_t c4 hf
      refine r_lload_n C dX8_lowest_36 rfl 0 rfl rfl ?_
      refine r_lload C dX8_lowest_37 3 rfl rfl ?_
      obtain ⟨g6, hf⟩ := gd_n hf
      refine r_ldiv C dX8_lowest_39 g6 rfl ?_
      refine r_goto (tgt := 47) C dX8_lowest_40 rfl ?_
      cases hf
      exact r_lret C dX8_lowest_47 rfl
theorem wc_X8_passed_289 : Cond.constantLong RX8 289 (16 : Int64) ∈ wsX8_passed := by decide +kernel
theorem wc_X8_passed_293 : Cond.constantLong RX8 293 (-1000000000000000002 : Int64) ∈ wsX8_passed := by decide +kernel
theorem wc_X8_passed_291 : Cond.constantLong RX8 291 (10 : Int64) ∈ wsX8_passed := by decide +kernel
abbrev rm_X8_passed : Jvm.Room := { frames := 1, cells := 0, slots := 0, locals := 30 }
def f_X8_passed_76 (u1 : Int32) (u2 : Int32) (kx124 : Int64 → Int64 → Option (Int64)) : Nat → Int64 → Int64 → Int32 → Option (Int64)
  | 0, _, _, _ => none
  | n + 1, u5, u7, u9 => if u1 ≤ u9 then kx124 u5 u7 else f_X8_passed_76 u1 u2 kx124 n ((u5 * ((10 : Int32) - u2).toInt64) + (u7 * u2.toInt64)) ((u5 * u2.toInt64) + (u7 * ((10 : Int32) - u2).toInt64)) (u9 + (1 : Int32))
set_option maxHeartbeats 4000000 in
set_option maxRecDepth 100000 in
theorem k_X8_passed_76 (C : Cx p s m args meth c D (tysW cI cZ cG) RX8 cX8_passed 12 wsX8_passed (some .long)) (h : Nat) (u1 : Int32) (u2 : Int32) (u4 : Int32)  (kx124 : Int64 → Int64 → Option (Int64)) (res : Int64) (hkx124 : ∀ (u5 : Int64) (u7 : Int64) , kx124 u5 u7 = some res → Wd p l e rm_X8_passed s m args below meth c D w0 12 0 0 (MQ below (QcL D (tysW cI cZ cG) w0 [] res s.heap.size) args s 0 0 (va_A w0 s.heap.size)) [] [(4, .int u4), (5, .long u5), (7, .long u7)] 124 []) : ∀ (n : Nat) (u5 : Int64) (u7 : Int64) (u9 : Int32), f_X8_passed_76 u1 u2 kx124 n u5 u7 u9 = some res → Wd p l e rm_X8_passed s m args below meth c D w0 12 0 0 (MQ below (QcL D (tysW cI cZ cG) w0 [] res s.heap.size) args s 0 0 (va_A w0 s.heap.size)) [] [(1, .int u1), (2, .int u2), (4, .int u4), (5, .long u5), (7, .long u7), (9, .int u9)] 76 [] := by
  intro n
  induction n with
  | zero =>
    intro u5 u7 u9 hf
    exact no_none hf
  | succ n ih =>
    intro u5 u7 u9 hf
    unfold f_X8_passed_76 at hf
    refine r_iload C dX8_passed_76 5 rfl rfl ?_
    refine r_iload_n C dX8_passed_78 rfl 0 rfl rfl ?_
    refine r_icmp_ge (tgt := 124) C dX8_passed_79 rfl rfl (fun c10 => ?_) (fun c10 => ?_)
    · have hf := gd_t c10 hf
      refine r_lv (lv' := [(4, .int u4), (5, .long u5), (7, .long u7)]) [2, 3, 4] rfl ?_
      exact hkx124 _ _ hf
    · have hf := gd_f c10 hf
      refine r_lload C dX8_passed_82 3 rfl rfl ?_
      refine r_bipush C dX8_passed_84 kk_b_10 rfl ?_
      refine r_iload_n C dX8_passed_86 rfl 1 rfl rfl ?_
      refine r_isub C dX8_passed_87 rfl ?_
      refine r_i2l C dX8_passed_88 rfl ?_
      refine r_lmul C dX8_passed_89 rfl ?_
      refine r_lload C dX8_passed_90 4 rfl rfl ?_
      refine r_iload_n C dX8_passed_92 rfl 1 rfl rfl ?_
      refine r_i2l C dX8_passed_93 rfl ?_
      refine r_lmul C dX8_passed_94 rfl ?_
      refine r_ladd C dX8_passed_95 rfl ?_
      refine r_lstore (lv' := [(10, .long ((u5 * ((10 : Int32) - u2).toInt64) + (u7 * u2.toInt64))), (1, .int u1), (2, .int u2), (4, .int u4), (5, .long u5), (7, .long u7), (9, .int u9)]) C dX8_passed_96 (by decide) rfl rfl ?_
      refine r_lload C dX8_passed_98 4 rfl rfl ?_
      refine r_iload_n C dX8_passed_100 rfl 2 rfl rfl ?_
      refine r_i2l C dX8_passed_101 rfl ?_
      refine r_lmul C dX8_passed_102 rfl ?_
      refine r_lload C dX8_passed_103 5 rfl rfl ?_
      refine r_bipush C dX8_passed_105 kk_b_10 rfl ?_
      refine r_iload_n C dX8_passed_107 rfl 2 rfl rfl ?_
      refine r_isub C dX8_passed_108 rfl ?_
      refine r_i2l C dX8_passed_109 rfl ?_
      refine r_lmul C dX8_passed_110 rfl ?_
      refine r_ladd C dX8_passed_111 rfl ?_
      refine r_lstore (lv' := [(7, .long ((u5 * u2.toInt64) + (u7 * ((10 : Int32) - u2).toInt64))), (10, .long ((u5 * ((10 : Int32) - u2).toInt64) + (u7 * u2.toInt64))), (1, .int u1), (2, .int u2), (4, .int u4), (5, .long u5), (9, .int u9)]) C dX8_passed_112 (by decide) rfl rfl ?_
      refine r_lload C dX8_passed_114 1 rfl rfl ?_
      refine r_lstore (lv' := [(5, .long ((u5 * ((10 : Int32) - u2).toInt64) + (u7 * u2.toInt64))), (7, .long ((u5 * u2.toInt64) + (u7 * ((10 : Int32) - u2).toInt64))), (10, .long ((u5 * ((10 : Int32) - u2).toInt64) + (u7 * u2.toInt64))), (1, .int u1), (2, .int u2), (4, .int u4), (9, .int u9)]) C dX8_passed_116 (by decide) rfl rfl ?_
      refine r_iinc (lv' := [(9, .int (u9 + (1 : Int32))), (5, .long ((u5 * ((10 : Int32) - u2).toInt64) + (u7 * u2.toInt64))), (7, .long ((u5 * u2.toInt64) + (u7 * ((10 : Int32) - u2).toInt64))), (10, .long ((u5 * ((10 : Int32) - u2).toInt64) + (u7 * u2.toInt64))), (1, .int u1), (2, .int u2), (4, .int u4)]) C dX8_passed_118 6 rfl (ki_1 _) (by decide) rfl rfl ?_
      refine r_goto (tgt := 76) C dX8_passed_121 rfl ?_
      refine r_lv (lv' := [(1, .int u1), (2, .int u2), (4, .int u4), (5, .long ((u5 * ((10 : Int32) - u2).toInt64) + (u7 * u2.toInt64))), (7, .long ((u5 * u2.toInt64) + (u7 * ((10 : Int32) - u2).toInt64))), (9, .int (u9 + (1 : Int32)))]) [4, 5, 6, 1, 2, 0] rfl ?_
      exact ih _ _ _ hf
def f_X8_passed (u1 : Int32) (u2 : Int32) (u3 : Int32) (u4 : Int32) : Option (Int64) := (f_X8_in u1.toInt64 (0 : Int64) (16 : Int64)).bind (fun r1 => if r1 = 0 then some ((-1000000000000000002 : Int64)) else (f_X8_in u2.toInt64 (0 : Int64) (10 : Int64)).bind (fun r3 => if r3 = 0 then some ((-1000000000000000002 : Int64)) else (f_X8_in u3.toInt64 (0 : Int64) (1 : Int64)).bind (fun r5 => if r5 = 0 then some ((-1000000000000000002 : Int64)) else (f_X8_in u4.toInt64 (0 : Int64) (1 : Int64)).bind (fun r7 => if r7 = 0 then some ((-1000000000000000002 : Int64)) else if u3 = (1 : Int32) then (f_X8_lowest (u1 * u2).toInt64 (10 : Int64) u4).bind (fun r14 => some (r14)) else f_X8_passed_76 u1 u2 (fun u5_11 u7_12 => (f_X8_lowest u5_11 (u5_11 + u7_12) u4).bind (fun r13 => some (r13))) 2000 (1 : Int64) (0 : Int64) (0 : Int32)))))
set_option maxHeartbeats 4000000 in
set_option maxRecDepth 100000 in
theorem c_X8_passed (l : Launch) (D : va_G) (cI cZ cG : ClassId) (h : Nat) (u1 : Int32) (u2 : Int32) (u3 : Int32) (u4 : Int32) (res : Int64) (hf : f_X8_passed u1 u2 u3 u4 = some res) : CL l D (tysW cI cZ cG) yX8_passed wsX8_passed rm_X8_passed [.ref h, .int u1, .int u2, .int u3, .int u4] [] res [] := by
  refine CG.intro (own := RX8) (by decide +kernel) rfl rfl (Nat.le_of_ble_eq_true rfl) (fun p e s m args below meth c C => ?_)
  refine r_lv (lv' := [(0, .ref h), (1, .int u1), (2, .int u2), (3, .int u3), (4, .int u4)]) [0, 1, 2, 3, 4] rfl ?_
  unfold f_X8_passed at hf
  refine r_iload_n C dX8_passed_0 rfl 1 rfl rfl ?_
  refine r_i2l C dX8_passed_1 rfl ?_
  refine r_lconst (v := (0 : Int64)) C dX8_passed_2 rfl rfl ?_
  refine r_ldc2 C dX8_passed_3 wc_X8_passed_289 rfl ?_
  obtain ⟨r1, e1, hf⟩ := gd_b hf
  refine o_I (wn := []) C [] rfl (x_S C dX8_passed_6 (c_X8_in l D cI cZ cG u1.toInt64 (0 : Int64) (16 : Int64) r1 e1) rfl gX8_passed_X8_in hs_X8_in rfl ⟨Nat.le_of_ble_eq_true rfl, Nat.le_of_ble_eq_true rfl⟩ ⟨rfl, rfl⟩ ⟨Nat.zero_le _, Nat.zero_le _⟩ rfl [] rfl rfl (Nat.le_of_ble_eq_true rfl) rfl) rfl rfl rfl ?_
  refine r_if_eq (y := 0) (tgt := 45) C dX8_passed_9 rfl rfl (fun c2 => ?_) (fun c2 => ?_)
  · have hf := gd_t c2 hf
    refine r_ldc2 C dX8_passed_45 wc_X8_passed_293 rfl ?_
    cases hf
    exact r_lret C dX8_passed_48 rfl
  · have hf := gd_f c2 hf
    refine r_iload_n C dX8_passed_12 rfl 2 rfl rfl ?_
    refine r_i2l C dX8_passed_13 rfl ?_
    refine r_lconst (v := (0 : Int64)) C dX8_passed_14 rfl rfl ?_
    refine r_ldc2 C dX8_passed_15 wc_X8_passed_291 rfl ?_
    obtain ⟨r3, e3, hf⟩ := gd_b hf
    refine o_I (wn := []) C [] rfl (x_S C dX8_passed_18 (c_X8_in l D cI cZ cG u2.toInt64 (0 : Int64) (10 : Int64) r3 e3) rfl gX8_passed_X8_in hs_X8_in rfl ⟨Nat.le_of_ble_eq_true rfl, Nat.le_of_ble_eq_true rfl⟩ ⟨rfl, rfl⟩ ⟨Nat.zero_le _, Nat.zero_le _⟩ rfl [] rfl rfl (Nat.le_of_ble_eq_true rfl) rfl) rfl rfl rfl ?_
    refine r_if_eq (y := 0) (tgt := 45) C dX8_passed_21 rfl rfl (fun c4 => ?_) (fun c4 => ?_)
    · have hf := gd_t c4 hf
      refine r_ldc2 C dX8_passed_45 wc_X8_passed_293 rfl ?_
      cases hf
      exact r_lret C dX8_passed_48 rfl
    · have hf := gd_f c4 hf
      refine r_iload_n C dX8_passed_24 rfl 3 rfl rfl ?_
      refine r_i2l C dX8_passed_25 rfl ?_
      refine r_lconst (v := (0 : Int64)) C dX8_passed_26 rfl rfl ?_
      refine r_lconst (v := (1 : Int64)) C dX8_passed_27 rfl rfl ?_
      obtain ⟨r5, e5, hf⟩ := gd_b hf
      refine o_I (wn := []) C [] rfl (x_S C dX8_passed_28 (c_X8_in l D cI cZ cG u3.toInt64 (0 : Int64) (1 : Int64) r5 e5) rfl gX8_passed_X8_in hs_X8_in rfl ⟨Nat.le_of_ble_eq_true rfl, Nat.le_of_ble_eq_true rfl⟩ ⟨rfl, rfl⟩ ⟨Nat.zero_le _, Nat.zero_le _⟩ rfl [] rfl rfl (Nat.le_of_ble_eq_true rfl) rfl) rfl rfl rfl ?_
      refine r_if_eq (y := 0) (tgt := 45) C dX8_passed_31 rfl rfl (fun c6 => ?_) (fun c6 => ?_)
      · have hf := gd_t c6 hf
        refine r_ldc2 C dX8_passed_45 wc_X8_passed_293 rfl ?_
        cases hf
        exact r_lret C dX8_passed_48 rfl
      · have hf := gd_f c6 hf
        refine r_iload C dX8_passed_34 4 rfl rfl ?_
        refine r_i2l C dX8_passed_36 rfl ?_
        refine r_lconst (v := (0 : Int64)) C dX8_passed_37 rfl rfl ?_
        refine r_lconst (v := (1 : Int64)) C dX8_passed_38 rfl rfl ?_
        obtain ⟨r7, e7, hf⟩ := gd_b hf
        refine o_I (wn := []) C [] rfl (x_S C dX8_passed_39 (c_X8_in l D cI cZ cG u4.toInt64 (0 : Int64) (1 : Int64) r7 e7) rfl gX8_passed_X8_in hs_X8_in rfl ⟨Nat.le_of_ble_eq_true rfl, Nat.le_of_ble_eq_true rfl⟩ ⟨rfl, rfl⟩ ⟨Nat.zero_le _, Nat.zero_le _⟩ rfl [] rfl rfl (Nat.le_of_ble_eq_true rfl) rfl) rfl rfl rfl ?_
        refine r_if_ne (y := 0) (tgt := 49) C dX8_passed_42 rfl rfl (fun c8 => ?_) (fun c8 => ?_)
        · have hf := gd_f c8 hf
          refine r_iload_n C dX8_passed_49 rfl 3 rfl rfl ?_
          refine r_iconst C dX8_passed_50 kk_i_1 rfl ?_
          refine r_icmp_ne (tgt := 67) C dX8_passed_51 rfl rfl (fun c9 => ?_) (fun c9 => ?_)
          · have hf := gd_f c9 hf
            refine r_lconst (v := (1 : Int64)) C dX8_passed_67 rfl rfl ?_
            refine r_lstore (lv' := [(5, .long (1 : Int64)), (0, .ref h), (1, .int u1), (2, .int u2), (3, .int u3), (4, .int u4)]) C dX8_passed_68 (by decide) rfl rfl ?_
            refine r_lconst (v := (0 : Int64)) C dX8_passed_70 rfl rfl ?_
            refine r_lstore (lv' := [(7, .long (0 : Int64)), (5, .long (1 : Int64)), (0, .ref h), (1, .int u1), (2, .int u2), (3, .int u3), (4, .int u4)]) C dX8_passed_71 (by decide) rfl rfl ?_
            refine r_iconst C dX8_passed_73 kk_i_0 rfl ?_
            refine r_istore (lv' := [(9, .int (0 : Int32)), (7, .long (0 : Int64)), (5, .long (1 : Int64)), (0, .ref h), (1, .int u1), (2, .int u2), (3, .int u3), (4, .int u4)]) C dX8_passed_74 (by decide) rfl rfl ?_
            refine r_lv (lv' := [(1, .int u1), (2, .int u2), (4, .int u4), (5, .long (1 : Int64)), (7, .long (0 : Int64)), (9, .int (0 : Int32))]) [4, 5, 7, 2, 1, 0] rfl ?_
            refine k_X8_passed_76 C h u1 u2 u4 _ _ ?_ 2000 _ _ _ hf
            · intro u5_11 u7_12 hf
              refine r_lload C dX8_passed_124 1 rfl rfl ?_
              refine r_lload C dX8_passed_126 1 rfl rfl ?_
              refine r_lload C dX8_passed_128 2 rfl rfl ?_
              refine r_ladd C dX8_passed_130 rfl ?_
              refine r_iload C dX8_passed_131 0 rfl rfl ?_
              obtain ⟨r13, e13, hf⟩ := gd_b hf
              refine o_L (wn := []) C [] rfl (x_S C dX8_passed_133 (c_X8_lowest l D cI cZ cG u5_11 (u5_11 + u7_12) u4 r13 e13) rfl gX8_passed_X8_lowest hs_X8_lowest rfl ⟨Nat.le_of_ble_eq_true rfl, Nat.le_of_ble_eq_true rfl⟩ ⟨rfl, rfl⟩ ⟨Nat.zero_le _, Nat.zero_le _⟩ rfl [] rfl rfl (Nat.le_of_ble_eq_true rfl) rfl) rfl rfl rfl ?_
              cases hf
              exact r_lret C dX8_passed_136 rfl
          · have hf := gd_t c9 hf
            refine r_iload_n C dX8_passed_54 rfl 1 rfl rfl ?_
            refine r_iload_n C dX8_passed_55 rfl 2 rfl rfl ?_
            refine r_imul C dX8_passed_56 rfl ?_
            refine r_i2l C dX8_passed_57 rfl ?_
            refine r_ldc2 C dX8_passed_58 wc_X8_passed_291 rfl ?_
            refine r_iload C dX8_passed_61 4 rfl rfl ?_
            obtain ⟨r14, e14, hf⟩ := gd_b hf
            refine o_L (wn := []) C [] rfl (x_S C dX8_passed_63 (c_X8_lowest l D cI cZ cG (u1 * u2).toInt64 (10 : Int64) u4 r14 e14) rfl gX8_passed_X8_lowest hs_X8_lowest rfl ⟨Nat.le_of_ble_eq_true rfl, Nat.le_of_ble_eq_true rfl⟩ ⟨rfl, rfl⟩ ⟨Nat.zero_le _, Nat.zero_le _⟩ rfl [] rfl rfl (Nat.le_of_ble_eq_true rfl) rfl) rfl rfl rfl ?_
            cases hf
            exact r_lret C dX8_passed_66 rfl
        · have hf := gd_t c8 hf
          refine r_ldc2 C dX8_passed_45 wc_X8_passed_293 rfl ?_
          cases hf
          exact r_lret C dX8_passed_48 rfl
abbrev rm_X8_actBy : Jvm.Room := { frames := 0, cells := 0, slots := 0, locals := 0 }
def f_X8_actBy (u0 : Int32) : Option (Int32) := if u0 = (0 : Int32) then some ((0 : Int32)) else if u0 = (1 : Int32) then some ((0 : Int32)) else if u0 = (2 : Int32) then some ((1 : Int32)) else if u0 = (3 : Int32) then some ((2 : Int32)) else if u0 = (4 : Int32) then some ((3 : Int32)) else if u0 = (5 : Int32) then some ((4 : Int32)) else if u0 = (6 : Int32) then some ((5 : Int32)) else some ((6 : Int32))
set_option maxHeartbeats 4000000 in
set_option maxRecDepth 100000 in
theorem c_X8_actBy (l : Launch) (D : va_G) (cI cZ cG : ClassId) (u0 : Int32) (res : Int32) (hf : f_X8_actBy u0 = some res) : CI l D (tysW cI cZ cG) yX8_actBy wsX8_actBy rm_X8_actBy [.int u0] [] res [] := by
  refine CG.intro (own := RX8) (by decide +kernel) rfl rfl (Nat.le_of_ble_eq_true rfl) (fun p e s m args below meth c C => ?_)
  refine r_lv (lv' := [(0, .int u0)]) [0] rfl ?_
  unfold f_X8_actBy at hf
  refine r_iload_n C dX8_actBy_0 rfl 0 rfl rfl ?_
  by_cases c1 : u0 = (0 : Int32)
  · have hf := gd_t c1 hf
    refine r_tabIn (tgt := 44) C dX8_actBy_1 c1 (by decide) (by decide) rfl rfl ?_
    refine r_iconst C dX8_actBy_44 kk_i_0 rfl ?_
    cases hf
    exact r_iret C dX8_actBy_45 rfl
  have hf := gd_f c1 hf
  by_cases c2 : u0 = (1 : Int32)
  · have hf := gd_t c2 hf
    refine r_tabIn (tgt := 44) C dX8_actBy_1 c2 (by decide) (by decide) rfl rfl ?_
    refine r_iconst C dX8_actBy_44 kk_i_0 rfl ?_
    cases hf
    exact r_iret C dX8_actBy_45 rfl
  have hf := gd_f c2 hf
  by_cases c3 : u0 = (2 : Int32)
  · have hf := gd_t c3 hf
    refine r_tabIn (tgt := 46) C dX8_actBy_1 c3 (by decide) (by decide) rfl rfl ?_
    refine r_iconst C dX8_actBy_46 kk_i_1 rfl ?_
    cases hf
    exact r_iret C dX8_actBy_47 rfl
  have hf := gd_f c3 hf
  by_cases c4 : u0 = (3 : Int32)
  · have hf := gd_t c4 hf
    refine r_tabIn (tgt := 48) C dX8_actBy_1 c4 (by decide) (by decide) rfl rfl ?_
    refine r_iconst C dX8_actBy_48 kk_i_2 rfl ?_
    cases hf
    exact r_iret C dX8_actBy_49 rfl
  have hf := gd_f c4 hf
  by_cases c5 : u0 = (4 : Int32)
  · have hf := gd_t c5 hf
    refine r_tabIn (tgt := 50) C dX8_actBy_1 c5 (by decide) (by decide) rfl rfl ?_
    refine r_iconst C dX8_actBy_50 kk_i_3 rfl ?_
    cases hf
    exact r_iret C dX8_actBy_51 rfl
  have hf := gd_f c5 hf
  by_cases c6 : u0 = (5 : Int32)
  · have hf := gd_t c6 hf
    refine r_tabIn (tgt := 52) C dX8_actBy_1 c6 (by decide) (by decide) rfl rfl ?_
    refine r_iconst C dX8_actBy_52 kk_i_4 rfl ?_
    cases hf
    exact r_iret C dX8_actBy_53 rfl
  have hf := gd_f c6 hf
  by_cases c7 : u0 = (6 : Int32)
  · have hf := gd_t c7 hf
    refine r_tabIn (tgt := 54) C dX8_actBy_1 c7 (by decide) (by decide) rfl rfl ?_
    refine r_iconst C dX8_actBy_54 kk_i_5 rfl ?_
    cases hf
    exact r_iret C dX8_actBy_55 rfl
  have hf := gd_f c7 hf
  refine r_tabOut (tgt := 56) C dX8_actBy_1 (by have e0 := lv_neT (a := 0) c1 rfl; have e1 := lv_neT (a := 1) c2 rfl; have e2 := lv_neT (a := 2) c3 rfl; have e3 := lv_neT (a := 3) c4 rfl; have e4 := lv_neT (a := 4) c5 rfl; have e5 := lv_neT (a := 5) c6 rfl; have e6 := lv_neT (a := 6) c7 rfl; omega) rfl ?_
  refine r_bipush C dX8_actBy_56 kk_b_6 rfl ?_
  cases hf
  exact r_iret C dX8_actBy_58 rfl
theorem wc_X8_year_299 : Cond.constantLong RX8 299 (9999 : Int64) ∈ wsX8_year := by decide +kernel
theorem wc_X8_year_106 : Cond.constantLong RX8 106 (99 : Int64) ∈ wsX8_year := by decide +kernel
theorem wc_X8_year_232 : Cond.constantLong RX8 232 (2 : Int64) ∈ wsX8_year := by decide +kernel
theorem fw_X8_year_X8 : ∀ w ∈ u_ws RX8 TX8 37, w ∈ wsX8_year := by decide +kernel
theorem fl_X8_year_174 : Cond.fieldLink RX8 174 "MittenLineModel" "drawnMany" "I" ∈ wsX8_year := by decide +kernel
theorem wc_X8_year_301 : Cond.constantLong RX8 301 (75 : Int64) ∈ wsX8_year := by decide +kernel
theorem wc_X8_year_120 : Cond.constantLong RX8 120 (74 : Int64) ∈ wsX8_year := by decide +kernel
theorem wc_X8_year_303 : Cond.constantLong RX8 303 (65537 : Int64) ∈ wsX8_year := by decide +kernel
theorem fl_X8_year_77 : Cond.fieldLink RX8 77 "MittenLineModel" "wool" "I" ∈ wsX8_year := by decide +kernel
theorem fl_X8_year_7 : Cond.fieldLink RX8 7 "MittenLineModel" "yard" "[I" ∈ wsX8_year := by decide +kernel
abbrev rm_X8_year : Jvm.Room := { frames := 5, cells := 0, slots := 0, locals := 114 }
def f_X8_year_54 (u2 : Int32) (kx138 : (Nat → Int32) → (Nat → Int32) → (Nat → Int32) → Int32 → Int32 → Int32 → (Nat → Int32) → Int32 → Int32 → Int32 → Option (Int32 × (Nat → Int32) × (Nat → Int32) × (Nat → Int32) × Int32 × Int32 × Int32 × (Nat → Int32) × Int32 × Int32 × Int32 × (Nat → Int32))) : Nat → Int32 → Int32 → (Nat → Int32) → (Nat → Int32) → (Nat → Int32) → Int32 → Int32 → Int32 → (Nat → Int32) → Int32 → Int32 → Int32 → Option (Int32 × (Nat → Int32) × (Nat → Int32) × (Nat → Int32) × Int32 × Int32 × Int32 × (Nat → Int32) × Int32 × Int32 × Int32 × (Nat → Int32))
  | 0, _, _, _, _, _, _, _, _, _, _, _, _ => none
  | n + 1, u4, u5, yard, feels, length, holding, wool, days, then_, drawnBits, drawnMany, drawnNow => if u2 ≤ u5 then kx138 yard feels length holding wool days then_ drawnBits drawnMany drawnNow else (f_X8_actBy ((((((75 : Int64) * u4.toInt64) + (74 : Int64)) - (((75 : Int64) * u4.toInt64) + (74 : Int64)) / (65537 : Int64) * (65537 : Int64)).toInt32 / (10 : Int32)) - (((((75 : Int64) * u4.toInt64) + (74 : Int64)) - (((75 : Int64) * u4.toInt64) + (74 : Int64)) / (65537 : Int64) * (65537 : Int64)).toInt32 / (10 : Int32)) / (8 : Int32) * (8 : Int32))).bind (fun r9 => (f_X8_whyNot yard length holding wool days then_ drawnBits r9 (((((75 : Int64) * u4.toInt64) + (74 : Int64)) - (((75 : Int64) * u4.toInt64) + (74 : Int64)) / (65537 : Int64) * (65537 : Int64)).toInt32 - ((((75 : Int64) * u4.toInt64) + (74 : Int64)) - (((75 : Int64) * u4.toInt64) + (74 : Int64)) / (65537 : Int64) * (65537 : Int64)).toInt32 / (10 : Int32) * (10 : Int32)) ((1 : Int32) + ((((((75 : Int64) * u4.toInt64) + (74 : Int64)) - (((75 : Int64) * u4.toInt64) + (74 : Int64)) / (65537 : Int64) * (65537 : Int64)).toInt32 / (80 : Int32)) - (((((75 : Int64) * u4.toInt64) + (74 : Int64)) - (((75 : Int64) * u4.toInt64) + (74 : Int64)) / (65537 : Int64) * (65537 : Int64)).toInt32 / (80 : Int32)) / (9 : Int32) * (9 : Int32)))).bind (fun r10 => if r10.1 = 0 then (f_X8_happen yard feels length holding wool days r10.2.1 r10.2.2 drawnMany drawnNow r9 (((((75 : Int64) * u4.toInt64) + (74 : Int64)) - (((75 : Int64) * u4.toInt64) + (74 : Int64)) / (65537 : Int64) * (65537 : Int64)).toInt32 - ((((75 : Int64) * u4.toInt64) + (74 : Int64)) - (((75 : Int64) * u4.toInt64) + (74 : Int64)) / (65537 : Int64) * (65537 : Int64)).toInt32 / (10 : Int32) * (10 : Int32)) ((1 : Int32) + ((((((75 : Int64) * u4.toInt64) + (74 : Int64)) - (((75 : Int64) * u4.toInt64) + (74 : Int64)) / (65537 : Int64) * (65537 : Int64)).toInt32 / (80 : Int32)) - (((((75 : Int64) * u4.toInt64) + (74 : Int64)) - (((75 : Int64) * u4.toInt64) + (74 : Int64)) / (65537 : Int64) * (65537 : Int64)).toInt32 / (80 : Int32)) / (9 : Int32) * (9 : Int32)))).bind (fun r12 => f_X8_year_54 u2 kx138 n ((((75 : Int64) * u4.toInt64) + (74 : Int64)) - (((75 : Int64) * u4.toInt64) + (74 : Int64)) / (65537 : Int64) * (65537 : Int64)).toInt32 (u5 + (1 : Int32)) r12.1 r12.2.1 r12.2.2.1 r12.2.2.2.1 r12.2.2.2.2.1 r12.2.2.2.2.2.1 r12.2.2.2.2.2.2.1 r12.2.2.2.2.2.2.2.1 r12.2.2.2.2.2.2.2.2.1 r12.2.2.2.2.2.2.2.2.2) else f_X8_year_54 u2 kx138 n ((((75 : Int64) * u4.toInt64) + (74 : Int64)) - (((75 : Int64) * u4.toInt64) + (74 : Int64)) / (65537 : Int64) * (65537 : Int64)).toInt32 (u5 + (1 : Int32)) yard feels length holding wool days r10.2.1 r10.2.2 drawnMany drawnNow))
set_option maxHeartbeats 4000000 in
set_option maxRecDepth 100000 in
theorem k_X8_year_54 (C : Cx p s m args meth c D (tysW cI cZ cG) RX8 cX8_year 8 wsX8_year (some .int)) (h : Nat) (A : Nat → Nat) (sights : Int32) (padMany : Int32) (acts : Int32) (had : Nat → Int32) (badAct : Int32) (badWhy : Int32) (drawnAct : Int32) (drawnChild : Int32) (keptAt : Int32) (isWriting : Int32) (u2 : Int32) (u3 : Int32)  (kx138 : (Nat → Int32) → (Nat → Int32) → (Nat → Int32) → Int32 → Int32 → Int32 → (Nat → Int32) → Int32 → Int32 → Int32 → Option (Int32 × (Nat → Int32) × (Nat → Int32) × (Nat → Int32) × Int32 × Int32 × Int32 × (Nat → Int32) × Int32 × Int32 × Int32 × (Nat → Int32))) (res : Int32 × (Nat → Int32) × (Nat → Int32) × (Nat → Int32) × Int32 × Int32 × Int32 × (Nat → Int32) × Int32 × Int32 × Int32 × (Nat → Int32)) (hkx138 : ∀ (yard : Nat → Int32) (feels : Nat → Int32) (length : Nat → Int32) (holding : Int32) (wool : Int32) (days : Int32) (then_ : Nat → Int32) (drawnBits : Int32) (drawnMany : Int32) (drawnNow : Int32) , kx138 yard feels length holding wool days then_ drawnBits drawnMany drawnNow = some res → Wd p l e rm_X8_year s m args below meth c D w0 8 0 0 (MQ below (QcI D (tysW cI cZ cG) w0 [(h, oX8 A res.2.2.2.2.1 res.2.2.2.2.2.1 res.2.2.2.2.2.2.1 sights padMany acts res.2.2.2.2.2.2.2.2.1 res.2.2.2.2.2.2.2.2.2.1 res.2.2.2.2.2.2.2.2.2.2.1 badAct badWhy drawnAct drawnChild keptAt isWriting), ((A 0), aI cI 10 res.2.1), ((A 1), aI cI 10 res.2.2.1), ((A 2), aI cI 9 res.2.2.2.1), ((A 15), aI cI 10 res.2.2.2.2.2.2.2.1), ((A 19), aI cI 32 res.2.2.2.2.2.2.2.2.2.2.2)] res.1 s.heap.size) args s 0 0 (va_A w0 s.heap.size)) [(h, oX8 A holding wool days sights padMany acts drawnBits drawnMany drawnNow badAct badWhy drawnAct drawnChild keptAt isWriting), ((A 0), aI cI 10 yard), ((A 1), aI cI 10 feels), ((A 2), aI cI 9 length), ((A 15), aI cI 10 then_), ((A 19), aI cI 32 had)] [(0, .ref h), (3, .int u3)] 138 []) : ∀ (n : Nat) (u4 : Int32) (u5 : Int32) (yard : Nat → Int32) (feels : Nat → Int32) (length : Nat → Int32) (holding : Int32) (wool : Int32) (days : Int32) (then_ : Nat → Int32) (drawnBits : Int32) (drawnMany : Int32) (drawnNow : Int32), f_X8_year_54 u2 kx138 n u4 u5 yard feels length holding wool days then_ drawnBits drawnMany drawnNow = some res → Wd p l e rm_X8_year s m args below meth c D w0 8 0 0 (MQ below (QcI D (tysW cI cZ cG) w0 [(h, oX8 A res.2.2.2.2.1 res.2.2.2.2.2.1 res.2.2.2.2.2.2.1 sights padMany acts res.2.2.2.2.2.2.2.2.1 res.2.2.2.2.2.2.2.2.2.1 res.2.2.2.2.2.2.2.2.2.2.1 badAct badWhy drawnAct drawnChild keptAt isWriting), ((A 0), aI cI 10 res.2.1), ((A 1), aI cI 10 res.2.2.1), ((A 2), aI cI 9 res.2.2.2.1), ((A 15), aI cI 10 res.2.2.2.2.2.2.2.1), ((A 19), aI cI 32 res.2.2.2.2.2.2.2.2.2.2.2)] res.1 s.heap.size) args s 0 0 (va_A w0 s.heap.size)) [(h, oX8 A holding wool days sights padMany acts drawnBits drawnMany drawnNow badAct badWhy drawnAct drawnChild keptAt isWriting), ((A 0), aI cI 10 yard), ((A 1), aI cI 10 feels), ((A 2), aI cI 9 length), ((A 15), aI cI 10 then_), ((A 19), aI cI 32 had)] [(0, .ref h), (2, .int u2), (3, .int u3), (4, .int u4), (5, .int u5)] 54 [] := by
  intro n
  induction n with
  | zero =>
    intro u4 u5 yard feels length holding wool days then_ drawnBits drawnMany drawnNow hf
    exact no_none hf
  | succ n ih =>
    intro u4 u5 yard feels length holding wool days then_ drawnBits drawnMany drawnNow hf
    unfold f_X8_year_54 at hf
    refine r_iload C dX8_year_54 4 rfl rfl ?_
    refine r_iload_n C dX8_year_56 rfl 1 rfl rfl ?_
    refine r_icmp_ge (tgt := 138) C dX8_year_57 rfl rfl (fun c8 => ?_) (fun c8 => ?_)
    · have hf := gd_t c8 hf
      refine r_lv (lv' := [(0, .ref h), (3, .int u3)]) [0, 2] rfl ?_
      exact hkx138 _ _ _ _ _ _ _ _ _ _ hf
    · have hf := gd_f c8 hf
      refine r_ldc2 C dX8_year_60 wc_X8_year_301 rfl ?_
      refine r_iload C dX8_year_63 3 rfl rfl ?_
      refine r_i2l C dX8_year_65 rfl ?_
      refine r_lmul C dX8_year_66 rfl ?_
      refine r_ldc2 C dX8_year_67 wc_X8_year_120 rfl ?_
      refine r_ladd C dX8_year_70 rfl ?_
      refine r_ldc2 C dX8_year_71 wc_X8_year_303 rfl ?_
      refine r_lrem C dX8_year_74 (by decide) rfl ?_
      refine r_l2i C dX8_year_75 rfl ?_
      refine r_istore (lv' := [(4, .int ((((75 : Int64) * u4.toInt64) + (74 : Int64)) - (((75 : Int64) * u4.toInt64) + (74 : Int64)) / (65537 : Int64) * (65537 : Int64)).toInt32), (0, .ref h), (2, .int u2), (3, .int u3), (5, .int u5)]) C dX8_year_76 (by decide) rfl rfl ?_
      refine r_iload C dX8_year_78 0 rfl rfl ?_
      refine r_bipush C dX8_year_80 kk_b_10 rfl ?_
      refine r_idiv C dX8_year_82 (by decide) rfl ?_
      refine r_bipush C dX8_year_83 kk_b_8 rfl ?_
      refine r_irem C dX8_year_85 (by decide) rfl ?_
      obtain ⟨r9, e9, hf⟩ := gd_b hf
      refine o_I (wn := [(h, oX8 A holding wool days sights padMany acts drawnBits drawnMany drawnNow badAct badWhy drawnAct drawnChild keptAt isWriting), ((A 0), aI cI 10 yard), ((A 1), aI cI 10 feels), ((A 2), aI cI 9 length), ((A 15), aI cI 10 then_), ((A 19), aI cI 32 had)]) C [] rfl (x_S C dX8_year_86 (c_X8_actBy l D cI cZ cG ((((((75 : Int64) * u4.toInt64) + (74 : Int64)) - (((75 : Int64) * u4.toInt64) + (74 : Int64)) / (65537 : Int64) * (65537 : Int64)).toInt32 / (10 : Int32)) - (((((75 : Int64) * u4.toInt64) + (74 : Int64)) - (((75 : Int64) * u4.toInt64) + (74 : Int64)) / (65537 : Int64) * (65537 : Int64)).toInt32 / (10 : Int32)) / (8 : Int32) * (8 : Int32)) r9 e9) rfl gX8_year_X8_actBy hs_X8_actBy rfl ⟨Nat.le_of_ble_eq_true rfl, Nat.le_of_ble_eq_true rfl⟩ ⟨rfl, rfl⟩ ⟨Nat.zero_le _, Nat.zero_le _⟩ rfl [] rfl rfl (Nat.le_of_ble_eq_true rfl) rfl) rfl rfl rfl ?_
      refine r_istore (lv' := [(6, .int r9), (4, .int ((((75 : Int64) * u4.toInt64) + (74 : Int64)) - (((75 : Int64) * u4.toInt64) + (74 : Int64)) / (65537 : Int64) * (65537 : Int64)).toInt32), (0, .ref h), (2, .int u2), (3, .int u3), (5, .int u5)]) C dX8_year_89 (by decide) rfl rfl ?_
      refine r_iconst C dX8_year_91 kk_i_1 rfl ?_
      refine r_iload C dX8_year_92 1 rfl rfl ?_
      refine r_bipush C dX8_year_94 kk_b_80 rfl ?_
      refine r_idiv C dX8_year_96 (by decide) rfl ?_
      refine r_bipush C dX8_year_97 kk_b_9 rfl ?_
      refine r_irem C dX8_year_99 (by decide) rfl ?_
      refine r_iadd C dX8_year_100 rfl ?_
      refine r_istore (lv' := [(7, .int ((1 : Int32) + ((((((75 : Int64) * u4.toInt64) + (74 : Int64)) - (((75 : Int64) * u4.toInt64) + (74 : Int64)) / (65537 : Int64) * (65537 : Int64)).toInt32 / (80 : Int32)) - (((((75 : Int64) * u4.toInt64) + (74 : Int64)) - (((75 : Int64) * u4.toInt64) + (74 : Int64)) / (65537 : Int64) * (65537 : Int64)).toInt32 / (80 : Int32)) / (9 : Int32) * (9 : Int32)))), (6, .int r9), (4, .int ((((75 : Int64) * u4.toInt64) + (74 : Int64)) - (((75 : Int64) * u4.toInt64) + (74 : Int64)) / (65537 : Int64) * (65537 : Int64)).toInt32), (0, .ref h), (2, .int u2), (3, .int u3), (5, .int u5)]) C dX8_year_101 (by decide) rfl rfl ?_
      refine r_aload_n C dX8_year_103 rfl 3 rfl rfl ?_
      refine r_iload C dX8_year_104 1 rfl rfl ?_
      refine r_iload C dX8_year_106 2 rfl rfl ?_
      refine r_bipush C dX8_year_108 kk_b_10 rfl ?_
      refine r_irem C dX8_year_110 (by decide) rfl ?_
      refine r_iload C dX8_year_111 0 rfl rfl ?_
      obtain ⟨r10, e10, hf⟩ := gd_b hf
      refine o_I (wn := [(h, oX8 A holding wool days sights padMany acts r10.2.2 drawnMany drawnNow badAct badWhy drawnAct drawnChild keptAt isWriting), ((A 0), aI cI 10 yard), ((A 1), aI cI 10 feels), ((A 2), aI cI 9 length), ((A 15), aI cI 10 r10.2.1), ((A 19), aI cI 32 had)]) C [0, 1, 3, 4] rfl (x_V C dX8_year_113 (c_X8_whyNot l D cI cZ cG h A yard length holding wool days sights padMany acts then_ drawnBits drawnMany drawnNow badAct badWhy drawnAct drawnChild keptAt isWriting r9 (((((75 : Int64) * u4.toInt64) + (74 : Int64)) - (((75 : Int64) * u4.toInt64) + (74 : Int64)) / (65537 : Int64) * (65537 : Int64)).toInt32 - ((((75 : Int64) * u4.toInt64) + (74 : Int64)) - (((75 : Int64) * u4.toInt64) + (74 : Int64)) / (65537 : Int64) * (65537 : Int64)).toInt32 / (10 : Int32) * (10 : Int32)) ((1 : Int32) + ((((((75 : Int64) * u4.toInt64) + (74 : Int64)) - (((75 : Int64) * u4.toInt64) + (74 : Int64)) / (65537 : Int64) * (65537 : Int64)).toInt32 / (80 : Int32)) - (((((75 : Int64) * u4.toInt64) + (74 : Int64)) - (((75 : Int64) * u4.toInt64) + (74 : Int64)) / (65537 : Int64) * (65537 : Int64)).toInt32 / (80 : Int32)) / (9 : Int32) * (9 : Int32))) r10 e10) rfl gX8_year_X8_whyNot hd_X8_whyNot rfl ⟨Nat.le_of_ble_eq_true rfl, Nat.le_of_ble_eq_true rfl⟩ ⟨rfl, rfl⟩ ⟨Nat.zero_le _, Nat.zero_le _⟩ rfl [0, 1, 3, 4] rfl rfl 0 rfl rfl (Nat.le_of_ble_eq_true rfl) rfl) rfl rfl rfl ?_
      refine r_if_ne (y := 0) (tgt := 132) C dX8_year_116 rfl rfl (fun c11 => ?_) (fun c11 => ?_)
      · have hf := gd_f c11 hf
        refine r_iinc (lv' := [(5, .int (u5 + (1 : Int32))), (7, .int ((1 : Int32) + ((((((75 : Int64) * u4.toInt64) + (74 : Int64)) - (((75 : Int64) * u4.toInt64) + (74 : Int64)) / (65537 : Int64) * (65537 : Int64)).toInt32 / (80 : Int32)) - (((((75 : Int64) * u4.toInt64) + (74 : Int64)) - (((75 : Int64) * u4.toInt64) + (74 : Int64)) / (65537 : Int64) * (65537 : Int64)).toInt32 / (80 : Int32)) / (9 : Int32) * (9 : Int32)))), (6, .int r9), (4, .int ((((75 : Int64) * u4.toInt64) + (74 : Int64)) - (((75 : Int64) * u4.toInt64) + (74 : Int64)) / (65537 : Int64) * (65537 : Int64)).toInt32), (0, .ref h), (2, .int u2), (3, .int u3)]) C dX8_year_132 6 rfl (ki_1 _) (by decide) rfl rfl ?_
        refine r_goto (tgt := 54) C dX8_year_135 rfl ?_
        refine r_lv (lv' := [(0, .ref h), (2, .int u2), (3, .int u3), (4, .int ((((75 : Int64) * u4.toInt64) + (74 : Int64)) - (((75 : Int64) * u4.toInt64) + (74 : Int64)) / (65537 : Int64) * (65537 : Int64)).toInt32), (5, .int (u5 + (1 : Int32)))]) [4, 5, 6, 3, 0] rfl ?_
        exact ih _ _ _ _ _ _ _ _ _ _ _ _ hf
      · have hf := gd_t c11 hf
        refine r_aload_n C dX8_year_119 rfl 3 rfl rfl ?_
        refine r_iload C dX8_year_120 1 rfl rfl ?_
        refine r_iload C dX8_year_122 2 rfl rfl ?_
        refine r_bipush C dX8_year_124 kk_b_10 rfl ?_
        refine r_irem C dX8_year_126 (by decide) rfl ?_
        refine r_iload C dX8_year_127 0 rfl rfl ?_
        obtain ⟨r12, e12, hf⟩ := gd_b hf
        refine o_V (wn := [(h, oX8 A r12.2.2.2.1 r12.2.2.2.2.1 r12.2.2.2.2.2.1 sights padMany acts r12.2.2.2.2.2.2.2.1 r12.2.2.2.2.2.2.2.2.1 r12.2.2.2.2.2.2.2.2.2 badAct badWhy drawnAct drawnChild keptAt isWriting), ((A 0), aI cI 10 r12.1), ((A 1), aI cI 10 r12.2.1), ((A 2), aI cI 9 r12.2.2.1), ((A 15), aI cI 10 r12.2.2.2.2.2.2.1), ((A 19), aI cI 32 had)]) C [0, 1, 2, 3, 4] rfl (x_V C dX8_year_129 (c_X8_happen l D cI cZ cG h A yard feels length holding wool days sights padMany acts r10.2.1 r10.2.2 drawnMany drawnNow badAct badWhy drawnAct drawnChild keptAt isWriting r9 (((((75 : Int64) * u4.toInt64) + (74 : Int64)) - (((75 : Int64) * u4.toInt64) + (74 : Int64)) / (65537 : Int64) * (65537 : Int64)).toInt32 - ((((75 : Int64) * u4.toInt64) + (74 : Int64)) - (((75 : Int64) * u4.toInt64) + (74 : Int64)) / (65537 : Int64) * (65537 : Int64)).toInt32 / (10 : Int32) * (10 : Int32)) ((1 : Int32) + ((((((75 : Int64) * u4.toInt64) + (74 : Int64)) - (((75 : Int64) * u4.toInt64) + (74 : Int64)) / (65537 : Int64) * (65537 : Int64)).toInt32 / (80 : Int32)) - (((((75 : Int64) * u4.toInt64) + (74 : Int64)) - (((75 : Int64) * u4.toInt64) + (74 : Int64)) / (65537 : Int64) * (65537 : Int64)).toInt32 / (80 : Int32)) / (9 : Int32) * (9 : Int32))) r12 e12) rfl gX8_year_X8_happen hd_X8_happen rfl ⟨Nat.le_of_ble_eq_true rfl, Nat.le_of_ble_eq_true rfl⟩ ⟨rfl, rfl⟩ ⟨Nat.zero_le _, Nat.zero_le _⟩ rfl [0, 1, 2, 3, 4] rfl rfl 0 rfl rfl (Nat.le_of_ble_eq_true rfl) rfl) rfl rfl rfl ?_
        refine r_iinc (lv' := [(5, .int (u5 + (1 : Int32))), (7, .int ((1 : Int32) + ((((((75 : Int64) * u4.toInt64) + (74 : Int64)) - (((75 : Int64) * u4.toInt64) + (74 : Int64)) / (65537 : Int64) * (65537 : Int64)).toInt32 / (80 : Int32)) - (((((75 : Int64) * u4.toInt64) + (74 : Int64)) - (((75 : Int64) * u4.toInt64) + (74 : Int64)) / (65537 : Int64) * (65537 : Int64)).toInt32 / (80 : Int32)) / (9 : Int32) * (9 : Int32)))), (6, .int r9), (4, .int ((((75 : Int64) * u4.toInt64) + (74 : Int64)) - (((75 : Int64) * u4.toInt64) + (74 : Int64)) / (65537 : Int64) * (65537 : Int64)).toInt32), (0, .ref h), (2, .int u2), (3, .int u3)]) C dX8_year_132 6 rfl (ki_1 _) (by decide) rfl rfl ?_
        refine r_goto (tgt := 54) C dX8_year_135 rfl ?_
        refine r_lv (lv' := [(0, .ref h), (2, .int u2), (3, .int u3), (4, .int ((((75 : Int64) * u4.toInt64) + (74 : Int64)) - (((75 : Int64) * u4.toInt64) + (74 : Int64)) / (65537 : Int64) * (65537 : Int64)).toInt32), (5, .int (u5 + (1 : Int32)))]) [4, 5, 6, 3, 0] rfl ?_
        exact ih _ _ _ _ _ _ _ _ _ _ _ _ hf
def f_X8_year (yard : Nat → Int32) (feels : Nat → Int32) (length : Nat → Int32) (holding : Int32) (wool : Int32) (days : Int32) (then_ : Nat → Int32) (drawnBits : Int32) (drawnMany : Int32) (drawnNow : Int32) (had : Nat → Int32) (u1 : Int32) (u2 : Int32) (u3 : Int32) : Option (Int32 × (Nat → Int32) × (Nat → Int32) × (Nat → Int32) × Int32 × Int32 × Int32 × (Nat → Int32) × Int32 × Int32 × Int32 × (Nat → Int32)) := (f_X8_in u1.toInt64 (0 : Int64) (9999 : Int64)).bind (fun r1 => if r1 = 0 then some ((-2 : Int32), yard, feels, length, holding, wool, days, then_, drawnBits, drawnMany, drawnNow, had) else (f_X8_in u2.toInt64 (1 : Int64) (99 : Int64)).bind (fun r3 => if r3 = 0 then some ((-2 : Int32), yard, feels, length, holding, wool, days, then_, drawnBits, drawnMany, drawnNow, had) else (f_X8_in u3.toInt64 (0 : Int64) (2 : Int64)).bind (fun r5 => if r5 = 0 then some ((-2 : Int32), yard, feels, length, holding, wool, days, then_, drawnBits, drawnMany, drawnNow, had) else (f_X8_keepNow yard feels length holding wool days had).bind (fun r7 => f_X8_year_54 u2 (fun yard_13 feels_14 length_15 holding_16 wool_17 days_18 then__19 drawnBits_20 drawnMany_21 drawnNow_22 => if u3 = 0 then (f_X8_back yard_13 feels_14 length_15 holding_16 wool_17 days_18 r7 (yard_13 (0 : Int32).toNatClampNeg)).bind (fun r27 => some (r27.1, r27.2.1, r27.2.2.1, r27.2.2.2.1, r27.2.2.2.2.1, r27.2.2.2.2.2.1, r27.2.2.2.2.2.2, then__19, drawnBits_20, drawnMany_21, drawnNow_22, r7)) else if u3 = (1 : Int32) then (f_X8_back yard_13 feels_14 length_15 holding_16 wool_17 days_18 r7 drawnMany_21).bind (fun r26 => some (r26.1, r26.2.1, r26.2.2.1, r26.2.2.2.1, r26.2.2.2.2.1, r26.2.2.2.2.2.1, r26.2.2.2.2.2.2, then__19, drawnBits_20, drawnMany_21, drawnNow_22, r7)) else (f_X8_back yard_13 feels_14 length_15 holding_16 wool_17 days_18 r7 wool_17).bind (fun r25 => some (r25.1, r25.2.1, r25.2.2.1, r25.2.2.2.1, r25.2.2.2.2.1, r25.2.2.2.2.2.1, r25.2.2.2.2.2.2, then__19, drawnBits_20, drawnMany_21, drawnNow_22, r7))) 2000 u1 (0 : Int32) yard feels length holding wool days then_ drawnBits (0 : Int32) drawnNow))))
set_option maxHeartbeats 4000000 in
set_option maxRecDepth 100000 in
theorem c_X8_year (l : Launch) (D : va_G) (cI cZ cG : ClassId) (h : Nat) (A : Nat → Nat) (yard : Nat → Int32) (feels : Nat → Int32) (length : Nat → Int32) (holding : Int32) (wool : Int32) (days : Int32) (sights : Int32) (padMany : Int32) (acts : Int32) (then_ : Nat → Int32) (drawnBits : Int32) (drawnMany : Int32) (drawnNow : Int32) (had : Nat → Int32) (badAct : Int32) (badWhy : Int32) (drawnAct : Int32) (drawnChild : Int32) (keptAt : Int32) (isWriting : Int32) (u1 : Int32) (u2 : Int32) (u3 : Int32) (res : Int32 × (Nat → Int32) × (Nat → Int32) × (Nat → Int32) × Int32 × Int32 × Int32 × (Nat → Int32) × Int32 × Int32 × Int32 × (Nat → Int32)) (hf : f_X8_year yard feels length holding wool days then_ drawnBits drawnMany drawnNow had u1 u2 u3 = some res) : CI l D (tysW cI cZ cG) yX8_year wsX8_year rm_X8_year [.ref h, .int u1, .int u2, .int u3] [(h, oX8 A holding wool days sights padMany acts drawnBits drawnMany drawnNow badAct badWhy drawnAct drawnChild keptAt isWriting), ((A 0), aI cI 10 yard), ((A 1), aI cI 10 feels), ((A 2), aI cI 9 length), ((A 15), aI cI 10 then_), ((A 19), aI cI 32 had)] res.1 [(h, oX8 A res.2.2.2.2.1 res.2.2.2.2.2.1 res.2.2.2.2.2.2.1 sights padMany acts res.2.2.2.2.2.2.2.2.1 res.2.2.2.2.2.2.2.2.2.1 res.2.2.2.2.2.2.2.2.2.2.1 badAct badWhy drawnAct drawnChild keptAt isWriting), ((A 0), aI cI 10 res.2.1), ((A 1), aI cI 10 res.2.2.1), ((A 2), aI cI 9 res.2.2.2.1), ((A 15), aI cI 10 res.2.2.2.2.2.2.2.1), ((A 19), aI cI 32 res.2.2.2.2.2.2.2.2.2.2.2)] := by
  refine CG.intro (own := RX8) (by decide +kernel) rfl rfl (Nat.le_of_ble_eq_true rfl) (fun p e s m args below meth c C => ?_)
  refine r_lv (lv' := [(0, .ref h), (1, .int u1), (2, .int u2), (3, .int u3)]) [0, 1, 2, 3] rfl ?_
  unfold f_X8_year at hf
  refine r_iload_n C dX8_year_0 rfl 1 rfl rfl ?_
  refine r_i2l C dX8_year_1 rfl ?_
  refine r_lconst (v := (0 : Int64)) C dX8_year_2 rfl rfl ?_
  refine r_ldc2 C dX8_year_3 wc_X8_year_299 rfl ?_
  obtain ⟨r1, e1, hf⟩ := gd_b hf
  refine o_I (wn := [(h, oX8 A holding wool days sights padMany acts drawnBits drawnMany drawnNow badAct badWhy drawnAct drawnChild keptAt isWriting), ((A 0), aI cI 10 yard), ((A 1), aI cI 10 feels), ((A 2), aI cI 9 length), ((A 15), aI cI 10 then_), ((A 19), aI cI 32 had)]) C [] rfl (x_S C dX8_year_6 (c_X8_in l D cI cZ cG u1.toInt64 (0 : Int64) (9999 : Int64) r1 e1) rfl gX8_year_X8_in hs_X8_in rfl ⟨Nat.le_of_ble_eq_true rfl, Nat.le_of_ble_eq_true rfl⟩ ⟨rfl, rfl⟩ ⟨Nat.zero_le _, Nat.zero_le _⟩ rfl [] rfl rfl (Nat.le_of_ble_eq_true rfl) rfl) rfl rfl rfl ?_
  refine r_if_eq (y := 0) (tgt := 36) C dX8_year_9 rfl rfl (fun c2 => ?_) (fun c2 => ?_)
  · have hf := gd_t c2 hf
    refine r_bipush C dX8_year_36 kk_b_m2 rfl ?_
    cases hf
    exact r_iret C dX8_year_38 rfl
  · have hf := gd_f c2 hf
    refine r_iload_n C dX8_year_12 rfl 2 rfl rfl ?_
    refine r_i2l C dX8_year_13 rfl ?_
    refine r_lconst (v := (1 : Int64)) C dX8_year_14 rfl rfl ?_
    refine r_ldc2 C dX8_year_15 wc_X8_year_106 rfl ?_
    obtain ⟨r3, e3, hf⟩ := gd_b hf
    refine o_I (wn := [(h, oX8 A holding wool days sights padMany acts drawnBits drawnMany drawnNow badAct badWhy drawnAct drawnChild keptAt isWriting), ((A 0), aI cI 10 yard), ((A 1), aI cI 10 feels), ((A 2), aI cI 9 length), ((A 15), aI cI 10 then_), ((A 19), aI cI 32 had)]) C [] rfl (x_S C dX8_year_18 (c_X8_in l D cI cZ cG u2.toInt64 (1 : Int64) (99 : Int64) r3 e3) rfl gX8_year_X8_in hs_X8_in rfl ⟨Nat.le_of_ble_eq_true rfl, Nat.le_of_ble_eq_true rfl⟩ ⟨rfl, rfl⟩ ⟨Nat.zero_le _, Nat.zero_le _⟩ rfl [] rfl rfl (Nat.le_of_ble_eq_true rfl) rfl) rfl rfl rfl ?_
    refine r_if_eq (y := 0) (tgt := 36) C dX8_year_21 rfl rfl (fun c4 => ?_) (fun c4 => ?_)
    · have hf := gd_t c4 hf
      refine r_bipush C dX8_year_36 kk_b_m2 rfl ?_
      cases hf
      exact r_iret C dX8_year_38 rfl
    · have hf := gd_f c4 hf
      refine r_iload_n C dX8_year_24 rfl 3 rfl rfl ?_
      refine r_i2l C dX8_year_25 rfl ?_
      refine r_lconst (v := (0 : Int64)) C dX8_year_26 rfl rfl ?_
      refine r_ldc2 C dX8_year_27 wc_X8_year_232 rfl ?_
      obtain ⟨r5, e5, hf⟩ := gd_b hf
      refine o_I (wn := [(h, oX8 A holding wool days sights padMany acts drawnBits drawnMany drawnNow badAct badWhy drawnAct drawnChild keptAt isWriting), ((A 0), aI cI 10 yard), ((A 1), aI cI 10 feels), ((A 2), aI cI 9 length), ((A 15), aI cI 10 then_), ((A 19), aI cI 32 had)]) C [] rfl (x_S C dX8_year_30 (c_X8_in l D cI cZ cG u3.toInt64 (0 : Int64) (2 : Int64) r5 e5) rfl gX8_year_X8_in hs_X8_in rfl ⟨Nat.le_of_ble_eq_true rfl, Nat.le_of_ble_eq_true rfl⟩ ⟨rfl, rfl⟩ ⟨Nat.zero_le _, Nat.zero_le _⟩ rfl [] rfl rfl (Nat.le_of_ble_eq_true rfl) rfl) rfl rfl rfl ?_
      refine r_if_ne (y := 0) (tgt := 39) C dX8_year_33 rfl rfl (fun c6 => ?_) (fun c6 => ?_)
      · have hf := gd_f c6 hf
        refine r_aload_n C dX8_year_39 rfl 0 rfl rfl ?_
        obtain ⟨r7, e7, hf⟩ := gd_b hf
        refine o_V (wn := [(h, oX8 A holding wool days sights padMany acts drawnBits drawnMany drawnNow badAct badWhy drawnAct drawnChild keptAt isWriting), ((A 0), aI cI 10 yard), ((A 1), aI cI 10 feels), ((A 2), aI cI 9 length), ((A 15), aI cI 10 then_), ((A 19), aI cI 32 r7)]) C [0, 1, 2, 3, 5] rfl (x_V C dX8_year_40 (c_X8_keepNow l D cI cZ cG h A yard feels length holding wool days sights padMany acts drawnBits drawnMany drawnNow had badAct badWhy drawnAct drawnChild keptAt isWriting r7 e7) rfl gX8_year_X8_keepNow hd_X8_keepNow rfl ⟨Nat.le_of_ble_eq_true rfl, Nat.le_of_ble_eq_true rfl⟩ ⟨rfl, rfl⟩ ⟨Nat.zero_le _, Nat.zero_le _⟩ rfl [0, 1, 2, 3, 5] rfl rfl 0 rfl rfl (Nat.le_of_ble_eq_true rfl) rfl) rfl rfl rfl ?_
        refine r_aload_n C dX8_year_43 rfl 0 rfl rfl ?_
        refine r_iconst C dX8_year_44 kk_i_0 rfl ?_
        refine r_put (ty := .int) (ws' := [(h, oX8 A holding wool days sights padMany acts drawnBits (0 : Int32) drawnNow badAct badWhy drawnAct drawnChild keptAt isWriting), ((A 0), aI cI 10 yard), ((A 1), aI cI 10 feels), ((A 2), aI cI 9 length), ((A 15), aI cI 10 then_), ((A 19), aI cI 32 r7)]) C dX8_year_45 fw_X8_year_X8 tyX8 tyX8_ok nmX8 0 rfl rfl 17 (by decide) rfl fl_X8_year_174 rfl (by decide +kernel) rfl rfl (Nat.le_of_ble_eq_true rfl) rfl rfl ?_
        refine r_iload_n C dX8_year_48 rfl 1 rfl rfl ?_
        refine r_istore (lv' := [(4, .int u1), (0, .ref h), (1, .int u1), (2, .int u2), (3, .int u3)]) C dX8_year_49 (by decide) rfl rfl ?_
        refine r_iconst C dX8_year_51 kk_i_0 rfl ?_
        refine r_istore (lv' := [(5, .int (0 : Int32)), (4, .int u1), (0, .ref h), (1, .int u1), (2, .int u2), (3, .int u3)]) C dX8_year_52 (by decide) rfl rfl ?_
        refine r_lv (lv' := [(0, .ref h), (2, .int u2), (3, .int u3), (4, .int u1), (5, .int (0 : Int32))]) [2, 4, 5, 1, 0] rfl ?_
        refine k_X8_year_54 C h A sights padMany acts r7 badAct badWhy drawnAct drawnChild keptAt isWriting u2 u3 _ _ ?_ 2000 _ _ _ _ _ _ _ _ _ _ _ _ hf
        · intro yard_13 feels_14 length_15 holding_16 wool_17 days_18 then__19 drawnBits_20 drawnMany_21 drawnNow_22 hf
          refine r_aload_n C dX8_year_138 rfl 0 rfl rfl ?_
          refine r_iload_n C dX8_year_139 rfl 1 rfl rfl ?_
          refine r_if_ne (y := 0) (tgt := 152) C dX8_year_140 rfl rfl (fun c23 => ?_) (fun c23 => ?_)
          · have hf := gd_f c23 hf
            refine r_iload_n C dX8_year_152 rfl 1 rfl rfl ?_
            refine r_iconst C dX8_year_153 kk_i_1 rfl ?_
            refine r_icmp_ne (tgt := 164) C dX8_year_154 rfl rfl (fun c24 => ?_) (fun c24 => ?_)
            · have hf := gd_f c24 hf
              refine r_aload_n C dX8_year_164 rfl 0 rfl rfl ?_
              refine r_get C dX8_year_165 fw_X8_year_X8 0 rfl rfl 4 (by decide) rfl fl_X8_year_77 rfl rfl ?_
              obtain ⟨r25, e25, hf⟩ := gd_b hf
              refine o_I (wn := [(h, oX8 A r25.2.2.2.2.1 r25.2.2.2.2.2.1 r25.2.2.2.2.2.2 sights padMany acts drawnBits_20 drawnMany_21 drawnNow_22 badAct badWhy drawnAct drawnChild keptAt isWriting), ((A 0), aI cI 10 r25.2.1), ((A 1), aI cI 10 r25.2.2.1), ((A 2), aI cI 9 r25.2.2.2.1), ((A 15), aI cI 10 then__19), ((A 19), aI cI 32 r7)]) C [0, 1, 2, 3, 5] rfl (x_V C dX8_year_168 (c_X8_back l D cI cZ cG h A yard_13 feels_14 length_15 holding_16 wool_17 days_18 sights padMany acts drawnBits_20 drawnMany_21 drawnNow_22 r7 badAct badWhy drawnAct drawnChild keptAt isWriting wool_17 r25 e25) rfl gX8_year_X8_back hd_X8_back rfl ⟨Nat.le_of_ble_eq_true rfl, Nat.le_of_ble_eq_true rfl⟩ ⟨rfl, rfl⟩ ⟨Nat.zero_le _, Nat.zero_le _⟩ rfl [0, 1, 2, 3, 5] rfl rfl 0 rfl rfl (Nat.le_of_ble_eq_true rfl) rfl) rfl rfl rfl ?_
              cases hf
              exact r_iret C dX8_year_171 rfl
            · have hf := gd_t c24 hf
              refine r_aload_n C dX8_year_157 rfl 0 rfl rfl ?_
              refine r_get C dX8_year_158 fw_X8_year_X8 0 rfl rfl 17 (by decide) rfl fl_X8_year_174 rfl rfl ?_
              refine r_goto (tgt := 168) C dX8_year_161 rfl ?_
              obtain ⟨r26, e26, hf⟩ := gd_b hf
              refine o_I (wn := [(h, oX8 A r26.2.2.2.2.1 r26.2.2.2.2.2.1 r26.2.2.2.2.2.2 sights padMany acts drawnBits_20 drawnMany_21 drawnNow_22 badAct badWhy drawnAct drawnChild keptAt isWriting), ((A 0), aI cI 10 r26.2.1), ((A 1), aI cI 10 r26.2.2.1), ((A 2), aI cI 9 r26.2.2.2.1), ((A 15), aI cI 10 then__19), ((A 19), aI cI 32 r7)]) C [0, 1, 2, 3, 5] rfl (x_V C dX8_year_168 (c_X8_back l D cI cZ cG h A yard_13 feels_14 length_15 holding_16 wool_17 days_18 sights padMany acts drawnBits_20 drawnMany_21 drawnNow_22 r7 badAct badWhy drawnAct drawnChild keptAt isWriting drawnMany_21 r26 e26) rfl gX8_year_X8_back hd_X8_back rfl ⟨Nat.le_of_ble_eq_true rfl, Nat.le_of_ble_eq_true rfl⟩ ⟨rfl, rfl⟩ ⟨Nat.zero_le _, Nat.zero_le _⟩ rfl [0, 1, 2, 3, 5] rfl rfl 0 rfl rfl (Nat.le_of_ble_eq_true rfl) rfl) rfl rfl rfl ?_
              cases hf
              exact r_iret C dX8_year_171 rfl
          · have hf := gd_t c23 hf
            refine r_aload_n C dX8_year_143 rfl 0 rfl rfl ?_
            refine r_get C dX8_year_144 fw_X8_year_X8 0 rfl rfl 0 (by decide) rfl fl_X8_year_7 rfl rfl ?_
            refine r_iconst C dX8_year_147 kk_i_0 rfl ?_
            refine r_iald C dX8_year_148 1 0 rfl rfl (by decide) rfl ?_
            refine r_goto (tgt := 168) C dX8_year_149 rfl ?_
            obtain ⟨r27, e27, hf⟩ := gd_b hf
            refine o_I (wn := [(h, oX8 A r27.2.2.2.2.1 r27.2.2.2.2.2.1 r27.2.2.2.2.2.2 sights padMany acts drawnBits_20 drawnMany_21 drawnNow_22 badAct badWhy drawnAct drawnChild keptAt isWriting), ((A 0), aI cI 10 r27.2.1), ((A 1), aI cI 10 r27.2.2.1), ((A 2), aI cI 9 r27.2.2.2.1), ((A 15), aI cI 10 then__19), ((A 19), aI cI 32 r7)]) C [0, 1, 2, 3, 5] rfl (x_V C dX8_year_168 (c_X8_back l D cI cZ cG h A yard_13 feels_14 length_15 holding_16 wool_17 days_18 sights padMany acts drawnBits_20 drawnMany_21 drawnNow_22 r7 badAct badWhy drawnAct drawnChild keptAt isWriting (yard_13 (0 : Int32).toNatClampNeg) r27 e27) rfl gX8_year_X8_back hd_X8_back rfl ⟨Nat.le_of_ble_eq_true rfl, Nat.le_of_ble_eq_true rfl⟩ ⟨rfl, rfl⟩ ⟨Nat.zero_le _, Nat.zero_le _⟩ rfl [0, 1, 2, 3, 5] rfl rfl 0 rfl rfl (Nat.le_of_ble_eq_true rfl) rfl) rfl rfl rfl ?_
            cases hf
            exact r_iret C dX8_year_171 rfl
      · have hf := gd_t c6 hf
        refine r_bipush C dX8_year_36 kk_b_m2 rfl ?_
        cases hf
        exact r_iret C dX8_year_38 rfl
theorem fw_X8_pass_X8 : ∀ w ∈ u_ws RX8 TX8 37, w ∈ wsX8_pass := by decide +kernel
theorem fl_X8_pass_308 : Cond.fieldLink RX8 308 "MittenLineModel" "isWriting" "Z" ∈ wsX8_pass := by decide +kernel
theorem fl_X8_pass_71 : Cond.fieldLink RX8 71 "MittenLineModel" "kept" "[I" ∈ wsX8_pass := by decide +kernel
theorem fl_X8_pass_312 : Cond.fieldLink RX8 312 "MittenLineModel" "keptAt" "I" ∈ wsX8_pass := by decide +kernel
abbrev rm_X8_pass : Jvm.Room := { frames := 0, cells := 0, slots := 0, locals := 0 }
def f_X8_pass (kept : Nat → Int32) (keptAt : Int32) (isWriting : Int32) (u1 : Int32) : Option (Int32 × (Nat → Int32) × Int32) := if isWriting = 0 then if keptAt < 0 ∨ 120 ≤ keptAt.toNatClampNeg then none else some ((kept keptAt.toNatClampNeg), (upd kept keptAt.toNatClampNeg (kept keptAt.toNatClampNeg)), (keptAt + (1 : Int32))) else if keptAt < 0 ∨ 120 ≤ keptAt.toNatClampNeg then none else some (u1, (upd kept keptAt.toNatClampNeg u1), (keptAt + (1 : Int32)))
set_option maxHeartbeats 4000000 in
set_option maxRecDepth 100000 in
theorem c_X8_pass (l : Launch) (D : va_G) (cI cZ cG : ClassId) (h : Nat) (A : Nat → Nat) (holding : Int32) (wool : Int32) (days : Int32) (sights : Int32) (padMany : Int32) (acts : Int32) (drawnBits : Int32) (drawnMany : Int32) (drawnNow : Int32) (badAct : Int32) (badWhy : Int32) (drawnAct : Int32) (drawnChild : Int32) (kept : Nat → Int32) (keptAt : Int32) (isWriting : Int32) (u1 : Int32) (res : Int32 × (Nat → Int32) × Int32) (hf : f_X8_pass kept keptAt isWriting u1 = some res) : CI l D (tysW cI cZ cG) yX8_pass wsX8_pass rm_X8_pass [.ref h, .int u1] [(h, oX8 A holding wool days sights padMany acts drawnBits drawnMany drawnNow badAct badWhy drawnAct drawnChild keptAt isWriting), ((A 33), aI cI 120 kept)] res.1 [(h, oX8 A holding wool days sights padMany acts drawnBits drawnMany drawnNow badAct badWhy drawnAct drawnChild res.2.2 isWriting), ((A 33), aI cI 120 res.2.1)] := by
  refine CG.intro (own := RX8) (by decide +kernel) rfl rfl (Nat.le_of_ble_eq_true rfl) (fun p e s m args below meth c C => ?_)
  refine r_lv (lv' := [(0, .ref h), (1, .int u1)]) [0, 1] rfl ?_
  unfold f_X8_pass at hf
  refine r_aload_n C dX8_pass_0 rfl 0 rfl rfl ?_
  refine r_get C dX8_pass_1 fw_X8_pass_X8 0 rfl rfl 36 (by decide) rfl fl_X8_pass_308 rfl rfl ?_
  refine r_if_eq (y := 0) (tgt := 11) C dX8_pass_4 rfl rfl (fun c1 => ?_) (fun c1 => ?_)
  · have hf := gd_t c1 hf
    refine r_aload_n C dX8_pass_11 rfl 0 rfl rfl ?_
    refine r_get C dX8_pass_12 fw_X8_pass_X8 0 rfl rfl 33 (by decide) rfl fl_X8_pass_71 rfl rfl ?_
    refine r_aload_n C dX8_pass_15 rfl 0 rfl rfl ?_
    refine r_get C dX8_pass_16 fw_X8_pass_X8 0 rfl rfl 35 (by decide) rfl fl_X8_pass_312 rfl rfl ?_
    obtain ⟨g2, hf⟩ := gd_n hf
    refine r_iald C dX8_pass_19 1 0 rfl rfl g2 rfl ?_
    refine r_istore_n (lv' := [(2, .int (kept keptAt.toNatClampNeg)), (0, .ref h), (1, .int u1)]) C dX8_pass_20 rfl (by decide) rfl rfl ?_
    refine r_aload_n C dX8_pass_21 rfl 1 rfl rfl ?_
    refine r_get C dX8_pass_22 fw_X8_pass_X8 0 rfl rfl 33 (by decide) rfl fl_X8_pass_71 rfl rfl ?_
    refine r_aload_n C dX8_pass_25 rfl 1 rfl rfl ?_
    refine r_get C dX8_pass_26 fw_X8_pass_X8 0 rfl rfl 35 (by decide) rfl fl_X8_pass_312 rfl rfl ?_
    refine r_iload_n C dX8_pass_29 rfl 0 rfl rfl ?_
    refine r_iast (ws' := [(h, oX8 A holding wool days sights padMany acts drawnBits drawnMany drawnNow badAct badWhy drawnAct drawnChild keptAt isWriting), ((A 33), aI cI 120 (upd kept keptAt.toNatClampNeg (kept keptAt.toNatClampNeg)))]) C dX8_pass_30 1 0 rfl rfl g2 rfl rfl ?_
    refine r_aload_n C dX8_pass_31 rfl 1 rfl rfl ?_
    refine r_dup C dX8_pass_32 rfl rfl ?_
    refine r_get C dX8_pass_33 fw_X8_pass_X8 0 rfl rfl 35 (by decide) rfl fl_X8_pass_312 rfl rfl ?_
    refine r_iconst C dX8_pass_36 kk_i_1 rfl ?_
    refine r_iadd C dX8_pass_37 rfl ?_
    refine r_put (ty := .int) (ws' := [(h, oX8 A holding wool days sights padMany acts drawnBits drawnMany drawnNow badAct badWhy drawnAct drawnChild (keptAt + (1 : Int32)) isWriting), ((A 33), aI cI 120 (upd kept keptAt.toNatClampNeg (kept keptAt.toNatClampNeg)))]) C dX8_pass_38 fw_X8_pass_X8 tyX8 tyX8_ok nmX8 0 rfl rfl 35 (by decide) rfl fl_X8_pass_312 rfl (by decide +kernel) rfl rfl (Nat.le_of_ble_eq_true rfl) rfl rfl ?_
    refine r_iload_n C dX8_pass_41 rfl 0 rfl rfl ?_
    cases hf
    exact r_iret C dX8_pass_42 rfl
  · have hf := gd_f c1 hf
    refine r_iload_n C dX8_pass_7 rfl 1 rfl rfl ?_
    refine r_goto (tgt := 20) C dX8_pass_8 rfl ?_
    refine r_istore_n (lv' := [(2, .int u1), (0, .ref h), (1, .int u1)]) C dX8_pass_20 rfl (by decide) rfl rfl ?_
    refine r_aload_n C dX8_pass_21 rfl 1 rfl rfl ?_
    refine r_get C dX8_pass_22 fw_X8_pass_X8 0 rfl rfl 33 (by decide) rfl fl_X8_pass_71 rfl rfl ?_
    refine r_aload_n C dX8_pass_25 rfl 1 rfl rfl ?_
    refine r_get C dX8_pass_26 fw_X8_pass_X8 0 rfl rfl 35 (by decide) rfl fl_X8_pass_312 rfl rfl ?_
    refine r_iload_n C dX8_pass_29 rfl 0 rfl rfl ?_
    obtain ⟨g3, hf⟩ := gd_n hf
    refine r_iast (ws' := [(h, oX8 A holding wool days sights padMany acts drawnBits drawnMany drawnNow badAct badWhy drawnAct drawnChild keptAt isWriting), ((A 33), aI cI 120 (upd kept keptAt.toNatClampNeg u1))]) C dX8_pass_30 1 0 rfl rfl g3 rfl rfl ?_
    refine r_aload_n C dX8_pass_31 rfl 1 rfl rfl ?_
    refine r_dup C dX8_pass_32 rfl rfl ?_
    refine r_get C dX8_pass_33 fw_X8_pass_X8 0 rfl rfl 35 (by decide) rfl fl_X8_pass_312 rfl rfl ?_
    refine r_iconst C dX8_pass_36 kk_i_1 rfl ?_
    refine r_iadd C dX8_pass_37 rfl ?_
    refine r_put (ty := .int) (ws' := [(h, oX8 A holding wool days sights padMany acts drawnBits drawnMany drawnNow badAct badWhy drawnAct drawnChild (keptAt + (1 : Int32)) isWriting), ((A 33), aI cI 120 (upd kept keptAt.toNatClampNeg u1))]) C dX8_pass_38 fw_X8_pass_X8 tyX8 tyX8_ok nmX8 0 rfl rfl 35 (by decide) rfl fl_X8_pass_312 rfl (by decide +kernel) rfl rfl (Nat.le_of_ble_eq_true rfl) rfl rfl ?_
    refine r_iload_n C dX8_pass_41 rfl 0 rfl rfl ?_
    cases hf
    exact r_iret C dX8_pass_42 rfl
abbrev rm_X8_passRow : Jvm.Room := { frames := 1, cells := 0, slots := 0, locals := 22 }
def f_X8_passRow_2 (n1 : Nat) (u2 : Int32) (isWriting : Int32) : Nat → Int32 → (Nat → Int32) → Int32 → (Nat → Int32) → Option ((Nat → Int32) × Int32 × (Nat → Int32))
  | 0, _, _, _, _ => none
  | n + 1, u3, kept, keptAt, row1 => if u2 ≤ u3 then some (kept, keptAt, row1) else if u3 < 0 ∨ n1 ≤ u3.toNatClampNeg then none else (f_X8_pass kept keptAt isWriting (row1 u3.toNatClampNeg)).bind (fun r3 => f_X8_passRow_2 n1 u2 isWriting n (u3 + (1 : Int32)) r3.2.1 r3.2.2 (upd row1 u3.toNatClampNeg r3.1))
set_option maxHeartbeats 4000000 in
set_option maxRecDepth 100000 in
theorem k_X8_passRow_2 (C : Cx p s m args meth c D (tysW cI cZ cG) RX8 cX8_passRow 4 wsX8_passRow none) (h h1 : Nat) (A : Nat → Nat) (n1 : Nat) (holding : Int32) (wool : Int32) (days : Int32) (sights : Int32) (padMany : Int32) (acts : Int32) (drawnBits : Int32) (drawnMany : Int32) (drawnNow : Int32) (badAct : Int32) (badWhy : Int32) (drawnAct : Int32) (drawnChild : Int32) (isWriting : Int32) (u2 : Int32)  (res : (Nat → Int32) × Int32 × (Nat → Int32)) : ∀ (n : Nat) (u3 : Int32) (kept : Nat → Int32) (keptAt : Int32) (row1 : Nat → Int32), f_X8_passRow_2 n1 u2 isWriting n u3 kept keptAt row1 = some res → Wd p l e rm_X8_passRow s m args below meth c D w0 4 0 0 (MQ below (QcV D (tysW cI cZ cG) w0 [(h, oX8 A holding wool days sights padMany acts drawnBits drawnMany drawnNow badAct badWhy drawnAct drawnChild res.2.1 isWriting), ((A 33), aI cI 120 res.1), (h1, aI cI n1 res.2.2)] s.heap.size) args s 0 0 (va_A w0 s.heap.size)) [(h, oX8 A holding wool days sights padMany acts drawnBits drawnMany drawnNow badAct badWhy drawnAct drawnChild keptAt isWriting), ((A 33), aI cI 120 kept), (h1, aI cI n1 row1)] [(0, .ref h), (1, .ref h1), (2, .int u2), (3, .int u3)] 2 [] := by
  intro n
  induction n with
  | zero =>
    intro u3 kept keptAt row1 hf
    exact no_none hf
  | succ n ih =>
    intro u3 kept keptAt row1 hf
    unfold f_X8_passRow_2 at hf
    refine r_iload_n C dX8_passRow_2 rfl 3 rfl rfl ?_
    refine r_iload_n C dX8_passRow_3 rfl 2 rfl rfl ?_
    refine r_icmp_ge (tgt := 23) C dX8_passRow_4 rfl rfl (fun c1 => ?_) (fun c1 => ?_)
    · have hf := gd_t c1 hf
      cases hf
      exact r_vret C dX8_passRow_23 rfl
    · have hf := gd_f c1 hf
      refine r_aload_n C dX8_passRow_7 rfl 1 rfl rfl ?_
      refine r_iload_n C dX8_passRow_8 rfl 3 rfl rfl ?_
      refine r_aload_n C dX8_passRow_9 rfl 0 rfl rfl ?_
      refine r_aload_n C dX8_passRow_10 rfl 1 rfl rfl ?_
      refine r_iload_n C dX8_passRow_11 rfl 3 rfl rfl ?_
      obtain ⟨g2, hf⟩ := gd_n hf
      refine r_iald C dX8_passRow_12 2 0 rfl rfl g2 rfl ?_
      obtain ⟨r3, e3, hf⟩ := gd_b hf
      refine o_I (wn := [(h, oX8 A holding wool days sights padMany acts drawnBits drawnMany drawnNow badAct badWhy drawnAct drawnChild r3.2.2 isWriting), ((A 33), aI cI 120 r3.2.1), (h1, aI cI n1 row1)]) C [0, 1] rfl (x_V C dX8_passRow_13 (c_X8_pass l D cI cZ cG h A holding wool days sights padMany acts drawnBits drawnMany drawnNow badAct badWhy drawnAct drawnChild kept keptAt isWriting (row1 u3.toNatClampNeg) r3 e3) rfl gX8_passRow_X8_pass hd_X8_pass rfl ⟨Nat.le_of_ble_eq_true rfl, Nat.le_of_ble_eq_true rfl⟩ ⟨rfl, rfl⟩ ⟨Nat.zero_le _, Nat.zero_le _⟩ rfl [0, 1] rfl rfl 0 rfl rfl (Nat.le_of_ble_eq_true rfl) rfl) rfl rfl rfl ?_
      refine r_iast (ws' := [(h, oX8 A holding wool days sights padMany acts drawnBits drawnMany drawnNow badAct badWhy drawnAct drawnChild r3.2.2 isWriting), ((A 33), aI cI 120 r3.2.1), (h1, aI cI n1 (upd row1 u3.toNatClampNeg r3.1))]) C dX8_passRow_16 2 0 rfl rfl g2 rfl rfl ?_
      refine r_iinc (lv' := [(3, .int (u3 + (1 : Int32))), (0, .ref h), (1, .ref h1), (2, .int u2)]) C dX8_passRow_17 3 rfl (ki_1 _) (by decide) rfl rfl ?_
      refine r_goto (tgt := 2) C dX8_passRow_20 rfl ?_
      refine r_lv (lv' := [(0, .ref h), (1, .ref h1), (2, .int u2), (3, .int (u3 + (1 : Int32)))]) [1, 2, 3, 0] rfl ?_
      exact ih _ _ _ _ hf
def f_X8_passRow (n1 : Nat) (kept : Nat → Int32) (keptAt : Int32) (isWriting : Int32) (row1 : Nat → Int32) (u2 : Int32) : Option ((Nat → Int32) × Int32 × (Nat → Int32)) := f_X8_passRow_2 n1 u2 isWriting 2000 (0 : Int32) kept keptAt row1
set_option maxHeartbeats 4000000 in
set_option maxRecDepth 100000 in
theorem c_X8_passRow (l : Launch) (D : va_G) (cI cZ cG : ClassId) (h h1 : Nat) (A : Nat → Nat) (n1 : Nat) (holding : Int32) (wool : Int32) (days : Int32) (sights : Int32) (padMany : Int32) (acts : Int32) (drawnBits : Int32) (drawnMany : Int32) (drawnNow : Int32) (badAct : Int32) (badWhy : Int32) (drawnAct : Int32) (drawnChild : Int32) (kept : Nat → Int32) (keptAt : Int32) (isWriting : Int32) (row1 : Nat → Int32) (u2 : Int32) (res : (Nat → Int32) × Int32 × (Nat → Int32)) (hf : f_X8_passRow n1 kept keptAt isWriting row1 u2 = some res) : CV l D (tysW cI cZ cG) yX8_passRow wsX8_passRow rm_X8_passRow [.ref h, .ref h1, .int u2] [(h, oX8 A holding wool days sights padMany acts drawnBits drawnMany drawnNow badAct badWhy drawnAct drawnChild keptAt isWriting), ((A 33), aI cI 120 kept), (h1, aI cI n1 row1)] [(h, oX8 A holding wool days sights padMany acts drawnBits drawnMany drawnNow badAct badWhy drawnAct drawnChild res.2.1 isWriting), ((A 33), aI cI 120 res.1), (h1, aI cI n1 res.2.2)] := by
  refine CG.intro (own := RX8) (by decide +kernel) rfl rfl (Nat.le_of_ble_eq_true rfl) (fun p e s m args below meth c C => ?_)
  refine r_lv (lv' := [(0, .ref h), (1, .ref h1), (2, .int u2)]) [0, 1, 2] rfl ?_
  unfold f_X8_passRow at hf
  refine r_iconst C dX8_passRow_0 kk_i_0 rfl ?_
  refine r_istore_n (lv' := [(3, .int (0 : Int32)), (0, .ref h), (1, .ref h1), (2, .int u2)]) C dX8_passRow_1 rfl (by decide) rfl rfl ?_
  refine r_lv (lv' := [(0, .ref h), (1, .ref h1), (2, .int u2), (3, .int (0 : Int32))]) [1, 2, 3, 0] rfl ?_
  refine k_X8_passRow_2 C h h1 A n1 holding wool days sights padMany acts drawnBits drawnMany drawnNow badAct badWhy drawnAct drawnChild isWriting u2 _ 2000 _ _ _ _ hf
theorem fw_X8_passAll_X8 : ∀ w ∈ u_ws RX8 TX8 37, w ∈ wsX8_passAll := by decide +kernel
theorem fl_X8_passAll_101 : Cond.fieldLink RX8 101 "MittenLineModel" "holding" "I" ∈ wsX8_passAll := by decide +kernel
theorem fl_X8_passAll_77 : Cond.fieldLink RX8 77 "MittenLineModel" "wool" "I" ∈ wsX8_passAll := by decide +kernel
theorem fl_X8_passAll_168 : Cond.fieldLink RX8 168 "MittenLineModel" "days" "I" ∈ wsX8_passAll := by decide +kernel
theorem fl_X8_passAll_274 : Cond.fieldLink RX8 274 "MittenLineModel" "sights" "I" ∈ wsX8_passAll := by decide +kernel
theorem fl_X8_passAll_7 : Cond.fieldLink RX8 7 "MittenLineModel" "yard" "[I" ∈ wsX8_passAll := by decide +kernel
theorem fl_X8_passAll_13 : Cond.fieldLink RX8 13 "MittenLineModel" "feels" "[I" ∈ wsX8_passAll := by decide +kernel
theorem fl_X8_passAll_16 : Cond.fieldLink RX8 16 "MittenLineModel" "length" "[I" ∈ wsX8_passAll := by decide +kernel
theorem fl_X8_passAll_19 : Cond.fieldLink RX8 19 "MittenLineModel" "sightChild" "[I" ∈ wsX8_passAll := by decide +kernel
theorem fl_X8_passAll_22 : Cond.fieldLink RX8 22 "MittenLineModel" "sightFelt" "[I" ∈ wsX8_passAll := by decide +kernel
abbrev rm_X8_passAll : Jvm.Room := { frames := 2, cells := 0, slots := 0, locals := 45 }
def f_X8_passAll (yard : Nat → Int32) (feels : Nat → Int32) (length : Nat → Int32) (holding : Int32) (wool : Int32) (days : Int32) (sightChild : Nat → Int32) (sightFelt : Nat → Int32) (sights : Int32) (kept : Nat → Int32) (keptAt : Int32) (isWriting : Int32) : Option ((Nat → Int32) × (Nat → Int32) × (Nat → Int32) × Int32 × Int32 × Int32 × (Nat → Int32) × (Nat → Int32) × Int32 × (Nat → Int32) × Int32) := (f_X8_pass kept keptAt isWriting holding).bind (fun r1 => (f_X8_pass r1.2.1 r1.2.2 isWriting wool).bind (fun r2 => (f_X8_pass r2.2.1 r2.2.2 isWriting days).bind (fun r3 => (f_X8_pass r3.2.1 r3.2.2 isWriting sights).bind (fun r4 => (f_X8_passRow 10 r4.2.1 r4.2.2 isWriting yard (10 : Int32)).bind (fun r5 => (f_X8_passRow 10 r5.1 r5.2.1 isWriting feels (10 : Int32)).bind (fun r6 => (f_X8_passRow 9 r6.1 r6.2.1 isWriting length (9 : Int32)).bind (fun r7 => (f_X8_passRow 8 r7.1 r7.2.1 isWriting sightChild (8 : Int32)).bind (fun r8 => (f_X8_passRow 8 r8.1 r8.2.1 isWriting sightFelt (8 : Int32)).bind (fun r9 => some (r5.2.2, r6.2.2, r7.2.2, r1.1, r2.1, r3.1, r8.2.2, r9.2.2, r4.1, r9.1, r9.2.1))))))))))
set_option maxHeartbeats 4000000 in
set_option maxRecDepth 100000 in
theorem c_X8_passAll (l : Launch) (D : va_G) (cI cZ cG : ClassId) (h : Nat) (A : Nat → Nat) (yard : Nat → Int32) (feels : Nat → Int32) (length : Nat → Int32) (holding : Int32) (wool : Int32) (days : Int32) (sightChild : Nat → Int32) (sightFelt : Nat → Int32) (sights : Int32) (padMany : Int32) (acts : Int32) (drawnBits : Int32) (drawnMany : Int32) (drawnNow : Int32) (badAct : Int32) (badWhy : Int32) (drawnAct : Int32) (drawnChild : Int32) (kept : Nat → Int32) (keptAt : Int32) (isWriting : Int32) (res : (Nat → Int32) × (Nat → Int32) × (Nat → Int32) × Int32 × Int32 × Int32 × (Nat → Int32) × (Nat → Int32) × Int32 × (Nat → Int32) × Int32) (hf : f_X8_passAll yard feels length holding wool days sightChild sightFelt sights kept keptAt isWriting = some res) : CV l D (tysW cI cZ cG) yX8_passAll wsX8_passAll rm_X8_passAll [.ref h] [(h, oX8 A holding wool days sights padMany acts drawnBits drawnMany drawnNow badAct badWhy drawnAct drawnChild keptAt isWriting), ((A 0), aI cI 10 yard), ((A 1), aI cI 10 feels), ((A 2), aI cI 9 length), ((A 6), aI cI 8 sightChild), ((A 7), aI cI 8 sightFelt), ((A 33), aI cI 120 kept)] [(h, oX8 A res.2.2.2.1 res.2.2.2.2.1 res.2.2.2.2.2.1 res.2.2.2.2.2.2.2.2.1 padMany acts drawnBits drawnMany drawnNow badAct badWhy drawnAct drawnChild res.2.2.2.2.2.2.2.2.2.2 isWriting), ((A 0), aI cI 10 res.1), ((A 1), aI cI 10 res.2.1), ((A 2), aI cI 9 res.2.2.1), ((A 6), aI cI 8 res.2.2.2.2.2.2.1), ((A 7), aI cI 8 res.2.2.2.2.2.2.2.1), ((A 33), aI cI 120 res.2.2.2.2.2.2.2.2.2.1)] := by
  refine CG.intro (own := RX8) (by decide +kernel) rfl rfl (Nat.le_of_ble_eq_true rfl) (fun p e s m args below meth c C => ?_)
  refine r_lv (lv' := [(0, .ref h)]) [0] rfl ?_
  unfold f_X8_passAll at hf
  refine r_aload_n C dX8_passAll_0 rfl 0 rfl rfl ?_
  refine r_aload_n C dX8_passAll_1 rfl 0 rfl rfl ?_
  refine r_aload_n C dX8_passAll_2 rfl 0 rfl rfl ?_
  refine r_get C dX8_passAll_3 fw_X8_passAll_X8 0 rfl rfl 3 (by decide) rfl fl_X8_passAll_101 rfl rfl ?_
  obtain ⟨r1, e1, hf⟩ := gd_b hf
  refine o_I (wn := [(h, oX8 A holding wool days sights padMany acts drawnBits drawnMany drawnNow badAct badWhy drawnAct drawnChild r1.2.2 isWriting), ((A 0), aI cI 10 yard), ((A 1), aI cI 10 feels), ((A 2), aI cI 9 length), ((A 6), aI cI 8 sightChild), ((A 7), aI cI 8 sightFelt), ((A 33), aI cI 120 r1.2.1)]) C [0, 6] rfl (x_V C dX8_passAll_6 (c_X8_pass l D cI cZ cG h A holding wool days sights padMany acts drawnBits drawnMany drawnNow badAct badWhy drawnAct drawnChild kept keptAt isWriting holding r1 e1) rfl gX8_passAll_X8_pass hd_X8_pass rfl ⟨Nat.le_of_ble_eq_true rfl, Nat.le_of_ble_eq_true rfl⟩ ⟨rfl, rfl⟩ ⟨Nat.zero_le _, Nat.zero_le _⟩ rfl [0, 6] rfl rfl 0 rfl rfl (Nat.le_of_ble_eq_true rfl) rfl) rfl rfl rfl ?_
  refine r_put (ty := .int) (ws' := [(h, oX8 A r1.1 wool days sights padMany acts drawnBits drawnMany drawnNow badAct badWhy drawnAct drawnChild r1.2.2 isWriting), ((A 0), aI cI 10 yard), ((A 1), aI cI 10 feels), ((A 2), aI cI 9 length), ((A 6), aI cI 8 sightChild), ((A 7), aI cI 8 sightFelt), ((A 33), aI cI 120 r1.2.1)]) C dX8_passAll_9 fw_X8_passAll_X8 tyX8 tyX8_ok nmX8 0 rfl rfl 3 (by decide) rfl fl_X8_passAll_101 rfl (by decide +kernel) rfl rfl (Nat.le_of_ble_eq_true rfl) rfl rfl ?_
  refine r_aload_n C dX8_passAll_12 rfl 0 rfl rfl ?_
  refine r_aload_n C dX8_passAll_13 rfl 0 rfl rfl ?_
  refine r_aload_n C dX8_passAll_14 rfl 0 rfl rfl ?_
  refine r_get C dX8_passAll_15 fw_X8_passAll_X8 0 rfl rfl 4 (by decide) rfl fl_X8_passAll_77 rfl rfl ?_
  obtain ⟨r2, e2, hf⟩ := gd_b hf
  refine o_I (wn := [(h, oX8 A r1.1 wool days sights padMany acts drawnBits drawnMany drawnNow badAct badWhy drawnAct drawnChild r2.2.2 isWriting), ((A 0), aI cI 10 yard), ((A 1), aI cI 10 feels), ((A 2), aI cI 9 length), ((A 6), aI cI 8 sightChild), ((A 7), aI cI 8 sightFelt), ((A 33), aI cI 120 r2.2.1)]) C [0, 6] rfl (x_V C dX8_passAll_18 (c_X8_pass l D cI cZ cG h A r1.1 wool days sights padMany acts drawnBits drawnMany drawnNow badAct badWhy drawnAct drawnChild r1.2.1 r1.2.2 isWriting wool r2 e2) rfl gX8_passAll_X8_pass hd_X8_pass rfl ⟨Nat.le_of_ble_eq_true rfl, Nat.le_of_ble_eq_true rfl⟩ ⟨rfl, rfl⟩ ⟨Nat.zero_le _, Nat.zero_le _⟩ rfl [0, 6] rfl rfl 0 rfl rfl (Nat.le_of_ble_eq_true rfl) rfl) rfl rfl rfl ?_
  refine r_put (ty := .int) (ws' := [(h, oX8 A r1.1 r2.1 days sights padMany acts drawnBits drawnMany drawnNow badAct badWhy drawnAct drawnChild r2.2.2 isWriting), ((A 0), aI cI 10 yard), ((A 1), aI cI 10 feels), ((A 2), aI cI 9 length), ((A 6), aI cI 8 sightChild), ((A 7), aI cI 8 sightFelt), ((A 33), aI cI 120 r2.2.1)]) C dX8_passAll_21 fw_X8_passAll_X8 tyX8 tyX8_ok nmX8 0 rfl rfl 4 (by decide) rfl fl_X8_passAll_77 rfl (by decide +kernel) rfl rfl (Nat.le_of_ble_eq_true rfl) rfl rfl ?_
  refine r_aload_n C dX8_passAll_24 rfl 0 rfl rfl ?_
  refine r_aload_n C dX8_passAll_25 rfl 0 rfl rfl ?_
  refine r_aload_n C dX8_passAll_26 rfl 0 rfl rfl ?_
  refine r_get C dX8_passAll_27 fw_X8_passAll_X8 0 rfl rfl 5 (by decide) rfl fl_X8_passAll_168 rfl rfl ?_
  obtain ⟨r3, e3, hf⟩ := gd_b hf
  refine o_I (wn := [(h, oX8 A r1.1 r2.1 days sights padMany acts drawnBits drawnMany drawnNow badAct badWhy drawnAct drawnChild r3.2.2 isWriting), ((A 0), aI cI 10 yard), ((A 1), aI cI 10 feels), ((A 2), aI cI 9 length), ((A 6), aI cI 8 sightChild), ((A 7), aI cI 8 sightFelt), ((A 33), aI cI 120 r3.2.1)]) C [0, 6] rfl (x_V C dX8_passAll_30 (c_X8_pass l D cI cZ cG h A r1.1 r2.1 days sights padMany acts drawnBits drawnMany drawnNow badAct badWhy drawnAct drawnChild r2.2.1 r2.2.2 isWriting days r3 e3) rfl gX8_passAll_X8_pass hd_X8_pass rfl ⟨Nat.le_of_ble_eq_true rfl, Nat.le_of_ble_eq_true rfl⟩ ⟨rfl, rfl⟩ ⟨Nat.zero_le _, Nat.zero_le _⟩ rfl [0, 6] rfl rfl 0 rfl rfl (Nat.le_of_ble_eq_true rfl) rfl) rfl rfl rfl ?_
  refine r_put (ty := .int) (ws' := [(h, oX8 A r1.1 r2.1 r3.1 sights padMany acts drawnBits drawnMany drawnNow badAct badWhy drawnAct drawnChild r3.2.2 isWriting), ((A 0), aI cI 10 yard), ((A 1), aI cI 10 feels), ((A 2), aI cI 9 length), ((A 6), aI cI 8 sightChild), ((A 7), aI cI 8 sightFelt), ((A 33), aI cI 120 r3.2.1)]) C dX8_passAll_33 fw_X8_passAll_X8 tyX8 tyX8_ok nmX8 0 rfl rfl 5 (by decide) rfl fl_X8_passAll_168 rfl (by decide +kernel) rfl rfl (Nat.le_of_ble_eq_true rfl) rfl rfl ?_
  refine r_aload_n C dX8_passAll_36 rfl 0 rfl rfl ?_
  refine r_aload_n C dX8_passAll_37 rfl 0 rfl rfl ?_
  refine r_aload_n C dX8_passAll_38 rfl 0 rfl rfl ?_
  refine r_get C dX8_passAll_39 fw_X8_passAll_X8 0 rfl rfl 8 (by decide) rfl fl_X8_passAll_274 rfl rfl ?_
  obtain ⟨r4, e4, hf⟩ := gd_b hf
  refine o_I (wn := [(h, oX8 A r1.1 r2.1 r3.1 sights padMany acts drawnBits drawnMany drawnNow badAct badWhy drawnAct drawnChild r4.2.2 isWriting), ((A 0), aI cI 10 yard), ((A 1), aI cI 10 feels), ((A 2), aI cI 9 length), ((A 6), aI cI 8 sightChild), ((A 7), aI cI 8 sightFelt), ((A 33), aI cI 120 r4.2.1)]) C [0, 6] rfl (x_V C dX8_passAll_42 (c_X8_pass l D cI cZ cG h A r1.1 r2.1 r3.1 sights padMany acts drawnBits drawnMany drawnNow badAct badWhy drawnAct drawnChild r3.2.1 r3.2.2 isWriting sights r4 e4) rfl gX8_passAll_X8_pass hd_X8_pass rfl ⟨Nat.le_of_ble_eq_true rfl, Nat.le_of_ble_eq_true rfl⟩ ⟨rfl, rfl⟩ ⟨Nat.zero_le _, Nat.zero_le _⟩ rfl [0, 6] rfl rfl 0 rfl rfl (Nat.le_of_ble_eq_true rfl) rfl) rfl rfl rfl ?_
  refine r_put (ty := .int) (ws' := [(h, oX8 A r1.1 r2.1 r3.1 r4.1 padMany acts drawnBits drawnMany drawnNow badAct badWhy drawnAct drawnChild r4.2.2 isWriting), ((A 0), aI cI 10 yard), ((A 1), aI cI 10 feels), ((A 2), aI cI 9 length), ((A 6), aI cI 8 sightChild), ((A 7), aI cI 8 sightFelt), ((A 33), aI cI 120 r4.2.1)]) C dX8_passAll_45 fw_X8_passAll_X8 tyX8 tyX8_ok nmX8 0 rfl rfl 8 (by decide) rfl fl_X8_passAll_274 rfl (by decide +kernel) rfl rfl (Nat.le_of_ble_eq_true rfl) rfl rfl ?_
  refine r_aload_n C dX8_passAll_48 rfl 0 rfl rfl ?_
  refine r_aload_n C dX8_passAll_49 rfl 0 rfl rfl ?_
  refine r_get C dX8_passAll_50 fw_X8_passAll_X8 0 rfl rfl 0 (by decide) rfl fl_X8_passAll_7 rfl rfl ?_
  refine r_bipush C dX8_passAll_53 kk_b_10 rfl ?_
  obtain ⟨r5, e5, hf⟩ := gd_b hf
  refine o_V (wn := [(h, oX8 A r1.1 r2.1 r3.1 r4.1 padMany acts drawnBits drawnMany drawnNow badAct badWhy drawnAct drawnChild r5.2.1 isWriting), ((A 0), aI cI 10 r5.2.2), ((A 1), aI cI 10 feels), ((A 2), aI cI 9 length), ((A 6), aI cI 8 sightChild), ((A 7), aI cI 8 sightFelt), ((A 33), aI cI 120 r5.1)]) C [0, 6, 1] rfl (x_V C dX8_passAll_55 (c_X8_passRow l D cI cZ cG h (A 0) A 10 r1.1 r2.1 r3.1 r4.1 padMany acts drawnBits drawnMany drawnNow badAct badWhy drawnAct drawnChild r4.2.1 r4.2.2 isWriting yard (10 : Int32) r5 e5) rfl gX8_passAll_X8_passRow hd_X8_passRow rfl ⟨Nat.le_of_ble_eq_true rfl, Nat.le_of_ble_eq_true rfl⟩ ⟨rfl, rfl⟩ ⟨Nat.zero_le _, Nat.zero_le _⟩ rfl [0, 6, 1] rfl rfl 0 rfl rfl (Nat.le_of_ble_eq_true rfl) rfl) rfl rfl rfl ?_
  refine r_aload_n C dX8_passAll_58 rfl 0 rfl rfl ?_
  refine r_aload_n C dX8_passAll_59 rfl 0 rfl rfl ?_
  refine r_get C dX8_passAll_60 fw_X8_passAll_X8 0 rfl rfl 1 (by decide) rfl fl_X8_passAll_13 rfl rfl ?_
  refine r_bipush C dX8_passAll_63 kk_b_10 rfl ?_
  obtain ⟨r6, e6, hf⟩ := gd_b hf
  refine o_V (wn := [(h, oX8 A r1.1 r2.1 r3.1 r4.1 padMany acts drawnBits drawnMany drawnNow badAct badWhy drawnAct drawnChild r6.2.1 isWriting), ((A 0), aI cI 10 r5.2.2), ((A 1), aI cI 10 r6.2.2), ((A 2), aI cI 9 length), ((A 6), aI cI 8 sightChild), ((A 7), aI cI 8 sightFelt), ((A 33), aI cI 120 r6.1)]) C [0, 6, 2] rfl (x_V C dX8_passAll_65 (c_X8_passRow l D cI cZ cG h (A 1) A 10 r1.1 r2.1 r3.1 r4.1 padMany acts drawnBits drawnMany drawnNow badAct badWhy drawnAct drawnChild r5.1 r5.2.1 isWriting feels (10 : Int32) r6 e6) rfl gX8_passAll_X8_passRow hd_X8_passRow rfl ⟨Nat.le_of_ble_eq_true rfl, Nat.le_of_ble_eq_true rfl⟩ ⟨rfl, rfl⟩ ⟨Nat.zero_le _, Nat.zero_le _⟩ rfl [0, 6, 2] rfl rfl 0 rfl rfl (Nat.le_of_ble_eq_true rfl) rfl) rfl rfl rfl ?_
  refine r_aload_n C dX8_passAll_68 rfl 0 rfl rfl ?_
  refine r_aload_n C dX8_passAll_69 rfl 0 rfl rfl ?_
  refine r_get C dX8_passAll_70 fw_X8_passAll_X8 0 rfl rfl 2 (by decide) rfl fl_X8_passAll_16 rfl rfl ?_
  refine r_bipush C dX8_passAll_73 kk_b_9 rfl ?_
  obtain ⟨r7, e7, hf⟩ := gd_b hf
  refine o_V (wn := [(h, oX8 A r1.1 r2.1 r3.1 r4.1 padMany acts drawnBits drawnMany drawnNow badAct badWhy drawnAct drawnChild r7.2.1 isWriting), ((A 0), aI cI 10 r5.2.2), ((A 1), aI cI 10 r6.2.2), ((A 2), aI cI 9 r7.2.2), ((A 6), aI cI 8 sightChild), ((A 7), aI cI 8 sightFelt), ((A 33), aI cI 120 r7.1)]) C [0, 6, 3] rfl (x_V C dX8_passAll_75 (c_X8_passRow l D cI cZ cG h (A 2) A 9 r1.1 r2.1 r3.1 r4.1 padMany acts drawnBits drawnMany drawnNow badAct badWhy drawnAct drawnChild r6.1 r6.2.1 isWriting length (9 : Int32) r7 e7) rfl gX8_passAll_X8_passRow hd_X8_passRow rfl ⟨Nat.le_of_ble_eq_true rfl, Nat.le_of_ble_eq_true rfl⟩ ⟨rfl, rfl⟩ ⟨Nat.zero_le _, Nat.zero_le _⟩ rfl [0, 6, 3] rfl rfl 0 rfl rfl (Nat.le_of_ble_eq_true rfl) rfl) rfl rfl rfl ?_
  refine r_aload_n C dX8_passAll_78 rfl 0 rfl rfl ?_
  refine r_aload_n C dX8_passAll_79 rfl 0 rfl rfl ?_
  refine r_get C dX8_passAll_80 fw_X8_passAll_X8 0 rfl rfl 6 (by decide) rfl fl_X8_passAll_19 rfl rfl ?_
  refine r_bipush C dX8_passAll_83 kk_b_8 rfl ?_
  obtain ⟨r8, e8, hf⟩ := gd_b hf
  refine o_V (wn := [(h, oX8 A r1.1 r2.1 r3.1 r4.1 padMany acts drawnBits drawnMany drawnNow badAct badWhy drawnAct drawnChild r8.2.1 isWriting), ((A 0), aI cI 10 r5.2.2), ((A 1), aI cI 10 r6.2.2), ((A 2), aI cI 9 r7.2.2), ((A 6), aI cI 8 r8.2.2), ((A 7), aI cI 8 sightFelt), ((A 33), aI cI 120 r8.1)]) C [0, 6, 4] rfl (x_V C dX8_passAll_85 (c_X8_passRow l D cI cZ cG h (A 6) A 8 r1.1 r2.1 r3.1 r4.1 padMany acts drawnBits drawnMany drawnNow badAct badWhy drawnAct drawnChild r7.1 r7.2.1 isWriting sightChild (8 : Int32) r8 e8) rfl gX8_passAll_X8_passRow hd_X8_passRow rfl ⟨Nat.le_of_ble_eq_true rfl, Nat.le_of_ble_eq_true rfl⟩ ⟨rfl, rfl⟩ ⟨Nat.zero_le _, Nat.zero_le _⟩ rfl [0, 6, 4] rfl rfl 0 rfl rfl (Nat.le_of_ble_eq_true rfl) rfl) rfl rfl rfl ?_
  refine r_aload_n C dX8_passAll_88 rfl 0 rfl rfl ?_
  refine r_aload_n C dX8_passAll_89 rfl 0 rfl rfl ?_
  refine r_get C dX8_passAll_90 fw_X8_passAll_X8 0 rfl rfl 7 (by decide) rfl fl_X8_passAll_22 rfl rfl ?_
  refine r_bipush C dX8_passAll_93 kk_b_8 rfl ?_
  obtain ⟨r9, e9, hf⟩ := gd_b hf
  refine o_V (wn := [(h, oX8 A r1.1 r2.1 r3.1 r4.1 padMany acts drawnBits drawnMany drawnNow badAct badWhy drawnAct drawnChild r9.2.1 isWriting), ((A 0), aI cI 10 r5.2.2), ((A 1), aI cI 10 r6.2.2), ((A 2), aI cI 9 r7.2.2), ((A 6), aI cI 8 r8.2.2), ((A 7), aI cI 8 r9.2.2), ((A 33), aI cI 120 r9.1)]) C [0, 6, 5] rfl (x_V C dX8_passAll_95 (c_X8_passRow l D cI cZ cG h (A 7) A 8 r1.1 r2.1 r3.1 r4.1 padMany acts drawnBits drawnMany drawnNow badAct badWhy drawnAct drawnChild r8.1 r8.2.1 isWriting sightFelt (8 : Int32) r9 e9) rfl gX8_passAll_X8_passRow hd_X8_passRow rfl ⟨Nat.le_of_ble_eq_true rfl, Nat.le_of_ble_eq_true rfl⟩ ⟨rfl, rfl⟩ ⟨Nat.zero_le _, Nat.zero_le _⟩ rfl [0, 6, 5] rfl rfl 0 rfl rfl (Nat.le_of_ble_eq_true rfl) rfl) rfl rfl rfl ?_
  cases hf
  exact r_vret C dX8_passAll_98 rfl
theorem fw_X8_image_X8 : ∀ w ∈ u_ws RX8 TX8 37, w ∈ wsX8_image := by decide +kernel
theorem fl_X8_image_312 : Cond.fieldLink RX8 312 "MittenLineModel" "keptAt" "I" ∈ wsX8_image := by decide +kernel
theorem fl_X8_image_308 : Cond.fieldLink RX8 308 "MittenLineModel" "isWriting" "Z" ∈ wsX8_image := by decide +kernel
theorem fl_X8_image_74 : Cond.fieldLink RX8 74 "MittenLineModel" "isKept" "[Z" ∈ wsX8_image := by decide +kernel
abbrev rm_X8_image : Jvm.Room := { frames := 3, cells := 0, slots := 0, locals := 65 }
def f_X8_image (yard : Nat → Int32) (feels : Nat → Int32) (length : Nat → Int32) (holding : Int32) (wool : Int32) (days : Int32) (sightChild : Nat → Int32) (sightFelt : Nat → Int32) (sights : Int32) (kept : Nat → Int32) (isKept : Nat → Int32) (keptAt : Int32) (isWriting : Int32) (u1 : Int32) : Option (Int32 × (Nat → Int32) × (Nat → Int32) × (Nat → Int32) × Int32 × Int32 × Int32 × (Nat → Int32) × (Nat → Int32) × Int32 × (Nat → Int32) × (Nat → Int32) × Int32 × Int32) := (f_X8_in u1.toInt64 (0 : Int64) (1 : Int64)).bind (fun r1 => if r1 = 0 then some ((-2 : Int32), yard, feels, length, holding, wool, days, sightChild, sightFelt, sights, kept, isKept, keptAt, isWriting) else (f_X8_passAll yard feels length holding wool days sightChild sightFelt sights kept ((60 : Int32) * u1) (1 : Int32)).bind (fun r3 => if u1 < 0 ∨ 2 ≤ u1.toNatClampNeg then none else some ((1 : Int32), r3.1, r3.2.1, r3.2.2.1, r3.2.2.2.1, r3.2.2.2.2.1, r3.2.2.2.2.2.1, r3.2.2.2.2.2.2.1, r3.2.2.2.2.2.2.2.1, r3.2.2.2.2.2.2.2.2.1, r3.2.2.2.2.2.2.2.2.2.1, (upd isKept u1.toNatClampNeg (vp_nar .boolean (1 : Int32))), r3.2.2.2.2.2.2.2.2.2.2, (1 : Int32))))
set_option maxHeartbeats 4000000 in
set_option maxRecDepth 100000 in
theorem c_X8_image (l : Launch) (D : va_G) (cI cZ cG : ClassId) (h : Nat) (A : Nat → Nat) (yard : Nat → Int32) (feels : Nat → Int32) (length : Nat → Int32) (holding : Int32) (wool : Int32) (days : Int32) (sightChild : Nat → Int32) (sightFelt : Nat → Int32) (sights : Int32) (padMany : Int32) (acts : Int32) (drawnBits : Int32) (drawnMany : Int32) (drawnNow : Int32) (badAct : Int32) (badWhy : Int32) (drawnAct : Int32) (drawnChild : Int32) (kept : Nat → Int32) (isKept : Nat → Int32) (keptAt : Int32) (isWriting : Int32) (u1 : Int32) (res : Int32 × (Nat → Int32) × (Nat → Int32) × (Nat → Int32) × Int32 × Int32 × Int32 × (Nat → Int32) × (Nat → Int32) × Int32 × (Nat → Int32) × (Nat → Int32) × Int32 × Int32) (hf : f_X8_image yard feels length holding wool days sightChild sightFelt sights kept isKept keptAt isWriting u1 = some res) : CI l D (tysW cI cZ cG) yX8_image wsX8_image rm_X8_image [.ref h, .int u1] [(h, oX8 A holding wool days sights padMany acts drawnBits drawnMany drawnNow badAct badWhy drawnAct drawnChild keptAt isWriting), ((A 0), aI cI 10 yard), ((A 1), aI cI 10 feels), ((A 2), aI cI 9 length), ((A 6), aI cI 8 sightChild), ((A 7), aI cI 8 sightFelt), ((A 33), aI cI 120 kept), ((A 34), aI cZ 2 isKept)] res.1 [(h, oX8 A res.2.2.2.2.1 res.2.2.2.2.2.1 res.2.2.2.2.2.2.1 res.2.2.2.2.2.2.2.2.2.1 padMany acts drawnBits drawnMany drawnNow badAct badWhy drawnAct drawnChild res.2.2.2.2.2.2.2.2.2.2.2.2.1 res.2.2.2.2.2.2.2.2.2.2.2.2.2), ((A 0), aI cI 10 res.2.1), ((A 1), aI cI 10 res.2.2.1), ((A 2), aI cI 9 res.2.2.2.1), ((A 6), aI cI 8 res.2.2.2.2.2.2.2.1), ((A 7), aI cI 8 res.2.2.2.2.2.2.2.2.1), ((A 33), aI cI 120 res.2.2.2.2.2.2.2.2.2.2.1), ((A 34), aI cZ 2 res.2.2.2.2.2.2.2.2.2.2.2.1)] := by
  refine CG.intro (own := RX8) (by decide +kernel) rfl rfl (Nat.le_of_ble_eq_true rfl) (fun p e s m args below meth c C => ?_)
  refine r_lv (lv' := [(0, .ref h), (1, .int u1)]) [0, 1] rfl ?_
  unfold f_X8_image at hf
  refine r_iload_n C dX8_image_0 rfl 1 rfl rfl ?_
  refine r_i2l C dX8_image_1 rfl ?_
  refine r_lconst (v := (0 : Int64)) C dX8_image_2 rfl rfl ?_
  refine r_lconst (v := (1 : Int64)) C dX8_image_3 rfl rfl ?_
  obtain ⟨r1, e1, hf⟩ := gd_b hf
  refine o_I (wn := [(h, oX8 A holding wool days sights padMany acts drawnBits drawnMany drawnNow badAct badWhy drawnAct drawnChild keptAt isWriting), ((A 0), aI cI 10 yard), ((A 1), aI cI 10 feels), ((A 2), aI cI 9 length), ((A 6), aI cI 8 sightChild), ((A 7), aI cI 8 sightFelt), ((A 33), aI cI 120 kept), ((A 34), aI cZ 2 isKept)]) C [] rfl (x_S C dX8_image_4 (c_X8_in l D cI cZ cG u1.toInt64 (0 : Int64) (1 : Int64) r1 e1) rfl gX8_image_X8_in hs_X8_in rfl ⟨Nat.le_of_ble_eq_true rfl, Nat.le_of_ble_eq_true rfl⟩ ⟨rfl, rfl⟩ ⟨Nat.zero_le _, Nat.zero_le _⟩ rfl [] rfl rfl (Nat.le_of_ble_eq_true rfl) rfl) rfl rfl rfl ?_
  refine r_if_ne (y := 0) (tgt := 13) C dX8_image_7 rfl rfl (fun c2 => ?_) (fun c2 => ?_)
  · have hf := gd_f c2 hf
    refine r_aload_n C dX8_image_13 rfl 0 rfl rfl ?_
    refine r_bipush C dX8_image_14 kk_b_60 rfl ?_
    refine r_iload_n C dX8_image_16 rfl 1 rfl rfl ?_
    refine r_imul C dX8_image_17 rfl ?_
    refine r_put (ty := .int) (ws' := [(h, oX8 A holding wool days sights padMany acts drawnBits drawnMany drawnNow badAct badWhy drawnAct drawnChild ((60 : Int32) * u1) isWriting), ((A 0), aI cI 10 yard), ((A 1), aI cI 10 feels), ((A 2), aI cI 9 length), ((A 6), aI cI 8 sightChild), ((A 7), aI cI 8 sightFelt), ((A 33), aI cI 120 kept), ((A 34), aI cZ 2 isKept)]) C dX8_image_18 fw_X8_image_X8 tyX8 tyX8_ok nmX8 0 rfl rfl 35 (by decide) rfl fl_X8_image_312 rfl (by decide +kernel) rfl rfl (Nat.le_of_ble_eq_true rfl) rfl rfl ?_
    refine r_aload_n C dX8_image_21 rfl 0 rfl rfl ?_
    refine r_iconst C dX8_image_22 kk_i_1 rfl ?_
    refine r_put (ty := .boolean) (ws' := [(h, oX8 A holding wool days sights padMany acts drawnBits drawnMany drawnNow badAct badWhy drawnAct drawnChild ((60 : Int32) * u1) (1 : Int32)), ((A 0), aI cI 10 yard), ((A 1), aI cI 10 feels), ((A 2), aI cI 9 length), ((A 6), aI cI 8 sightChild), ((A 7), aI cI 8 sightFelt), ((A 33), aI cI 120 kept), ((A 34), aI cZ 2 isKept)]) C dX8_image_23 fw_X8_image_X8 tyX8 tyX8_ok nmX8 0 rfl rfl 36 (by decide) rfl fl_X8_image_308 rfl (by decide +kernel) rfl rfl (Nat.le_of_ble_eq_true rfl) rfl rfl ?_
    refine r_aload_n C dX8_image_26 rfl 0 rfl rfl ?_
    obtain ⟨r3, e3, hf⟩ := gd_b hf
    refine o_V (wn := [(h, oX8 A r3.2.2.2.1 r3.2.2.2.2.1 r3.2.2.2.2.2.1 r3.2.2.2.2.2.2.2.2.1 padMany acts drawnBits drawnMany drawnNow badAct badWhy drawnAct drawnChild r3.2.2.2.2.2.2.2.2.2.2 (1 : Int32)), ((A 0), aI cI 10 r3.1), ((A 1), aI cI 10 r3.2.1), ((A 2), aI cI 9 r3.2.2.1), ((A 6), aI cI 8 r3.2.2.2.2.2.2.1), ((A 7), aI cI 8 r3.2.2.2.2.2.2.2.1), ((A 33), aI cI 120 r3.2.2.2.2.2.2.2.2.2.1), ((A 34), aI cZ 2 isKept)]) C [0, 1, 2, 3, 4, 5, 6] rfl (x_V C dX8_image_27 (c_X8_passAll l D cI cZ cG h A yard feels length holding wool days sightChild sightFelt sights padMany acts drawnBits drawnMany drawnNow badAct badWhy drawnAct drawnChild kept ((60 : Int32) * u1) (1 : Int32) r3 e3) rfl gX8_image_X8_passAll hd_X8_passAll rfl ⟨Nat.le_of_ble_eq_true rfl, Nat.le_of_ble_eq_true rfl⟩ ⟨rfl, rfl⟩ ⟨Nat.zero_le _, Nat.zero_le _⟩ rfl [0, 1, 2, 3, 4, 5, 6] rfl rfl 0 rfl rfl (Nat.le_of_ble_eq_true rfl) rfl) rfl rfl rfl ?_
    refine r_aload_n C dX8_image_30 rfl 0 rfl rfl ?_
    refine r_get C dX8_image_31 fw_X8_image_X8 0 rfl rfl 34 (by decide) rfl fl_X8_image_74 rfl rfl ?_
    refine r_iload_n C dX8_image_34 rfl 1 rfl rfl ?_
    refine r_iconst C dX8_image_35 kk_i_1 rfl ?_
    obtain ⟨g4, hf⟩ := gd_n hf
    refine r_zast (ws' := [(h, oX8 A r3.2.2.2.1 r3.2.2.2.2.1 r3.2.2.2.2.2.1 r3.2.2.2.2.2.2.2.2.1 padMany acts drawnBits drawnMany drawnNow badAct badWhy drawnAct drawnChild r3.2.2.2.2.2.2.2.2.2.2 (1 : Int32)), ((A 0), aI cI 10 r3.1), ((A 1), aI cI 10 r3.2.1), ((A 2), aI cI 9 r3.2.2.1), ((A 6), aI cI 8 r3.2.2.2.2.2.2.1), ((A 7), aI cI 8 r3.2.2.2.2.2.2.2.1), ((A 33), aI cI 120 r3.2.2.2.2.2.2.2.2.2.1), ((A 34), aI cZ 2 (upd isKept u1.toNatClampNeg (vp_nar .boolean (1 : Int32))))]) C dX8_image_36 7 1 rfl rfl g4 rfl rfl ?_
    refine r_iconst C dX8_image_37 kk_i_1 rfl ?_
    cases hf
    exact r_iret C dX8_image_38 rfl
  · have hf := gd_t c2 hf
    refine r_bipush C dX8_image_10 kk_b_m2 rfl ?_
    cases hf
    exact r_iret C dX8_image_12 rfl
theorem fw_X8_restore_X8 : ∀ w ∈ u_ws RX8 TX8 37, w ∈ wsX8_restore := by decide +kernel
theorem fl_X8_restore_74 : Cond.fieldLink RX8 74 "MittenLineModel" "isKept" "[Z" ∈ wsX8_restore := by decide +kernel
theorem fl_X8_restore_312 : Cond.fieldLink RX8 312 "MittenLineModel" "keptAt" "I" ∈ wsX8_restore := by decide +kernel
theorem fl_X8_restore_308 : Cond.fieldLink RX8 308 "MittenLineModel" "isWriting" "Z" ∈ wsX8_restore := by decide +kernel
abbrev rm_X8_restore : Jvm.Room := { frames := 3, cells := 0, slots := 0, locals := 65 }
def f_X8_restore (yard : Nat → Int32) (feels : Nat → Int32) (length : Nat → Int32) (holding : Int32) (wool : Int32) (days : Int32) (sightChild : Nat → Int32) (sightFelt : Nat → Int32) (sights : Int32) (kept : Nat → Int32) (isKept : Nat → Int32) (keptAt : Int32) (isWriting : Int32) (u1 : Int32) : Option (Int32 × (Nat → Int32) × (Nat → Int32) × (Nat → Int32) × Int32 × Int32 × Int32 × (Nat → Int32) × (Nat → Int32) × Int32 × (Nat → Int32) × Int32 × Int32) := (f_X8_in u1.toInt64 (0 : Int64) (1 : Int64)).bind (fun r1 => if r1 = 0 then some ((-2 : Int32), yard, feels, length, holding, wool, days, sightChild, sightFelt, sights, kept, keptAt, isWriting) else if u1 < 0 ∨ 2 ≤ u1.toNatClampNeg then none else if (isKept u1.toNatClampNeg) = 0 then some ((-3 : Int32), yard, feels, length, holding, wool, days, sightChild, sightFelt, sights, kept, keptAt, isWriting) else (f_X8_passAll yard feels length holding wool days sightChild sightFelt sights kept ((60 : Int32) * u1) (0 : Int32)).bind (fun r5 => some ((1 : Int32), r5.1, r5.2.1, r5.2.2.1, r5.2.2.2.1, r5.2.2.2.2.1, r5.2.2.2.2.2.1, r5.2.2.2.2.2.2.1, r5.2.2.2.2.2.2.2.1, r5.2.2.2.2.2.2.2.2.1, r5.2.2.2.2.2.2.2.2.2.1, r5.2.2.2.2.2.2.2.2.2.2, (0 : Int32))))
set_option maxHeartbeats 4000000 in
set_option maxRecDepth 100000 in
theorem c_X8_restore (l : Launch) (D : va_G) (cI cZ cG : ClassId) (h : Nat) (A : Nat → Nat) (yard : Nat → Int32) (feels : Nat → Int32) (length : Nat → Int32) (holding : Int32) (wool : Int32) (days : Int32) (sightChild : Nat → Int32) (sightFelt : Nat → Int32) (sights : Int32) (padMany : Int32) (acts : Int32) (drawnBits : Int32) (drawnMany : Int32) (drawnNow : Int32) (badAct : Int32) (badWhy : Int32) (drawnAct : Int32) (drawnChild : Int32) (kept : Nat → Int32) (isKept : Nat → Int32) (keptAt : Int32) (isWriting : Int32) (u1 : Int32) (res : Int32 × (Nat → Int32) × (Nat → Int32) × (Nat → Int32) × Int32 × Int32 × Int32 × (Nat → Int32) × (Nat → Int32) × Int32 × (Nat → Int32) × Int32 × Int32) (hf : f_X8_restore yard feels length holding wool days sightChild sightFelt sights kept isKept keptAt isWriting u1 = some res) : CI l D (tysW cI cZ cG) yX8_restore wsX8_restore rm_X8_restore [.ref h, .int u1] [(h, oX8 A holding wool days sights padMany acts drawnBits drawnMany drawnNow badAct badWhy drawnAct drawnChild keptAt isWriting), ((A 0), aI cI 10 yard), ((A 1), aI cI 10 feels), ((A 2), aI cI 9 length), ((A 6), aI cI 8 sightChild), ((A 7), aI cI 8 sightFelt), ((A 33), aI cI 120 kept), ((A 34), aI cZ 2 isKept)] res.1 [(h, oX8 A res.2.2.2.2.1 res.2.2.2.2.2.1 res.2.2.2.2.2.2.1 res.2.2.2.2.2.2.2.2.2.1 padMany acts drawnBits drawnMany drawnNow badAct badWhy drawnAct drawnChild res.2.2.2.2.2.2.2.2.2.2.2.1 res.2.2.2.2.2.2.2.2.2.2.2.2), ((A 0), aI cI 10 res.2.1), ((A 1), aI cI 10 res.2.2.1), ((A 2), aI cI 9 res.2.2.2.1), ((A 6), aI cI 8 res.2.2.2.2.2.2.2.1), ((A 7), aI cI 8 res.2.2.2.2.2.2.2.2.1), ((A 33), aI cI 120 res.2.2.2.2.2.2.2.2.2.2.1), ((A 34), aI cZ 2 isKept)] := by
  refine CG.intro (own := RX8) (by decide +kernel) rfl rfl (Nat.le_of_ble_eq_true rfl) (fun p e s m args below meth c C => ?_)
  refine r_lv (lv' := [(0, .ref h), (1, .int u1)]) [0, 1] rfl ?_
  unfold f_X8_restore at hf
  refine r_iload_n C dX8_restore_0 rfl 1 rfl rfl ?_
  refine r_i2l C dX8_restore_1 rfl ?_
  refine r_lconst (v := (0 : Int64)) C dX8_restore_2 rfl rfl ?_
  refine r_lconst (v := (1 : Int64)) C dX8_restore_3 rfl rfl ?_
  obtain ⟨r1, e1, hf⟩ := gd_b hf
  refine o_I (wn := [(h, oX8 A holding wool days sights padMany acts drawnBits drawnMany drawnNow badAct badWhy drawnAct drawnChild keptAt isWriting), ((A 0), aI cI 10 yard), ((A 1), aI cI 10 feels), ((A 2), aI cI 9 length), ((A 6), aI cI 8 sightChild), ((A 7), aI cI 8 sightFelt), ((A 33), aI cI 120 kept), ((A 34), aI cZ 2 isKept)]) C [] rfl (x_S C dX8_restore_4 (c_X8_in l D cI cZ cG u1.toInt64 (0 : Int64) (1 : Int64) r1 e1) rfl gX8_restore_X8_in hs_X8_in rfl ⟨Nat.le_of_ble_eq_true rfl, Nat.le_of_ble_eq_true rfl⟩ ⟨rfl, rfl⟩ ⟨Nat.zero_le _, Nat.zero_le _⟩ rfl [] rfl rfl (Nat.le_of_ble_eq_true rfl) rfl) rfl rfl rfl ?_
  refine r_if_ne (y := 0) (tgt := 13) C dX8_restore_7 rfl rfl (fun c2 => ?_) (fun c2 => ?_)
  · have hf := gd_f c2 hf
    refine r_aload_n C dX8_restore_13 rfl 0 rfl rfl ?_
    refine r_get C dX8_restore_14 fw_X8_restore_X8 0 rfl rfl 34 (by decide) rfl fl_X8_restore_74 rfl rfl ?_
    refine r_iload_n C dX8_restore_17 rfl 1 rfl rfl ?_
    obtain ⟨g3, hf⟩ := gd_n hf
    refine r_zald C dX8_restore_18 7 1 rfl rfl g3 rfl ?_
    refine r_if_ne (y := 0) (tgt := 25) C dX8_restore_19 rfl rfl (fun c4 => ?_) (fun c4 => ?_)
    · have hf := gd_f c4 hf
      refine r_aload_n C dX8_restore_25 rfl 0 rfl rfl ?_
      refine r_bipush C dX8_restore_26 kk_b_60 rfl ?_
      refine r_iload_n C dX8_restore_28 rfl 1 rfl rfl ?_
      refine r_imul C dX8_restore_29 rfl ?_
      refine r_put (ty := .int) (ws' := [(h, oX8 A holding wool days sights padMany acts drawnBits drawnMany drawnNow badAct badWhy drawnAct drawnChild ((60 : Int32) * u1) isWriting), ((A 0), aI cI 10 yard), ((A 1), aI cI 10 feels), ((A 2), aI cI 9 length), ((A 6), aI cI 8 sightChild), ((A 7), aI cI 8 sightFelt), ((A 33), aI cI 120 kept), ((A 34), aI cZ 2 isKept)]) C dX8_restore_30 fw_X8_restore_X8 tyX8 tyX8_ok nmX8 0 rfl rfl 35 (by decide) rfl fl_X8_restore_312 rfl (by decide +kernel) rfl rfl (Nat.le_of_ble_eq_true rfl) rfl rfl ?_
      refine r_aload_n C dX8_restore_33 rfl 0 rfl rfl ?_
      refine r_iconst C dX8_restore_34 kk_i_0 rfl ?_
      refine r_put (ty := .boolean) (ws' := [(h, oX8 A holding wool days sights padMany acts drawnBits drawnMany drawnNow badAct badWhy drawnAct drawnChild ((60 : Int32) * u1) (0 : Int32)), ((A 0), aI cI 10 yard), ((A 1), aI cI 10 feels), ((A 2), aI cI 9 length), ((A 6), aI cI 8 sightChild), ((A 7), aI cI 8 sightFelt), ((A 33), aI cI 120 kept), ((A 34), aI cZ 2 isKept)]) C dX8_restore_35 fw_X8_restore_X8 tyX8 tyX8_ok nmX8 0 rfl rfl 36 (by decide) rfl fl_X8_restore_308 rfl (by decide +kernel) rfl rfl (Nat.le_of_ble_eq_true rfl) rfl rfl ?_
      refine r_aload_n C dX8_restore_38 rfl 0 rfl rfl ?_
      obtain ⟨r5, e5, hf⟩ := gd_b hf
      refine o_V (wn := [(h, oX8 A r5.2.2.2.1 r5.2.2.2.2.1 r5.2.2.2.2.2.1 r5.2.2.2.2.2.2.2.2.1 padMany acts drawnBits drawnMany drawnNow badAct badWhy drawnAct drawnChild r5.2.2.2.2.2.2.2.2.2.2 (0 : Int32)), ((A 0), aI cI 10 r5.1), ((A 1), aI cI 10 r5.2.1), ((A 2), aI cI 9 r5.2.2.1), ((A 6), aI cI 8 r5.2.2.2.2.2.2.1), ((A 7), aI cI 8 r5.2.2.2.2.2.2.2.1), ((A 33), aI cI 120 r5.2.2.2.2.2.2.2.2.2.1), ((A 34), aI cZ 2 isKept)]) C [0, 1, 2, 3, 4, 5, 6] rfl (x_V C dX8_restore_39 (c_X8_passAll l D cI cZ cG h A yard feels length holding wool days sightChild sightFelt sights padMany acts drawnBits drawnMany drawnNow badAct badWhy drawnAct drawnChild kept ((60 : Int32) * u1) (0 : Int32) r5 e5) rfl gX8_restore_X8_passAll hd_X8_passAll rfl ⟨Nat.le_of_ble_eq_true rfl, Nat.le_of_ble_eq_true rfl⟩ ⟨rfl, rfl⟩ ⟨Nat.zero_le _, Nat.zero_le _⟩ rfl [0, 1, 2, 3, 4, 5, 6] rfl rfl 0 rfl rfl (Nat.le_of_ble_eq_true rfl) rfl) rfl rfl rfl ?_
      refine r_iconst C dX8_restore_42 kk_i_1 rfl ?_
      cases hf
      exact r_iret C dX8_restore_43 rfl
    · have hf := gd_t c4 hf
      refine r_bipush C dX8_restore_22 kk_b_m3 rfl ?_
      cases hf
      exact r_iret C dX8_restore_24 rfl
  · have hf := gd_t c2 hf
    refine r_bipush C dX8_restore_10 kk_b_m2 rfl ?_
    cases hf
    exact r_iret C dX8_restore_12 rfl
theorem wc_X8_told_291 : Cond.constantLong RX8 291 (10 : Int64) ∈ wsX8_told := by decide +kernel
theorem wc_X8_told_325 : Cond.constantLong RX8 325 (19 : Int64) ∈ wsX8_told := by decide +kernel
theorem wc_X8_told_327 : Cond.constantLong RX8 327 (20 : Int64) ∈ wsX8_told := by decide +kernel
theorem wc_X8_told_329 : Cond.constantLong RX8 329 (29 : Int64) ∈ wsX8_told := by decide +kernel
theorem wc_X8_told_331 : Cond.constantLong RX8 331 (30 : Int64) ∈ wsX8_told := by decide +kernel
theorem wc_X8_told_333 : Cond.constantLong RX8 333 (38 : Int64) ∈ wsX8_told := by decide +kernel
theorem fw_X8_told_X8 : ∀ w ∈ u_ws RX8 TX8 37, w ∈ wsX8_told := by decide +kernel
theorem fl_X8_told_112 : Cond.fieldLink RX8 112 "MittenLineModel" "padMany" "I" ∈ wsX8_told := by decide +kernel
theorem fl_X8_told_101 : Cond.fieldLink RX8 101 "MittenLineModel" "holding" "I" ∈ wsX8_told := by decide +kernel
theorem fl_X8_told_77 : Cond.fieldLink RX8 77 "MittenLineModel" "wool" "I" ∈ wsX8_told := by decide +kernel
theorem fl_X8_told_168 : Cond.fieldLink RX8 168 "MittenLineModel" "days" "I" ∈ wsX8_told := by decide +kernel
theorem fl_X8_told_274 : Cond.fieldLink RX8 274 "MittenLineModel" "sights" "I" ∈ wsX8_told := by decide +kernel
theorem fl_X8_told_16 : Cond.fieldLink RX8 16 "MittenLineModel" "length" "[I" ∈ wsX8_told := by decide +kernel
theorem fl_X8_told_13 : Cond.fieldLink RX8 13 "MittenLineModel" "feels" "[I" ∈ wsX8_told := by decide +kernel
theorem fl_X8_told_7 : Cond.fieldLink RX8 7 "MittenLineModel" "yard" "[I" ∈ wsX8_told := by decide +kernel
abbrev rm_X8_told : Jvm.Room := { frames := 1, cells := 0, slots := 0, locals := 25 }
def f_X8_told (yard : Nat → Int32) (feels : Nat → Int32) (length : Nat → Int32) (holding : Int32) (wool : Int32) (days : Int32) (sights : Int32) (padMany : Int32) (u1 : Int32) : Option (Int32) := (f_X8_in u1.toInt64 (10 : Int64) (19 : Int64)).bind (fun r1 => if r1 = 0 then (f_X8_in u1.toInt64 (20 : Int64) (29 : Int64)).bind (fun r3 => if r3 = 0 then (f_X8_in u1.toInt64 (30 : Int64) (38 : Int64)).bind (fun r5 => if r5 = 0 then if u1 = (0 : Int32) then some (padMany) else if u1 = (1 : Int32) then some (holding) else if u1 = (2 : Int32) then some (wool) else if u1 = (3 : Int32) then some (days) else if u1 = (4 : Int32) then some (sights) else some ((-2 : Int32)) else if (u1 - (30 : Int32)) < 0 ∨ 9 ≤ (u1 - (30 : Int32)).toNatClampNeg then none else some ((length (u1 - (30 : Int32)).toNatClampNeg))) else if (u1 - (20 : Int32)) < 0 ∨ 10 ≤ (u1 - (20 : Int32)).toNatClampNeg then none else some ((feels (u1 - (20 : Int32)).toNatClampNeg))) else if (u1 - (10 : Int32)) < 0 ∨ 10 ≤ (u1 - (10 : Int32)).toNatClampNeg then none else some ((yard (u1 - (10 : Int32)).toNatClampNeg)))
set_option maxHeartbeats 4000000 in
set_option maxRecDepth 100000 in
theorem c_X8_told (l : Launch) (D : va_G) (cI cZ cG : ClassId) (h : Nat) (A : Nat → Nat) (yard : Nat → Int32) (feels : Nat → Int32) (length : Nat → Int32) (holding : Int32) (wool : Int32) (days : Int32) (sights : Int32) (padMany : Int32) (acts : Int32) (drawnBits : Int32) (drawnMany : Int32) (drawnNow : Int32) (badAct : Int32) (badWhy : Int32) (drawnAct : Int32) (drawnChild : Int32) (keptAt : Int32) (isWriting : Int32) (u1 : Int32) (res : Int32) (hf : f_X8_told yard feels length holding wool days sights padMany u1 = some res) : CI l D (tysW cI cZ cG) yX8_told wsX8_told rm_X8_told [.ref h, .int u1] [(h, oX8 A holding wool days sights padMany acts drawnBits drawnMany drawnNow badAct badWhy drawnAct drawnChild keptAt isWriting), ((A 0), aI cI 10 yard), ((A 1), aI cI 10 feels), ((A 2), aI cI 9 length)] res [(h, oX8 A holding wool days sights padMany acts drawnBits drawnMany drawnNow badAct badWhy drawnAct drawnChild keptAt isWriting), ((A 0), aI cI 10 yard), ((A 1), aI cI 10 feels), ((A 2), aI cI 9 length)] := by
  refine CG.intro (own := RX8) (by decide +kernel) rfl rfl (Nat.le_of_ble_eq_true rfl) (fun p e s m args below meth c C => ?_)
  refine r_lv (lv' := [(0, .ref h), (1, .int u1)]) [0, 1] rfl ?_
  unfold f_X8_told at hf
  refine r_iload_n C dX8_told_0 rfl 1 rfl rfl ?_
  refine r_i2l C dX8_told_1 rfl ?_
  refine r_ldc2 C dX8_told_2 wc_X8_told_291 rfl ?_
  refine r_ldc2 C dX8_told_5 wc_X8_told_325 rfl ?_
  obtain ⟨r1, e1, hf⟩ := gd_b hf
  refine o_I (wn := [(h, oX8 A holding wool days sights padMany acts drawnBits drawnMany drawnNow badAct badWhy drawnAct drawnChild keptAt isWriting), ((A 0), aI cI 10 yard), ((A 1), aI cI 10 feels), ((A 2), aI cI 9 length)]) C [] rfl (x_S C dX8_told_8 (c_X8_in l D cI cZ cG u1.toInt64 (10 : Int64) (19 : Int64) r1 e1) rfl gX8_told_X8_in hs_X8_in rfl ⟨Nat.le_of_ble_eq_true rfl, Nat.le_of_ble_eq_true rfl⟩ ⟨rfl, rfl⟩ ⟨Nat.zero_le _, Nat.zero_le _⟩ rfl [] rfl rfl (Nat.le_of_ble_eq_true rfl) rfl) rfl rfl rfl ?_
  refine r_if_eq (y := 0) (tgt := 24) C dX8_told_11 rfl rfl (fun c2 => ?_) (fun c2 => ?_)
  · have hf := gd_t c2 hf
    refine r_iload_n C dX8_told_24 rfl 1 rfl rfl ?_
    refine r_i2l C dX8_told_25 rfl ?_
    refine r_ldc2 C dX8_told_26 wc_X8_told_327 rfl ?_
    refine r_ldc2 C dX8_told_29 wc_X8_told_329 rfl ?_
    obtain ⟨r3, e3, hf⟩ := gd_b hf
    refine o_I (wn := [(h, oX8 A holding wool days sights padMany acts drawnBits drawnMany drawnNow badAct badWhy drawnAct drawnChild keptAt isWriting), ((A 0), aI cI 10 yard), ((A 1), aI cI 10 feels), ((A 2), aI cI 9 length)]) C [] rfl (x_S C dX8_told_32 (c_X8_in l D cI cZ cG u1.toInt64 (20 : Int64) (29 : Int64) r3 e3) rfl gX8_told_X8_in hs_X8_in rfl ⟨Nat.le_of_ble_eq_true rfl, Nat.le_of_ble_eq_true rfl⟩ ⟨rfl, rfl⟩ ⟨Nat.zero_le _, Nat.zero_le _⟩ rfl [] rfl rfl (Nat.le_of_ble_eq_true rfl) rfl) rfl rfl rfl ?_
    refine r_if_eq (y := 0) (tgt := 48) C dX8_told_35 rfl rfl (fun c4 => ?_) (fun c4 => ?_)
    · have hf := gd_t c4 hf
      refine r_iload_n C dX8_told_48 rfl 1 rfl rfl ?_
      refine r_i2l C dX8_told_49 rfl ?_
      refine r_ldc2 C dX8_told_50 wc_X8_told_331 rfl ?_
      refine r_ldc2 C dX8_told_53 wc_X8_told_333 rfl ?_
      obtain ⟨r5, e5, hf⟩ := gd_b hf
      refine o_I (wn := [(h, oX8 A holding wool days sights padMany acts drawnBits drawnMany drawnNow badAct badWhy drawnAct drawnChild keptAt isWriting), ((A 0), aI cI 10 yard), ((A 1), aI cI 10 feels), ((A 2), aI cI 9 length)]) C [] rfl (x_S C dX8_told_56 (c_X8_in l D cI cZ cG u1.toInt64 (30 : Int64) (38 : Int64) r5 e5) rfl gX8_told_X8_in hs_X8_in rfl ⟨Nat.le_of_ble_eq_true rfl, Nat.le_of_ble_eq_true rfl⟩ ⟨rfl, rfl⟩ ⟨Nat.zero_le _, Nat.zero_le _⟩ rfl [] rfl rfl (Nat.le_of_ble_eq_true rfl) rfl) rfl rfl rfl ?_
      refine r_if_eq (y := 0) (tgt := 72) C dX8_told_59 rfl rfl (fun c6 => ?_) (fun c6 => ?_)
      · have hf := gd_t c6 hf
        refine r_iload_n C dX8_told_72 rfl 1 rfl rfl ?_
        by_cases c7 : u1 = (0 : Int32)
        · have hf := gd_t c7 hf
          refine r_tabIn (tgt := 108) C dX8_told_73 c7 (by decide) (by decide) rfl rfl ?_
          refine r_aload_n C dX8_told_108 rfl 0 rfl rfl ?_
          refine r_get C dX8_told_109 fw_X8_told_X8 0 rfl rfl 10 (by decide) rfl fl_X8_told_112 rfl rfl ?_
          cases hf
          exact r_iret C dX8_told_112 rfl
        have hf := gd_f c7 hf
        by_cases c8 : u1 = (1 : Int32)
        · have hf := gd_t c8 hf
          refine r_tabIn (tgt := 113) C dX8_told_73 c8 (by decide) (by decide) rfl rfl ?_
          refine r_aload_n C dX8_told_113 rfl 0 rfl rfl ?_
          refine r_get C dX8_told_114 fw_X8_told_X8 0 rfl rfl 3 (by decide) rfl fl_X8_told_101 rfl rfl ?_
          cases hf
          exact r_iret C dX8_told_117 rfl
        have hf := gd_f c8 hf
        by_cases c9 : u1 = (2 : Int32)
        · have hf := gd_t c9 hf
          refine r_tabIn (tgt := 118) C dX8_told_73 c9 (by decide) (by decide) rfl rfl ?_
          refine r_aload_n C dX8_told_118 rfl 0 rfl rfl ?_
          refine r_get C dX8_told_119 fw_X8_told_X8 0 rfl rfl 4 (by decide) rfl fl_X8_told_77 rfl rfl ?_
          cases hf
          exact r_iret C dX8_told_122 rfl
        have hf := gd_f c9 hf
        by_cases c10 : u1 = (3 : Int32)
        · have hf := gd_t c10 hf
          refine r_tabIn (tgt := 123) C dX8_told_73 c10 (by decide) (by decide) rfl rfl ?_
          refine r_aload_n C dX8_told_123 rfl 0 rfl rfl ?_
          refine r_get C dX8_told_124 fw_X8_told_X8 0 rfl rfl 5 (by decide) rfl fl_X8_told_168 rfl rfl ?_
          cases hf
          exact r_iret C dX8_told_127 rfl
        have hf := gd_f c10 hf
        by_cases c11 : u1 = (4 : Int32)
        · have hf := gd_t c11 hf
          refine r_tabIn (tgt := 128) C dX8_told_73 c11 (by decide) (by decide) rfl rfl ?_
          refine r_aload_n C dX8_told_128 rfl 0 rfl rfl ?_
          refine r_get C dX8_told_129 fw_X8_told_X8 0 rfl rfl 8 (by decide) rfl fl_X8_told_274 rfl rfl ?_
          cases hf
          exact r_iret C dX8_told_132 rfl
        have hf := gd_f c11 hf
        refine r_tabOut (tgt := 133) C dX8_told_73 (by have e0 := lv_neT (a := 0) c7 rfl; have e1 := lv_neT (a := 1) c8 rfl; have e2 := lv_neT (a := 2) c9 rfl; have e3 := lv_neT (a := 3) c10 rfl; have e4 := lv_neT (a := 4) c11 rfl; omega) rfl ?_
        refine r_bipush C dX8_told_133 kk_b_m2 rfl ?_
        cases hf
        exact r_iret C dX8_told_135 rfl
      · have hf := gd_f c6 hf
        refine r_aload_n C dX8_told_62 rfl 0 rfl rfl ?_
        refine r_get C dX8_told_63 fw_X8_told_X8 0 rfl rfl 2 (by decide) rfl fl_X8_told_16 rfl rfl ?_
        refine r_iload_n C dX8_told_66 rfl 1 rfl rfl ?_
        refine r_bipush C dX8_told_67 kk_b_30 rfl ?_
        refine r_isub C dX8_told_69 rfl ?_
        obtain ⟨g12, hf⟩ := gd_n hf
        refine r_iald C dX8_told_70 3 0 rfl rfl g12 rfl ?_
        cases hf
        exact r_iret C dX8_told_71 rfl
    · have hf := gd_f c4 hf
      refine r_aload_n C dX8_told_38 rfl 0 rfl rfl ?_
      refine r_get C dX8_told_39 fw_X8_told_X8 0 rfl rfl 1 (by decide) rfl fl_X8_told_13 rfl rfl ?_
      refine r_iload_n C dX8_told_42 rfl 1 rfl rfl ?_
      refine r_bipush C dX8_told_43 kk_b_20 rfl ?_
      refine r_isub C dX8_told_45 rfl ?_
      obtain ⟨g13, hf⟩ := gd_n hf
      refine r_iald C dX8_told_46 2 0 rfl rfl g13 rfl ?_
      cases hf
      exact r_iret C dX8_told_47 rfl
  · have hf := gd_f c2 hf
    refine r_aload_n C dX8_told_14 rfl 0 rfl rfl ?_
    refine r_get C dX8_told_15 fw_X8_told_X8 0 rfl rfl 0 (by decide) rfl fl_X8_told_7 rfl rfl ?_
    refine r_iload_n C dX8_told_18 rfl 1 rfl rfl ?_
    refine r_bipush C dX8_told_19 kk_b_10 rfl ?_
    refine r_isub C dX8_told_21 rfl ?_
    obtain ⟨g14, hf⟩ := gd_n hf
    refine r_iald C dX8_told_22 1 0 rfl rfl g14 rfl ?_
    cases hf
    exact r_iret C dX8_told_23 rfl
end
