section
variable {p : Program} {l : Launch} {e : Env} {s : State} {m : MethodId} {args : Array Value} {below : List Frame} {meth : Method} {c : Code} {D : va_G} {cI cZ cG : ClassId} {w0 : va_W}
abbrev rm_X8_in : Jvm.Room := { frames := 0, cells := 0, slots := 0, locals := 0 }
def f_X8_in (u0 : Int64) (u2 : Int64) (u4 : Int64) : Option (Int32) := if (lg_cmp u0 u2) < 0 then some ((0 : Int32)) else if 0 < (lg_cmp u0 u4) then some ((0 : Int32)) else some ((1 : Int32))
set_option maxHeartbeats 4000000 in
set_option maxRecDepth 100000 in
theorem c_X8_in (l : Launch) (D : va_G) (cI cZ cG : ClassId) (u0 : Int64) (u2 : Int64) (u4 : Int64) (res : Int32) (hf : f_X8_in u0 u2 u4 = some res) : CI l D (tysW cI cZ cG) yX8_in wsX8_in rm_X8_in [.long u0, .long u2, .long u4] [] res [] := by
  refine CG.intro (own := RX8) (by decide +kernel) rfl rfl (Nat.le_of_ble_eq_true rfl) (fun p e s m args below meth c C => ?_)
  refine r_lv (lv' := [(0, .long u0), (2, .long u2), (4, .long u4)]) [0, 1, 2] rfl ?_
  unfold f_X8_in at hf
  refine r_lload_n C dX8_in_0 rfl 0 rfl rfl ?_
  refine r_lload_n C dX8_in_1 rfl 1 rfl rfl ?_
  refine r_lcmp C dX8_in_2 rfl ?_
  refine r_if_lt (y := 0) (tgt := 17) C dX8_in_3 rfl rfl (fun c1 => ?_) (fun c1 => ?_)
  · have hf := gd_t c1 hf
    refine r_iconst C dX8_in_17 kk_i_0 rfl ?_
    cases hf
    exact r_zret C dX8_in_18 nb0 rfl
  · have hf := gd_f c1 hf
    refine r_lload_n C dX8_in_6 rfl 0 rfl rfl ?_
    refine r_lload C dX8_in_7 2 rfl rfl ?_
    refine r_lcmp C dX8_in_9 rfl ?_
    refine r_if_gt (y := 0) (tgt := 17) C dX8_in_10 rfl rfl (fun c2 => ?_) (fun c2 => ?_)
    · have hf := gd_t c2 hf
      refine r_iconst C dX8_in_17 kk_i_0 rfl ?_
      cases hf
      exact r_zret C dX8_in_18 nb0 rfl
    · have hf := gd_f c2 hf
      refine r_iconst C dX8_in_13 kk_i_1 rfl ?_
      refine r_goto (tgt := 18) C dX8_in_14 rfl ?_
      cases hf
      exact r_zret C dX8_in_18 nb1 rfl
theorem wc_X8_isChild_81 : Cond.constantLong RX8 81 (9 : Int64) ∈ wsX8_isChild := by decide +kernel
abbrev rm_X8_isChild : Jvm.Room := { frames := 1, cells := 0, slots := 0, locals := 25 }
def f_X8_isChild (u0 : Int32) : Option (Int32) := (f_X8_in u0.toInt64 (0 : Int64) (9 : Int64)).bind (fun r1 => if r1 &&& 1 = r1 then some (r1) else none)
set_option maxHeartbeats 4000000 in
set_option maxRecDepth 100000 in
theorem c_X8_isChild (l : Launch) (D : va_G) (cI cZ cG : ClassId) (u0 : Int32) (res : Int32) (hf : f_X8_isChild u0 = some res) : CI l D (tysW cI cZ cG) yX8_isChild wsX8_isChild rm_X8_isChild [.int u0] [] res [] := by
  refine CG.intro (own := RX8) (by decide +kernel) rfl rfl (Nat.le_of_ble_eq_true rfl) (fun p e s m args below meth c C => ?_)
  refine r_lv (lv' := [(0, .int u0)]) [0] rfl ?_
  unfold f_X8_isChild at hf
  refine r_iload_n C dX8_isChild_0 rfl 0 rfl rfl ?_
  refine r_i2l C dX8_isChild_1 rfl ?_
  refine r_lconst (v := (0 : Int64)) C dX8_isChild_2 rfl rfl ?_
  refine r_ldc2 C dX8_isChild_3 wc_X8_isChild_81 rfl ?_
  obtain ⟨r1, e1, hf⟩ := gd_b hf
  refine o_I (wn := []) C [] rfl (x_S C dX8_isChild_6 (c_X8_in l D cI cZ cG u0.toInt64 (0 : Int64) (9 : Int64) r1 e1) rfl gX8_isChild_X8_in hs_X8_in rfl ⟨Nat.le_of_ble_eq_true rfl, Nat.le_of_ble_eq_true rfl⟩ ⟨rfl, rfl⟩ ⟨Nat.zero_le _, Nat.zero_le _⟩ rfl [] rfl rfl (Nat.le_of_ble_eq_true rfl) rfl) rfl rfl rfl ?_
  obtain ⟨z2, hf⟩ := gd_p hf
  cases hf
  exact r_zret C dX8_isChild_9 (nb_of z2) rfl
abbrev rm_X8_has : Jvm.Room := { frames := 0, cells := 0, slots := 0, locals := 0 }
def f_X8_has (u0 : Int32) (u1 : Int32) : Option (Int32) := if ((u0 >>> (u1 &&& 31)) &&& (1 : Int32)) = (1 : Int32) then some ((1 : Int32)) else some ((0 : Int32))
set_option maxHeartbeats 4000000 in
set_option maxRecDepth 100000 in
theorem c_X8_has (l : Launch) (D : va_G) (cI cZ cG : ClassId) (u0 : Int32) (u1 : Int32) (res : Int32) (hf : f_X8_has u0 u1 = some res) : CI l D (tysW cI cZ cG) yX8_has wsX8_has rm_X8_has [.int u0, .int u1] [] res [] := by
  refine CG.intro (own := RX8) (by decide +kernel) rfl rfl (Nat.le_of_ble_eq_true rfl) (fun p e s m args below meth c C => ?_)
  refine r_lv (lv' := [(0, .int u0), (1, .int u1)]) [0, 1] rfl ?_
  unfold f_X8_has at hf
  refine r_iload_n C dX8_has_0 rfl 0 rfl rfl ?_
  refine r_iload_n C dX8_has_1 rfl 1 rfl rfl ?_
  refine r_ishr C dX8_has_2 rfl ?_
  refine r_iconst C dX8_has_3 kk_i_1 rfl ?_
  refine r_iand C dX8_has_4 rfl ?_
  refine r_iconst C dX8_has_5 kk_i_1 rfl ?_
  refine r_icmp_ne (tgt := 13) C dX8_has_6 rfl rfl (fun c1 => ?_) (fun c1 => ?_)
  · have hf := gd_f c1 hf
    refine r_iconst C dX8_has_13 kk_i_0 rfl ?_
    cases hf
    exact r_zret C dX8_has_14 nb0 rfl
  · have hf := gd_t c1 hf
    refine r_iconst C dX8_has_9 kk_i_1 rfl ?_
    refine r_goto (tgt := 14) C dX8_has_10 rfl ?_
    cases hf
    exact r_zret C dX8_has_14 nb1 rfl
abbrev rm_X8_less : Jvm.Room := { frames := 0, cells := 0, slots := 0, locals := 0 }
def f_X8_less (u0 : Int32) (u1 : Int32) : Option (Int32) := if u1 ≤ u0 then some (u1) else some (u0)
set_option maxHeartbeats 4000000 in
set_option maxRecDepth 100000 in
theorem c_X8_less (l : Launch) (D : va_G) (cI cZ cG : ClassId) (u0 : Int32) (u1 : Int32) (res : Int32) (hf : f_X8_less u0 u1 = some res) : CI l D (tysW cI cZ cG) yX8_less wsX8_less rm_X8_less [.int u0, .int u1] [] res [] := by
  refine CG.intro (own := RX8) (by decide +kernel) rfl rfl (Nat.le_of_ble_eq_true rfl) (fun p e s m args below meth c C => ?_)
  refine r_lv (lv' := [(0, .int u0), (1, .int u1)]) [0, 1] rfl ?_
  unfold f_X8_less at hf
  refine r_iload_n C dX8_less_0 rfl 0 rfl rfl ?_
  refine r_iload_n C dX8_less_1 rfl 1 rfl rfl ?_
  refine r_icmp_ge (tgt := 9) C dX8_less_2 rfl rfl (fun c1 => ?_) (fun c1 => ?_)
  · have hf := gd_t c1 hf
    refine r_iload_n C dX8_less_9 rfl 1 rfl rfl ?_
    cases hf
    exact r_iret C dX8_less_10 rfl
  · have hf := gd_f c1 hf
    refine r_iload_n C dX8_less_5 rfl 0 rfl rfl ?_
    refine r_goto (tgt := 10) C dX8_less_6 rfl ?_
    cases hf
    exact r_iret C dX8_less_10 rfl
abbrev rm_X8_off : Jvm.Room := { frames := 0, cells := 0, slots := 0, locals := 0 }
def f_X8_off (u0 : Int32) (u1 : Int32) : Option (Int32) := if u1 ≤ u0 then some ((u0 - u1)) else some ((u1 - u0))
set_option maxHeartbeats 4000000 in
set_option maxRecDepth 100000 in
theorem c_X8_off (l : Launch) (D : va_G) (cI cZ cG : ClassId) (u0 : Int32) (u1 : Int32) (res : Int32) (hf : f_X8_off u0 u1 = some res) : CI l D (tysW cI cZ cG) yX8_off wsX8_off rm_X8_off [.int u0, .int u1] [] res [] := by
  refine CG.intro (own := RX8) (by decide +kernel) rfl rfl (Nat.le_of_ble_eq_true rfl) (fun p e s m args below meth c C => ?_)
  refine r_lv (lv' := [(0, .int u0), (1, .int u1)]) [0, 1] rfl ?_
  unfold f_X8_off at hf
  refine r_iload_n C dX8_off_0 rfl 0 rfl rfl ?_
  refine r_iload_n C dX8_off_1 rfl 1 rfl rfl ?_
  refine r_icmp_ge (tgt := 11) C dX8_off_2 rfl rfl (fun c1 => ?_) (fun c1 => ?_)
  · have hf := gd_t c1 hf
    refine r_iload_n C dX8_off_11 rfl 0 rfl rfl ?_
    refine r_iload_n C dX8_off_12 rfl 1 rfl rfl ?_
    refine r_isub C dX8_off_13 rfl ?_
    cases hf
    exact r_iret C dX8_off_14 rfl
  · have hf := gd_f c1 hf
    refine r_iload_n C dX8_off_5 rfl 1 rfl rfl ?_
    refine r_iload_n C dX8_off_6 rfl 0 rfl rfl ?_
    refine r_isub C dX8_off_7 rfl ?_
    refine r_goto (tgt := 14) C dX8_off_8 rfl ?_
    cases hf
    exact r_iret C dX8_off_14 rfl
theorem fw_X8_isReached_X8 : ∀ w ∈ u_ws RX8 TX8 37, w ∈ wsX8_isReached := by decide +kernel
theorem fl_X8_isReached_7 : Cond.fieldLink RX8 7 "MittenLineModel" "yard" "[I" ∈ wsX8_isReached := by decide +kernel
theorem fl_X8_isReached_16 : Cond.fieldLink RX8 16 "MittenLineModel" "length" "[I" ∈ wsX8_isReached := by decide +kernel
abbrev rm_X8_isReached : Jvm.Room := { frames := 1, cells := 0, slots := 0, locals := 21 }
def f_X8_isReached (yard : Nat → Int32) (length : Nat → Int32) (u1 : Int32) (u2 : Int32) : Option (Int32) := if u1 = 0 then if u1 = (9 : Int32) then some ((1 : Int32)) else if (u1 + (1 : Int32)) < 0 ∨ 10 ≤ (u1 + (1 : Int32)).toNatClampNeg then none else (f_X8_off u2 (yard (u1 + (1 : Int32)).toNatClampNeg)).bind (fun r6 => if u1 < 0 ∨ 9 ≤ u1.toNatClampNeg then none else if (length u1.toNatClampNeg) < r6 then some ((0 : Int32)) else some ((1 : Int32))) else if (u1 - (1 : Int32)) < 0 ∨ 10 ≤ (u1 - (1 : Int32)).toNatClampNeg then none else (f_X8_off u2 (yard (u1 - (1 : Int32)).toNatClampNeg)).bind (fun r14 => if (u1 - (1 : Int32)) < 0 ∨ 9 ≤ (u1 - (1 : Int32)).toNatClampNeg then none else if (length (u1 - (1 : Int32)).toNatClampNeg) < r14 then if u1 = (9 : Int32) then some ((0 : Int32)) else if (u1 + (1 : Int32)) < 0 ∨ 10 ≤ (u1 + (1 : Int32)).toNatClampNeg then none else (f_X8_off u2 (yard (u1 + (1 : Int32)).toNatClampNeg)).bind (fun r20 => if u1 < 0 ∨ 9 ≤ u1.toNatClampNeg then none else if (length u1.toNatClampNeg) < r20 then some ((0 : Int32)) else some ((0 : Int32))) else if u1 = (9 : Int32) then some ((1 : Int32)) else if (u1 + (1 : Int32)) < 0 ∨ 10 ≤ (u1 + (1 : Int32)).toNatClampNeg then none else (f_X8_off u2 (yard (u1 + (1 : Int32)).toNatClampNeg)).bind (fun r29 => if u1 < 0 ∨ 9 ≤ u1.toNatClampNeg then none else if (length u1.toNatClampNeg) < r29 then some ((0 : Int32)) else some ((1 : Int32))))
set_option maxHeartbeats 4000000 in
set_option maxRecDepth 100000 in
theorem c_X8_isReached (l : Launch) (D : va_G) (cI cZ cG : ClassId) (h : Nat) (A : Nat → Nat) (yard : Nat → Int32) (length : Nat → Int32) (holding : Int32) (wool : Int32) (days : Int32) (sights : Int32) (padMany : Int32) (acts : Int32) (drawnBits : Int32) (drawnMany : Int32) (drawnNow : Int32) (badAct : Int32) (badWhy : Int32) (drawnAct : Int32) (drawnChild : Int32) (keptAt : Int32) (isWriting : Int32) (u1 : Int32) (u2 : Int32) (res : Int32) (hf : f_X8_isReached yard length u1 u2 = some res) : CI l D (tysW cI cZ cG) yX8_isReached wsX8_isReached rm_X8_isReached [.ref h, .int u1, .int u2] [(h, oX8 A holding wool days sights padMany acts drawnBits drawnMany drawnNow badAct badWhy drawnAct drawnChild keptAt isWriting), ((A 0), aI cI 10 yard), ((A 2), aI cI 9 length)] res [(h, oX8 A holding wool days sights padMany acts drawnBits drawnMany drawnNow badAct badWhy drawnAct drawnChild keptAt isWriting), ((A 0), aI cI 10 yard), ((A 2), aI cI 9 length)] := by
  refine CG.intro (own := RX8) (by decide +kernel) rfl rfl (Nat.le_of_ble_eq_true rfl) (fun p e s m args below meth c C => ?_)
  refine r_lv (lv' := [(0, .ref h), (1, .int u1), (2, .int u2)]) [0, 1, 2] rfl ?_
  unfold f_X8_isReached at hf
  refine r_iload_n C dX8_isReached_0 rfl 1 rfl rfl ?_
  refine r_if_eq (y := 0) (tgt := 27) C dX8_isReached_1 rfl rfl (fun c1 => ?_) (fun c1 => ?_)
  · have hf := gd_t c1 hf
    refine r_iconst C dX8_isReached_27 kk_i_1 rfl ?_
    refine r_goto (tgt := 32) C dX8_isReached_28 rfl ?_
    refine r_istore_n (lv' := [(3, .int (1 : Int32)), (0, .ref h), (1, .int u1), (2, .int u2)]) C dX8_isReached_32 rfl (by decide) rfl rfl ?_
    refine r_iload_n C dX8_isReached_33 rfl 2 rfl rfl ?_
    refine r_bipush C dX8_isReached_34 kk_b_9 rfl ?_
    refine r_icmp_eq (tgt := 60) C dX8_isReached_36 rfl rfl (fun c2 => ?_) (fun c2 => ?_)
    · have hf := gd_t c2 hf
      refine r_iconst C dX8_isReached_60 kk_i_1 rfl ?_
      refine r_goto (tgt := 65) C dX8_isReached_61 rfl ?_
      refine r_istore (lv' := [(4, .int (1 : Int32)), (3, .int (1 : Int32)), (0, .ref h), (1, .int u1), (2, .int u2)]) C dX8_isReached_65 (by decide) rfl rfl ?_
      refine r_iload_n C dX8_isReached_67 rfl 1 rfl rfl ?_
      refine r_if_eq (y := 0) (tgt := 80) C dX8_isReached_68 rfl rfl (fun c3 => absurd c3 (by decide)) (fun _ => ?_)
      refine r_iload C dX8_isReached_71 0 rfl rfl ?_
      refine r_if_eq (y := 0) (tgt := 80) C dX8_isReached_73 rfl rfl (fun c4 => absurd c4 (by decide)) (fun _ => ?_)
      refine r_iconst C dX8_isReached_76 kk_i_1 rfl ?_
      refine r_goto (tgt := 81) C dX8_isReached_77 rfl ?_
      cases hf
      exact r_zret C dX8_isReached_81 nb1 rfl
    · have hf := gd_f c2 hf
      refine r_iload_n C dX8_isReached_39 rfl 3 rfl rfl ?_
      refine r_aload_n C dX8_isReached_40 rfl 1 rfl rfl ?_
      refine r_get C dX8_isReached_41 fw_X8_isReached_X8 0 rfl rfl 0 (by decide) rfl fl_X8_isReached_7 rfl rfl ?_
      refine r_iload_n C dX8_isReached_44 rfl 2 rfl rfl ?_
      refine r_iconst C dX8_isReached_45 kk_i_1 rfl ?_
      refine r_iadd C dX8_isReached_46 rfl ?_
      obtain ⟨g5, hf⟩ := gd_n hf
      refine r_iald C dX8_isReached_47 1 0 rfl rfl g5 rfl ?_
      obtain ⟨r6, e6, hf⟩ := gd_b hf
      refine o_I (wn := [(h, oX8 A holding wool days sights padMany acts drawnBits drawnMany drawnNow badAct badWhy drawnAct drawnChild keptAt isWriting), ((A 0), aI cI 10 yard), ((A 2), aI cI 9 length)]) C [] rfl (x_S C dX8_isReached_48 (c_X8_off l D cI cZ cG u2 (yard (u1 + (1 : Int32)).toNatClampNeg) r6 e6) rfl gX8_isReached_X8_off hs_X8_off rfl ⟨Nat.le_of_ble_eq_true rfl, Nat.le_of_ble_eq_true rfl⟩ ⟨rfl, rfl⟩ ⟨Nat.zero_le _, Nat.zero_le _⟩ rfl [] rfl rfl (Nat.le_of_ble_eq_true rfl) rfl) rfl rfl rfl ?_
      refine r_aload_n C dX8_isReached_51 rfl 1 rfl rfl ?_
      refine r_get C dX8_isReached_52 fw_X8_isReached_X8 0 rfl rfl 2 (by decide) rfl fl_X8_isReached_16 rfl rfl ?_
      refine r_iload_n C dX8_isReached_55 rfl 2 rfl rfl ?_
      obtain ⟨g7, hf⟩ := gd_n hf
      refine r_iald C dX8_isReached_56 2 0 rfl rfl g7 rfl ?_
      refine r_icmp_gt (tgt := 64) C dX8_isReached_57 rfl rfl (fun c8 => ?_) (fun c8 => ?_)
      · have hf := gd_t c8 hf
        refine r_iconst C dX8_isReached_64 kk_i_0 rfl ?_
        refine r_istore (lv' := [(4, .int (0 : Int32)), (3, .int (1 : Int32)), (0, .ref h), (1, .int u1), (2, .int u2)]) C dX8_isReached_65 (by decide) rfl rfl ?_
        refine r_iload_n C dX8_isReached_67 rfl 1 rfl rfl ?_
        refine r_if_eq (y := 0) (tgt := 80) C dX8_isReached_68 rfl rfl (fun c9 => absurd c9 (by decide)) (fun _ => ?_)
        refine r_iload C dX8_isReached_71 0 rfl rfl ?_
        refine r_if_eq (y := 0) (tgt := 80) C dX8_isReached_73 rfl rfl (fun _ => ?_) (fun c10 => absurd (by decide) c10)
        refine r_iconst C dX8_isReached_80 kk_i_0 rfl ?_
        cases hf
        exact r_zret C dX8_isReached_81 nb0 rfl
      · have hf := gd_f c8 hf
        refine r_iconst C dX8_isReached_60 kk_i_1 rfl ?_
        refine r_goto (tgt := 65) C dX8_isReached_61 rfl ?_
        refine r_istore (lv' := [(4, .int (1 : Int32)), (3, .int (1 : Int32)), (0, .ref h), (1, .int u1), (2, .int u2)]) C dX8_isReached_65 (by decide) rfl rfl ?_
        refine r_iload_n C dX8_isReached_67 rfl 1 rfl rfl ?_
        refine r_if_eq (y := 0) (tgt := 80) C dX8_isReached_68 rfl rfl (fun c11 => absurd c11 (by decide)) (fun _ => ?_)
        refine r_iload C dX8_isReached_71 0 rfl rfl ?_
        refine r_if_eq (y := 0) (tgt := 80) C dX8_isReached_73 rfl rfl (fun c12 => absurd c12 (by decide)) (fun _ => ?_)
        refine r_iconst C dX8_isReached_76 kk_i_1 rfl ?_
        refine r_goto (tgt := 81) C dX8_isReached_77 rfl ?_
        cases hf
        exact r_zret C dX8_isReached_81 nb1 rfl
  · have hf := gd_f c1 hf
    refine r_iload_n C dX8_isReached_4 rfl 2 rfl rfl ?_
    refine r_aload_n C dX8_isReached_5 rfl 0 rfl rfl ?_
    refine r_get C dX8_isReached_6 fw_X8_isReached_X8 0 rfl rfl 0 (by decide) rfl fl_X8_isReached_7 rfl rfl ?_
    refine r_iload_n C dX8_isReached_9 rfl 1 rfl rfl ?_
    refine r_iconst C dX8_isReached_10 kk_i_1 rfl ?_
    refine r_isub C dX8_isReached_11 rfl ?_
    obtain ⟨g13, hf⟩ := gd_n hf
    refine r_iald C dX8_isReached_12 1 0 rfl rfl g13 rfl ?_
    obtain ⟨r14, e14, hf⟩ := gd_b hf
    refine o_I (wn := [(h, oX8 A holding wool days sights padMany acts drawnBits drawnMany drawnNow badAct badWhy drawnAct drawnChild keptAt isWriting), ((A 0), aI cI 10 yard), ((A 2), aI cI 9 length)]) C [] rfl (x_S C dX8_isReached_13 (c_X8_off l D cI cZ cG u2 (yard (u1 - (1 : Int32)).toNatClampNeg) r14 e14) rfl gX8_isReached_X8_off hs_X8_off rfl ⟨Nat.le_of_ble_eq_true rfl, Nat.le_of_ble_eq_true rfl⟩ ⟨rfl, rfl⟩ ⟨Nat.zero_le _, Nat.zero_le _⟩ rfl [] rfl rfl (Nat.le_of_ble_eq_true rfl) rfl) rfl rfl rfl ?_
    refine r_aload_n C dX8_isReached_16 rfl 0 rfl rfl ?_
    refine r_get C dX8_isReached_17 fw_X8_isReached_X8 0 rfl rfl 2 (by decide) rfl fl_X8_isReached_16 rfl rfl ?_
    refine r_iload_n C dX8_isReached_20 rfl 1 rfl rfl ?_
    refine r_iconst C dX8_isReached_21 kk_i_1 rfl ?_
    refine r_isub C dX8_isReached_22 rfl ?_
    obtain ⟨g15, hf⟩ := gd_n hf
    refine r_iald C dX8_isReached_23 2 0 rfl rfl g15 rfl ?_
    refine r_icmp_gt (tgt := 31) C dX8_isReached_24 rfl rfl (fun c16 => ?_) (fun c16 => ?_)
    · have hf := gd_t c16 hf
      refine r_iconst C dX8_isReached_31 kk_i_0 rfl ?_
      refine r_istore_n (lv' := [(3, .int (0 : Int32)), (0, .ref h), (1, .int u1), (2, .int u2)]) C dX8_isReached_32 rfl (by decide) rfl rfl ?_
      refine r_iload_n C dX8_isReached_33 rfl 2 rfl rfl ?_
      refine r_bipush C dX8_isReached_34 kk_b_9 rfl ?_
      refine r_icmp_eq (tgt := 60) C dX8_isReached_36 rfl rfl (fun c17 => ?_) (fun c17 => ?_)
      · have hf := gd_t c17 hf
        refine r_iconst C dX8_isReached_60 kk_i_1 rfl ?_
        refine r_goto (tgt := 65) C dX8_isReached_61 rfl ?_
        refine r_istore (lv' := [(4, .int (1 : Int32)), (3, .int (0 : Int32)), (0, .ref h), (1, .int u1), (2, .int u2)]) C dX8_isReached_65 (by decide) rfl rfl ?_
        refine r_iload_n C dX8_isReached_67 rfl 1 rfl rfl ?_
        refine r_if_eq (y := 0) (tgt := 80) C dX8_isReached_68 rfl rfl (fun _ => ?_) (fun c18 => absurd (by decide) c18)
        refine r_iconst C dX8_isReached_80 kk_i_0 rfl ?_
        cases hf
        exact r_zret C dX8_isReached_81 nb0 rfl
      · have hf := gd_f c17 hf
        refine r_iload_n C dX8_isReached_39 rfl 3 rfl rfl ?_
        refine r_aload_n C dX8_isReached_40 rfl 1 rfl rfl ?_
        refine r_get C dX8_isReached_41 fw_X8_isReached_X8 0 rfl rfl 0 (by decide) rfl fl_X8_isReached_7 rfl rfl ?_
        refine r_iload_n C dX8_isReached_44 rfl 2 rfl rfl ?_
        refine r_iconst C dX8_isReached_45 kk_i_1 rfl ?_
        refine r_iadd C dX8_isReached_46 rfl ?_
        obtain ⟨g19, hf⟩ := gd_n hf
        refine r_iald C dX8_isReached_47 1 0 rfl rfl g19 rfl ?_
        obtain ⟨r20, e20, hf⟩ := gd_b hf
        refine o_I (wn := [(h, oX8 A holding wool days sights padMany acts drawnBits drawnMany drawnNow badAct badWhy drawnAct drawnChild keptAt isWriting), ((A 0), aI cI 10 yard), ((A 2), aI cI 9 length)]) C [] rfl (x_S C dX8_isReached_48 (c_X8_off l D cI cZ cG u2 (yard (u1 + (1 : Int32)).toNatClampNeg) r20 e20) rfl gX8_isReached_X8_off hs_X8_off rfl ⟨Nat.le_of_ble_eq_true rfl, Nat.le_of_ble_eq_true rfl⟩ ⟨rfl, rfl⟩ ⟨Nat.zero_le _, Nat.zero_le _⟩ rfl [] rfl rfl (Nat.le_of_ble_eq_true rfl) rfl) rfl rfl rfl ?_
        refine r_aload_n C dX8_isReached_51 rfl 1 rfl rfl ?_
        refine r_get C dX8_isReached_52 fw_X8_isReached_X8 0 rfl rfl 2 (by decide) rfl fl_X8_isReached_16 rfl rfl ?_
        refine r_iload_n C dX8_isReached_55 rfl 2 rfl rfl ?_
        obtain ⟨g21, hf⟩ := gd_n hf
        refine r_iald C dX8_isReached_56 2 0 rfl rfl g21 rfl ?_
        refine r_icmp_gt (tgt := 64) C dX8_isReached_57 rfl rfl (fun c22 => ?_) (fun c22 => ?_)
        · have hf := gd_t c22 hf
          refine r_iconst C dX8_isReached_64 kk_i_0 rfl ?_
          refine r_istore (lv' := [(4, .int (0 : Int32)), (3, .int (0 : Int32)), (0, .ref h), (1, .int u1), (2, .int u2)]) C dX8_isReached_65 (by decide) rfl rfl ?_
          refine r_iload_n C dX8_isReached_67 rfl 1 rfl rfl ?_
          refine r_if_eq (y := 0) (tgt := 80) C dX8_isReached_68 rfl rfl (fun _ => ?_) (fun c23 => absurd (by decide) c23)
          refine r_iconst C dX8_isReached_80 kk_i_0 rfl ?_
          cases hf
          exact r_zret C dX8_isReached_81 nb0 rfl
        · have hf := gd_f c22 hf
          refine r_iconst C dX8_isReached_60 kk_i_1 rfl ?_
          refine r_goto (tgt := 65) C dX8_isReached_61 rfl ?_
          refine r_istore (lv' := [(4, .int (1 : Int32)), (3, .int (0 : Int32)), (0, .ref h), (1, .int u1), (2, .int u2)]) C dX8_isReached_65 (by decide) rfl rfl ?_
          refine r_iload_n C dX8_isReached_67 rfl 1 rfl rfl ?_
          refine r_if_eq (y := 0) (tgt := 80) C dX8_isReached_68 rfl rfl (fun _ => ?_) (fun c24 => absurd (by decide) c24)
          refine r_iconst C dX8_isReached_80 kk_i_0 rfl ?_
          cases hf
          exact r_zret C dX8_isReached_81 nb0 rfl
    · have hf := gd_f c16 hf
      refine r_iconst C dX8_isReached_27 kk_i_1 rfl ?_
      refine r_goto (tgt := 32) C dX8_isReached_28 rfl ?_
      refine r_istore_n (lv' := [(3, .int (1 : Int32)), (0, .ref h), (1, .int u1), (2, .int u2)]) C dX8_isReached_32 rfl (by decide) rfl rfl ?_
      refine r_iload_n C dX8_isReached_33 rfl 2 rfl rfl ?_
      refine r_bipush C dX8_isReached_34 kk_b_9 rfl ?_
      refine r_icmp_eq (tgt := 60) C dX8_isReached_36 rfl rfl (fun c25 => ?_) (fun c25 => ?_)
      · have hf := gd_t c25 hf
        refine r_iconst C dX8_isReached_60 kk_i_1 rfl ?_
        refine r_goto (tgt := 65) C dX8_isReached_61 rfl ?_
        refine r_istore (lv' := [(4, .int (1 : Int32)), (3, .int (1 : Int32)), (0, .ref h), (1, .int u1), (2, .int u2)]) C dX8_isReached_65 (by decide) rfl rfl ?_
        refine r_iload_n C dX8_isReached_67 rfl 1 rfl rfl ?_
        refine r_if_eq (y := 0) (tgt := 80) C dX8_isReached_68 rfl rfl (fun c26 => absurd c26 (by decide)) (fun _ => ?_)
        refine r_iload C dX8_isReached_71 0 rfl rfl ?_
        refine r_if_eq (y := 0) (tgt := 80) C dX8_isReached_73 rfl rfl (fun c27 => absurd c27 (by decide)) (fun _ => ?_)
        refine r_iconst C dX8_isReached_76 kk_i_1 rfl ?_
        refine r_goto (tgt := 81) C dX8_isReached_77 rfl ?_
        cases hf
        exact r_zret C dX8_isReached_81 nb1 rfl
      · have hf := gd_f c25 hf
        refine r_iload_n C dX8_isReached_39 rfl 3 rfl rfl ?_
        refine r_aload_n C dX8_isReached_40 rfl 1 rfl rfl ?_
        refine r_get C dX8_isReached_41 fw_X8_isReached_X8 0 rfl rfl 0 (by decide) rfl fl_X8_isReached_7 rfl rfl ?_
        refine r_iload_n C dX8_isReached_44 rfl 2 rfl rfl ?_
        refine r_iconst C dX8_isReached_45 kk_i_1 rfl ?_
        refine r_iadd C dX8_isReached_46 rfl ?_
        obtain ⟨g28, hf⟩ := gd_n hf
        refine r_iald C dX8_isReached_47 1 0 rfl rfl g28 rfl ?_
        obtain ⟨r29, e29, hf⟩ := gd_b hf
        refine o_I (wn := [(h, oX8 A holding wool days sights padMany acts drawnBits drawnMany drawnNow badAct badWhy drawnAct drawnChild keptAt isWriting), ((A 0), aI cI 10 yard), ((A 2), aI cI 9 length)]) C [] rfl (x_S C dX8_isReached_48 (c_X8_off l D cI cZ cG u2 (yard (u1 + (1 : Int32)).toNatClampNeg) r29 e29) rfl gX8_isReached_X8_off hs_X8_off rfl ⟨Nat.le_of_ble_eq_true rfl, Nat.le_of_ble_eq_true rfl⟩ ⟨rfl, rfl⟩ ⟨Nat.zero_le _, Nat.zero_le _⟩ rfl [] rfl rfl (Nat.le_of_ble_eq_true rfl) rfl) rfl rfl rfl ?_
        refine r_aload_n C dX8_isReached_51 rfl 1 rfl rfl ?_
        refine r_get C dX8_isReached_52 fw_X8_isReached_X8 0 rfl rfl 2 (by decide) rfl fl_X8_isReached_16 rfl rfl ?_
        refine r_iload_n C dX8_isReached_55 rfl 2 rfl rfl ?_
        obtain ⟨g30, hf⟩ := gd_n hf
        refine r_iald C dX8_isReached_56 2 0 rfl rfl g30 rfl ?_
        refine r_icmp_gt (tgt := 64) C dX8_isReached_57 rfl rfl (fun c31 => ?_) (fun c31 => ?_)
        · have hf := gd_t c31 hf
          refine r_iconst C dX8_isReached_64 kk_i_0 rfl ?_
          refine r_istore (lv' := [(4, .int (0 : Int32)), (3, .int (1 : Int32)), (0, .ref h), (1, .int u1), (2, .int u2)]) C dX8_isReached_65 (by decide) rfl rfl ?_
          refine r_iload_n C dX8_isReached_67 rfl 1 rfl rfl ?_
          refine r_if_eq (y := 0) (tgt := 80) C dX8_isReached_68 rfl rfl (fun c32 => absurd c32 (by decide)) (fun _ => ?_)
          refine r_iload C dX8_isReached_71 0 rfl rfl ?_
          refine r_if_eq (y := 0) (tgt := 80) C dX8_isReached_73 rfl rfl (fun _ => ?_) (fun c33 => absurd (by decide) c33)
          refine r_iconst C dX8_isReached_80 kk_i_0 rfl ?_
          cases hf
          exact r_zret C dX8_isReached_81 nb0 rfl
        · have hf := gd_f c31 hf
          refine r_iconst C dX8_isReached_60 kk_i_1 rfl ?_
          refine r_goto (tgt := 65) C dX8_isReached_61 rfl ?_
          refine r_istore (lv' := [(4, .int (1 : Int32)), (3, .int (1 : Int32)), (0, .ref h), (1, .int u1), (2, .int u2)]) C dX8_isReached_65 (by decide) rfl rfl ?_
          refine r_iload_n C dX8_isReached_67 rfl 1 rfl rfl ?_
          refine r_if_eq (y := 0) (tgt := 80) C dX8_isReached_68 rfl rfl (fun c34 => absurd c34 (by decide)) (fun _ => ?_)
          refine r_iload C dX8_isReached_71 0 rfl rfl ?_
          refine r_if_eq (y := 0) (tgt := 80) C dX8_isReached_73 rfl rfl (fun c35 => absurd c35 (by decide)) (fun _ => ?_)
          refine r_iconst C dX8_isReached_76 kk_i_1 rfl ?_
          refine r_goto (tgt := 81) C dX8_isReached_77 rfl ?_
          cases hf
          exact r_zret C dX8_isReached_81 nb1 rfl
theorem wc_X8_child_95 : Cond.constantLong RX8 95 (999 : Int64) ∈ wsX8_child := by decide +kernel
theorem fw_X8_child_X8 : ∀ w ∈ u_ws RX8 TX8 37, w ∈ wsX8_child := by decide +kernel
theorem fl_X8_child_7 : Cond.fieldLink RX8 7 "MittenLineModel" "yard" "[I" ∈ wsX8_child := by decide +kernel
theorem fl_X8_child_101 : Cond.fieldLink RX8 101 "MittenLineModel" "holding" "I" ∈ wsX8_child := by decide +kernel
abbrev rm_X8_child : Jvm.Room := { frames := 2, cells := 0, slots := 0, locals := 45 }
def f_X8_child (yard : Nat → Int32) (length : Nat → Int32) (holding : Int32) (u1 : Int32) (u2 : Int32) (u3 : Int32) : Option (Int32 × (Nat → Int32) × Int32) := (f_X8_isChild u1).bind (fun r1 => if r1 = 0 then some ((-1 : Int32), yard, holding) else (f_X8_in u2.toInt64 (0 : Int64) (999 : Int64)).bind (fun r3 => if r3 = 0 then some ((-2 : Int32), yard, holding) else (f_X8_in u3.toInt64 (0 : Int64) (1 : Int64)).bind (fun r5 => if r5 = 0 then some ((-2 : Int32), yard, holding) else (f_X8_isReached yard length u1 u2).bind (fun r7 => if r7 = 0 then some ((-3 : Int32), yard, holding) else if u1 < 0 ∨ 10 ≤ u1.toNatClampNeg then none else if u3 = (1 : Int32) then some ((yard u1.toNatClampNeg), (upd yard u1.toNatClampNeg u2), (holding ||| ((1 : Int32) <<< (u1 &&& 31)))) else some ((yard u1.toNatClampNeg), (upd yard u1.toNatClampNeg u2), (holding &&& (((1 : Int32) <<< (u1 &&& 31)) ^^^ (-1 : Int32))))))))
set_option maxHeartbeats 4000000 in
set_option maxRecDepth 100000 in
theorem c_X8_child (l : Launch) (D : va_G) (cI cZ cG : ClassId) (h : Nat) (A : Nat → Nat) (yard : Nat → Int32) (length : Nat → Int32) (holding : Int32) (wool : Int32) (days : Int32) (sights : Int32) (padMany : Int32) (acts : Int32) (drawnBits : Int32) (drawnMany : Int32) (drawnNow : Int32) (badAct : Int32) (badWhy : Int32) (drawnAct : Int32) (drawnChild : Int32) (keptAt : Int32) (isWriting : Int32) (u1 : Int32) (u2 : Int32) (u3 : Int32) (res : Int32 × (Nat → Int32) × Int32) (hf : f_X8_child yard length holding u1 u2 u3 = some res) : CI l D (tysW cI cZ cG) yX8_child wsX8_child rm_X8_child [.ref h, .int u1, .int u2, .int u3] [(h, oX8 A holding wool days sights padMany acts drawnBits drawnMany drawnNow badAct badWhy drawnAct drawnChild keptAt isWriting), ((A 0), aI cI 10 yard), ((A 2), aI cI 9 length)] res.1 [(h, oX8 A res.2.2 wool days sights padMany acts drawnBits drawnMany drawnNow badAct badWhy drawnAct drawnChild keptAt isWriting), ((A 0), aI cI 10 res.2.1), ((A 2), aI cI 9 length)] := by
  refine CG.intro (own := RX8) (by decide +kernel) rfl rfl (Nat.le_of_ble_eq_true rfl) (fun p e s m args below meth c C => ?_)
  refine r_lv (lv' := [(0, .ref h), (1, .int u1), (2, .int u2), (3, .int u3)]) [0, 1, 2, 3] rfl ?_
  unfold f_X8_child at hf
  refine r_iload_n C dX8_child_0 rfl 1 rfl rfl ?_
  obtain ⟨r1, e1, hf⟩ := gd_b hf
  refine o_I (wn := [(h, oX8 A holding wool days sights padMany acts drawnBits drawnMany drawnNow badAct badWhy drawnAct drawnChild keptAt isWriting), ((A 0), aI cI 10 yard), ((A 2), aI cI 9 length)]) C [] rfl (x_S C dX8_child_1 (c_X8_isChild l D cI cZ cG u1 r1 e1) rfl gX8_child_X8_isChild hs_X8_isChild rfl ⟨Nat.le_of_ble_eq_true rfl, Nat.le_of_ble_eq_true rfl⟩ ⟨rfl, rfl⟩ ⟨Nat.zero_le _, Nat.zero_le _⟩ rfl [] rfl rfl (Nat.le_of_ble_eq_true rfl) rfl) rfl rfl rfl ?_
  refine r_if_ne (y := 0) (tgt := 9) C dX8_child_4 rfl rfl (fun c2 => ?_) (fun c2 => ?_)
  · have hf := gd_f c2 hf
    refine r_iload_n C dX8_child_9 rfl 2 rfl rfl ?_
    refine r_i2l C dX8_child_10 rfl ?_
    refine r_lconst (v := (0 : Int64)) C dX8_child_11 rfl rfl ?_
    refine r_ldc2 C dX8_child_12 wc_X8_child_95 rfl ?_
    obtain ⟨r3, e3, hf⟩ := gd_b hf
    refine o_I (wn := [(h, oX8 A holding wool days sights padMany acts drawnBits drawnMany drawnNow badAct badWhy drawnAct drawnChild keptAt isWriting), ((A 0), aI cI 10 yard), ((A 2), aI cI 9 length)]) C [] rfl (x_S C dX8_child_15 (c_X8_in l D cI cZ cG u2.toInt64 (0 : Int64) (999 : Int64) r3 e3) rfl gX8_child_X8_in hs_X8_in rfl ⟨Nat.le_of_ble_eq_true rfl, Nat.le_of_ble_eq_true rfl⟩ ⟨rfl, rfl⟩ ⟨Nat.zero_le _, Nat.zero_le _⟩ rfl [] rfl rfl (Nat.le_of_ble_eq_true rfl) rfl) rfl rfl rfl ?_
    refine r_if_eq (y := 0) (tgt := 31) C dX8_child_18 rfl rfl (fun c4 => ?_) (fun c4 => ?_)
    · have hf := gd_t c4 hf
      refine r_bipush C dX8_child_31 kk_b_m2 rfl ?_
      cases hf
      exact r_iret C dX8_child_33 rfl
    · have hf := gd_f c4 hf
      refine r_iload_n C dX8_child_21 rfl 3 rfl rfl ?_
      refine r_i2l C dX8_child_22 rfl ?_
      refine r_lconst (v := (0 : Int64)) C dX8_child_23 rfl rfl ?_
      refine r_lconst (v := (1 : Int64)) C dX8_child_24 rfl rfl ?_
      obtain ⟨r5, e5, hf⟩ := gd_b hf
      refine o_I (wn := [(h, oX8 A holding wool days sights padMany acts drawnBits drawnMany drawnNow badAct badWhy drawnAct drawnChild keptAt isWriting), ((A 0), aI cI 10 yard), ((A 2), aI cI 9 length)]) C [] rfl (x_S C dX8_child_25 (c_X8_in l D cI cZ cG u3.toInt64 (0 : Int64) (1 : Int64) r5 e5) rfl gX8_child_X8_in hs_X8_in rfl ⟨Nat.le_of_ble_eq_true rfl, Nat.le_of_ble_eq_true rfl⟩ ⟨rfl, rfl⟩ ⟨Nat.zero_le _, Nat.zero_le _⟩ rfl [] rfl rfl (Nat.le_of_ble_eq_true rfl) rfl) rfl rfl rfl ?_
      refine r_if_ne (y := 0) (tgt := 34) C dX8_child_28 rfl rfl (fun c6 => ?_) (fun c6 => ?_)
      · have hf := gd_f c6 hf
        refine r_aload_n C dX8_child_34 rfl 0 rfl rfl ?_
        refine r_iload_n C dX8_child_35 rfl 1 rfl rfl ?_
        refine r_iload_n C dX8_child_36 rfl 2 rfl rfl ?_
        obtain ⟨r7, e7, hf⟩ := gd_b hf
        refine o_I (wn := [(h, oX8 A holding wool days sights padMany acts drawnBits drawnMany drawnNow badAct badWhy drawnAct drawnChild keptAt isWriting), ((A 0), aI cI 10 yard), ((A 2), aI cI 9 length)]) C [0, 1, 2] rfl (x_V C dX8_child_37 (c_X8_isReached l D cI cZ cG h A yard length holding wool days sights padMany acts drawnBits drawnMany drawnNow badAct badWhy drawnAct drawnChild keptAt isWriting u1 u2 r7 e7) rfl gX8_child_X8_isReached hd_X8_isReached rfl ⟨Nat.le_of_ble_eq_true rfl, Nat.le_of_ble_eq_true rfl⟩ ⟨rfl, rfl⟩ ⟨Nat.zero_le _, Nat.zero_le _⟩ rfl [0, 1, 2] rfl rfl 0 rfl rfl (Nat.le_of_ble_eq_true rfl) rfl) rfl rfl rfl ?_
        refine r_if_ne (y := 0) (tgt := 46) C dX8_child_40 rfl rfl (fun c8 => ?_) (fun c8 => ?_)
        · have hf := gd_f c8 hf
          refine r_aload_n C dX8_child_46 rfl 0 rfl rfl ?_
          refine r_get C dX8_child_47 fw_X8_child_X8 0 rfl rfl 0 (by decide) rfl fl_X8_child_7 rfl rfl ?_
          refine r_iload_n C dX8_child_50 rfl 1 rfl rfl ?_
          obtain ⟨g9, hf⟩ := gd_n hf
          refine r_iald C dX8_child_51 1 0 rfl rfl g9 rfl ?_
          refine r_istore (lv' := [(4, .int (yard u1.toNatClampNeg)), (0, .ref h), (1, .int u1), (2, .int u2), (3, .int u3)]) C dX8_child_52 (by decide) rfl rfl ?_
          refine r_aload_n C dX8_child_54 rfl 1 rfl rfl ?_
          refine r_get C dX8_child_55 fw_X8_child_X8 0 rfl rfl 0 (by decide) rfl fl_X8_child_7 rfl rfl ?_
          refine r_iload_n C dX8_child_58 rfl 2 rfl rfl ?_
          refine r_iload_n C dX8_child_59 rfl 3 rfl rfl ?_
          refine r_iast (ws' := [(h, oX8 A holding wool days sights padMany acts drawnBits drawnMany drawnNow badAct badWhy drawnAct drawnChild keptAt isWriting), ((A 0), aI cI 10 (upd yard u1.toNatClampNeg u2)), ((A 2), aI cI 9 length)]) C dX8_child_60 1 0 rfl rfl g9 rfl rfl ?_
          refine r_aload_n C dX8_child_61 rfl 1 rfl rfl ?_
          refine r_iload_n C dX8_child_62 rfl 4 rfl rfl ?_
          refine r_iconst C dX8_child_63 kk_i_1 rfl ?_
          refine r_icmp_ne (tgt := 78) C dX8_child_64 rfl rfl (fun c10 => ?_) (fun c10 => ?_)
          · have hf := gd_f c10 hf
            refine r_aload_n C dX8_child_78 rfl 1 rfl rfl ?_
            refine r_get C dX8_child_79 fw_X8_child_X8 0 rfl rfl 3 (by decide) rfl fl_X8_child_101 rfl rfl ?_
            refine r_iconst C dX8_child_82 kk_i_1 rfl ?_
            refine r_iload_n C dX8_child_83 rfl 2 rfl rfl ?_
            refine r_ishl C dX8_child_84 rfl ?_
            refine r_iconst C dX8_child_85 kk_i_m1 rfl ?_
            refine r_ixor C dX8_child_86 rfl ?_
            refine r_iand C dX8_child_87 rfl ?_
            refine r_put (ty := .int) (ws' := [(h, oX8 A (holding &&& (((1 : Int32) <<< (u1 &&& 31)) ^^^ (-1 : Int32))) wool days sights padMany acts drawnBits drawnMany drawnNow badAct badWhy drawnAct drawnChild keptAt isWriting), ((A 0), aI cI 10 (upd yard u1.toNatClampNeg u2)), ((A 2), aI cI 9 length)]) C dX8_child_88 fw_X8_child_X8 tyX8 tyX8_ok nmX8 0 rfl rfl 3 (by decide) rfl fl_X8_child_101 rfl (by decide +kernel) rfl rfl (Nat.le_of_ble_eq_true rfl) rfl rfl ?_
            refine r_iload C dX8_child_91 0 rfl rfl ?_
            cases hf
            exact r_iret C dX8_child_93 rfl
          · have hf := gd_t c10 hf
            refine r_aload_n C dX8_child_67 rfl 1 rfl rfl ?_
            refine r_get C dX8_child_68 fw_X8_child_X8 0 rfl rfl 3 (by decide) rfl fl_X8_child_101 rfl rfl ?_
            refine r_iconst C dX8_child_71 kk_i_1 rfl ?_
            refine r_iload_n C dX8_child_72 rfl 2 rfl rfl ?_
            refine r_ishl C dX8_child_73 rfl ?_
            refine r_ior C dX8_child_74 rfl ?_
            refine r_goto (tgt := 88) C dX8_child_75 rfl ?_
            refine r_put (ty := .int) (ws' := [(h, oX8 A (holding ||| ((1 : Int32) <<< (u1 &&& 31))) wool days sights padMany acts drawnBits drawnMany drawnNow badAct badWhy drawnAct drawnChild keptAt isWriting), ((A 0), aI cI 10 (upd yard u1.toNatClampNeg u2)), ((A 2), aI cI 9 length)]) C dX8_child_88 fw_X8_child_X8 tyX8 tyX8_ok nmX8 0 rfl rfl 3 (by decide) rfl fl_X8_child_101 rfl (by decide +kernel) rfl rfl (Nat.le_of_ble_eq_true rfl) rfl rfl ?_
            refine r_iload C dX8_child_91 0 rfl rfl ?_
            cases hf
            exact r_iret C dX8_child_93 rfl
        · have hf := gd_t c8 hf
          refine r_bipush C dX8_child_43 kk_b_m3 rfl ?_
          cases hf
          exact r_iret C dX8_child_45 rfl
      · have hf := gd_t c6 hf
        refine r_bipush C dX8_child_31 kk_b_m2 rfl ?_
        cases hf
        exact r_iret C dX8_child_33 rfl
  · have hf := gd_t c2 hf
    refine r_iconst C dX8_child_7 kk_i_m1 rfl ?_
    cases hf
    exact r_iret C dX8_child_8 rfl
theorem wc_X8_string_104 : Cond.constantLong RX8 104 (8 : Int64) ∈ wsX8_string := by decide +kernel
theorem wc_X8_string_106 : Cond.constantLong RX8 106 (99 : Int64) ∈ wsX8_string := by decide +kernel
theorem fw_X8_string_X8 : ∀ w ∈ u_ws RX8 TX8 37, w ∈ wsX8_string := by decide +kernel
theorem fl_X8_string_7 : Cond.fieldLink RX8 7 "MittenLineModel" "yard" "[I" ∈ wsX8_string := by decide +kernel
theorem fl_X8_string_16 : Cond.fieldLink RX8 16 "MittenLineModel" "length" "[I" ∈ wsX8_string := by decide +kernel
abbrev rm_X8_string : Jvm.Room := { frames := 1, cells := 0, slots := 0, locals := 25 }
def f_X8_string (yard : Nat → Int32) (length : Nat → Int32) (u1 : Int32) (u2 : Int32) : Option (Int32 × (Nat → Int32)) := (f_X8_in u1.toInt64 (0 : Int64) (8 : Int64)).bind (fun r1 => if r1 = 0 then some ((-1 : Int32), length) else (f_X8_in u2.toInt64 (1 : Int64) (99 : Int64)).bind (fun r3 => if r3 = 0 then some ((-2 : Int32), length) else if u1 < 0 ∨ 10 ≤ u1.toNatClampNeg then none else if (u1 + (1 : Int32)) < 0 ∨ 10 ≤ (u1 + (1 : Int32)).toNatClampNeg then none else (f_X8_off (yard u1.toNatClampNeg) (yard (u1 + (1 : Int32)).toNatClampNeg)).bind (fun r7 => if r7 ≤ u2 then if u1 < 0 ∨ 9 ≤ u1.toNatClampNeg then none else some ((length u1.toNatClampNeg), (upd length u1.toNatClampNeg u2)) else some ((-3 : Int32), length))))
set_option maxHeartbeats 4000000 in
set_option maxRecDepth 100000 in
theorem c_X8_string (l : Launch) (D : va_G) (cI cZ cG : ClassId) (h : Nat) (A : Nat → Nat) (yard : Nat → Int32) (length : Nat → Int32) (holding : Int32) (wool : Int32) (days : Int32) (sights : Int32) (padMany : Int32) (acts : Int32) (drawnBits : Int32) (drawnMany : Int32) (drawnNow : Int32) (badAct : Int32) (badWhy : Int32) (drawnAct : Int32) (drawnChild : Int32) (keptAt : Int32) (isWriting : Int32) (u1 : Int32) (u2 : Int32) (res : Int32 × (Nat → Int32)) (hf : f_X8_string yard length u1 u2 = some res) : CI l D (tysW cI cZ cG) yX8_string wsX8_string rm_X8_string [.ref h, .int u1, .int u2] [(h, oX8 A holding wool days sights padMany acts drawnBits drawnMany drawnNow badAct badWhy drawnAct drawnChild keptAt isWriting), ((A 0), aI cI 10 yard), ((A 2), aI cI 9 length)] res.1 [(h, oX8 A holding wool days sights padMany acts drawnBits drawnMany drawnNow badAct badWhy drawnAct drawnChild keptAt isWriting), ((A 0), aI cI 10 yard), ((A 2), aI cI 9 res.2)] := by
  refine CG.intro (own := RX8) (by decide +kernel) rfl rfl (Nat.le_of_ble_eq_true rfl) (fun p e s m args below meth c C => ?_)
  refine r_lv (lv' := [(0, .ref h), (1, .int u1), (2, .int u2)]) [0, 1, 2] rfl ?_
  unfold f_X8_string at hf
  refine r_iload_n C dX8_string_0 rfl 1 rfl rfl ?_
  refine r_i2l C dX8_string_1 rfl ?_
  refine r_lconst (v := (0 : Int64)) C dX8_string_2 rfl rfl ?_
  refine r_ldc2 C dX8_string_3 wc_X8_string_104 rfl ?_
  obtain ⟨r1, e1, hf⟩ := gd_b hf
  refine o_I (wn := [(h, oX8 A holding wool days sights padMany acts drawnBits drawnMany drawnNow badAct badWhy drawnAct drawnChild keptAt isWriting), ((A 0), aI cI 10 yard), ((A 2), aI cI 9 length)]) C [] rfl (x_S C dX8_string_6 (c_X8_in l D cI cZ cG u1.toInt64 (0 : Int64) (8 : Int64) r1 e1) rfl gX8_string_X8_in hs_X8_in rfl ⟨Nat.le_of_ble_eq_true rfl, Nat.le_of_ble_eq_true rfl⟩ ⟨rfl, rfl⟩ ⟨Nat.zero_le _, Nat.zero_le _⟩ rfl [] rfl rfl (Nat.le_of_ble_eq_true rfl) rfl) rfl rfl rfl ?_
  refine r_if_ne (y := 0) (tgt := 14) C dX8_string_9 rfl rfl (fun c2 => ?_) (fun c2 => ?_)
  · have hf := gd_f c2 hf
    refine r_iload_n C dX8_string_14 rfl 2 rfl rfl ?_
    refine r_i2l C dX8_string_15 rfl ?_
    refine r_lconst (v := (1 : Int64)) C dX8_string_16 rfl rfl ?_
    refine r_ldc2 C dX8_string_17 wc_X8_string_106 rfl ?_
    obtain ⟨r3, e3, hf⟩ := gd_b hf
    refine o_I (wn := [(h, oX8 A holding wool days sights padMany acts drawnBits drawnMany drawnNow badAct badWhy drawnAct drawnChild keptAt isWriting), ((A 0), aI cI 10 yard), ((A 2), aI cI 9 length)]) C [] rfl (x_S C dX8_string_20 (c_X8_in l D cI cZ cG u2.toInt64 (1 : Int64) (99 : Int64) r3 e3) rfl gX8_string_X8_in hs_X8_in rfl ⟨Nat.le_of_ble_eq_true rfl, Nat.le_of_ble_eq_true rfl⟩ ⟨rfl, rfl⟩ ⟨Nat.zero_le _, Nat.zero_le _⟩ rfl [] rfl rfl (Nat.le_of_ble_eq_true rfl) rfl) rfl rfl rfl ?_
    refine r_if_ne (y := 0) (tgt := 29) C dX8_string_23 rfl rfl (fun c4 => ?_) (fun c4 => ?_)
    · have hf := gd_f c4 hf
      refine r_aload_n C dX8_string_29 rfl 0 rfl rfl ?_
      refine r_get C dX8_string_30 fw_X8_string_X8 0 rfl rfl 0 (by decide) rfl fl_X8_string_7 rfl rfl ?_
      refine r_iload_n C dX8_string_33 rfl 1 rfl rfl ?_
      obtain ⟨g5, hf⟩ := gd_n hf
      refine r_iald C dX8_string_34 1 0 rfl rfl g5 rfl ?_
      refine r_aload_n C dX8_string_35 rfl 0 rfl rfl ?_
      refine r_get C dX8_string_36 fw_X8_string_X8 0 rfl rfl 0 (by decide) rfl fl_X8_string_7 rfl rfl ?_
      refine r_iload_n C dX8_string_39 rfl 1 rfl rfl ?_
      refine r_iconst C dX8_string_40 kk_i_1 rfl ?_
      refine r_iadd C dX8_string_41 rfl ?_
      obtain ⟨g6, hf⟩ := gd_n hf
      refine r_iald C dX8_string_42 1 0 rfl rfl g6 rfl ?_
      obtain ⟨r7, e7, hf⟩ := gd_b hf
      refine o_I (wn := [(h, oX8 A holding wool days sights padMany acts drawnBits drawnMany drawnNow badAct badWhy drawnAct drawnChild keptAt isWriting), ((A 0), aI cI 10 yard), ((A 2), aI cI 9 length)]) C [] rfl (x_S C dX8_string_43 (c_X8_off l D cI cZ cG (yard u1.toNatClampNeg) (yard (u1 + (1 : Int32)).toNatClampNeg) r7 e7) rfl gX8_string_X8_off hs_X8_off rfl ⟨Nat.le_of_ble_eq_true rfl, Nat.le_of_ble_eq_true rfl⟩ ⟨rfl, rfl⟩ ⟨Nat.zero_le _, Nat.zero_le _⟩ rfl [] rfl rfl (Nat.le_of_ble_eq_true rfl) rfl) rfl rfl rfl ?_
      refine r_iload_n C dX8_string_46 rfl 2 rfl rfl ?_
      refine r_icmp_le (tgt := 53) C dX8_string_47 rfl rfl (fun c8 => ?_) (fun c8 => ?_)
      · have hf := gd_t c8 hf
        refine r_aload_n C dX8_string_53 rfl 0 rfl rfl ?_
        refine r_get C dX8_string_54 fw_X8_string_X8 0 rfl rfl 2 (by decide) rfl fl_X8_string_16 rfl rfl ?_
        refine r_iload_n C dX8_string_57 rfl 1 rfl rfl ?_
        obtain ⟨g9, hf⟩ := gd_n hf
        refine r_iald C dX8_string_58 2 0 rfl rfl g9 rfl ?_
        refine r_istore_n (lv' := [(3, .int (length u1.toNatClampNeg)), (0, .ref h), (1, .int u1), (2, .int u2)]) C dX8_string_59 rfl (by decide) rfl rfl ?_
        refine r_aload_n C dX8_string_60 rfl 1 rfl rfl ?_
        refine r_get C dX8_string_61 fw_X8_string_X8 0 rfl rfl 2 (by decide) rfl fl_X8_string_16 rfl rfl ?_
        refine r_iload_n C dX8_string_64 rfl 2 rfl rfl ?_
        refine r_iload_n C dX8_string_65 rfl 3 rfl rfl ?_
        refine r_iast (ws' := [(h, oX8 A holding wool days sights padMany acts drawnBits drawnMany drawnNow badAct badWhy drawnAct drawnChild keptAt isWriting), ((A 0), aI cI 10 yard), ((A 2), aI cI 9 (upd length u1.toNatClampNeg u2))]) C dX8_string_66 2 0 rfl rfl g9 rfl rfl ?_
        refine r_iload_n C dX8_string_67 rfl 0 rfl rfl ?_
        cases hf
        exact r_iret C dX8_string_68 rfl
      · have hf := gd_f c8 hf
        refine r_bipush C dX8_string_50 kk_b_m3 rfl ?_
        cases hf
        exact r_iret C dX8_string_52 rfl
    · have hf := gd_t c4 hf
      refine r_bipush C dX8_string_26 kk_b_m2 rfl ?_
      cases hf
      exact r_iret C dX8_string_28 rfl
  · have hf := gd_t c2 hf
    refine r_iconst C dX8_string_12 kk_i_m1 rfl ?_
    cases hf
    exact r_iret C dX8_string_13 rfl
theorem wc_X8_ball_95 : Cond.constantLong RX8 95 (999 : Int64) ∈ wsX8_ball := by decide +kernel
theorem fw_X8_ball_X8 : ∀ w ∈ u_ws RX8 TX8 37, w ∈ wsX8_ball := by decide +kernel
theorem fl_X8_ball_77 : Cond.fieldLink RX8 77 "MittenLineModel" "wool" "I" ∈ wsX8_ball := by decide +kernel
abbrev rm_X8_ball : Jvm.Room := { frames := 1, cells := 0, slots := 0, locals := 25 }
def f_X8_ball (wool : Int32) (u1 : Int32) : Option (Int32 × Int32) := (f_X8_in u1.toInt64 (0 : Int64) (999 : Int64)).bind (fun r1 => if r1 = 0 then some ((-2 : Int32), wool) else some (wool, u1))
set_option maxHeartbeats 4000000 in
set_option maxRecDepth 100000 in
theorem c_X8_ball (l : Launch) (D : va_G) (cI cZ cG : ClassId) (h : Nat) (A : Nat → Nat) (holding : Int32) (wool : Int32) (days : Int32) (sights : Int32) (padMany : Int32) (acts : Int32) (drawnBits : Int32) (drawnMany : Int32) (drawnNow : Int32) (badAct : Int32) (badWhy : Int32) (drawnAct : Int32) (drawnChild : Int32) (keptAt : Int32) (isWriting : Int32) (u1 : Int32) (res : Int32 × Int32) (hf : f_X8_ball wool u1 = some res) : CI l D (tysW cI cZ cG) yX8_ball wsX8_ball rm_X8_ball [.ref h, .int u1] [(h, oX8 A holding wool days sights padMany acts drawnBits drawnMany drawnNow badAct badWhy drawnAct drawnChild keptAt isWriting)] res.1 [(h, oX8 A holding res.2 days sights padMany acts drawnBits drawnMany drawnNow badAct badWhy drawnAct drawnChild keptAt isWriting)] := by
  refine CG.intro (own := RX8) (by decide +kernel) rfl rfl (Nat.le_of_ble_eq_true rfl) (fun p e s m args below meth c C => ?_)
  refine r_lv (lv' := [(0, .ref h), (1, .int u1)]) [0, 1] rfl ?_
  unfold f_X8_ball at hf
  refine r_iload_n C dX8_ball_0 rfl 1 rfl rfl ?_
  refine r_i2l C dX8_ball_1 rfl ?_
  refine r_lconst (v := (0 : Int64)) C dX8_ball_2 rfl rfl ?_
  refine r_ldc2 C dX8_ball_3 wc_X8_ball_95 rfl ?_
  obtain ⟨r1, e1, hf⟩ := gd_b hf
  refine o_I (wn := [(h, oX8 A holding wool days sights padMany acts drawnBits drawnMany drawnNow badAct badWhy drawnAct drawnChild keptAt isWriting)]) C [] rfl (x_S C dX8_ball_6 (c_X8_in l D cI cZ cG u1.toInt64 (0 : Int64) (999 : Int64) r1 e1) rfl gX8_ball_X8_in hs_X8_in rfl ⟨Nat.le_of_ble_eq_true rfl, Nat.le_of_ble_eq_true rfl⟩ ⟨rfl, rfl⟩ ⟨Nat.zero_le _, Nat.zero_le _⟩ rfl [] rfl rfl (Nat.le_of_ble_eq_true rfl) rfl) rfl rfl rfl ?_
  refine r_if_ne (y := 0) (tgt := 15) C dX8_ball_9 rfl rfl (fun c2 => ?_) (fun c2 => ?_)
  · have hf := gd_f c2 hf
    refine r_aload_n C dX8_ball_15 rfl 0 rfl rfl ?_
    refine r_get C dX8_ball_16 fw_X8_ball_X8 0 rfl rfl 4 (by decide) rfl fl_X8_ball_77 rfl rfl ?_
    refine r_istore_n (lv' := [(2, .int wool), (0, .ref h), (1, .int u1)]) C dX8_ball_19 rfl (by decide) rfl rfl ?_
    refine r_aload_n C dX8_ball_20 rfl 1 rfl rfl ?_
    refine r_iload_n C dX8_ball_21 rfl 2 rfl rfl ?_
    refine r_put (ty := .int) (ws' := [(h, oX8 A holding u1 days sights padMany acts drawnBits drawnMany drawnNow badAct badWhy drawnAct drawnChild keptAt isWriting)]) C dX8_ball_22 fw_X8_ball_X8 tyX8 tyX8_ok nmX8 0 rfl rfl 4 (by decide) rfl fl_X8_ball_77 rfl (by decide +kernel) rfl rfl (Nat.le_of_ble_eq_true rfl) rfl rfl ?_
    refine r_iload_n C dX8_ball_25 rfl 0 rfl rfl ?_
    cases hf
    exact r_iret C dX8_ball_26 rfl
  · have hf := gd_t c2 hf
    refine r_bipush C dX8_ball_12 kk_b_m2 rfl ?_
    cases hf
    exact r_iret C dX8_ball_14 rfl
theorem wc_X8_say_108 : Cond.constantLong RX8 108 (33 : Int64) ∈ wsX8_say := by decide +kernel
theorem wc_X8_say_110 : Cond.constantLong RX8 110 (126 : Int64) ∈ wsX8_say := by decide +kernel
theorem fw_X8_say_X8 : ∀ w ∈ u_ws RX8 TX8 37, w ∈ wsX8_say := by decide +kernel
theorem fl_X8_say_112 : Cond.fieldLink RX8 112 "MittenLineModel" "padMany" "I" ∈ wsX8_say := by decide +kernel
theorem fl_X8_say_25 : Cond.fieldLink RX8 25 "MittenLineModel" "pad" "[I" ∈ wsX8_say := by decide +kernel
abbrev rm_X8_say : Jvm.Room := { frames := 1, cells := 0, slots := 0, locals := 25 }
def f_X8_say (pad : Nat → Int32) (padMany : Int32) (u1 : Int32) : Option (Int32 × (Nat → Int32) × Int32) := (f_X8_in u1.toInt64 (33 : Int64) (126 : Int64)).bind (fun r1 => if r1 = 0 then some ((-2 : Int32), pad, padMany) else if padMany = (60 : Int32) then some ((-4 : Int32), pad, padMany) else if padMany < 0 ∨ 60 ≤ padMany.toNatClampNeg then none else some ((padMany + (1 : Int32)), (upd pad padMany.toNatClampNeg u1), (padMany + (1 : Int32))))
set_option maxHeartbeats 4000000 in
set_option maxRecDepth 100000 in
theorem c_X8_say (l : Launch) (D : va_G) (cI cZ cG : ClassId) (h : Nat) (A : Nat → Nat) (holding : Int32) (wool : Int32) (days : Int32) (sights : Int32) (pad : Nat → Int32) (padMany : Int32) (acts : Int32) (drawnBits : Int32) (drawnMany : Int32) (drawnNow : Int32) (badAct : Int32) (badWhy : Int32) (drawnAct : Int32) (drawnChild : Int32) (keptAt : Int32) (isWriting : Int32) (u1 : Int32) (res : Int32 × (Nat → Int32) × Int32) (hf : f_X8_say pad padMany u1 = some res) : CI l D (tysW cI cZ cG) yX8_say wsX8_say rm_X8_say [.ref h, .int u1] [(h, oX8 A holding wool days sights padMany acts drawnBits drawnMany drawnNow badAct badWhy drawnAct drawnChild keptAt isWriting), ((A 9), aI cI 60 pad)] res.1 [(h, oX8 A holding wool days sights res.2.2 acts drawnBits drawnMany drawnNow badAct badWhy drawnAct drawnChild keptAt isWriting), ((A 9), aI cI 60 res.2.1)] := by
  refine CG.intro (own := RX8) (by decide +kernel) rfl rfl (Nat.le_of_ble_eq_true rfl) (fun p e s m args below meth c C => ?_)
  refine r_lv (lv' := [(0, .ref h), (1, .int u1)]) [0, 1] rfl ?_
  unfold f_X8_say at hf
  refine r_iload_n C dX8_say_0 rfl 1 rfl rfl ?_
  refine r_i2l C dX8_say_1 rfl ?_
  refine r_ldc2 C dX8_say_2 wc_X8_say_108 rfl ?_
  refine r_ldc2 C dX8_say_5 wc_X8_say_110 rfl ?_
  obtain ⟨r1, e1, hf⟩ := gd_b hf
  refine o_I (wn := [(h, oX8 A holding wool days sights padMany acts drawnBits drawnMany drawnNow badAct badWhy drawnAct drawnChild keptAt isWriting), ((A 9), aI cI 60 pad)]) C [] rfl (x_S C dX8_say_8 (c_X8_in l D cI cZ cG u1.toInt64 (33 : Int64) (126 : Int64) r1 e1) rfl gX8_say_X8_in hs_X8_in rfl ⟨Nat.le_of_ble_eq_true rfl, Nat.le_of_ble_eq_true rfl⟩ ⟨rfl, rfl⟩ ⟨Nat.zero_le _, Nat.zero_le _⟩ rfl [] rfl rfl (Nat.le_of_ble_eq_true rfl) rfl) rfl rfl rfl ?_
  refine r_if_ne (y := 0) (tgt := 17) C dX8_say_11 rfl rfl (fun c2 => ?_) (fun c2 => ?_)
  · have hf := gd_f c2 hf
    refine r_aload_n C dX8_say_17 rfl 0 rfl rfl ?_
    refine r_get C dX8_say_18 fw_X8_say_X8 0 rfl rfl 10 (by decide) rfl fl_X8_say_112 rfl rfl ?_
    refine r_bipush C dX8_say_21 kk_b_60 rfl ?_
    refine r_icmp_ne (tgt := 29) C dX8_say_23 rfl rfl (fun c3 => ?_) (fun c3 => ?_)
    · have hf := gd_f c3 hf
      refine r_aload_n C dX8_say_29 rfl 0 rfl rfl ?_
      refine r_get C dX8_say_30 fw_X8_say_X8 0 rfl rfl 9 (by decide) rfl fl_X8_say_25 rfl rfl ?_
      refine r_aload_n C dX8_say_33 rfl 0 rfl rfl ?_
      refine r_get C dX8_say_34 fw_X8_say_X8 0 rfl rfl 10 (by decide) rfl fl_X8_say_112 rfl rfl ?_
      refine r_iload_n C dX8_say_37 rfl 1 rfl rfl ?_
      obtain ⟨g4, hf⟩ := gd_n hf
      refine r_iast (ws' := [(h, oX8 A holding wool days sights padMany acts drawnBits drawnMany drawnNow badAct badWhy drawnAct drawnChild keptAt isWriting), ((A 9), aI cI 60 (upd pad padMany.toNatClampNeg u1))]) C dX8_say_38 1 0 rfl rfl g4 rfl rfl ?_
      refine r_aload_n C dX8_say_39 rfl 0 rfl rfl ?_
      refine r_dup C dX8_say_40 rfl rfl ?_
      refine r_get C dX8_say_41 fw_X8_say_X8 0 rfl rfl 10 (by decide) rfl fl_X8_say_112 rfl rfl ?_
      refine r_iconst C dX8_say_44 kk_i_1 rfl ?_
      refine r_iadd C dX8_say_45 rfl ?_
      refine r_put (ty := .int) (ws' := [(h, oX8 A holding wool days sights (padMany + (1 : Int32)) acts drawnBits drawnMany drawnNow badAct badWhy drawnAct drawnChild keptAt isWriting), ((A 9), aI cI 60 (upd pad padMany.toNatClampNeg u1))]) C dX8_say_46 fw_X8_say_X8 tyX8 tyX8_ok nmX8 0 rfl rfl 10 (by decide) rfl fl_X8_say_112 rfl (by decide +kernel) rfl rfl (Nat.le_of_ble_eq_true rfl) rfl rfl ?_
      refine r_aload_n C dX8_say_49 rfl 0 rfl rfl ?_
      refine r_get C dX8_say_50 fw_X8_say_X8 0 rfl rfl 10 (by decide) rfl fl_X8_say_112 rfl rfl ?_
      cases hf
      exact r_iret C dX8_say_53 rfl
    · have hf := gd_t c3 hf
      refine r_bipush C dX8_say_26 kk_b_m4 rfl ?_
      cases hf
      exact r_iret C dX8_say_28 rfl
  · have hf := gd_t c2 hf
    refine r_bipush C dX8_say_14 kk_b_m2 rfl ?_
    cases hf
    exact r_iret C dX8_say_16 rfl
theorem fw_X8_wipe_X8 : ∀ w ∈ u_ws RX8 TX8 37, w ∈ wsX8_wipe := by decide +kernel
theorem fl_X8_wipe_112 : Cond.fieldLink RX8 112 "MittenLineModel" "padMany" "I" ∈ wsX8_wipe := by decide +kernel
abbrev rm_X8_wipe : Jvm.Room := { frames := 0, cells := 0, slots := 0, locals := 0 }
def f_X8_wipe (padMany : Int32) : Option (Int32 × Int32) := some (padMany, (0 : Int32))
set_option maxHeartbeats 4000000 in
set_option maxRecDepth 100000 in
theorem c_X8_wipe (l : Launch) (D : va_G) (cI cZ cG : ClassId) (h : Nat) (A : Nat → Nat) (holding : Int32) (wool : Int32) (days : Int32) (sights : Int32) (padMany : Int32) (acts : Int32) (drawnBits : Int32) (drawnMany : Int32) (drawnNow : Int32) (badAct : Int32) (badWhy : Int32) (drawnAct : Int32) (drawnChild : Int32) (keptAt : Int32) (isWriting : Int32) (res : Int32 × Int32) (hf : f_X8_wipe padMany = some res) : CI l D (tysW cI cZ cG) yX8_wipe wsX8_wipe rm_X8_wipe [.ref h] [(h, oX8 A holding wool days sights padMany acts drawnBits drawnMany drawnNow badAct badWhy drawnAct drawnChild keptAt isWriting)] res.1 [(h, oX8 A holding wool days sights res.2 acts drawnBits drawnMany drawnNow badAct badWhy drawnAct drawnChild keptAt isWriting)] := by
  refine CG.intro (own := RX8) (by decide +kernel) rfl rfl (Nat.le_of_ble_eq_true rfl) (fun p e s m args below meth c C => ?_)
  refine r_lv (lv' := [(0, .ref h)]) [0] rfl ?_
  unfold f_X8_wipe at hf
  refine r_aload_n C dX8_wipe_0 rfl 0 rfl rfl ?_
  refine r_get C dX8_wipe_1 fw_X8_wipe_X8 0 rfl rfl 10 (by decide) rfl fl_X8_wipe_112 rfl rfl ?_
  refine r_istore_n (lv' := [(1, .int padMany), (0, .ref h)]) C dX8_wipe_4 rfl (by decide) rfl rfl ?_
  refine r_aload_n C dX8_wipe_5 rfl 1 rfl rfl ?_
  refine r_iconst C dX8_wipe_6 kk_i_0 rfl ?_
  refine r_put (ty := .int) (ws' := [(h, oX8 A holding wool days sights (0 : Int32) acts drawnBits drawnMany drawnNow badAct badWhy drawnAct drawnChild keptAt isWriting)]) C dX8_wipe_7 fw_X8_wipe_X8 tyX8 tyX8_ok nmX8 0 rfl rfl 10 (by decide) rfl fl_X8_wipe_112 rfl (by decide +kernel) rfl rfl (Nat.le_of_ble_eq_true rfl) rfl rfl ?_
  refine r_iload_n C dX8_wipe_10 rfl 0 rfl rfl ?_
  cases hf
  exact r_iret C dX8_wipe_11 rfl
theorem fw_X8_close_X8 : ∀ w ∈ u_ws RX8 TX8 37, w ∈ wsX8_close := by decide +kernel
theorem fl_X8_close_28 : Cond.fieldLink RX8 28 "MittenLineModel" "act" "[I" ∈ wsX8_close := by decide +kernel
theorem fl_X8_close_115 : Cond.fieldLink RX8 115 "MittenLineModel" "acts" "I" ∈ wsX8_close := by decide +kernel
abbrev rm_X8_close : Jvm.Room := { frames := 0, cells := 0, slots := 0, locals := 0 }
def f_X8_close (act : Nat → Int32) (acts : Int32) (u1 : Int32) : Option (Int32 × (Nat → Int32) × Int32) := if acts < 0 ∨ 60 ≤ acts.toNatClampNeg then none else some ((0 : Int32), (upd act acts.toNatClampNeg u1), (acts + (1 : Int32)))
set_option maxHeartbeats 4000000 in
set_option maxRecDepth 100000 in
theorem c_X8_close (l : Launch) (D : va_G) (cI cZ cG : ClassId) (h : Nat) (A : Nat → Nat) (holding : Int32) (wool : Int32) (days : Int32) (sights : Int32) (padMany : Int32) (act : Nat → Int32) (acts : Int32) (drawnBits : Int32) (drawnMany : Int32) (drawnNow : Int32) (badAct : Int32) (badWhy : Int32) (drawnAct : Int32) (drawnChild : Int32) (keptAt : Int32) (isWriting : Int32) (u1 : Int32) (res : Int32 × (Nat → Int32) × Int32) (hf : f_X8_close act acts u1 = some res) : CI l D (tysW cI cZ cG) yX8_close wsX8_close rm_X8_close [.ref h, .int u1] [(h, oX8 A holding wool days sights padMany acts drawnBits drawnMany drawnNow badAct badWhy drawnAct drawnChild keptAt isWriting), ((A 11), aI cI 60 act)] res.1 [(h, oX8 A holding wool days sights padMany res.2.2 drawnBits drawnMany drawnNow badAct badWhy drawnAct drawnChild keptAt isWriting), ((A 11), aI cI 60 res.2.1)] := by
  refine CG.intro (own := RX8) (by decide +kernel) rfl rfl (Nat.le_of_ble_eq_true rfl) (fun p e s m args below meth c C => ?_)
  refine r_lv (lv' := [(0, .ref h), (1, .int u1)]) [0, 1] rfl ?_
  unfold f_X8_close at hf
  refine r_aload_n C dX8_close_0 rfl 0 rfl rfl ?_
  refine r_get C dX8_close_1 fw_X8_close_X8 0 rfl rfl 11 (by decide) rfl fl_X8_close_28 rfl rfl ?_
  refine r_aload_n C dX8_close_4 rfl 0 rfl rfl ?_
  refine r_get C dX8_close_5 fw_X8_close_X8 0 rfl rfl 14 (by decide) rfl fl_X8_close_115 rfl rfl ?_
  refine r_iload_n C dX8_close_8 rfl 1 rfl rfl ?_
  obtain ⟨g1, hf⟩ := gd_n hf
  refine r_iast (ws' := [(h, oX8 A holding wool days sights padMany acts drawnBits drawnMany drawnNow badAct badWhy drawnAct drawnChild keptAt isWriting), ((A 11), aI cI 60 (upd act acts.toNatClampNeg u1))]) C dX8_close_9 1 0 rfl rfl g1 rfl rfl ?_
  refine r_aload_n C dX8_close_10 rfl 0 rfl rfl ?_
  refine r_dup C dX8_close_11 rfl rfl ?_
  refine r_get C dX8_close_12 fw_X8_close_X8 0 rfl rfl 14 (by decide) rfl fl_X8_close_115 rfl rfl ?_
  refine r_iconst C dX8_close_15 kk_i_1 rfl ?_
  refine r_iadd C dX8_close_16 rfl ?_
  refine r_put (ty := .int) (ws' := [(h, oX8 A holding wool days sights padMany (acts + (1 : Int32)) drawnBits drawnMany drawnNow badAct badWhy drawnAct drawnChild keptAt isWriting), ((A 11), aI cI 60 (upd act acts.toNatClampNeg u1))]) C dX8_close_17 fw_X8_close_X8 tyX8 tyX8_ok nmX8 0 rfl rfl 14 (by decide) rfl fl_X8_close_115 rfl (by decide +kernel) rfl rfl (Nat.le_of_ble_eq_true rfl) rfl rfl ?_
  refine r_iconst C dX8_close_20 kk_i_0 rfl ?_
  cases hf
  exact r_iret C dX8_close_21 rfl
theorem wc_X8_begin_118 : Cond.constantLong RX8 118 (65 : Int64) ∈ wsX8_begin := by decide +kernel
theorem wc_X8_begin_120 : Cond.constantLong RX8 120 (74 : Int64) ∈ wsX8_begin := by decide +kernel
theorem fw_X8_begin_X8 : ∀ w ∈ u_ws RX8 TX8 37, w ∈ wsX8_begin := by decide +kernel
theorem fl_X8_begin_31 : Cond.fieldLink RX8 31 "MittenLineModel" "who" "[I" ∈ wsX8_begin := by decide +kernel
theorem fl_X8_begin_115 : Cond.fieldLink RX8 115 "MittenLineModel" "acts" "I" ∈ wsX8_begin := by decide +kernel
theorem fl_X8_begin_34 : Cond.fieldLink RX8 34 "MittenLineModel" "much" "[I" ∈ wsX8_begin := by decide +kernel
abbrev rm_X8_begin : Jvm.Room := { frames := 1, cells := 0, slots := 0, locals := 25 }
def f_X8_begin (act : Nat → Int32) (who : Nat → Int32) (much : Nat → Int32) (acts : Int32) (u1 : Int32) : Option (Int32 × (Nat → Int32) × (Nat → Int32) × (Nat → Int32) × Int32) := (f_X8_in u1.toInt64 (65 : Int64) (74 : Int64)).bind (fun r1 => if r1 = 0 then if acts < 0 ∨ 60 ≤ acts.toNatClampNeg then none else if u1 = (46 : Int32) then (f_X8_close act acts (6 : Int32)).bind (fun r6 => some (r6.1, r6.2.1, (upd who acts.toNatClampNeg (0 : Int32)), (upd much acts.toNatClampNeg (0 : Int32)), r6.2.2)) else some ((-6 : Int32), act, (upd who acts.toNatClampNeg (0 : Int32)), (upd much acts.toNatClampNeg (0 : Int32)), acts) else if acts < 0 ∨ 60 ≤ acts.toNatClampNeg then none else some ((1 : Int32), act, (upd who acts.toNatClampNeg (u1 - (65 : Int32))), (upd much acts.toNatClampNeg (0 : Int32)), acts))
set_option maxHeartbeats 4000000 in
set_option maxRecDepth 100000 in
theorem c_X8_begin (l : Launch) (D : va_G) (cI cZ cG : ClassId) (h : Nat) (A : Nat → Nat) (holding : Int32) (wool : Int32) (days : Int32) (sights : Int32) (padMany : Int32) (act : Nat → Int32) (who : Nat → Int32) (much : Nat → Int32) (acts : Int32) (drawnBits : Int32) (drawnMany : Int32) (drawnNow : Int32) (badAct : Int32) (badWhy : Int32) (drawnAct : Int32) (drawnChild : Int32) (keptAt : Int32) (isWriting : Int32) (u1 : Int32) (res : Int32 × (Nat → Int32) × (Nat → Int32) × (Nat → Int32) × Int32) (hf : f_X8_begin act who much acts u1 = some res) : CI l D (tysW cI cZ cG) yX8_begin wsX8_begin rm_X8_begin [.ref h, .int u1] [(h, oX8 A holding wool days sights padMany acts drawnBits drawnMany drawnNow badAct badWhy drawnAct drawnChild keptAt isWriting), ((A 11), aI cI 60 act), ((A 12), aI cI 60 who), ((A 13), aI cI 60 much)] res.1 [(h, oX8 A holding wool days sights padMany res.2.2.2.2 drawnBits drawnMany drawnNow badAct badWhy drawnAct drawnChild keptAt isWriting), ((A 11), aI cI 60 res.2.1), ((A 12), aI cI 60 res.2.2.1), ((A 13), aI cI 60 res.2.2.2.1)] := by
  refine CG.intro (own := RX8) (by decide +kernel) rfl rfl (Nat.le_of_ble_eq_true rfl) (fun p e s m args below meth c C => ?_)
  refine r_lv (lv' := [(0, .ref h), (1, .int u1)]) [0, 1] rfl ?_
  unfold f_X8_begin at hf
  refine r_iload_n C dX8_begin_0 rfl 1 rfl rfl ?_
  refine r_i2l C dX8_begin_1 rfl ?_
  refine r_ldc2 C dX8_begin_2 wc_X8_begin_118 rfl ?_
  refine r_ldc2 C dX8_begin_5 wc_X8_begin_120 rfl ?_
  obtain ⟨r1, e1, hf⟩ := gd_b hf
  refine o_I (wn := [(h, oX8 A holding wool days sights padMany acts drawnBits drawnMany drawnNow badAct badWhy drawnAct drawnChild keptAt isWriting), ((A 11), aI cI 60 act), ((A 12), aI cI 60 who), ((A 13), aI cI 60 much)]) C [] rfl (x_S C dX8_begin_8 (c_X8_in l D cI cZ cG u1.toInt64 (65 : Int64) (74 : Int64) r1 e1) rfl gX8_begin_X8_in hs_X8_in rfl ⟨Nat.le_of_ble_eq_true rfl, Nat.le_of_ble_eq_true rfl⟩ ⟨rfl, rfl⟩ ⟨Nat.zero_le _, Nat.zero_le _⟩ rfl [] rfl rfl (Nat.le_of_ble_eq_true rfl) rfl) rfl rfl rfl ?_
  refine r_istore_n (lv' := [(2, .int r1), (0, .ref h), (1, .int u1)]) C dX8_begin_11 rfl (by decide) rfl rfl ?_
  refine r_aload_n C dX8_begin_12 rfl 1 rfl rfl ?_
  refine r_get C dX8_begin_13 fw_X8_begin_X8 0 rfl rfl 12 (by decide) rfl fl_X8_begin_31 rfl rfl ?_
  refine r_aload_n C dX8_begin_16 rfl 1 rfl rfl ?_
  refine r_get C dX8_begin_17 fw_X8_begin_X8 0 rfl rfl 14 (by decide) rfl fl_X8_begin_115 rfl rfl ?_
  refine r_iload_n C dX8_begin_20 rfl 0 rfl rfl ?_
  refine r_if_eq (y := 0) (tgt := 31) C dX8_begin_21 rfl rfl (fun c2 => ?_) (fun c2 => ?_)
  · have hf := gd_t c2 hf
    refine r_iconst C dX8_begin_31 kk_i_0 rfl ?_
    obtain ⟨g3, hf⟩ := gd_n hf
    refine r_iast (ws' := [(h, oX8 A holding wool days sights padMany acts drawnBits drawnMany drawnNow badAct badWhy drawnAct drawnChild keptAt isWriting), ((A 11), aI cI 60 act), ((A 12), aI cI 60 (upd who acts.toNatClampNeg (0 : Int32))), ((A 13), aI cI 60 much)]) C dX8_begin_32 2 0 rfl rfl g3 rfl rfl ?_
    refine r_aload_n C dX8_begin_33 rfl 1 rfl rfl ?_
    refine r_get C dX8_begin_34 fw_X8_begin_X8 0 rfl rfl 13 (by decide) rfl fl_X8_begin_34 rfl rfl ?_
    refine r_aload_n C dX8_begin_37 rfl 1 rfl rfl ?_
    refine r_get C dX8_begin_38 fw_X8_begin_X8 0 rfl rfl 14 (by decide) rfl fl_X8_begin_115 rfl rfl ?_
    refine r_iconst C dX8_begin_41 kk_i_0 rfl ?_
    refine r_iast (ws' := [(h, oX8 A holding wool days sights padMany acts drawnBits drawnMany drawnNow badAct badWhy drawnAct drawnChild keptAt isWriting), ((A 11), aI cI 60 act), ((A 12), aI cI 60 (upd who acts.toNatClampNeg (0 : Int32))), ((A 13), aI cI 60 (upd much acts.toNatClampNeg (0 : Int32)))]) C dX8_begin_42 3 0 rfl rfl g3 rfl rfl ?_
    refine r_iload_n C dX8_begin_43 rfl 0 rfl rfl ?_
    refine r_if_eq (y := 0) (tgt := 51) C dX8_begin_44 rfl rfl (fun _ => ?_) (fun c4 => absurd c2 c4)
    refine r_iload_n C dX8_begin_51 rfl 2 rfl rfl ?_
    refine r_bipush C dX8_begin_52 kk_b_46 rfl ?_
    refine r_icmp_ne (tgt := 66) C dX8_begin_54 rfl rfl (fun c5 => ?_) (fun c5 => ?_)
    · have hf := gd_f c5 hf
      refine r_bipush C dX8_begin_66 kk_b_m6 rfl ?_
      cases hf
      exact r_iret C dX8_begin_68 rfl
    · have hf := gd_t c5 hf
      refine r_aload_n C dX8_begin_57 rfl 1 rfl rfl ?_
      refine r_bipush C dX8_begin_58 kk_b_6 rfl ?_
      obtain ⟨r6, e6, hf⟩ := gd_b hf
      refine o_I (wn := [(h, oX8 A holding wool days sights padMany r6.2.2 drawnBits drawnMany drawnNow badAct badWhy drawnAct drawnChild keptAt isWriting), ((A 11), aI cI 60 r6.2.1), ((A 12), aI cI 60 (upd who acts.toNatClampNeg (0 : Int32))), ((A 13), aI cI 60 (upd much acts.toNatClampNeg (0 : Int32)))]) C [0, 1] rfl (x_V C dX8_begin_60 (c_X8_close l D cI cZ cG h A holding wool days sights padMany act acts drawnBits drawnMany drawnNow badAct badWhy drawnAct drawnChild keptAt isWriting (6 : Int32) r6 e6) rfl gX8_begin_X8_close hd_X8_close rfl ⟨Nat.le_of_ble_eq_true rfl, Nat.le_of_ble_eq_true rfl⟩ ⟨rfl, rfl⟩ ⟨Nat.zero_le _, Nat.zero_le _⟩ rfl [0, 1] rfl rfl 0 rfl rfl (Nat.le_of_ble_eq_true rfl) rfl) rfl rfl rfl ?_
      refine r_goto (tgt := 68) C dX8_begin_63 rfl ?_
      cases hf
      exact r_iret C dX8_begin_68 rfl
  · have hf := gd_f c2 hf
    refine r_iload_n C dX8_begin_24 rfl 2 rfl rfl ?_
    refine r_bipush C dX8_begin_25 kk_b_65 rfl ?_
    refine r_isub C dX8_begin_27 rfl ?_
    refine r_goto (tgt := 32) C dX8_begin_28 rfl ?_
    obtain ⟨g7, hf⟩ := gd_n hf
    refine r_iast (ws' := [(h, oX8 A holding wool days sights padMany acts drawnBits drawnMany drawnNow badAct badWhy drawnAct drawnChild keptAt isWriting), ((A 11), aI cI 60 act), ((A 12), aI cI 60 (upd who acts.toNatClampNeg (u1 - (65 : Int32)))), ((A 13), aI cI 60 much)]) C dX8_begin_32 2 0 rfl rfl g7 rfl rfl ?_
    refine r_aload_n C dX8_begin_33 rfl 1 rfl rfl ?_
    refine r_get C dX8_begin_34 fw_X8_begin_X8 0 rfl rfl 13 (by decide) rfl fl_X8_begin_34 rfl rfl ?_
    refine r_aload_n C dX8_begin_37 rfl 1 rfl rfl ?_
    refine r_get C dX8_begin_38 fw_X8_begin_X8 0 rfl rfl 14 (by decide) rfl fl_X8_begin_115 rfl rfl ?_
    refine r_iconst C dX8_begin_41 kk_i_0 rfl ?_
    refine r_iast (ws' := [(h, oX8 A holding wool days sights padMany acts drawnBits drawnMany drawnNow badAct badWhy drawnAct drawnChild keptAt isWriting), ((A 11), aI cI 60 act), ((A 12), aI cI 60 (upd who acts.toNatClampNeg (u1 - (65 : Int32)))), ((A 13), aI cI 60 (upd much acts.toNatClampNeg (0 : Int32)))]) C dX8_begin_42 3 0 rfl rfl g7 rfl rfl ?_
    refine r_iload_n C dX8_begin_43 rfl 0 rfl rfl ?_
    refine r_if_eq (y := 0) (tgt := 51) C dX8_begin_44 rfl rfl (fun c8 => absurd c8 c2) (fun _ => ?_)
    refine r_iconst C dX8_begin_47 kk_i_1 rfl ?_
    refine r_goto (tgt := 68) C dX8_begin_48 rfl ?_
    cases hf
    exact r_iret C dX8_begin_68 rfl
abbrev rm_X8_deed : Jvm.Room := { frames := 1, cells := 0, slots := 0, locals := 21 }
def f_X8_deed (act : Nat → Int32) (acts : Int32) (u1 : Int32) : Option (Int32 × (Nat → Int32) × Int32) := if u1 = (33 : Int32) then some ((4 : Int32), act, acts) else if u1 = (35 : Int32) then (f_X8_close act acts (2 : Int32)).bind (fun r3 => some (r3.1, r3.2.1, r3.2.2)) else if u1 = (43 : Int32) then (f_X8_close act acts (4 : Int32)).bind (fun r5 => some (r5.1, r5.2.1, r5.2.2)) else if u1 = (45 : Int32) then (f_X8_close act acts (5 : Int32)).bind (fun r7 => some (r7.1, r7.2.1, r7.2.2)) else if u1 = (60 : Int32) then some ((3 : Int32), act, acts) else if u1 = (62 : Int32) then some ((2 : Int32), act, acts) else some ((-6 : Int32), act, acts)
set_option maxHeartbeats 4000000 in
set_option maxRecDepth 100000 in
theorem c_X8_deed (l : Launch) (D : va_G) (cI cZ cG : ClassId) (h : Nat) (A : Nat → Nat) (holding : Int32) (wool : Int32) (days : Int32) (sights : Int32) (padMany : Int32) (act : Nat → Int32) (acts : Int32) (drawnBits : Int32) (drawnMany : Int32) (drawnNow : Int32) (badAct : Int32) (badWhy : Int32) (drawnAct : Int32) (drawnChild : Int32) (keptAt : Int32) (isWriting : Int32) (u1 : Int32) (res : Int32 × (Nat → Int32) × Int32) (hf : f_X8_deed act acts u1 = some res) : CI l D (tysW cI cZ cG) yX8_deed wsX8_deed rm_X8_deed [.ref h, .int u1] [(h, oX8 A holding wool days sights padMany acts drawnBits drawnMany drawnNow badAct badWhy drawnAct drawnChild keptAt isWriting), ((A 11), aI cI 60 act)] res.1 [(h, oX8 A holding wool days sights padMany res.2.2 drawnBits drawnMany drawnNow badAct badWhy drawnAct drawnChild keptAt isWriting), ((A 11), aI cI 60 res.2.1)] := by
  refine CG.intro (own := RX8) (by decide +kernel) rfl rfl (Nat.le_of_ble_eq_true rfl) (fun p e s m args below meth c C => ?_)
  refine r_lv (lv' := [(0, .ref h), (1, .int u1)]) [0, 1] rfl ?_
  unfold f_X8_deed at hf
  refine r_iload_n C dX8_deed_0 rfl 1 rfl rfl ?_
  by_cases c1 : u1 = (33 : Int32)
  · have hf := gd_t c1 hf
    refine r_look (tgt := 64) C dX8_deed_1 (by decide) (by rw [c1] <;> rfl) rfl ?_
    refine r_iconst C dX8_deed_64 kk_i_4 rfl ?_
    cases hf
    exact r_iret C dX8_deed_65 rfl
  have hf := gd_f c1 hf
  by_cases c2 : u1 = (35 : Int32)
  · have hf := gd_t c2 hf
    refine r_look (tgt := 66) C dX8_deed_1 (by decide) (by rw [c2] <;> rfl) rfl ?_
    refine r_aload_n C dX8_deed_66 rfl 0 rfl rfl ?_
    refine r_iconst C dX8_deed_67 kk_i_2 rfl ?_
    obtain ⟨r3, e3, hf⟩ := gd_b hf
    refine o_I (wn := [(h, oX8 A holding wool days sights padMany r3.2.2 drawnBits drawnMany drawnNow badAct badWhy drawnAct drawnChild keptAt isWriting), ((A 11), aI cI 60 r3.2.1)]) C [0, 1] rfl (x_V C dX8_deed_68 (c_X8_close l D cI cZ cG h A holding wool days sights padMany act acts drawnBits drawnMany drawnNow badAct badWhy drawnAct drawnChild keptAt isWriting (2 : Int32) r3 e3) rfl gX8_deed_X8_close hd_X8_close rfl ⟨Nat.le_of_ble_eq_true rfl, Nat.le_of_ble_eq_true rfl⟩ ⟨rfl, rfl⟩ ⟨Nat.zero_le _, Nat.zero_le _⟩ rfl [0, 1] rfl rfl 0 rfl rfl (Nat.le_of_ble_eq_true rfl) rfl) rfl rfl rfl ?_
    cases hf
    exact r_iret C dX8_deed_71 rfl
  have hf := gd_f c2 hf
  by_cases c4 : u1 = (43 : Int32)
  · have hf := gd_t c4 hf
    refine r_look (tgt := 72) C dX8_deed_1 (by decide) (by rw [c4] <;> rfl) rfl ?_
    refine r_aload_n C dX8_deed_72 rfl 0 rfl rfl ?_
    refine r_iconst C dX8_deed_73 kk_i_4 rfl ?_
    obtain ⟨r5, e5, hf⟩ := gd_b hf
    refine o_I (wn := [(h, oX8 A holding wool days sights padMany r5.2.2 drawnBits drawnMany drawnNow badAct badWhy drawnAct drawnChild keptAt isWriting), ((A 11), aI cI 60 r5.2.1)]) C [0, 1] rfl (x_V C dX8_deed_74 (c_X8_close l D cI cZ cG h A holding wool days sights padMany act acts drawnBits drawnMany drawnNow badAct badWhy drawnAct drawnChild keptAt isWriting (4 : Int32) r5 e5) rfl gX8_deed_X8_close hd_X8_close rfl ⟨Nat.le_of_ble_eq_true rfl, Nat.le_of_ble_eq_true rfl⟩ ⟨rfl, rfl⟩ ⟨Nat.zero_le _, Nat.zero_le _⟩ rfl [0, 1] rfl rfl 0 rfl rfl (Nat.le_of_ble_eq_true rfl) rfl) rfl rfl rfl ?_
    cases hf
    exact r_iret C dX8_deed_77 rfl
  have hf := gd_f c4 hf
  by_cases c6 : u1 = (45 : Int32)
  · have hf := gd_t c6 hf
    refine r_look (tgt := 78) C dX8_deed_1 (by decide) (by rw [c6] <;> rfl) rfl ?_
    refine r_aload_n C dX8_deed_78 rfl 0 rfl rfl ?_
    refine r_iconst C dX8_deed_79 kk_i_5 rfl ?_
    obtain ⟨r7, e7, hf⟩ := gd_b hf
    refine o_I (wn := [(h, oX8 A holding wool days sights padMany r7.2.2 drawnBits drawnMany drawnNow badAct badWhy drawnAct drawnChild keptAt isWriting), ((A 11), aI cI 60 r7.2.1)]) C [0, 1] rfl (x_V C dX8_deed_80 (c_X8_close l D cI cZ cG h A holding wool days sights padMany act acts drawnBits drawnMany drawnNow badAct badWhy drawnAct drawnChild keptAt isWriting (5 : Int32) r7 e7) rfl gX8_deed_X8_close hd_X8_close rfl ⟨Nat.le_of_ble_eq_true rfl, Nat.le_of_ble_eq_true rfl⟩ ⟨rfl, rfl⟩ ⟨Nat.zero_le _, Nat.zero_le _⟩ rfl [0, 1] rfl rfl 0 rfl rfl (Nat.le_of_ble_eq_true rfl) rfl) rfl rfl rfl ?_
    cases hf
    exact r_iret C dX8_deed_83 rfl
  have hf := gd_f c6 hf
  by_cases c8 : u1 = (60 : Int32)
  · have hf := gd_t c8 hf
    refine r_look (tgt := 62) C dX8_deed_1 (by decide) (by rw [c8] <;> rfl) rfl ?_
    refine r_iconst C dX8_deed_62 kk_i_3 rfl ?_
    cases hf
    exact r_iret C dX8_deed_63 rfl
  have hf := gd_f c8 hf
  by_cases c9 : u1 = (62 : Int32)
  · have hf := gd_t c9 hf
    refine r_look (tgt := 60) C dX8_deed_1 (by decide) (by rw [c9] <;> rfl) rfl ?_
    refine r_iconst C dX8_deed_60 kk_i_2 rfl ?_
    cases hf
    exact r_iret C dX8_deed_61 rfl
  have hf := gd_f c9 hf
  refine r_look (tgt := 84) C dX8_deed_1 (by decide) ((lv_osw c1 rfl).trans ((lv_osw c2 rfl).trans ((lv_osw c4 rfl).trans ((lv_osw c6 rfl).trans ((lv_osw c8 rfl).trans ((lv_osw c9 rfl).trans rfl)))))) rfl ?_
  refine r_bipush C dX8_deed_84 kk_b_m6 rfl ?_
  cases hf
  exact r_iret C dX8_deed_86 rfl
theorem fw_X8_digit_X8 : ∀ w ∈ u_ws RX8 TX8 37, w ∈ wsX8_digit := by decide +kernel
theorem fl_X8_digit_34 : Cond.fieldLink RX8 34 "MittenLineModel" "much" "[I" ∈ wsX8_digit := by decide +kernel
theorem fl_X8_digit_115 : Cond.fieldLink RX8 115 "MittenLineModel" "acts" "I" ∈ wsX8_digit := by decide +kernel
theorem wc_X8_digit_126 : Cond.constantLong RX8 126 (49 : Int64) ∈ wsX8_digit := by decide +kernel
theorem wc_X8_digit_128 : Cond.constantLong RX8 128 (57 : Int64) ∈ wsX8_digit := by decide +kernel
abbrev rm_X8_digit : Jvm.Room := { frames := 1, cells := 0, slots := 0, locals := 25 }
def f_X8_digit (act : Nat → Int32) (much : Nat → Int32) (acts : Int32) (u1 : Int32) (u2 : Int32) : Option (Int32 × (Nat → Int32) × (Nat → Int32) × Int32) := if acts < 0 ∨ 60 ≤ acts.toNatClampNeg then none else (f_X8_in u2.toInt64 (49 : Int64) (57 : Int64)).bind (fun r2 => if r2 = 0 then some ((-6 : Int32), act, (upd much acts.toNatClampNeg (u2 - (48 : Int32))), acts) else if u1 = (2 : Int32) then (f_X8_close act acts (0 : Int32)).bind (fun r8 => some (r8.1, r8.2.1, (upd much acts.toNatClampNeg (u2 - (48 : Int32))), r8.2.2)) else if u1 = (3 : Int32) then (f_X8_close act acts (1 : Int32)).bind (fun r7 => some (r7.1, r7.2.1, (upd much acts.toNatClampNeg (u2 - (48 : Int32))), r7.2.2)) else (f_X8_close act acts (3 : Int32)).bind (fun r6 => some (r6.1, r6.2.1, (upd much acts.toNatClampNeg (u2 - (48 : Int32))), r6.2.2)))
set_option maxHeartbeats 4000000 in
set_option maxRecDepth 100000 in
theorem c_X8_digit (l : Launch) (D : va_G) (cI cZ cG : ClassId) (h : Nat) (A : Nat → Nat) (holding : Int32) (wool : Int32) (days : Int32) (sights : Int32) (padMany : Int32) (act : Nat → Int32) (much : Nat → Int32) (acts : Int32) (drawnBits : Int32) (drawnMany : Int32) (drawnNow : Int32) (badAct : Int32) (badWhy : Int32) (drawnAct : Int32) (drawnChild : Int32) (keptAt : Int32) (isWriting : Int32) (u1 : Int32) (u2 : Int32) (res : Int32 × (Nat → Int32) × (Nat → Int32) × Int32) (hf : f_X8_digit act much acts u1 u2 = some res) : CI l D (tysW cI cZ cG) yX8_digit wsX8_digit rm_X8_digit [.ref h, .int u1, .int u2] [(h, oX8 A holding wool days sights padMany acts drawnBits drawnMany drawnNow badAct badWhy drawnAct drawnChild keptAt isWriting), ((A 11), aI cI 60 act), ((A 13), aI cI 60 much)] res.1 [(h, oX8 A holding wool days sights padMany res.2.2.2 drawnBits drawnMany drawnNow badAct badWhy drawnAct drawnChild keptAt isWriting), ((A 11), aI cI 60 res.2.1), ((A 13), aI cI 60 res.2.2.1)] := by
  refine CG.intro (own := RX8) (by decide +kernel) rfl rfl (Nat.le_of_ble_eq_true rfl) (fun p e s m args below meth c C => ?_)
  refine r_lv (lv' := [(0, .ref h), (1, .int u1), (2, .int u2)]) [0, 1, 2] rfl ?_
  unfold f_X8_digit at hf
  refine r_aload_n C dX8_digit_0 rfl 0 rfl rfl ?_
  refine r_get C dX8_digit_1 fw_X8_digit_X8 0 rfl rfl 13 (by decide) rfl fl_X8_digit_34 rfl rfl ?_
  refine r_aload_n C dX8_digit_4 rfl 0 rfl rfl ?_
  refine r_get C dX8_digit_5 fw_X8_digit_X8 0 rfl rfl 14 (by decide) rfl fl_X8_digit_115 rfl rfl ?_
  refine r_iload_n C dX8_digit_8 rfl 2 rfl rfl ?_
  refine r_bipush C dX8_digit_9 kk_b_48 rfl ?_
  refine r_isub C dX8_digit_11 rfl ?_
  obtain ⟨g1, hf⟩ := gd_n hf
  refine r_iast (ws' := [(h, oX8 A holding wool days sights padMany acts drawnBits drawnMany drawnNow badAct badWhy drawnAct drawnChild keptAt isWriting), ((A 11), aI cI 60 act), ((A 13), aI cI 60 (upd much acts.toNatClampNeg (u2 - (48 : Int32))))]) C dX8_digit_12 2 0 rfl rfl g1 rfl rfl ?_
  refine r_iload_n C dX8_digit_13 rfl 2 rfl rfl ?_
  refine r_i2l C dX8_digit_14 rfl ?_
  refine r_ldc2 C dX8_digit_15 wc_X8_digit_126 rfl ?_
  refine r_ldc2 C dX8_digit_18 wc_X8_digit_128 rfl ?_
  obtain ⟨r2, e2, hf⟩ := gd_b hf
  refine o_I (wn := [(h, oX8 A holding wool days sights padMany acts drawnBits drawnMany drawnNow badAct badWhy drawnAct drawnChild keptAt isWriting), ((A 11), aI cI 60 act), ((A 13), aI cI 60 (upd much acts.toNatClampNeg (u2 - (48 : Int32))))]) C [] rfl (x_S C dX8_digit_21 (c_X8_in l D cI cZ cG u2.toInt64 (49 : Int64) (57 : Int64) r2 e2) rfl gX8_digit_X8_in hs_X8_in rfl ⟨Nat.le_of_ble_eq_true rfl, Nat.le_of_ble_eq_true rfl⟩ ⟨rfl, rfl⟩ ⟨Nat.zero_le _, Nat.zero_le _⟩ rfl [] rfl rfl (Nat.le_of_ble_eq_true rfl) rfl) rfl rfl rfl ?_
  refine r_if_eq (y := 0) (tgt := 53) C dX8_digit_24 rfl rfl (fun c3 => ?_) (fun c3 => ?_)
  · have hf := gd_t c3 hf
    refine r_bipush C dX8_digit_53 kk_b_m6 rfl ?_
    cases hf
    exact r_iret C dX8_digit_55 rfl
  · have hf := gd_f c3 hf
    refine r_aload_n C dX8_digit_27 rfl 0 rfl rfl ?_
    refine r_iload_n C dX8_digit_28 rfl 1 rfl rfl ?_
    refine r_iconst C dX8_digit_29 kk_i_2 rfl ?_
    refine r_icmp_ne (tgt := 37) C dX8_digit_30 rfl rfl (fun c4 => ?_) (fun c4 => ?_)
    · have hf := gd_f c4 hf
      refine r_iload_n C dX8_digit_37 rfl 1 rfl rfl ?_
      refine r_iconst C dX8_digit_38 kk_i_3 rfl ?_
      refine r_icmp_ne (tgt := 46) C dX8_digit_39 rfl rfl (fun c5 => ?_) (fun c5 => ?_)
      · have hf := gd_f c5 hf
        refine r_iconst C dX8_digit_46 kk_i_3 rfl ?_
        obtain ⟨r6, e6, hf⟩ := gd_b hf
        refine o_I (wn := [(h, oX8 A holding wool days sights padMany r6.2.2 drawnBits drawnMany drawnNow badAct badWhy drawnAct drawnChild keptAt isWriting), ((A 11), aI cI 60 r6.2.1), ((A 13), aI cI 60 (upd much acts.toNatClampNeg (u2 - (48 : Int32))))]) C [0, 1] rfl (x_V C dX8_digit_47 (c_X8_close l D cI cZ cG h A holding wool days sights padMany act acts drawnBits drawnMany drawnNow badAct badWhy drawnAct drawnChild keptAt isWriting (3 : Int32) r6 e6) rfl gX8_digit_X8_close hd_X8_close rfl ⟨Nat.le_of_ble_eq_true rfl, Nat.le_of_ble_eq_true rfl⟩ ⟨rfl, rfl⟩ ⟨Nat.zero_le _, Nat.zero_le _⟩ rfl [0, 1] rfl rfl 0 rfl rfl (Nat.le_of_ble_eq_true rfl) rfl) rfl rfl rfl ?_
        refine r_goto (tgt := 55) C dX8_digit_50 rfl ?_
        cases hf
        exact r_iret C dX8_digit_55 rfl
      · have hf := gd_t c5 hf
        refine r_iconst C dX8_digit_42 kk_i_1 rfl ?_
        refine r_goto (tgt := 47) C dX8_digit_43 rfl ?_
        obtain ⟨r7, e7, hf⟩ := gd_b hf
        refine o_I (wn := [(h, oX8 A holding wool days sights padMany r7.2.2 drawnBits drawnMany drawnNow badAct badWhy drawnAct drawnChild keptAt isWriting), ((A 11), aI cI 60 r7.2.1), ((A 13), aI cI 60 (upd much acts.toNatClampNeg (u2 - (48 : Int32))))]) C [0, 1] rfl (x_V C dX8_digit_47 (c_X8_close l D cI cZ cG h A holding wool days sights padMany act acts drawnBits drawnMany drawnNow badAct badWhy drawnAct drawnChild keptAt isWriting (1 : Int32) r7 e7) rfl gX8_digit_X8_close hd_X8_close rfl ⟨Nat.le_of_ble_eq_true rfl, Nat.le_of_ble_eq_true rfl⟩ ⟨rfl, rfl⟩ ⟨Nat.zero_le _, Nat.zero_le _⟩ rfl [0, 1] rfl rfl 0 rfl rfl (Nat.le_of_ble_eq_true rfl) rfl) rfl rfl rfl ?_
        refine r_goto (tgt := 55) C dX8_digit_50 rfl ?_
        cases hf
        exact r_iret C dX8_digit_55 rfl
    · have hf := gd_t c4 hf
      refine r_iconst C dX8_digit_33 kk_i_0 rfl ?_
      refine r_goto (tgt := 47) C dX8_digit_34 rfl ?_
      obtain ⟨r8, e8, hf⟩ := gd_b hf
      refine o_I (wn := [(h, oX8 A holding wool days sights padMany r8.2.2 drawnBits drawnMany drawnNow badAct badWhy drawnAct drawnChild keptAt isWriting), ((A 11), aI cI 60 r8.2.1), ((A 13), aI cI 60 (upd much acts.toNatClampNeg (u2 - (48 : Int32))))]) C [0, 1] rfl (x_V C dX8_digit_47 (c_X8_close l D cI cZ cG h A holding wool days sights padMany act acts drawnBits drawnMany drawnNow badAct badWhy drawnAct drawnChild keptAt isWriting (0 : Int32) r8 e8) rfl gX8_digit_X8_close hd_X8_close rfl ⟨Nat.le_of_ble_eq_true rfl, Nat.le_of_ble_eq_true rfl⟩ ⟨rfl, rfl⟩ ⟨Nat.zero_le _, Nat.zero_le _⟩ rfl [0, 1] rfl rfl 0 rfl rfl (Nat.le_of_ble_eq_true rfl) rfl) rfl rfl rfl ?_
      refine r_goto (tgt := 55) C dX8_digit_50 rfl ?_
      cases hf
      exact r_iret C dX8_digit_55 rfl
abbrev rm_X8_readOn : Jvm.Room := { frames := 2, cells := 0, slots := 0, locals := 47 }
def f_X8_readOn (act : Nat → Int32) (who : Nat → Int32) (much : Nat → Int32) (acts : Int32) (u1 : Int32) (u2 : Int32) : Option (Int32 × (Nat → Int32) × (Nat → Int32) × (Nat → Int32) × Int32) := if u1 = 0 then (f_X8_begin act who much acts u2).bind (fun r5 => some (r5.1, r5.2.1, r5.2.2.1, r5.2.2.2.1, r5.2.2.2.2)) else if u1 = (1 : Int32) then (f_X8_deed act acts u2).bind (fun r4 => some (r4.1, r4.2.1, who, much, r4.2.2)) else (f_X8_digit act much acts u1 u2).bind (fun r3 => some (r3.1, r3.2.1, who, r3.2.2.1, r3.2.2.2))
set_option maxHeartbeats 4000000 in
set_option maxRecDepth 100000 in
theorem c_X8_readOn (l : Launch) (D : va_G) (cI cZ cG : ClassId) (h : Nat) (A : Nat → Nat) (holding : Int32) (wool : Int32) (days : Int32) (sights : Int32) (padMany : Int32) (act : Nat → Int32) (who : Nat → Int32) (much : Nat → Int32) (acts : Int32) (drawnBits : Int32) (drawnMany : Int32) (drawnNow : Int32) (badAct : Int32) (badWhy : Int32) (drawnAct : Int32) (drawnChild : Int32) (keptAt : Int32) (isWriting : Int32) (u1 : Int32) (u2 : Int32) (res : Int32 × (Nat → Int32) × (Nat → Int32) × (Nat → Int32) × Int32) (hf : f_X8_readOn act who much acts u1 u2 = some res) : CI l D (tysW cI cZ cG) yX8_readOn wsX8_readOn rm_X8_readOn [.ref h, .int u1, .int u2] [(h, oX8 A holding wool days sights padMany acts drawnBits drawnMany drawnNow badAct badWhy drawnAct drawnChild keptAt isWriting), ((A 11), aI cI 60 act), ((A 12), aI cI 60 who), ((A 13), aI cI 60 much)] res.1 [(h, oX8 A holding wool days sights padMany res.2.2.2.2 drawnBits drawnMany drawnNow badAct badWhy drawnAct drawnChild keptAt isWriting), ((A 11), aI cI 60 res.2.1), ((A 12), aI cI 60 res.2.2.1), ((A 13), aI cI 60 res.2.2.2.1)] := by
  refine CG.intro (own := RX8) (by decide +kernel) rfl rfl (Nat.le_of_ble_eq_true rfl) (fun p e s m args below meth c C => ?_)
  refine r_lv (lv' := [(0, .ref h), (1, .int u1), (2, .int u2)]) [0, 1, 2] rfl ?_
  unfold f_X8_readOn at hf
  refine r_iload_n C dX8_readOn_0 rfl 1 rfl rfl ?_
  refine r_if_ne (y := 0) (tgt := 12) C dX8_readOn_1 rfl rfl (fun c1 => ?_) (fun c1 => ?_)
  · have hf := gd_f c1 hf
    refine r_iload_n C dX8_readOn_12 rfl 1 rfl rfl ?_
    refine r_iconst C dX8_readOn_13 kk_i_1 rfl ?_
    refine r_icmp_ne (tgt := 25) C dX8_readOn_14 rfl rfl (fun c2 => ?_) (fun c2 => ?_)
    · have hf := gd_f c2 hf
      refine r_aload_n C dX8_readOn_25 rfl 0 rfl rfl ?_
      refine r_iload_n C dX8_readOn_26 rfl 1 rfl rfl ?_
      refine r_iload_n C dX8_readOn_27 rfl 2 rfl rfl ?_
      obtain ⟨r3, e3, hf⟩ := gd_b hf
      refine o_I (wn := [(h, oX8 A holding wool days sights padMany r3.2.2.2 drawnBits drawnMany drawnNow badAct badWhy drawnAct drawnChild keptAt isWriting), ((A 11), aI cI 60 r3.2.1), ((A 12), aI cI 60 who), ((A 13), aI cI 60 r3.2.2.1)]) C [0, 1, 3] rfl (x_V C dX8_readOn_28 (c_X8_digit l D cI cZ cG h A holding wool days sights padMany act much acts drawnBits drawnMany drawnNow badAct badWhy drawnAct drawnChild keptAt isWriting u1 u2 r3 e3) rfl gX8_readOn_X8_digit hd_X8_digit rfl ⟨Nat.le_of_ble_eq_true rfl, Nat.le_of_ble_eq_true rfl⟩ ⟨rfl, rfl⟩ ⟨Nat.zero_le _, Nat.zero_le _⟩ rfl [0, 1, 3] rfl rfl 0 rfl rfl (Nat.le_of_ble_eq_true rfl) rfl) rfl rfl rfl ?_
      cases hf
      exact r_iret C dX8_readOn_31 rfl
    · have hf := gd_t c2 hf
      refine r_aload_n C dX8_readOn_17 rfl 0 rfl rfl ?_
      refine r_iload_n C dX8_readOn_18 rfl 2 rfl rfl ?_
      obtain ⟨r4, e4, hf⟩ := gd_b hf
      refine o_I (wn := [(h, oX8 A holding wool days sights padMany r4.2.2 drawnBits drawnMany drawnNow badAct badWhy drawnAct drawnChild keptAt isWriting), ((A 11), aI cI 60 r4.2.1), ((A 12), aI cI 60 who), ((A 13), aI cI 60 much)]) C [0, 1] rfl (x_V C dX8_readOn_19 (c_X8_deed l D cI cZ cG h A holding wool days sights padMany act acts drawnBits drawnMany drawnNow badAct badWhy drawnAct drawnChild keptAt isWriting u2 r4 e4) rfl gX8_readOn_X8_deed hd_X8_deed rfl ⟨Nat.le_of_ble_eq_true rfl, Nat.le_of_ble_eq_true rfl⟩ ⟨rfl, rfl⟩ ⟨Nat.zero_le _, Nat.zero_le _⟩ rfl [0, 1] rfl rfl 0 rfl rfl (Nat.le_of_ble_eq_true rfl) rfl) rfl rfl rfl ?_
      refine r_goto (tgt := 31) C dX8_readOn_22 rfl ?_
      cases hf
      exact r_iret C dX8_readOn_31 rfl
  · have hf := gd_t c1 hf
    refine r_aload_n C dX8_readOn_4 rfl 0 rfl rfl ?_
    refine r_iload_n C dX8_readOn_5 rfl 2 rfl rfl ?_
    obtain ⟨r5, e5, hf⟩ := gd_b hf
    refine o_I (wn := [(h, oX8 A holding wool days sights padMany r5.2.2.2.2 drawnBits drawnMany drawnNow badAct badWhy drawnAct drawnChild keptAt isWriting), ((A 11), aI cI 60 r5.2.1), ((A 12), aI cI 60 r5.2.2.1), ((A 13), aI cI 60 r5.2.2.2.1)]) C [0, 1, 2, 3] rfl (x_V C dX8_readOn_6 (c_X8_begin l D cI cZ cG h A holding wool days sights padMany act who much acts drawnBits drawnMany drawnNow badAct badWhy drawnAct drawnChild keptAt isWriting u2 r5 e5) rfl gX8_readOn_X8_begin hd_X8_begin rfl ⟨Nat.le_of_ble_eq_true rfl, Nat.le_of_ble_eq_true rfl⟩ ⟨rfl, rfl⟩ ⟨Nat.zero_le _, Nat.zero_le _⟩ rfl [0, 1, 2, 3] rfl rfl 0 rfl rfl (Nat.le_of_ble_eq_true rfl) rfl) rfl rfl rfl ?_
    refine r_goto (tgt := 31) C dX8_readOn_9 rfl ?_
    cases hf
    exact r_iret C dX8_readOn_31 rfl
theorem fw_X8_fault_X8 : ∀ w ∈ u_ws RX8 TX8 37, w ∈ wsX8_fault := by decide +kernel
theorem fl_X8_fault_115 : Cond.fieldLink RX8 115 "MittenLineModel" "acts" "I" ∈ wsX8_fault := by decide +kernel
theorem fl_X8_fault_112 : Cond.fieldLink RX8 112 "MittenLineModel" "padMany" "I" ∈ wsX8_fault := by decide +kernel
theorem fl_X8_fault_25 : Cond.fieldLink RX8 25 "MittenLineModel" "pad" "[I" ∈ wsX8_fault := by decide +kernel
abbrev rm_X8_fault : Jvm.Room := { frames := 3, cells := 0, slots := 0, locals := 69 }
def f_X8_fault_9 (pad : Nat → Int32) (padMany : Int32) (kx41 : Int32 → (Nat → Int32) → (Nat → Int32) → (Nat → Int32) → Int32 → Option (Int32 × (Nat → Int32) × (Nat → Int32) × (Nat → Int32) × Int32)) : Nat → Int32 → Int32 → (Nat → Int32) → (Nat → Int32) → (Nat → Int32) → Int32 → Option (Int32 × (Nat → Int32) × (Nat → Int32) × (Nat → Int32) × Int32)
  | 0, _, _, _, _, _, _ => none
  | n + 1, u1, u2, act, who, much, acts => if padMany ≤ u2 then kx41 u1 act who much acts else if u2 < 0 ∨ 60 ≤ u2.toNatClampNeg then none else (f_X8_readOn act who much acts u1 (pad u2.toNatClampNeg)).bind (fun r3 => if 0 ≤ r3.1 then f_X8_fault_9 pad padMany kx41 n r3.1 (u2 + (1 : Int32)) r3.2.1 r3.2.2.1 r3.2.2.2.1 r3.2.2.2.2 else some (u2, r3.2.1, r3.2.2.1, r3.2.2.2.1, r3.2.2.2.2))
set_option maxHeartbeats 4000000 in
set_option maxRecDepth 100000 in
theorem k_X8_fault_9 (C : Cx p s m args meth c D (tysW cI cZ cG) RX8 cX8_fault 3 wsX8_fault (some .int)) (h : Nat) (A : Nat → Nat) (holding : Int32) (wool : Int32) (days : Int32) (sights : Int32) (pad : Nat → Int32) (padMany : Int32) (drawnBits : Int32) (drawnMany : Int32) (drawnNow : Int32) (badAct : Int32) (badWhy : Int32) (drawnAct : Int32) (drawnChild : Int32) (keptAt : Int32) (isWriting : Int32)  (kx41 : Int32 → (Nat → Int32) → (Nat → Int32) → (Nat → Int32) → Int32 → Option (Int32 × (Nat → Int32) × (Nat → Int32) × (Nat → Int32) × Int32)) (res : Int32 × (Nat → Int32) × (Nat → Int32) × (Nat → Int32) × Int32) (hkx41 : ∀ (u1 : Int32) (act : Nat → Int32) (who : Nat → Int32) (much : Nat → Int32) (acts : Int32) , kx41 u1 act who much acts = some res → Wd p l e rm_X8_fault s m args below meth c D w0 3 0 0 (MQ below (QcI D (tysW cI cZ cG) w0 [(h, oX8 A holding wool days sights padMany res.2.2.2.2 drawnBits drawnMany drawnNow badAct badWhy drawnAct drawnChild keptAt isWriting), ((A 9), aI cI 60 pad), ((A 11), aI cI 60 res.2.1), ((A 12), aI cI 60 res.2.2.1), ((A 13), aI cI 60 res.2.2.2.1)] res.1 s.heap.size) args s 0 0 (va_A w0 s.heap.size)) [(h, oX8 A holding wool days sights padMany acts drawnBits drawnMany drawnNow badAct badWhy drawnAct drawnChild keptAt isWriting), ((A 9), aI cI 60 pad), ((A 11), aI cI 60 act), ((A 12), aI cI 60 who), ((A 13), aI cI 60 much)] [(0, .ref h), (1, .int u1)] 41 []) : ∀ (n : Nat) (u1 : Int32) (u2 : Int32) (act : Nat → Int32) (who : Nat → Int32) (much : Nat → Int32) (acts : Int32), f_X8_fault_9 pad padMany kx41 n u1 u2 act who much acts = some res → Wd p l e rm_X8_fault s m args below meth c D w0 3 0 0 (MQ below (QcI D (tysW cI cZ cG) w0 [(h, oX8 A holding wool days sights padMany res.2.2.2.2 drawnBits drawnMany drawnNow badAct badWhy drawnAct drawnChild keptAt isWriting), ((A 9), aI cI 60 pad), ((A 11), aI cI 60 res.2.1), ((A 12), aI cI 60 res.2.2.1), ((A 13), aI cI 60 res.2.2.2.1)] res.1 s.heap.size) args s 0 0 (va_A w0 s.heap.size)) [(h, oX8 A holding wool days sights padMany acts drawnBits drawnMany drawnNow badAct badWhy drawnAct drawnChild keptAt isWriting), ((A 9), aI cI 60 pad), ((A 11), aI cI 60 act), ((A 12), aI cI 60 who), ((A 13), aI cI 60 much)] [(0, .ref h), (1, .int u1), (2, .int u2)] 9 [] := by
  intro n
  induction n with
  | zero =>
    intro u1 u2 act who much acts hf
    exact no_none hf
  | succ n ih =>
    intro u1 u2 act who much acts hf
    unfold f_X8_fault_9 at hf
    refine r_iload_n C dX8_fault_9 rfl 2 rfl rfl ?_
    refine r_aload_n C dX8_fault_10 rfl 0 rfl rfl ?_
    refine r_get C dX8_fault_11 fw_X8_fault_X8 0 rfl rfl 10 (by decide) rfl fl_X8_fault_112 rfl rfl ?_
    refine r_icmp_ge (tgt := 41) C dX8_fault_14 rfl rfl (fun c1 => ?_) (fun c1 => ?_)
    · have hf := gd_t c1 hf
      refine r_lv (lv' := [(0, .ref h), (1, .int u1)]) [0, 1] rfl ?_
      exact hkx41 _ _ _ _ _ hf
    · have hf := gd_f c1 hf
      refine r_aload_n C dX8_fault_17 rfl 0 rfl rfl ?_
      refine r_iload_n C dX8_fault_18 rfl 1 rfl rfl ?_
      refine r_aload_n C dX8_fault_19 rfl 0 rfl rfl ?_
      refine r_get C dX8_fault_20 fw_X8_fault_X8 0 rfl rfl 9 (by decide) rfl fl_X8_fault_25 rfl rfl ?_
      refine r_iload_n C dX8_fault_23 rfl 2 rfl rfl ?_
      obtain ⟨g2, hf⟩ := gd_n hf
      refine r_iald C dX8_fault_24 1 0 rfl rfl g2 rfl ?_
      obtain ⟨r3, e3, hf⟩ := gd_b hf
      refine o_I (wn := [(h, oX8 A holding wool days sights padMany r3.2.2.2.2 drawnBits drawnMany drawnNow badAct badWhy drawnAct drawnChild keptAt isWriting), ((A 9), aI cI 60 pad), ((A 11), aI cI 60 r3.2.1), ((A 12), aI cI 60 r3.2.2.1), ((A 13), aI cI 60 r3.2.2.2.1)]) C [0, 2, 3, 4] rfl (x_V C dX8_fault_25 (c_X8_readOn l D cI cZ cG h A holding wool days sights padMany act who much acts drawnBits drawnMany drawnNow badAct badWhy drawnAct drawnChild keptAt isWriting u1 (pad u2.toNatClampNeg) r3 e3) rfl gX8_fault_X8_readOn hd_X8_readOn rfl ⟨Nat.le_of_ble_eq_true rfl, Nat.le_of_ble_eq_true rfl⟩ ⟨rfl, rfl⟩ ⟨Nat.zero_le _, Nat.zero_le _⟩ rfl [0, 2, 3, 4] rfl rfl 0 rfl rfl (Nat.le_of_ble_eq_true rfl) rfl) rfl rfl rfl ?_
      refine r_istore_n (lv' := [(1, .int r3.1), (0, .ref h), (2, .int u2)]) C dX8_fault_28 rfl (by decide) rfl rfl ?_
      refine r_iload_n C dX8_fault_29 rfl 0 rfl rfl ?_
      refine r_if_ge (y := 0) (tgt := 35) C dX8_fault_30 rfl rfl (fun c4 => ?_) (fun c4 => ?_)
      · have hf := gd_t c4 hf
        refine r_iinc (lv' := [(2, .int (u2 + (1 : Int32))), (1, .int r3.1), (0, .ref h)]) C dX8_fault_35 2 rfl (ki_1 _) (by decide) rfl rfl ?_
        refine r_goto (tgt := 9) C dX8_fault_38 rfl ?_
        refine r_lv (lv' := [(0, .ref h), (1, .int r3.1), (2, .int (u2 + (1 : Int32)))]) [2, 1, 0] rfl ?_
        exact ih _ _ _ _ _ _ hf
      · have hf := gd_f c4 hf
        refine r_iload_n C dX8_fault_33 rfl 2 rfl rfl ?_
        cases hf
        exact r_iret C dX8_fault_34 rfl
def f_X8_fault (pad : Nat → Int32) (padMany : Int32) (act : Nat → Int32) (who : Nat → Int32) (much : Nat → Int32) (acts : Int32) : Option (Int32 × (Nat → Int32) × (Nat → Int32) × (Nat → Int32) × Int32) := f_X8_fault_9 pad padMany (fun u1_5 act_6 who_7 much_8 acts_9 => if u1_5 = 0 then some ((-6 : Int32), act_6, who_7, much_8, acts_9) else some (padMany, act_6, who_7, much_8, acts_9)) 2000 (0 : Int32) (0 : Int32) act who much (0 : Int32)
set_option maxHeartbeats 4000000 in
set_option maxRecDepth 100000 in
theorem c_X8_fault (l : Launch) (D : va_G) (cI cZ cG : ClassId) (h : Nat) (A : Nat → Nat) (holding : Int32) (wool : Int32) (days : Int32) (sights : Int32) (pad : Nat → Int32) (padMany : Int32) (act : Nat → Int32) (who : Nat → Int32) (much : Nat → Int32) (acts : Int32) (drawnBits : Int32) (drawnMany : Int32) (drawnNow : Int32) (badAct : Int32) (badWhy : Int32) (drawnAct : Int32) (drawnChild : Int32) (keptAt : Int32) (isWriting : Int32) (res : Int32 × (Nat → Int32) × (Nat → Int32) × (Nat → Int32) × Int32) (hf : f_X8_fault pad padMany act who much acts = some res) : CI l D (tysW cI cZ cG) yX8_fault wsX8_fault rm_X8_fault [.ref h] [(h, oX8 A holding wool days sights padMany acts drawnBits drawnMany drawnNow badAct badWhy drawnAct drawnChild keptAt isWriting), ((A 9), aI cI 60 pad), ((A 11), aI cI 60 act), ((A 12), aI cI 60 who), ((A 13), aI cI 60 much)] res.1 [(h, oX8 A holding wool days sights padMany res.2.2.2.2 drawnBits drawnMany drawnNow badAct badWhy drawnAct drawnChild keptAt isWriting), ((A 9), aI cI 60 pad), ((A 11), aI cI 60 res.2.1), ((A 12), aI cI 60 res.2.2.1), ((A 13), aI cI 60 res.2.2.2.1)] := by
  refine CG.intro (own := RX8) (by decide +kernel) rfl rfl (Nat.le_of_ble_eq_true rfl) (fun p e s m args below meth c C => ?_)
  refine r_lv (lv' := [(0, .ref h)]) [0] rfl ?_
  unfold f_X8_fault at hf
  refine r_aload_n C dX8_fault_0 rfl 0 rfl rfl ?_
  refine r_iconst C dX8_fault_1 kk_i_0 rfl ?_
  refine r_put (ty := .int) (ws' := [(h, oX8 A holding wool days sights padMany (0 : Int32) drawnBits drawnMany drawnNow badAct badWhy drawnAct drawnChild keptAt isWriting), ((A 9), aI cI 60 pad), ((A 11), aI cI 60 act), ((A 12), aI cI 60 who), ((A 13), aI cI 60 much)]) C dX8_fault_2 fw_X8_fault_X8 tyX8 tyX8_ok nmX8 0 rfl rfl 14 (by decide) rfl fl_X8_fault_115 rfl (by decide +kernel) rfl rfl (Nat.le_of_ble_eq_true rfl) rfl rfl ?_
  refine r_iconst C dX8_fault_5 kk_i_0 rfl ?_
  refine r_istore_n (lv' := [(1, .int (0 : Int32)), (0, .ref h)]) C dX8_fault_6 rfl (by decide) rfl rfl ?_
  refine r_iconst C dX8_fault_7 kk_i_0 rfl ?_
  refine r_istore_n (lv' := [(2, .int (0 : Int32)), (1, .int (0 : Int32)), (0, .ref h)]) C dX8_fault_8 rfl (by decide) rfl rfl ?_
  refine r_lv (lv' := [(0, .ref h), (1, .int (0 : Int32)), (2, .int (0 : Int32))]) [2, 1, 0] rfl ?_
  refine k_X8_fault_9 C h A holding wool days sights pad padMany drawnBits drawnMany drawnNow badAct badWhy drawnAct drawnChild keptAt isWriting _ _ ?_ 2000 _ _ _ _ _ _ hf
  · intro u1_5 act_6 who_7 much_8 acts_9 hf
    refine r_iload_n C dX8_fault_41 rfl 1 rfl rfl ?_
    refine r_if_ne (y := 0) (tgt := 50) C dX8_fault_42 rfl rfl (fun c10 => ?_) (fun c10 => ?_)
    · have hf := gd_f c10 hf
      refine r_aload_n C dX8_fault_50 rfl 0 rfl rfl ?_
      refine r_get C dX8_fault_51 fw_X8_fault_X8 0 rfl rfl 10 (by decide) rfl fl_X8_fault_112 rfl rfl ?_
      cases hf
      exact r_iret C dX8_fault_54 rfl
    · have hf := gd_t c10 hf
      refine r_bipush C dX8_fault_45 kk_b_m6 rfl ?_
      refine r_goto (tgt := 54) C dX8_fault_47 rfl ?_
      cases hf
      exact r_iret C dX8_fault_54 rfl
theorem fw_X8_draws_X8 : ∀ w ∈ u_ws RX8 TX8 37, w ∈ wsX8_draws := by decide +kernel
theorem fl_X8_draws_37 : Cond.fieldLink RX8 37 "MittenLineModel" "then" "[I" ∈ wsX8_draws := by decide +kernel
theorem fl_X8_draws_16 : Cond.fieldLink RX8 16 "MittenLineModel" "length" "[I" ∈ wsX8_draws := by decide +kernel
theorem fl_X8_draws_142 : Cond.fieldLink RX8 142 "MittenLineModel" "drawnBits" "I" ∈ wsX8_draws := by decide +kernel
abbrev rm_X8_draws : Jvm.Room := { frames := 1, cells := 0, slots := 0, locals := 21 }
def f_X8_draws (length : Nat → Int32) (then_ : Nat → Int32) (drawnBits : Int32) (u1 : Int32) (u2 : Int32) (u3 : Int32) : Option (Int32 × (Nat → Int32) × Int32) := if u1 < 0 ∨ 10 ≤ u1.toNatClampNeg then none else if u2 < 0 ∨ 10 ≤ u2.toNatClampNeg then none else (f_X8_off (then_ u1.toNatClampNeg) (then_ u2.toNatClampNeg)).bind (fun r3 => if u3 < 0 ∨ 9 ≤ u3.toNatClampNeg then none else if (length u3.toNatClampNeg) < r3 then if (then_ u1.toNatClampNeg) ≤ (then_ u2.toNatClampNeg) then some ((1 : Int32), (upd then_ u1.toNatClampNeg ((then_ u2.toNatClampNeg) - (length u3.toNatClampNeg))), (drawnBits ||| ((1 : Int32) <<< (u1 &&& 31)))) else some ((1 : Int32), (upd then_ u1.toNatClampNeg ((then_ u2.toNatClampNeg) + (length u3.toNatClampNeg))), (drawnBits ||| ((1 : Int32) <<< (u1 &&& 31)))) else some ((0 : Int32), then_, drawnBits))
set_option maxHeartbeats 4000000 in
set_option maxRecDepth 100000 in
theorem c_X8_draws (l : Launch) (D : va_G) (cI cZ cG : ClassId) (h : Nat) (A : Nat → Nat) (length : Nat → Int32) (holding : Int32) (wool : Int32) (days : Int32) (sights : Int32) (padMany : Int32) (acts : Int32) (then_ : Nat → Int32) (drawnBits : Int32) (drawnMany : Int32) (drawnNow : Int32) (badAct : Int32) (badWhy : Int32) (drawnAct : Int32) (drawnChild : Int32) (keptAt : Int32) (isWriting : Int32) (u1 : Int32) (u2 : Int32) (u3 : Int32) (res : Int32 × (Nat → Int32) × Int32) (hf : f_X8_draws length then_ drawnBits u1 u2 u3 = some res) : CI l D (tysW cI cZ cG) yX8_draws wsX8_draws rm_X8_draws [.ref h, .int u1, .int u2, .int u3] [(h, oX8 A holding wool days sights padMany acts drawnBits drawnMany drawnNow badAct badWhy drawnAct drawnChild keptAt isWriting), ((A 2), aI cI 9 length), ((A 15), aI cI 10 then_)] res.1 [(h, oX8 A holding wool days sights padMany acts res.2.2 drawnMany drawnNow badAct badWhy drawnAct drawnChild keptAt isWriting), ((A 2), aI cI 9 length), ((A 15), aI cI 10 res.2.1)] := by
  refine CG.intro (own := RX8) (by decide +kernel) rfl rfl (Nat.le_of_ble_eq_true rfl) (fun p e s m args below meth c C => ?_)
  refine r_lv (lv' := [(0, .ref h), (1, .int u1), (2, .int u2), (3, .int u3)]) [0, 1, 2, 3] rfl ?_
  unfold f_X8_draws at hf
  refine r_aload_n C dX8_draws_0 rfl 0 rfl rfl ?_
  refine r_get C dX8_draws_1 fw_X8_draws_X8 0 rfl rfl 15 (by decide) rfl fl_X8_draws_37 rfl rfl ?_
  refine r_iload_n C dX8_draws_4 rfl 1 rfl rfl ?_
  obtain ⟨g1, hf⟩ := gd_n hf
  refine r_iald C dX8_draws_5 2 0 rfl rfl g1 rfl ?_
  refine r_aload_n C dX8_draws_6 rfl 0 rfl rfl ?_
  refine r_get C dX8_draws_7 fw_X8_draws_X8 0 rfl rfl 15 (by decide) rfl fl_X8_draws_37 rfl rfl ?_
  refine r_iload_n C dX8_draws_10 rfl 2 rfl rfl ?_
  obtain ⟨g2, hf⟩ := gd_n hf
  refine r_iald C dX8_draws_11 2 0 rfl rfl g2 rfl ?_
  obtain ⟨r3, e3, hf⟩ := gd_b hf
  refine o_I (wn := [(h, oX8 A holding wool days sights padMany acts drawnBits drawnMany drawnNow badAct badWhy drawnAct drawnChild keptAt isWriting), ((A 2), aI cI 9 length), ((A 15), aI cI 10 then_)]) C [] rfl (x_S C dX8_draws_12 (c_X8_off l D cI cZ cG (then_ u1.toNatClampNeg) (then_ u2.toNatClampNeg) r3 e3) rfl gX8_draws_X8_off hs_X8_off rfl ⟨Nat.le_of_ble_eq_true rfl, Nat.le_of_ble_eq_true rfl⟩ ⟨rfl, rfl⟩ ⟨Nat.zero_le _, Nat.zero_le _⟩ rfl [] rfl rfl (Nat.le_of_ble_eq_true rfl) rfl) rfl rfl rfl ?_
  refine r_aload_n C dX8_draws_15 rfl 0 rfl rfl ?_
  refine r_get C dX8_draws_16 fw_X8_draws_X8 0 rfl rfl 2 (by decide) rfl fl_X8_draws_16 rfl rfl ?_
  refine r_iload_n C dX8_draws_19 rfl 3 rfl rfl ?_
  obtain ⟨g4, hf⟩ := gd_n hf
  refine r_iald C dX8_draws_20 1 0 rfl rfl g4 rfl ?_
  refine r_icmp_gt (tgt := 26) C dX8_draws_21 rfl rfl (fun c5 => ?_) (fun c5 => ?_)
  · have hf := gd_t c5 hf
    refine r_aload_n C dX8_draws_26 rfl 0 rfl rfl ?_
    refine r_get C dX8_draws_27 fw_X8_draws_X8 0 rfl rfl 15 (by decide) rfl fl_X8_draws_37 rfl rfl ?_
    refine r_iload_n C dX8_draws_30 rfl 1 rfl rfl ?_
    refine r_aload_n C dX8_draws_31 rfl 0 rfl rfl ?_
    refine r_get C dX8_draws_32 fw_X8_draws_X8 0 rfl rfl 15 (by decide) rfl fl_X8_draws_37 rfl rfl ?_
    refine r_iload_n C dX8_draws_35 rfl 1 rfl rfl ?_
    refine r_iald C dX8_draws_36 2 0 rfl rfl g1 rfl ?_
    refine r_aload_n C dX8_draws_37 rfl 0 rfl rfl ?_
    refine r_get C dX8_draws_38 fw_X8_draws_X8 0 rfl rfl 15 (by decide) rfl fl_X8_draws_37 rfl rfl ?_
    refine r_iload_n C dX8_draws_41 rfl 2 rfl rfl ?_
    refine r_iald C dX8_draws_42 2 0 rfl rfl g2 rfl ?_
    refine r_icmp_le (tgt := 62) C dX8_draws_43 rfl rfl (fun c6 => ?_) (fun c6 => ?_)
    · have hf := gd_t c6 hf
      refine r_aload_n C dX8_draws_62 rfl 0 rfl rfl ?_
      refine r_get C dX8_draws_63 fw_X8_draws_X8 0 rfl rfl 15 (by decide) rfl fl_X8_draws_37 rfl rfl ?_
      refine r_iload_n C dX8_draws_66 rfl 2 rfl rfl ?_
      refine r_iald C dX8_draws_67 2 0 rfl rfl g2 rfl ?_
      refine r_aload_n C dX8_draws_68 rfl 0 rfl rfl ?_
      refine r_get C dX8_draws_69 fw_X8_draws_X8 0 rfl rfl 2 (by decide) rfl fl_X8_draws_16 rfl rfl ?_
      refine r_iload_n C dX8_draws_72 rfl 3 rfl rfl ?_
      refine r_iald C dX8_draws_73 1 0 rfl rfl g4 rfl ?_
      refine r_isub C dX8_draws_74 rfl ?_
      refine r_iast (ws' := [(h, oX8 A holding wool days sights padMany acts drawnBits drawnMany drawnNow badAct badWhy drawnAct drawnChild keptAt isWriting), ((A 2), aI cI 9 length), ((A 15), aI cI 10 (upd then_ u1.toNatClampNeg ((then_ u2.toNatClampNeg) - (length u3.toNatClampNeg))))]) C dX8_draws_75 2 0 rfl rfl g1 rfl rfl ?_
      refine r_aload_n C dX8_draws_76 rfl 0 rfl rfl ?_
      refine r_dup C dX8_draws_77 rfl rfl ?_
      refine r_get C dX8_draws_78 fw_X8_draws_X8 0 rfl rfl 16 (by decide) rfl fl_X8_draws_142 rfl rfl ?_
      refine r_iconst C dX8_draws_81 kk_i_1 rfl ?_
      refine r_iload_n C dX8_draws_82 rfl 1 rfl rfl ?_
      refine r_ishl C dX8_draws_83 rfl ?_
      refine r_ior C dX8_draws_84 rfl ?_
      refine r_put (ty := .int) (ws' := [(h, oX8 A holding wool days sights padMany acts (drawnBits ||| ((1 : Int32) <<< (u1 &&& 31))) drawnMany drawnNow badAct badWhy drawnAct drawnChild keptAt isWriting), ((A 2), aI cI 9 length), ((A 15), aI cI 10 (upd then_ u1.toNatClampNeg ((then_ u2.toNatClampNeg) - (length u3.toNatClampNeg))))]) C dX8_draws_85 fw_X8_draws_X8 tyX8 tyX8_ok nmX8 0 rfl rfl 16 (by decide) rfl fl_X8_draws_142 rfl (by decide +kernel) rfl rfl (Nat.le_of_ble_eq_true rfl) rfl rfl ?_
      refine r_iconst C dX8_draws_88 kk_i_1 rfl ?_
      cases hf
      exact r_zret C dX8_draws_89 nb1 rfl
    · have hf := gd_f c6 hf
      refine r_aload_n C dX8_draws_46 rfl 0 rfl rfl ?_
      refine r_get C dX8_draws_47 fw_X8_draws_X8 0 rfl rfl 15 (by decide) rfl fl_X8_draws_37 rfl rfl ?_
      refine r_iload_n C dX8_draws_50 rfl 2 rfl rfl ?_
      refine r_iald C dX8_draws_51 2 0 rfl rfl g2 rfl ?_
      refine r_aload_n C dX8_draws_52 rfl 0 rfl rfl ?_
      refine r_get C dX8_draws_53 fw_X8_draws_X8 0 rfl rfl 2 (by decide) rfl fl_X8_draws_16 rfl rfl ?_
      refine r_iload_n C dX8_draws_56 rfl 3 rfl rfl ?_
      refine r_iald C dX8_draws_57 1 0 rfl rfl g4 rfl ?_
      refine r_iadd C dX8_draws_58 rfl ?_
      refine r_goto (tgt := 75) C dX8_draws_59 rfl ?_
      refine r_iast (ws' := [(h, oX8 A holding wool days sights padMany acts drawnBits drawnMany drawnNow badAct badWhy drawnAct drawnChild keptAt isWriting), ((A 2), aI cI 9 length), ((A 15), aI cI 10 (upd then_ u1.toNatClampNeg ((then_ u2.toNatClampNeg) + (length u3.toNatClampNeg))))]) C dX8_draws_75 2 0 rfl rfl g1 rfl rfl ?_
      refine r_aload_n C dX8_draws_76 rfl 0 rfl rfl ?_
      refine r_dup C dX8_draws_77 rfl rfl ?_
      refine r_get C dX8_draws_78 fw_X8_draws_X8 0 rfl rfl 16 (by decide) rfl fl_X8_draws_142 rfl rfl ?_
      refine r_iconst C dX8_draws_81 kk_i_1 rfl ?_
      refine r_iload_n C dX8_draws_82 rfl 1 rfl rfl ?_
      refine r_ishl C dX8_draws_83 rfl ?_
      refine r_ior C dX8_draws_84 rfl ?_
      refine r_put (ty := .int) (ws' := [(h, oX8 A holding wool days sights padMany acts (drawnBits ||| ((1 : Int32) <<< (u1 &&& 31))) drawnMany drawnNow badAct badWhy drawnAct drawnChild keptAt isWriting), ((A 2), aI cI 9 length), ((A 15), aI cI 10 (upd then_ u1.toNatClampNeg ((then_ u2.toNatClampNeg) + (length u3.toNatClampNeg))))]) C dX8_draws_85 fw_X8_draws_X8 tyX8 tyX8_ok nmX8 0 rfl rfl 16 (by decide) rfl fl_X8_draws_142 rfl (by decide +kernel) rfl rfl (Nat.le_of_ble_eq_true rfl) rfl rfl ?_
      refine r_iconst C dX8_draws_88 kk_i_1 rfl ?_
      cases hf
      exact r_zret C dX8_draws_89 nb1 rfl
  · have hf := gd_f c5 hf
    refine r_iconst C dX8_draws_24 kk_i_0 rfl ?_
    cases hf
    exact r_zret C dX8_draws_25 nb0 rfl
theorem fw_X8_findThen_X8 : ∀ w ∈ u_ws RX8 TX8 37, w ∈ wsX8_findThen := by decide +kernel
theorem fl_X8_findThen_37 : Cond.fieldLink RX8 37 "MittenLineModel" "then" "[I" ∈ wsX8_findThen := by decide +kernel
theorem fl_X8_findThen_7 : Cond.fieldLink RX8 7 "MittenLineModel" "yard" "[I" ∈ wsX8_findThen := by decide +kernel
theorem fl_X8_findThen_142 : Cond.fieldLink RX8 142 "MittenLineModel" "drawnBits" "I" ∈ wsX8_findThen := by decide +kernel
abbrev rm_X8_findThen : Jvm.Room := { frames := 2, cells := 0, slots := 0, locals := 44 }
def f_X8_findThen_2 (yard : Nat → Int32) (kx26 : (Nat → Int32) → Option ((Nat → Int32) × Int32)) : Nat → Int32 → (Nat → Int32) → Option ((Nat → Int32) × Int32)
  | 0, _, _ => none
  | n + 1, u3, then_ => if (10 : Int32) ≤ u3 then kx26 then_ else if u3 < 0 ∨ 10 ≤ u3.toNatClampNeg then none else f_X8_findThen_2 yard kx26 n (u3 + (1 : Int32)) (upd then_ u3.toNatClampNeg (yard u3.toNatClampNeg))
set_option maxHeartbeats 4000000 in
set_option maxRecDepth 100000 in
theorem k_X8_findThen_2 (C : Cx p s m args meth c D (tysW cI cZ cG) RX8 cX8_findThen 5 wsX8_findThen none) (h : Nat) (A : Nat → Nat) (yard : Nat → Int32) (length : Nat → Int32) (holding : Int32) (wool : Int32) (days : Int32) (sights : Int32) (padMany : Int32) (acts : Int32) (drawnBits : Int32) (drawnMany : Int32) (drawnNow : Int32) (badAct : Int32) (badWhy : Int32) (drawnAct : Int32) (drawnChild : Int32) (keptAt : Int32) (isWriting : Int32) (u1 : Int32) (u2 : Int32)  (kx26 : (Nat → Int32) → Option ((Nat → Int32) × Int32)) (res : (Nat → Int32) × Int32) (hkx26 : ∀ (then_ : Nat → Int32) , kx26 then_ = some res → Wd p l e rm_X8_findThen s m args below meth c D w0 5 0 0 (MQ below (QcV D (tysW cI cZ cG) w0 [(h, oX8 A holding wool days sights padMany acts res.2 drawnMany drawnNow badAct badWhy drawnAct drawnChild keptAt isWriting), ((A 0), aI cI 10 yard), ((A 2), aI cI 9 length), ((A 15), aI cI 10 res.1)] s.heap.size) args s 0 0 (va_A w0 s.heap.size)) [(h, oX8 A holding wool days sights padMany acts drawnBits drawnMany drawnNow badAct badWhy drawnAct drawnChild keptAt isWriting), ((A 0), aI cI 10 yard), ((A 2), aI cI 9 length), ((A 15), aI cI 10 then_)] [(0, .ref h), (1, .int u1), (2, .int u2)] 26 []) : ∀ (n : Nat) (u3 : Int32) (then_ : Nat → Int32), f_X8_findThen_2 yard kx26 n u3 then_ = some res → Wd p l e rm_X8_findThen s m args below meth c D w0 5 0 0 (MQ below (QcV D (tysW cI cZ cG) w0 [(h, oX8 A holding wool days sights padMany acts res.2 drawnMany drawnNow badAct badWhy drawnAct drawnChild keptAt isWriting), ((A 0), aI cI 10 yard), ((A 2), aI cI 9 length), ((A 15), aI cI 10 res.1)] s.heap.size) args s 0 0 (va_A w0 s.heap.size)) [(h, oX8 A holding wool days sights padMany acts drawnBits drawnMany drawnNow badAct badWhy drawnAct drawnChild keptAt isWriting), ((A 0), aI cI 10 yard), ((A 2), aI cI 9 length), ((A 15), aI cI 10 then_)] [(0, .ref h), (1, .int u1), (2, .int u2), (3, .int u3)] 2 [] := by
  intro n
  induction n with
  | zero =>
    intro u3 then_ hf
    exact no_none hf
  | succ n ih =>
    intro u3 then_ hf
    unfold f_X8_findThen_2 at hf
    refine r_iload_n C dX8_findThen_2 rfl 3 rfl rfl ?_
    refine r_bipush C dX8_findThen_3 kk_b_10 rfl ?_
    refine r_icmp_ge (tgt := 26) C dX8_findThen_5 rfl rfl (fun c1 => ?_) (fun c1 => ?_)
    · have hf := gd_t c1 hf
      refine r_lv (lv' := [(0, .ref h), (1, .int u1), (2, .int u2)]) [0, 1, 2] rfl ?_
      exact hkx26 _ hf
    · have hf := gd_f c1 hf
      refine r_aload_n C dX8_findThen_8 rfl 0 rfl rfl ?_
      refine r_get C dX8_findThen_9 fw_X8_findThen_X8 0 rfl rfl 15 (by decide) rfl fl_X8_findThen_37 rfl rfl ?_
      refine r_iload_n C dX8_findThen_12 rfl 3 rfl rfl ?_
      refine r_aload_n C dX8_findThen_13 rfl 0 rfl rfl ?_
      refine r_get C dX8_findThen_14 fw_X8_findThen_X8 0 rfl rfl 0 (by decide) rfl fl_X8_findThen_7 rfl rfl ?_
      refine r_iload_n C dX8_findThen_17 rfl 3 rfl rfl ?_
      obtain ⟨g2, hf⟩ := gd_n hf
      refine r_iald C dX8_findThen_18 1 0 rfl rfl g2 rfl ?_
      refine r_iast (ws' := [(h, oX8 A holding wool days sights padMany acts drawnBits drawnMany drawnNow badAct badWhy drawnAct drawnChild keptAt isWriting), ((A 0), aI cI 10 yard), ((A 2), aI cI 9 length), ((A 15), aI cI 10 (upd then_ u3.toNatClampNeg (yard u3.toNatClampNeg)))]) C dX8_findThen_19 3 0 rfl rfl g2 rfl rfl ?_
      refine r_iinc (lv' := [(3, .int (u3 + (1 : Int32))), (0, .ref h), (1, .int u1), (2, .int u2)]) C dX8_findThen_20 3 rfl (ki_1 _) (by decide) rfl rfl ?_
      refine r_goto (tgt := 2) C dX8_findThen_23 rfl ?_
      refine r_lv (lv' := [(0, .ref h), (1, .int u1), (2, .int u2), (3, .int (u3 + (1 : Int32)))]) [1, 2, 3, 0] rfl ?_
      exact ih _ _ hf
def f_X8_findThen_48 (length : Nat → Int32) (kx80 : (Nat → Int32) → Int32 → Option ((Nat → Int32) × Int32)) : Nat → Int32 → Int32 → (Nat → Int32) → Int32 → Option ((Nat → Int32) × Int32)
  | 0, _, _, _, _ => none
  | n + 1, u3, u4, then_, drawnBits => if (10 : Int32) ≤ u4 then kx80 then_ drawnBits else if u3 = 0 then kx80 then_ drawnBits else (f_X8_draws length then_ drawnBits u4 (u4 - (1 : Int32)) (u4 - (1 : Int32))).bind (fun r7 => f_X8_findThen_48 length kx80 n r7.1 (u4 + (1 : Int32)) r7.2.1 r7.2.2)
set_option maxHeartbeats 4000000 in
set_option maxRecDepth 100000 in
theorem k_X8_findThen_48 (C : Cx p s m args meth c D (tysW cI cZ cG) RX8 cX8_findThen 5 wsX8_findThen none) (h : Nat) (A : Nat → Nat) (yard : Nat → Int32) (length : Nat → Int32) (holding : Int32) (wool : Int32) (days : Int32) (sights : Int32) (padMany : Int32) (acts : Int32) (drawnMany : Int32) (drawnNow : Int32) (badAct : Int32) (badWhy : Int32) (drawnAct : Int32) (drawnChild : Int32) (keptAt : Int32) (isWriting : Int32) (u1 : Int32)  (kx80 : (Nat → Int32) → Int32 → Option ((Nat → Int32) × Int32)) (res : (Nat → Int32) × Int32) (hkx80 : ∀ (then_ : Nat → Int32) (drawnBits : Int32) , kx80 then_ drawnBits = some res → Wd p l e rm_X8_findThen s m args below meth c D w0 5 0 0 (MQ below (QcV D (tysW cI cZ cG) w0 [(h, oX8 A holding wool days sights padMany acts res.2 drawnMany drawnNow badAct badWhy drawnAct drawnChild keptAt isWriting), ((A 0), aI cI 10 yard), ((A 2), aI cI 9 length), ((A 15), aI cI 10 res.1)] s.heap.size) args s 0 0 (va_A w0 s.heap.size)) [(h, oX8 A holding wool days sights padMany acts drawnBits drawnMany drawnNow badAct badWhy drawnAct drawnChild keptAt isWriting), ((A 0), aI cI 10 yard), ((A 2), aI cI 9 length), ((A 15), aI cI 10 then_)] [(0, .ref h), (1, .int u1)] 80 []) : ∀ (n : Nat) (u3 : Int32) (u4 : Int32) (then_ : Nat → Int32) (drawnBits : Int32), f_X8_findThen_48 length kx80 n u3 u4 then_ drawnBits = some res → Wd p l e rm_X8_findThen s m args below meth c D w0 5 0 0 (MQ below (QcV D (tysW cI cZ cG) w0 [(h, oX8 A holding wool days sights padMany acts res.2 drawnMany drawnNow badAct badWhy drawnAct drawnChild keptAt isWriting), ((A 0), aI cI 10 yard), ((A 2), aI cI 9 length), ((A 15), aI cI 10 res.1)] s.heap.size) args s 0 0 (va_A w0 s.heap.size)) [(h, oX8 A holding wool days sights padMany acts drawnBits drawnMany drawnNow badAct badWhy drawnAct drawnChild keptAt isWriting), ((A 0), aI cI 10 yard), ((A 2), aI cI 9 length), ((A 15), aI cI 10 then_)] [(0, .ref h), (1, .int u1), (3, .int u3), (4, .int u4)] 48 [] := by
  intro n
  induction n with
  | zero =>
    intro u3 u4 then_ drawnBits hf
    exact no_none hf
  | succ n ih =>
    intro u3 u4 then_ drawnBits hf
    unfold f_X8_findThen_48 at hf
    refine r_iload C dX8_findThen_48 3 rfl rfl ?_
    refine r_bipush C dX8_findThen_50 kk_b_10 rfl ?_
    refine r_icmp_ge (tgt := 80) C dX8_findThen_52 rfl rfl (fun c5 => ?_) (fun c5 => ?_)
    · have hf := gd_t c5 hf
      refine r_lv (lv' := [(0, .ref h), (1, .int u1)]) [0, 1] rfl ?_
      exact hkx80 _ _ hf
    · have hf := gd_f c5 hf
      refine r_iload_n C dX8_findThen_55 rfl 2 rfl rfl ?_
      refine r_if_eq (y := 0) (tgt := 80) C dX8_findThen_56 rfl rfl (fun c6 => ?_) (fun c6 => ?_)
      · have hf := gd_t c6 hf
        refine r_lv (lv' := [(0, .ref h), (1, .int u1)]) [0, 1] rfl ?_
        exact hkx80 _ _ hf
      · have hf := gd_f c6 hf
        refine r_aload_n C dX8_findThen_59 rfl 0 rfl rfl ?_
        refine r_iload C dX8_findThen_60 3 rfl rfl ?_
        refine r_iload C dX8_findThen_62 3 rfl rfl ?_
        refine r_iconst C dX8_findThen_64 kk_i_1 rfl ?_
        refine r_isub C dX8_findThen_65 rfl ?_
        refine r_iload C dX8_findThen_66 3 rfl rfl ?_
        refine r_iconst C dX8_findThen_68 kk_i_1 rfl ?_
        refine r_isub C dX8_findThen_69 rfl ?_
        obtain ⟨r7, e7, hf⟩ := gd_b hf
        refine o_I (wn := [(h, oX8 A holding wool days sights padMany acts r7.2.2 drawnMany drawnNow badAct badWhy drawnAct drawnChild keptAt isWriting), ((A 0), aI cI 10 yard), ((A 2), aI cI 9 length), ((A 15), aI cI 10 r7.2.1)]) C [0, 2, 3] rfl (x_V C dX8_findThen_70 (c_X8_draws l D cI cZ cG h A length holding wool days sights padMany acts then_ drawnBits drawnMany drawnNow badAct badWhy drawnAct drawnChild keptAt isWriting u4 (u4 - (1 : Int32)) (u4 - (1 : Int32)) r7 e7) rfl gX8_findThen_X8_draws hd_X8_draws rfl ⟨Nat.le_of_ble_eq_true rfl, Nat.le_of_ble_eq_true rfl⟩ ⟨rfl, rfl⟩ ⟨Nat.zero_le _, Nat.zero_le _⟩ rfl [0, 2, 3] rfl rfl 0 rfl rfl (Nat.le_of_ble_eq_true rfl) rfl) rfl rfl rfl ?_
        refine r_istore_n (lv' := [(3, .int r7.1), (0, .ref h), (1, .int u1), (4, .int u4)]) C dX8_findThen_73 rfl (by decide) rfl rfl ?_
        refine r_iinc (lv' := [(4, .int (u4 + (1 : Int32))), (3, .int r7.1), (0, .ref h), (1, .int u1)]) C dX8_findThen_74 3 rfl (ki_1 _) (by decide) rfl rfl ?_
        refine r_goto (tgt := 48) C dX8_findThen_77 rfl ?_
        refine r_lv (lv' := [(0, .ref h), (1, .int u1), (3, .int r7.1), (4, .int (u4 + (1 : Int32)))]) [2, 3, 1, 0] rfl ?_
        exact ih _ _ _ _ hf
def f_X8_findThen_87 (length : Nat → Int32) : Nat → Int32 → Int32 → (Nat → Int32) → Int32 → Option ((Nat → Int32) × Int32)
  | 0, _, _, _, _ => none
  | n + 1, u3, u4, then_, drawnBits => if u4 < 0 then some (then_, drawnBits) else if u3 = 0 then some (then_, drawnBits) else (f_X8_draws length then_ drawnBits u4 (u4 + (1 : Int32)) u4).bind (fun r12 => f_X8_findThen_87 length n r12.1 (u4 + (-1 : Int32)) r12.2.1 r12.2.2)
set_option maxHeartbeats 4000000 in
set_option maxRecDepth 100000 in
theorem k_X8_findThen_87 (C : Cx p s m args meth c D (tysW cI cZ cG) RX8 cX8_findThen 5 wsX8_findThen none) (h : Nat) (A : Nat → Nat) (yard : Nat → Int32) (length : Nat → Int32) (holding : Int32) (wool : Int32) (days : Int32) (sights : Int32) (padMany : Int32) (acts : Int32) (drawnMany : Int32) (drawnNow : Int32) (badAct : Int32) (badWhy : Int32) (drawnAct : Int32) (drawnChild : Int32) (keptAt : Int32) (isWriting : Int32)  (res : (Nat → Int32) × Int32) : ∀ (n : Nat) (u3 : Int32) (u4 : Int32) (then_ : Nat → Int32) (drawnBits : Int32), f_X8_findThen_87 length n u3 u4 then_ drawnBits = some res → Wd p l e rm_X8_findThen s m args below meth c D w0 5 0 0 (MQ below (QcV D (tysW cI cZ cG) w0 [(h, oX8 A holding wool days sights padMany acts res.2 drawnMany drawnNow badAct badWhy drawnAct drawnChild keptAt isWriting), ((A 0), aI cI 10 yard), ((A 2), aI cI 9 length), ((A 15), aI cI 10 res.1)] s.heap.size) args s 0 0 (va_A w0 s.heap.size)) [(h, oX8 A holding wool days sights padMany acts drawnBits drawnMany drawnNow badAct badWhy drawnAct drawnChild keptAt isWriting), ((A 0), aI cI 10 yard), ((A 2), aI cI 9 length), ((A 15), aI cI 10 then_)] [(0, .ref h), (3, .int u3), (4, .int u4)] 87 [] := by
  intro n
  induction n with
  | zero =>
    intro u3 u4 then_ drawnBits hf
    exact no_none hf
  | succ n ih =>
    intro u3 u4 then_ drawnBits hf
    unfold f_X8_findThen_87 at hf
    refine r_iload C dX8_findThen_87 2 rfl rfl ?_
    refine r_if_lt (y := 0) (tgt := 115) C dX8_findThen_89 rfl rfl (fun c10 => ?_) (fun c10 => ?_)
    · have hf := gd_t c10 hf
      cases hf
      exact r_vret C dX8_findThen_115 rfl
    · have hf := gd_f c10 hf
      refine r_iload_n C dX8_findThen_92 rfl 1 rfl rfl ?_
      refine r_if_eq (y := 0) (tgt := 115) C dX8_findThen_93 rfl rfl (fun c11 => ?_) (fun c11 => ?_)
      · have hf := gd_t c11 hf
        cases hf
        exact r_vret C dX8_findThen_115 rfl
      · have hf := gd_f c11 hf
        refine r_aload_n C dX8_findThen_96 rfl 0 rfl rfl ?_
        refine r_iload C dX8_findThen_97 2 rfl rfl ?_
        refine r_iload C dX8_findThen_99 2 rfl rfl ?_
        refine r_iconst C dX8_findThen_101 kk_i_1 rfl ?_
        refine r_iadd C dX8_findThen_102 rfl ?_
        refine r_iload C dX8_findThen_103 2 rfl rfl ?_
        obtain ⟨r12, e12, hf⟩ := gd_b hf
        refine o_I (wn := [(h, oX8 A holding wool days sights padMany acts r12.2.2 drawnMany drawnNow badAct badWhy drawnAct drawnChild keptAt isWriting), ((A 0), aI cI 10 yard), ((A 2), aI cI 9 length), ((A 15), aI cI 10 r12.2.1)]) C [0, 2, 3] rfl (x_V C dX8_findThen_105 (c_X8_draws l D cI cZ cG h A length holding wool days sights padMany acts then_ drawnBits drawnMany drawnNow badAct badWhy drawnAct drawnChild keptAt isWriting u4 (u4 + (1 : Int32)) u4 r12 e12) rfl gX8_findThen_X8_draws hd_X8_draws rfl ⟨Nat.le_of_ble_eq_true rfl, Nat.le_of_ble_eq_true rfl⟩ ⟨rfl, rfl⟩ ⟨Nat.zero_le _, Nat.zero_le _⟩ rfl [0, 2, 3] rfl rfl 0 rfl rfl (Nat.le_of_ble_eq_true rfl) rfl) rfl rfl rfl ?_
        refine r_istore_n (lv' := [(3, .int r12.1), (0, .ref h), (4, .int u4)]) C dX8_findThen_108 rfl (by decide) rfl rfl ?_
        refine r_iinc (lv' := [(4, .int (u4 + (-1 : Int32))), (3, .int r12.1), (0, .ref h)]) C dX8_findThen_109 2 rfl (ki_m1 _) (by decide) rfl rfl ?_
        refine r_goto (tgt := 87) C dX8_findThen_112 rfl ?_
        refine r_lv (lv' := [(0, .ref h), (3, .int r12.1), (4, .int (u4 + (-1 : Int32)))]) [2, 1, 0] rfl ?_
        exact ih _ _ _ _ hf
def f_X8_findThen (yard : Nat → Int32) (length : Nat → Int32) (then_ : Nat → Int32) (drawnBits : Int32) (u1 : Int32) (u2 : Int32) : Option ((Nat → Int32) × Int32) := f_X8_findThen_2 yard (fun then__3 => if u1 < 0 ∨ 10 ≤ u1.toNatClampNeg then none else f_X8_findThen_48 length (fun then__8 drawnBits_9 => f_X8_findThen_87 length 2000 (1 : Int32) (u1 - (1 : Int32)) then__8 drawnBits_9) 2000 (1 : Int32) (u1 + (1 : Int32)) (upd then__3 u1.toNatClampNeg ((then__3 u1.toNatClampNeg) + u2)) (0 : Int32)) 2000 (0 : Int32) then_
set_option maxHeartbeats 4000000 in
set_option maxRecDepth 100000 in
theorem c_X8_findThen (l : Launch) (D : va_G) (cI cZ cG : ClassId) (h : Nat) (A : Nat → Nat) (yard : Nat → Int32) (length : Nat → Int32) (holding : Int32) (wool : Int32) (days : Int32) (sights : Int32) (padMany : Int32) (acts : Int32) (then_ : Nat → Int32) (drawnBits : Int32) (drawnMany : Int32) (drawnNow : Int32) (badAct : Int32) (badWhy : Int32) (drawnAct : Int32) (drawnChild : Int32) (keptAt : Int32) (isWriting : Int32) (u1 : Int32) (u2 : Int32) (res : (Nat → Int32) × Int32) (hf : f_X8_findThen yard length then_ drawnBits u1 u2 = some res) : CV l D (tysW cI cZ cG) yX8_findThen wsX8_findThen rm_X8_findThen [.ref h, .int u1, .int u2] [(h, oX8 A holding wool days sights padMany acts drawnBits drawnMany drawnNow badAct badWhy drawnAct drawnChild keptAt isWriting), ((A 0), aI cI 10 yard), ((A 2), aI cI 9 length), ((A 15), aI cI 10 then_)] [(h, oX8 A holding wool days sights padMany acts res.2 drawnMany drawnNow badAct badWhy drawnAct drawnChild keptAt isWriting), ((A 0), aI cI 10 yard), ((A 2), aI cI 9 length), ((A 15), aI cI 10 res.1)] := by
  refine CG.intro (own := RX8) (by decide +kernel) rfl rfl (Nat.le_of_ble_eq_true rfl) (fun p e s m args below meth c C => ?_)
  refine r_lv (lv' := [(0, .ref h), (1, .int u1), (2, .int u2)]) [0, 1, 2] rfl ?_
  unfold f_X8_findThen at hf
  refine r_iconst C dX8_findThen_0 kk_i_0 rfl ?_
  refine r_istore_n (lv' := [(3, .int (0 : Int32)), (0, .ref h), (1, .int u1), (2, .int u2)]) C dX8_findThen_1 rfl (by decide) rfl rfl ?_
  refine r_lv (lv' := [(0, .ref h), (1, .int u1), (2, .int u2), (3, .int (0 : Int32))]) [1, 2, 3, 0] rfl ?_
  refine k_X8_findThen_2 C h A yard length holding wool days sights padMany acts drawnBits drawnMany drawnNow badAct badWhy drawnAct drawnChild keptAt isWriting u1 u2 _ _ ?_ 2000 _ _ hf
  · intro then__3 hf
    refine r_aload_n C dX8_findThen_26 rfl 0 rfl rfl ?_
    refine r_iconst C dX8_findThen_27 kk_i_0 rfl ?_
    refine r_put (ty := .int) (ws' := [(h, oX8 A holding wool days sights padMany acts (0 : Int32) drawnMany drawnNow badAct badWhy drawnAct drawnChild keptAt isWriting), ((A 0), aI cI 10 yard), ((A 2), aI cI 9 length), ((A 15), aI cI 10 then__3)]) C dX8_findThen_28 fw_X8_findThen_X8 tyX8 tyX8_ok nmX8 0 rfl rfl 16 (by decide) rfl fl_X8_findThen_142 rfl (by decide +kernel) rfl rfl (Nat.le_of_ble_eq_true rfl) rfl rfl ?_
    refine r_aload_n C dX8_findThen_31 rfl 0 rfl rfl ?_
    refine r_get C dX8_findThen_32 fw_X8_findThen_X8 0 rfl rfl 15 (by decide) rfl fl_X8_findThen_37 rfl rfl ?_
    refine r_iload_n C dX8_findThen_35 rfl 1 rfl rfl ?_
    refine r_dup2 C dX8_findThen_36 rfl rfl rfl ?_
    obtain ⟨g4, hf⟩ := gd_n hf
    refine r_iald C dX8_findThen_37 3 0 rfl rfl g4 rfl ?_
    refine r_iload_n C dX8_findThen_38 rfl 2 rfl rfl ?_
    refine r_iadd C dX8_findThen_39 rfl ?_
    refine r_iast (ws' := [(h, oX8 A holding wool days sights padMany acts (0 : Int32) drawnMany drawnNow badAct badWhy drawnAct drawnChild keptAt isWriting), ((A 0), aI cI 10 yard), ((A 2), aI cI 9 length), ((A 15), aI cI 10 (upd then__3 u1.toNatClampNeg ((then__3 u1.toNatClampNeg) + u2)))]) C dX8_findThen_40 3 0 rfl rfl g4 rfl rfl ?_
    refine r_iconst C dX8_findThen_41 kk_i_1 rfl ?_
    refine r_istore_n (lv' := [(3, .int (1 : Int32)), (0, .ref h), (1, .int u1), (2, .int u2)]) C dX8_findThen_42 rfl (by decide) rfl rfl ?_
    refine r_iload_n C dX8_findThen_43 rfl 2 rfl rfl ?_
    refine r_iconst C dX8_findThen_44 kk_i_1 rfl ?_
    refine r_iadd C dX8_findThen_45 rfl ?_
    refine r_istore (lv' := [(4, .int (u1 + (1 : Int32))), (3, .int (1 : Int32)), (0, .ref h), (1, .int u1), (2, .int u2)]) C dX8_findThen_46 (by decide) rfl rfl ?_
    refine r_lv (lv' := [(0, .ref h), (1, .int u1), (3, .int (1 : Int32)), (4, .int (u1 + (1 : Int32)))]) [2, 3, 1, 0] rfl ?_
    refine k_X8_findThen_48 C h A yard length holding wool days sights padMany acts drawnMany drawnNow badAct badWhy drawnAct drawnChild keptAt isWriting u1 _ _ ?_ 2000 _ _ _ _ hf
    · intro then__8 drawnBits_9 hf
      refine r_iconst C dX8_findThen_80 kk_i_1 rfl ?_
      refine r_istore_n (lv' := [(3, .int (1 : Int32)), (0, .ref h), (1, .int u1)]) C dX8_findThen_81 rfl (by decide) rfl rfl ?_
      refine r_iload_n C dX8_findThen_82 rfl 2 rfl rfl ?_
      refine r_iconst C dX8_findThen_83 kk_i_1 rfl ?_
      refine r_isub C dX8_findThen_84 rfl ?_
      refine r_istore (lv' := [(4, .int (u1 - (1 : Int32))), (3, .int (1 : Int32)), (0, .ref h), (1, .int u1)]) C dX8_findThen_85 (by decide) rfl rfl ?_
      refine r_lv (lv' := [(0, .ref h), (3, .int (1 : Int32)), (4, .int (u1 - (1 : Int32)))]) [2, 1, 0] rfl ?_
      refine k_X8_findThen_87 C h A yard length holding wool days sights padMany acts drawnMany drawnNow badAct badWhy drawnAct drawnChild keptAt isWriting _ 2000 _ _ _ _ hf
theorem fw_X8_whyNotGo_X8 : ∀ w ∈ u_ws RX8 TX8 37, w ∈ wsX8_whyNotGo := by decide +kernel
theorem fl_X8_whyNotGo_7 : Cond.fieldLink RX8 7 "MittenLineModel" "yard" "[I" ∈ wsX8_whyNotGo := by decide +kernel
theorem wc_X8_whyNotGo_95 : Cond.constantLong RX8 95 (999 : Int64) ∈ wsX8_whyNotGo := by decide +kernel
theorem fl_X8_whyNotGo_101 : Cond.fieldLink RX8 101 "MittenLineModel" "holding" "I" ∈ wsX8_whyNotGo := by decide +kernel
theorem fl_X8_whyNotGo_142 : Cond.fieldLink RX8 142 "MittenLineModel" "drawnBits" "I" ∈ wsX8_whyNotGo := by decide +kernel
abbrev rm_X8_whyNotGo : Jvm.Room := { frames := 3, cells := 0, slots := 0, locals := 68 }
def f_X8_whyNotGo (yard : Nat → Int32) (length : Nat → Int32) (holding : Int32) (then_ : Nat → Int32) (drawnBits : Int32) (u1 : Int32) (u2 : Int32) : Option (Int32 × (Nat → Int32) × Int32) := if u1 < 0 ∨ 10 ≤ u1.toNatClampNeg then none else (f_X8_in ((yard u1.toNatClampNeg) + u2).toInt64 (0 : Int64) (999 : Int64)).bind (fun r2 => if r2 = 0 then some ((1 : Int32), then_, drawnBits) else (f_X8_findThen yard length then_ drawnBits u1 u2).bind (fun r4 => (f_X8_has holding u1).bind (fun r5 => if r5 = 0 then if (r4.2 &&& holding) = 0 then some ((0 : Int32), r4.1, r4.2) else some ((2 : Int32), r4.1, r4.2) else some ((2 : Int32), r4.1, r4.2))))
set_option maxHeartbeats 4000000 in
set_option maxRecDepth 100000 in
theorem c_X8_whyNotGo (l : Launch) (D : va_G) (cI cZ cG : ClassId) (h : Nat) (A : Nat → Nat) (yard : Nat → Int32) (length : Nat → Int32) (holding : Int32) (wool : Int32) (days : Int32) (sights : Int32) (padMany : Int32) (acts : Int32) (then_ : Nat → Int32) (drawnBits : Int32) (drawnMany : Int32) (drawnNow : Int32) (badAct : Int32) (badWhy : Int32) (drawnAct : Int32) (drawnChild : Int32) (keptAt : Int32) (isWriting : Int32) (u1 : Int32) (u2 : Int32) (res : Int32 × (Nat → Int32) × Int32) (hf : f_X8_whyNotGo yard length holding then_ drawnBits u1 u2 = some res) : CI l D (tysW cI cZ cG) yX8_whyNotGo wsX8_whyNotGo rm_X8_whyNotGo [.ref h, .int u1, .int u2] [(h, oX8 A holding wool days sights padMany acts drawnBits drawnMany drawnNow badAct badWhy drawnAct drawnChild keptAt isWriting), ((A 0), aI cI 10 yard), ((A 2), aI cI 9 length), ((A 15), aI cI 10 then_)] res.1 [(h, oX8 A holding wool days sights padMany acts res.2.2 drawnMany drawnNow badAct badWhy drawnAct drawnChild keptAt isWriting), ((A 0), aI cI 10 yard), ((A 2), aI cI 9 length), ((A 15), aI cI 10 res.2.1)] := by
  refine CG.intro (own := RX8) (by decide +kernel) rfl rfl (Nat.le_of_ble_eq_true rfl) (fun p e s m args below meth c C => ?_)
  refine r_lv (lv' := [(0, .ref h), (1, .int u1), (2, .int u2)]) [0, 1, 2] rfl ?_
  unfold f_X8_whyNotGo at hf
  refine r_aload_n C dX8_whyNotGo_0 rfl 0 rfl rfl ?_
  refine r_get C dX8_whyNotGo_1 fw_X8_whyNotGo_X8 0 rfl rfl 0 (by decide) rfl fl_X8_whyNotGo_7 rfl rfl ?_
  refine r_iload_n C dX8_whyNotGo_4 rfl 1 rfl rfl ?_
  obtain ⟨g1, hf⟩ := gd_n hf
  refine r_iald C dX8_whyNotGo_5 1 0 rfl rfl g1 rfl ?_
  refine r_iload_n C dX8_whyNotGo_6 rfl 2 rfl rfl ?_
  refine r_iadd C dX8_whyNotGo_7 rfl ?_
  refine r_i2l C dX8_whyNotGo_8 rfl ?_
  refine r_lconst (v := (0 : Int64)) C dX8_whyNotGo_9 rfl rfl ?_
  refine r_ldc2 C dX8_whyNotGo_10 wc_X8_whyNotGo_95 rfl ?_
  obtain ⟨r2, e2, hf⟩ := gd_b hf
  refine o_I (wn := [(h, oX8 A holding wool days sights padMany acts drawnBits drawnMany drawnNow badAct badWhy drawnAct drawnChild keptAt isWriting), ((A 0), aI cI 10 yard), ((A 2), aI cI 9 length), ((A 15), aI cI 10 then_)]) C [] rfl (x_S C dX8_whyNotGo_13 (c_X8_in l D cI cZ cG ((yard u1.toNatClampNeg) + u2).toInt64 (0 : Int64) (999 : Int64) r2 e2) rfl gX8_whyNotGo_X8_in hs_X8_in rfl ⟨Nat.le_of_ble_eq_true rfl, Nat.le_of_ble_eq_true rfl⟩ ⟨rfl, rfl⟩ ⟨Nat.zero_le _, Nat.zero_le _⟩ rfl [] rfl rfl (Nat.le_of_ble_eq_true rfl) rfl) rfl rfl rfl ?_
  refine r_if_ne (y := 0) (tgt := 21) C dX8_whyNotGo_16 rfl rfl (fun c3 => ?_) (fun c3 => ?_)
  · have hf := gd_f c3 hf
    refine r_aload_n C dX8_whyNotGo_21 rfl 0 rfl rfl ?_
    refine r_iload_n C dX8_whyNotGo_22 rfl 1 rfl rfl ?_
    refine r_iload_n C dX8_whyNotGo_23 rfl 2 rfl rfl ?_
    obtain ⟨r4, e4, hf⟩ := gd_b hf
    refine o_V (wn := [(h, oX8 A holding wool days sights padMany acts r4.2 drawnMany drawnNow badAct badWhy drawnAct drawnChild keptAt isWriting), ((A 0), aI cI 10 yard), ((A 2), aI cI 9 length), ((A 15), aI cI 10 r4.1)]) C [0, 1, 2, 3] rfl (x_V C dX8_whyNotGo_24 (c_X8_findThen l D cI cZ cG h A yard length holding wool days sights padMany acts then_ drawnBits drawnMany drawnNow badAct badWhy drawnAct drawnChild keptAt isWriting u1 u2 r4 e4) rfl gX8_whyNotGo_X8_findThen hd_X8_findThen rfl ⟨Nat.le_of_ble_eq_true rfl, Nat.le_of_ble_eq_true rfl⟩ ⟨rfl, rfl⟩ ⟨Nat.zero_le _, Nat.zero_le _⟩ rfl [0, 1, 2, 3] rfl rfl 0 rfl rfl (Nat.le_of_ble_eq_true rfl) rfl) rfl rfl rfl ?_
    refine r_aload_n C dX8_whyNotGo_27 rfl 0 rfl rfl ?_
    refine r_get C dX8_whyNotGo_28 fw_X8_whyNotGo_X8 0 rfl rfl 3 (by decide) rfl fl_X8_whyNotGo_101 rfl rfl ?_
    refine r_iload_n C dX8_whyNotGo_31 rfl 1 rfl rfl ?_
    obtain ⟨r5, e5, hf⟩ := gd_b hf
    refine o_I (wn := [(h, oX8 A holding wool days sights padMany acts r4.2 drawnMany drawnNow badAct badWhy drawnAct drawnChild keptAt isWriting), ((A 0), aI cI 10 yard), ((A 2), aI cI 9 length), ((A 15), aI cI 10 r4.1)]) C [] rfl (x_S C dX8_whyNotGo_32 (c_X8_has l D cI cZ cG holding u1 r5 e5) rfl gX8_whyNotGo_X8_has hs_X8_has rfl ⟨Nat.le_of_ble_eq_true rfl, Nat.le_of_ble_eq_true rfl⟩ ⟨rfl, rfl⟩ ⟨Nat.zero_le _, Nat.zero_le _⟩ rfl [] rfl rfl (Nat.le_of_ble_eq_true rfl) rfl) rfl rfl rfl ?_
    refine r_if_ne (y := 0) (tgt := 50) C dX8_whyNotGo_35 rfl rfl (fun c6 => ?_) (fun c6 => ?_)
    · have hf := gd_f c6 hf
      refine r_iconst C dX8_whyNotGo_50 kk_i_2 rfl ?_
      refine r_goto (tgt := 55) C dX8_whyNotGo_51 rfl ?_
      cases hf
      exact r_iret C dX8_whyNotGo_55 rfl
    · have hf := gd_t c6 hf
      refine r_aload_n C dX8_whyNotGo_38 rfl 0 rfl rfl ?_
      refine r_get C dX8_whyNotGo_39 fw_X8_whyNotGo_X8 0 rfl rfl 16 (by decide) rfl fl_X8_whyNotGo_142 rfl rfl ?_
      refine r_aload_n C dX8_whyNotGo_42 rfl 0 rfl rfl ?_
      refine r_get C dX8_whyNotGo_43 fw_X8_whyNotGo_X8 0 rfl rfl 3 (by decide) rfl fl_X8_whyNotGo_101 rfl rfl ?_
      refine r_iand C dX8_whyNotGo_46 rfl ?_
      refine r_if_eq (y := 0) (tgt := 54) C dX8_whyNotGo_47 rfl rfl (fun c7 => ?_) (fun c7 => ?_)
      · have hf := gd_t c7 hf
        refine r_iconst C dX8_whyNotGo_54 kk_i_0 rfl ?_
        cases hf
        exact r_iret C dX8_whyNotGo_55 rfl
      · have hf := gd_f c7 hf
        refine r_iconst C dX8_whyNotGo_50 kk_i_2 rfl ?_
        refine r_goto (tgt := 55) C dX8_whyNotGo_51 rfl ?_
        cases hf
        exact r_iret C dX8_whyNotGo_55 rfl
  · have hf := gd_t c3 hf
    refine r_iconst C dX8_whyNotGo_19 kk_i_1 rfl ?_
    cases hf
    exact r_iret C dX8_whyNotGo_20 rfl
theorem fw_X8_isTaut_X8 : ∀ w ∈ u_ws RX8 TX8 37, w ∈ wsX8_isTaut := by decide +kernel
theorem fl_X8_isTaut_7 : Cond.fieldLink RX8 7 "MittenLineModel" "yard" "[I" ∈ wsX8_isTaut := by decide +kernel
theorem fl_X8_isTaut_16 : Cond.fieldLink RX8 16 "MittenLineModel" "length" "[I" ∈ wsX8_isTaut := by decide +kernel
abbrev rm_X8_isTaut : Jvm.Room := { frames := 1, cells := 0, slots := 0, locals := 21 }
def f_X8_isTaut (yard : Nat → Int32) (length : Nat → Int32) (u1 : Int32) : Option (Int32) := if u1 < 0 ∨ 10 ≤ u1.toNatClampNeg then none else if (u1 + (1 : Int32)) < 0 ∨ 10 ≤ (u1 + (1 : Int32)).toNatClampNeg then none else (f_X8_off (yard u1.toNatClampNeg) (yard (u1 + (1 : Int32)).toNatClampNeg)).bind (fun r3 => if u1 < 0 ∨ 9 ≤ u1.toNatClampNeg then none else if r3 = (length u1.toNatClampNeg) then some ((1 : Int32)) else some ((0 : Int32)))
set_option maxHeartbeats 4000000 in
set_option maxRecDepth 100000 in
theorem c_X8_isTaut (l : Launch) (D : va_G) (cI cZ cG : ClassId) (h : Nat) (A : Nat → Nat) (yard : Nat → Int32) (length : Nat → Int32) (holding : Int32) (wool : Int32) (days : Int32) (sights : Int32) (padMany : Int32) (acts : Int32) (drawnBits : Int32) (drawnMany : Int32) (drawnNow : Int32) (badAct : Int32) (badWhy : Int32) (drawnAct : Int32) (drawnChild : Int32) (keptAt : Int32) (isWriting : Int32) (u1 : Int32) (res : Int32) (hf : f_X8_isTaut yard length u1 = some res) : CI l D (tysW cI cZ cG) yX8_isTaut wsX8_isTaut rm_X8_isTaut [.ref h, .int u1] [(h, oX8 A holding wool days sights padMany acts drawnBits drawnMany drawnNow badAct badWhy drawnAct drawnChild keptAt isWriting), ((A 0), aI cI 10 yard), ((A 2), aI cI 9 length)] res [(h, oX8 A holding wool days sights padMany acts drawnBits drawnMany drawnNow badAct badWhy drawnAct drawnChild keptAt isWriting), ((A 0), aI cI 10 yard), ((A 2), aI cI 9 length)] := by
  refine CG.intro (own := RX8) (by decide +kernel) rfl rfl (Nat.le_of_ble_eq_true rfl) (fun p e s m args below meth c C => ?_)
  refine r_lv (lv' := [(0, .ref h), (1, .int u1)]) [0, 1] rfl ?_
  unfold f_X8_isTaut at hf
  refine r_aload_n C dX8_isTaut_0 rfl 0 rfl rfl ?_
  refine r_get C dX8_isTaut_1 fw_X8_isTaut_X8 0 rfl rfl 0 (by decide) rfl fl_X8_isTaut_7 rfl rfl ?_
  refine r_iload_n C dX8_isTaut_4 rfl 1 rfl rfl ?_
  obtain ⟨g1, hf⟩ := gd_n hf
  refine r_iald C dX8_isTaut_5 1 0 rfl rfl g1 rfl ?_
  refine r_aload_n C dX8_isTaut_6 rfl 0 rfl rfl ?_
  refine r_get C dX8_isTaut_7 fw_X8_isTaut_X8 0 rfl rfl 0 (by decide) rfl fl_X8_isTaut_7 rfl rfl ?_
  refine r_iload_n C dX8_isTaut_10 rfl 1 rfl rfl ?_
  refine r_iconst C dX8_isTaut_11 kk_i_1 rfl ?_
  refine r_iadd C dX8_isTaut_12 rfl ?_
  obtain ⟨g2, hf⟩ := gd_n hf
  refine r_iald C dX8_isTaut_13 1 0 rfl rfl g2 rfl ?_
  obtain ⟨r3, e3, hf⟩ := gd_b hf
  refine o_I (wn := [(h, oX8 A holding wool days sights padMany acts drawnBits drawnMany drawnNow badAct badWhy drawnAct drawnChild keptAt isWriting), ((A 0), aI cI 10 yard), ((A 2), aI cI 9 length)]) C [] rfl (x_S C dX8_isTaut_14 (c_X8_off l D cI cZ cG (yard u1.toNatClampNeg) (yard (u1 + (1 : Int32)).toNatClampNeg) r3 e3) rfl gX8_isTaut_X8_off hs_X8_off rfl ⟨Nat.le_of_ble_eq_true rfl, Nat.le_of_ble_eq_true rfl⟩ ⟨rfl, rfl⟩ ⟨Nat.zero_le _, Nat.zero_le _⟩ rfl [] rfl rfl (Nat.le_of_ble_eq_true rfl) rfl) rfl rfl rfl ?_
  refine r_aload_n C dX8_isTaut_17 rfl 0 rfl rfl ?_
  refine r_get C dX8_isTaut_18 fw_X8_isTaut_X8 0 rfl rfl 2 (by decide) rfl fl_X8_isTaut_16 rfl rfl ?_
  refine r_iload_n C dX8_isTaut_21 rfl 1 rfl rfl ?_
  obtain ⟨g4, hf⟩ := gd_n hf
  refine r_iald C dX8_isTaut_22 2 0 rfl rfl g4 rfl ?_
  refine r_icmp_ne (tgt := 30) C dX8_isTaut_23 rfl rfl (fun c5 => ?_) (fun c5 => ?_)
  · have hf := gd_f c5 hf
    refine r_iconst C dX8_isTaut_30 kk_i_0 rfl ?_
    cases hf
    exact r_zret C dX8_isTaut_31 nb0 rfl
  · have hf := gd_t c5 hf
    refine r_iconst C dX8_isTaut_26 kk_i_1 rfl ?_
    refine r_goto (tgt := 31) C dX8_isTaut_27 rfl ?_
    cases hf
    exact r_zret C dX8_isTaut_31 nb1 rfl
theorem fw_X8_whyNotLet_X8 : ∀ w ∈ u_ws RX8 TX8 37, w ∈ wsX8_whyNotLet := by decide +kernel
theorem fl_X8_whyNotLet_77 : Cond.fieldLink RX8 77 "MittenLineModel" "wool" "I" ∈ wsX8_whyNotLet := by decide +kernel
theorem fl_X8_whyNotLet_16 : Cond.fieldLink RX8 16 "MittenLineModel" "length" "[I" ∈ wsX8_whyNotLet := by decide +kernel
abbrev rm_X8_whyNotLet : Jvm.Room := { frames := 0, cells := 0, slots := 0, locals := 0 }
def f_X8_whyNotLet (length : Nat → Int32) (wool : Int32) (u1 : Int32) : Option (Int32) := if u1 = (9 : Int32) then some ((3 : Int32)) else if wool = 0 then some ((4 : Int32)) else if u1 < 0 ∨ 9 ≤ u1.toNatClampNeg then none else if (length u1.toNatClampNeg) = (99 : Int32) then some ((5 : Int32)) else some ((0 : Int32))
set_option maxHeartbeats 4000000 in
set_option maxRecDepth 100000 in
theorem c_X8_whyNotLet (l : Launch) (D : va_G) (cI cZ cG : ClassId) (h : Nat) (A : Nat → Nat) (length : Nat → Int32) (holding : Int32) (wool : Int32) (days : Int32) (sights : Int32) (padMany : Int32) (acts : Int32) (drawnBits : Int32) (drawnMany : Int32) (drawnNow : Int32) (badAct : Int32) (badWhy : Int32) (drawnAct : Int32) (drawnChild : Int32) (keptAt : Int32) (isWriting : Int32) (u1 : Int32) (res : Int32) (hf : f_X8_whyNotLet length wool u1 = some res) : CI l D (tysW cI cZ cG) yX8_whyNotLet wsX8_whyNotLet rm_X8_whyNotLet [.ref h, .int u1] [(h, oX8 A holding wool days sights padMany acts drawnBits drawnMany drawnNow badAct badWhy drawnAct drawnChild keptAt isWriting), ((A 2), aI cI 9 length)] res [(h, oX8 A holding wool days sights padMany acts drawnBits drawnMany drawnNow badAct badWhy drawnAct drawnChild keptAt isWriting), ((A 2), aI cI 9 length)] := by
  refine CG.intro (own := RX8) (by decide +kernel) rfl rfl (Nat.le_of_ble_eq_true rfl) (fun p e s m args below meth c C => ?_)
  refine r_lv (lv' := [(0, .ref h), (1, .int u1)]) [0, 1] rfl ?_
  unfold f_X8_whyNotLet at hf
  refine r_iload_n C dX8_whyNotLet_0 rfl 1 rfl rfl ?_
  refine r_bipush C dX8_whyNotLet_1 kk_b_9 rfl ?_
  refine r_icmp_ne (tgt := 10) C dX8_whyNotLet_3 rfl rfl (fun c1 => ?_) (fun c1 => ?_)
  · have hf := gd_f c1 hf
    refine r_aload_n C dX8_whyNotLet_10 rfl 0 rfl rfl ?_
    refine r_get C dX8_whyNotLet_11 fw_X8_whyNotLet_X8 0 rfl rfl 4 (by decide) rfl fl_X8_whyNotLet_77 rfl rfl ?_
    refine r_if_ne (y := 0) (tgt := 21) C dX8_whyNotLet_14 rfl rfl (fun c2 => ?_) (fun c2 => ?_)
    · have hf := gd_f c2 hf
      refine r_aload_n C dX8_whyNotLet_21 rfl 0 rfl rfl ?_
      refine r_get C dX8_whyNotLet_22 fw_X8_whyNotLet_X8 0 rfl rfl 2 (by decide) rfl fl_X8_whyNotLet_16 rfl rfl ?_
      refine r_iload_n C dX8_whyNotLet_25 rfl 1 rfl rfl ?_
      obtain ⟨g3, hf⟩ := gd_n hf
      refine r_iald C dX8_whyNotLet_26 1 0 rfl rfl g3 rfl ?_
      refine r_bipush C dX8_whyNotLet_27 kk_b_99 rfl ?_
      refine r_icmp_ne (tgt := 36) C dX8_whyNotLet_29 rfl rfl (fun c4 => ?_) (fun c4 => ?_)
      · have hf := gd_f c4 hf
        refine r_iconst C dX8_whyNotLet_36 kk_i_0 rfl ?_
        cases hf
        exact r_iret C dX8_whyNotLet_37 rfl
      · have hf := gd_t c4 hf
        refine r_iconst C dX8_whyNotLet_32 kk_i_5 rfl ?_
        refine r_goto (tgt := 37) C dX8_whyNotLet_33 rfl ?_
        cases hf
        exact r_iret C dX8_whyNotLet_37 rfl
    · have hf := gd_t c2 hf
      refine r_iconst C dX8_whyNotLet_17 kk_i_4 rfl ?_
      refine r_goto (tgt := 37) C dX8_whyNotLet_18 rfl ?_
      cases hf
      exact r_iret C dX8_whyNotLet_37 rfl
  · have hf := gd_t c1 hf
    refine r_iconst C dX8_whyNotLet_6 kk_i_3 rfl ?_
    refine r_goto (tgt := 37) C dX8_whyNotLet_7 rfl ?_
    cases hf
    exact r_iret C dX8_whyNotLet_37 rfl
theorem fw_X8_whyNotTake_X8 : ∀ w ∈ u_ws RX8 TX8 37, w ∈ wsX8_whyNotTake := by decide +kernel
theorem fl_X8_whyNotTake_16 : Cond.fieldLink RX8 16 "MittenLineModel" "length" "[I" ∈ wsX8_whyNotTake := by decide +kernel
abbrev rm_X8_whyNotTake : Jvm.Room := { frames := 2, cells := 0, slots := 0, locals := 42 }
def f_X8_whyNotTake (yard : Nat → Int32) (length : Nat → Int32) (u1 : Int32) : Option (Int32) := if u1 = (9 : Int32) then some ((3 : Int32)) else (f_X8_isTaut yard length u1).bind (fun r2 => if r2 = 0 then if u1 < 0 ∨ 9 ≤ u1.toNatClampNeg then none else if (length u1.toNatClampNeg) = (1 : Int32) then some ((5 : Int32)) else some ((0 : Int32)) else some ((5 : Int32)))
set_option maxHeartbeats 4000000 in
set_option maxRecDepth 100000 in
theorem c_X8_whyNotTake (l : Launch) (D : va_G) (cI cZ cG : ClassId) (h : Nat) (A : Nat → Nat) (yard : Nat → Int32) (length : Nat → Int32) (holding : Int32) (wool : Int32) (days : Int32) (sights : Int32) (padMany : Int32) (acts : Int32) (drawnBits : Int32) (drawnMany : Int32) (drawnNow : Int32) (badAct : Int32) (badWhy : Int32) (drawnAct : Int32) (drawnChild : Int32) (keptAt : Int32) (isWriting : Int32) (u1 : Int32) (res : Int32) (hf : f_X8_whyNotTake yard length u1 = some res) : CI l D (tysW cI cZ cG) yX8_whyNotTake wsX8_whyNotTake rm_X8_whyNotTake [.ref h, .int u1] [(h, oX8 A holding wool days sights padMany acts drawnBits drawnMany drawnNow badAct badWhy drawnAct drawnChild keptAt isWriting), ((A 0), aI cI 10 yard), ((A 2), aI cI 9 length)] res [(h, oX8 A holding wool days sights padMany acts drawnBits drawnMany drawnNow badAct badWhy drawnAct drawnChild keptAt isWriting), ((A 0), aI cI 10 yard), ((A 2), aI cI 9 length)] := by
  refine CG.intro (own := RX8) (by decide +kernel) rfl rfl (Nat.le_of_ble_eq_true rfl) (fun p e s m args below meth c C => ?_)
  refine r_lv (lv' := [(0, .ref h), (1, .int u1)]) [0, 1] rfl ?_
  unfold f_X8_whyNotTake at hf
  refine r_iload_n C dX8_whyNotTake_0 rfl 1 rfl rfl ?_
  refine r_bipush C dX8_whyNotTake_1 kk_b_9 rfl ?_
  refine r_icmp_ne (tgt := 10) C dX8_whyNotTake_3 rfl rfl (fun c1 => ?_) (fun c1 => ?_)
  · have hf := gd_f c1 hf
    refine r_aload_n C dX8_whyNotTake_10 rfl 0 rfl rfl ?_
    refine r_iload_n C dX8_whyNotTake_11 rfl 1 rfl rfl ?_
    obtain ⟨r2, e2, hf⟩ := gd_b hf
    refine o_I (wn := [(h, oX8 A holding wool days sights padMany acts drawnBits drawnMany drawnNow badAct badWhy drawnAct drawnChild keptAt isWriting), ((A 0), aI cI 10 yard), ((A 2), aI cI 9 length)]) C [0, 1, 2] rfl (x_V C dX8_whyNotTake_12 (c_X8_isTaut l D cI cZ cG h A yard length holding wool days sights padMany acts drawnBits drawnMany drawnNow badAct badWhy drawnAct drawnChild keptAt isWriting u1 r2 e2) rfl gX8_whyNotTake_X8_isTaut hd_X8_isTaut rfl ⟨Nat.le_of_ble_eq_true rfl, Nat.le_of_ble_eq_true rfl⟩ ⟨rfl, rfl⟩ ⟨Nat.zero_le _, Nat.zero_le _⟩ rfl [0, 1, 2] rfl rfl 0 rfl rfl (Nat.le_of_ble_eq_true rfl) rfl) rfl rfl rfl ?_
    refine r_if_ne (y := 0) (tgt := 28) C dX8_whyNotTake_15 rfl rfl (fun c3 => ?_) (fun c3 => ?_)
    · have hf := gd_f c3 hf
      refine r_iconst C dX8_whyNotTake_28 kk_i_5 rfl ?_
      refine r_goto (tgt := 33) C dX8_whyNotTake_29 rfl ?_
      cases hf
      exact r_iret C dX8_whyNotTake_33 rfl
    · have hf := gd_t c3 hf
      refine r_aload_n C dX8_whyNotTake_18 rfl 0 rfl rfl ?_
      refine r_get C dX8_whyNotTake_19 fw_X8_whyNotTake_X8 0 rfl rfl 2 (by decide) rfl fl_X8_whyNotTake_16 rfl rfl ?_
      refine r_iload_n C dX8_whyNotTake_22 rfl 1 rfl rfl ?_
      obtain ⟨g4, hf⟩ := gd_n hf
      refine r_iald C dX8_whyNotTake_23 2 0 rfl rfl g4 rfl ?_
      refine r_iconst C dX8_whyNotTake_24 kk_i_1 rfl ?_
      refine r_icmp_ne (tgt := 32) C dX8_whyNotTake_25 rfl rfl (fun c5 => ?_) (fun c5 => ?_)
      · have hf := gd_f c5 hf
        refine r_iconst C dX8_whyNotTake_32 kk_i_0 rfl ?_
        cases hf
        exact r_iret C dX8_whyNotTake_33 rfl
      · have hf := gd_t c5 hf
        refine r_iconst C dX8_whyNotTake_28 kk_i_5 rfl ?_
        refine r_goto (tgt := 33) C dX8_whyNotTake_29 rfl ?_
        cases hf
        exact r_iret C dX8_whyNotTake_33 rfl
  · have hf := gd_t c1 hf
    refine r_iconst C dX8_whyNotTake_6 kk_i_3 rfl ?_
    refine r_goto (tgt := 33) C dX8_whyNotTake_7 rfl ?_
    cases hf
    exact r_iret C dX8_whyNotTake_33 rfl
theorem fw_X8_whyNot_X8 : ∀ w ∈ u_ws RX8 TX8 37, w ∈ wsX8_whyNot := by decide +kernel
theorem fl_X8_whyNot_168 : Cond.fieldLink RX8 168 "MittenLineModel" "days" "I" ∈ wsX8_whyNot := by decide +kernel
abbrev rm_X8_whyNot : Jvm.Room := { frames := 4, cells := 0, slots := 0, locals := 90 }
def f_X8_whyNot (yard : Nat → Int32) (length : Nat → Int32) (holding : Int32) (wool : Int32) (days : Int32) (then_ : Nat → Int32) (drawnBits : Int32) (u1 : Int32) (u2 : Int32) (u3 : Int32) : Option (Int32 × (Nat → Int32) × Int32) := if u1 = (0 : Int32) then (f_X8_whyNotGo yard length holding then_ drawnBits u2 u3).bind (fun r2 => some (r2.1, r2.2.1, r2.2.2)) else if u1 = (1 : Int32) then (f_X8_whyNotGo yard length holding then_ drawnBits u2 (-u3)).bind (fun r4 => some (r4.1, r4.2.1, r4.2.2)) else if u1 = (2 : Int32) then some ((0 : Int32), then_, drawnBits) else if u1 = (3 : Int32) then some ((0 : Int32), then_, drawnBits) else if u1 = (4 : Int32) then (f_X8_whyNotLet length wool u2).bind (fun r8 => some (r8, then_, drawnBits)) else if u1 = (5 : Int32) then (f_X8_whyNotTake yard length u2).bind (fun r10 => some (r10, then_, drawnBits)) else if u1 = (6 : Int32) then if days = (99 : Int32) then some ((6 : Int32), then_, drawnBits) else some ((0 : Int32), then_, drawnBits) else some ((0 : Int32), then_, drawnBits)
set_option maxHeartbeats 4000000 in
set_option maxRecDepth 100000 in
theorem c_X8_whyNot (l : Launch) (D : va_G) (cI cZ cG : ClassId) (h : Nat) (A : Nat → Nat) (yard : Nat → Int32) (length : Nat → Int32) (holding : Int32) (wool : Int32) (days : Int32) (sights : Int32) (padMany : Int32) (acts : Int32) (then_ : Nat → Int32) (drawnBits : Int32) (drawnMany : Int32) (drawnNow : Int32) (badAct : Int32) (badWhy : Int32) (drawnAct : Int32) (drawnChild : Int32) (keptAt : Int32) (isWriting : Int32) (u1 : Int32) (u2 : Int32) (u3 : Int32) (res : Int32 × (Nat → Int32) × Int32) (hf : f_X8_whyNot yard length holding wool days then_ drawnBits u1 u2 u3 = some res) : CI l D (tysW cI cZ cG) yX8_whyNot wsX8_whyNot rm_X8_whyNot [.ref h, .int u1, .int u2, .int u3] [(h, oX8 A holding wool days sights padMany acts drawnBits drawnMany drawnNow badAct badWhy drawnAct drawnChild keptAt isWriting), ((A 0), aI cI 10 yard), ((A 2), aI cI 9 length), ((A 15), aI cI 10 then_)] res.1 [(h, oX8 A holding wool days sights padMany acts res.2.2 drawnMany drawnNow badAct badWhy drawnAct drawnChild keptAt isWriting), ((A 0), aI cI 10 yard), ((A 2), aI cI 9 length), ((A 15), aI cI 10 res.2.1)] := by
  refine CG.intro (own := RX8) (by decide +kernel) rfl rfl (Nat.le_of_ble_eq_true rfl) (fun p e s m args below meth c C => ?_)
  refine r_lv (lv' := [(0, .ref h), (1, .int u1), (2, .int u2), (3, .int u3)]) [0, 1, 2, 3] rfl ?_
  unfold f_X8_whyNot at hf
  refine r_iload_n C dX8_whyNot_0 rfl 1 rfl rfl ?_
  by_cases c1 : u1 = (0 : Int32)
  · have hf := gd_t c1 hf
    refine r_tabIn (tgt := 44) C dX8_whyNot_1 c1 (by decide) (by decide) rfl rfl ?_
    refine r_aload_n C dX8_whyNot_44 rfl 0 rfl rfl ?_
    refine r_iload_n C dX8_whyNot_45 rfl 2 rfl rfl ?_
    refine r_iload_n C dX8_whyNot_46 rfl 3 rfl rfl ?_
    obtain ⟨r2, e2, hf⟩ := gd_b hf
    refine o_I (wn := [(h, oX8 A holding wool days sights padMany acts r2.2.2 drawnMany drawnNow badAct badWhy drawnAct drawnChild keptAt isWriting), ((A 0), aI cI 10 yard), ((A 2), aI cI 9 length), ((A 15), aI cI 10 r2.2.1)]) C [0, 1, 2, 3] rfl (x_V C dX8_whyNot_47 (c_X8_whyNotGo l D cI cZ cG h A yard length holding wool days sights padMany acts then_ drawnBits drawnMany drawnNow badAct badWhy drawnAct drawnChild keptAt isWriting u2 u3 r2 e2) rfl gX8_whyNot_X8_whyNotGo hd_X8_whyNotGo rfl ⟨Nat.le_of_ble_eq_true rfl, Nat.le_of_ble_eq_true rfl⟩ ⟨rfl, rfl⟩ ⟨Nat.zero_le _, Nat.zero_le _⟩ rfl [0, 1, 2, 3] rfl rfl 0 rfl rfl (Nat.le_of_ble_eq_true rfl) rfl) rfl rfl rfl ?_
    cases hf
    exact r_iret C dX8_whyNot_50 rfl
  have hf := gd_f c1 hf
  by_cases c3 : u1 = (1 : Int32)
  · have hf := gd_t c3 hf
    refine r_tabIn (tgt := 51) C dX8_whyNot_1 c3 (by decide) (by decide) rfl rfl ?_
    refine r_aload_n C dX8_whyNot_51 rfl 0 rfl rfl ?_
    refine r_iload_n C dX8_whyNot_52 rfl 2 rfl rfl ?_
    refine r_iload_n C dX8_whyNot_53 rfl 3 rfl rfl ?_
    refine r_ineg C dX8_whyNot_54 rfl ?_
    obtain ⟨r4, e4, hf⟩ := gd_b hf
    refine o_I (wn := [(h, oX8 A holding wool days sights padMany acts r4.2.2 drawnMany drawnNow badAct badWhy drawnAct drawnChild keptAt isWriting), ((A 0), aI cI 10 yard), ((A 2), aI cI 9 length), ((A 15), aI cI 10 r4.2.1)]) C [0, 1, 2, 3] rfl (x_V C dX8_whyNot_55 (c_X8_whyNotGo l D cI cZ cG h A yard length holding wool days sights padMany acts then_ drawnBits drawnMany drawnNow badAct badWhy drawnAct drawnChild keptAt isWriting u2 (-u3) r4 e4) rfl gX8_whyNot_X8_whyNotGo hd_X8_whyNotGo rfl ⟨Nat.le_of_ble_eq_true rfl, Nat.le_of_ble_eq_true rfl⟩ ⟨rfl, rfl⟩ ⟨Nat.zero_le _, Nat.zero_le _⟩ rfl [0, 1, 2, 3] rfl rfl 0 rfl rfl (Nat.le_of_ble_eq_true rfl) rfl) rfl rfl rfl ?_
    cases hf
    exact r_iret C dX8_whyNot_58 rfl
  have hf := gd_f c3 hf
  by_cases c5 : u1 = (2 : Int32)
  · have hf := gd_t c5 hf
    refine r_tabIn (tgt := 87) C dX8_whyNot_1 c5 (by decide) (by decide) rfl rfl ?_
    refine r_iconst C dX8_whyNot_87 kk_i_0 rfl ?_
    cases hf
    exact r_iret C dX8_whyNot_88 rfl
  have hf := gd_f c5 hf
  by_cases c6 : u1 = (3 : Int32)
  · have hf := gd_t c6 hf
    refine r_tabIn (tgt := 87) C dX8_whyNot_1 c6 (by decide) (by decide) rfl rfl ?_
    refine r_iconst C dX8_whyNot_87 kk_i_0 rfl ?_
    cases hf
    exact r_iret C dX8_whyNot_88 rfl
  have hf := gd_f c6 hf
  by_cases c7 : u1 = (4 : Int32)
  · have hf := gd_t c7 hf
    refine r_tabIn (tgt := 59) C dX8_whyNot_1 c7 (by decide) (by decide) rfl rfl ?_
    refine r_aload_n C dX8_whyNot_59 rfl 0 rfl rfl ?_
    refine r_iload_n C dX8_whyNot_60 rfl 2 rfl rfl ?_
    obtain ⟨r8, e8, hf⟩ := gd_b hf
    refine o_I (wn := [(h, oX8 A holding wool days sights padMany acts drawnBits drawnMany drawnNow badAct badWhy drawnAct drawnChild keptAt isWriting), ((A 0), aI cI 10 yard), ((A 2), aI cI 9 length), ((A 15), aI cI 10 then_)]) C [0, 2] rfl (x_V C dX8_whyNot_61 (c_X8_whyNotLet l D cI cZ cG h A length holding wool days sights padMany acts drawnBits drawnMany drawnNow badAct badWhy drawnAct drawnChild keptAt isWriting u2 r8 e8) rfl gX8_whyNot_X8_whyNotLet hd_X8_whyNotLet rfl ⟨Nat.le_of_ble_eq_true rfl, Nat.le_of_ble_eq_true rfl⟩ ⟨rfl, rfl⟩ ⟨Nat.zero_le _, Nat.zero_le _⟩ rfl [0, 2] rfl rfl 0 rfl rfl (Nat.le_of_ble_eq_true rfl) rfl) rfl rfl rfl ?_
    cases hf
    exact r_iret C dX8_whyNot_64 rfl
  have hf := gd_f c7 hf
  by_cases c9 : u1 = (5 : Int32)
  · have hf := gd_t c9 hf
    refine r_tabIn (tgt := 65) C dX8_whyNot_1 c9 (by decide) (by decide) rfl rfl ?_
    refine r_aload_n C dX8_whyNot_65 rfl 0 rfl rfl ?_
    refine r_iload_n C dX8_whyNot_66 rfl 2 rfl rfl ?_
    obtain ⟨r10, e10, hf⟩ := gd_b hf
    refine o_I (wn := [(h, oX8 A holding wool days sights padMany acts drawnBits drawnMany drawnNow badAct badWhy drawnAct drawnChild keptAt isWriting), ((A 0), aI cI 10 yard), ((A 2), aI cI 9 length), ((A 15), aI cI 10 then_)]) C [0, 1, 2] rfl (x_V C dX8_whyNot_67 (c_X8_whyNotTake l D cI cZ cG h A yard length holding wool days sights padMany acts drawnBits drawnMany drawnNow badAct badWhy drawnAct drawnChild keptAt isWriting u2 r10 e10) rfl gX8_whyNot_X8_whyNotTake hd_X8_whyNotTake rfl ⟨Nat.le_of_ble_eq_true rfl, Nat.le_of_ble_eq_true rfl⟩ ⟨rfl, rfl⟩ ⟨Nat.zero_le _, Nat.zero_le _⟩ rfl [0, 1, 2] rfl rfl 0 rfl rfl (Nat.le_of_ble_eq_true rfl) rfl) rfl rfl rfl ?_
    cases hf
    exact r_iret C dX8_whyNot_70 rfl
  have hf := gd_f c9 hf
  by_cases c11 : u1 = (6 : Int32)
  · have hf := gd_t c11 hf
    refine r_tabIn (tgt := 71) C dX8_whyNot_1 c11 (by decide) (by decide) rfl rfl ?_
    refine r_aload_n C dX8_whyNot_71 rfl 0 rfl rfl ?_
    refine r_get C dX8_whyNot_72 fw_X8_whyNot_X8 0 rfl rfl 5 (by decide) rfl fl_X8_whyNot_168 rfl rfl ?_
    refine r_bipush C dX8_whyNot_75 kk_b_99 rfl ?_
    refine r_icmp_ne (tgt := 85) C dX8_whyNot_77 rfl rfl (fun c12 => ?_) (fun c12 => ?_)
    · have hf := gd_f c12 hf
      refine r_iconst C dX8_whyNot_85 kk_i_0 rfl ?_
      cases hf
      exact r_iret C dX8_whyNot_86 rfl
    · have hf := gd_t c12 hf
      refine r_bipush C dX8_whyNot_80 kk_b_6 rfl ?_
      refine r_goto (tgt := 86) C dX8_whyNot_82 rfl ?_
      cases hf
      exact r_iret C dX8_whyNot_86 rfl
  have hf := gd_f c11 hf
  refine r_tabOut (tgt := 87) C dX8_whyNot_1 (by have e0 := lv_neT (a := 0) c1 rfl; have e1 := lv_neT (a := 1) c3 rfl; have e2 := lv_neT (a := 2) c5 rfl; have e3 := lv_neT (a := 3) c6 rfl; have e4 := lv_neT (a := 4) c7 rfl; have e5 := lv_neT (a := 5) c9 rfl; have e6 := lv_neT (a := 6) c11 rfl; omega) rfl ?_
  refine r_iconst C dX8_whyNot_87 kk_i_0 rfl ?_
  cases hf
  exact r_iret C dX8_whyNot_88 rfl
abbrev rm_X8_ones : Jvm.Room := { frames := 0, cells := 0, slots := 0, locals := 0 }
def f_X8_ones_4 : Nat → Int32 → Int32 → Option (Int32)
  | 0, _, _ => none
  | n + 1, u1, u2 => if u2 = 0 then some (u1) else f_X8_ones_4 n (u1 + (1 : Int32)) (u2 &&& (u2 - (1 : Int32)))
set_option maxHeartbeats 4000000 in
set_option maxRecDepth 100000 in
theorem k_X8_ones_4 (C : Cx p s m args meth c D (tysW cI cZ cG) RX8 cX8_ones 3 wsX8_ones (some .int))  (res : Int32) : ∀ (n : Nat) (u1 : Int32) (u2 : Int32), f_X8_ones_4 n u1 u2 = some res → Wd p l e rm_X8_ones s m args below meth c D w0 3 0 0 (MQ below (QcI D (tysW cI cZ cG) w0 [] res s.heap.size) args s 0 0 (va_A w0 s.heap.size)) [] [(1, .int u1), (2, .int u2)] 4 [] := by
  intro n
  induction n with
  | zero =>
    intro u1 u2 hf
    exact no_none hf
  | succ n ih =>
    intro u1 u2 hf
    unfold f_X8_ones_4 at hf
    refine r_iload_n C dX8_ones_4 rfl 1 rfl rfl ?_
    refine r_if_eq (y := 0) (tgt := 20) C dX8_ones_5 rfl rfl (fun c1 => ?_) (fun c1 => ?_)
    · have hf := gd_t c1 hf
      refine r_iload_n C dX8_ones_20 rfl 0 rfl rfl ?_
      cases hf
      exact r_iret C dX8_ones_21 rfl
    · have hf := gd_f c1 hf
      refine r_iinc (lv' := [(1, .int (u1 + (1 : Int32))), (2, .int u2)]) C dX8_ones_8 0 rfl (ki_1 _) (by decide) rfl rfl ?_
      refine r_iload_n C dX8_ones_11 rfl 1 rfl rfl ?_
      refine r_iload_n C dX8_ones_12 rfl 1 rfl rfl ?_
      refine r_iconst C dX8_ones_13 kk_i_1 rfl ?_
      refine r_isub C dX8_ones_14 rfl ?_
      refine r_iand C dX8_ones_15 rfl ?_
      refine r_istore_n (lv' := [(2, .int (u2 &&& (u2 - (1 : Int32)))), (1, .int (u1 + (1 : Int32)))]) C dX8_ones_16 rfl (by decide) rfl rfl ?_
      refine r_goto (tgt := 4) C dX8_ones_17 rfl ?_
      refine r_lv (lv' := [(1, .int (u1 + (1 : Int32))), (2, .int (u2 &&& (u2 - (1 : Int32))))]) [1, 0] rfl ?_
      exact ih _ _ hf
def f_X8_ones (u0 : Int32) : Option (Int32) := f_X8_ones_4 2000 (0 : Int32) u0
set_option maxHeartbeats 4000000 in
set_option maxRecDepth 100000 in
theorem c_X8_ones (l : Launch) (D : va_G) (cI cZ cG : ClassId) (u0 : Int32) (res : Int32) (hf : f_X8_ones u0 = some res) : CI l D (tysW cI cZ cG) yX8_ones wsX8_ones rm_X8_ones [.int u0] [] res [] := by
  refine CG.intro (own := RX8) (by decide +kernel) rfl rfl (Nat.le_of_ble_eq_true rfl) (fun p e s m args below meth c C => ?_)
  refine r_lv (lv' := [(0, .int u0)]) [0] rfl ?_
  unfold f_X8_ones at hf
  refine r_iconst C dX8_ones_0 kk_i_0 rfl ?_
  refine r_istore_n (lv' := [(1, .int (0 : Int32)), (0, .int u0)]) C dX8_ones_1 rfl (by decide) rfl rfl ?_
  refine r_iload_n C dX8_ones_2 rfl 1 rfl rfl ?_
  refine r_istore_n (lv' := [(2, .int u0), (1, .int (0 : Int32)), (0, .int u0)]) C dX8_ones_3 rfl (by decide) rfl rfl ?_
  refine r_lv (lv' := [(1, .int (0 : Int32)), (2, .int u0)]) [1, 0] rfl ?_
  refine k_X8_ones_4 C  _ 2000 _ _ hf
theorem fw_X8_go_X8 : ∀ w ∈ u_ws RX8 TX8 37, w ∈ wsX8_go := by decide +kernel
theorem fl_X8_go_142 : Cond.fieldLink RX8 142 "MittenLineModel" "drawnBits" "I" ∈ wsX8_go := by decide +kernel
theorem fl_X8_go_171 : Cond.fieldLink RX8 171 "MittenLineModel" "drawnNow" "I" ∈ wsX8_go := by decide +kernel
theorem fl_X8_go_174 : Cond.fieldLink RX8 174 "MittenLineModel" "drawnMany" "I" ∈ wsX8_go := by decide +kernel
theorem fl_X8_go_7 : Cond.fieldLink RX8 7 "MittenLineModel" "yard" "[I" ∈ wsX8_go := by decide +kernel
theorem fl_X8_go_37 : Cond.fieldLink RX8 37 "MittenLineModel" "then" "[I" ∈ wsX8_go := by decide +kernel
abbrev rm_X8_go : Jvm.Room := { frames := 3, cells := 0, slots := 0, locals := 68 }
def f_X8_go_32 (then_ : Nat → Int32) (drawnBits : Int32) (drawnMany : Int32) (drawnNow : Int32) : Nat → Int32 → (Nat → Int32) → Option ((Nat → Int32) × (Nat → Int32) × Int32 × Int32 × Int32)
  | 0, _, _ => none
  | n + 1, u3, yard => if (10 : Int32) ≤ u3 then some (yard, then_, drawnBits, drawnMany, drawnNow) else if u3 < 0 ∨ 10 ≤ u3.toNatClampNeg then none else f_X8_go_32 then_ drawnBits drawnMany drawnNow n (u3 + (1 : Int32)) (upd yard u3.toNatClampNeg (then_ u3.toNatClampNeg))
set_option maxHeartbeats 4000000 in
set_option maxRecDepth 100000 in
theorem k_X8_go_32 (C : Cx p s m args meth c D (tysW cI cZ cG) RX8 cX8_go 4 wsX8_go none) (h : Nat) (A : Nat → Nat) (length : Nat → Int32) (holding : Int32) (wool : Int32) (days : Int32) (sights : Int32) (padMany : Int32) (acts : Int32) (then_ : Nat → Int32) (drawnBits : Int32) (drawnMany : Int32) (drawnNow : Int32) (badAct : Int32) (badWhy : Int32) (drawnAct : Int32) (drawnChild : Int32) (keptAt : Int32) (isWriting : Int32)  (res : (Nat → Int32) × (Nat → Int32) × Int32 × Int32 × Int32) : ∀ (n : Nat) (u3 : Int32) (yard : Nat → Int32), f_X8_go_32 then_ drawnBits drawnMany drawnNow n u3 yard = some res → Wd p l e rm_X8_go s m args below meth c D w0 4 0 0 (MQ below (QcV D (tysW cI cZ cG) w0 [(h, oX8 A holding wool days sights padMany acts res.2.2.1 res.2.2.2.1 res.2.2.2.2 badAct badWhy drawnAct drawnChild keptAt isWriting), ((A 0), aI cI 10 res.1), ((A 2), aI cI 9 length), ((A 15), aI cI 10 res.2.1)] s.heap.size) args s 0 0 (va_A w0 s.heap.size)) [(h, oX8 A holding wool days sights padMany acts drawnBits drawnMany drawnNow badAct badWhy drawnAct drawnChild keptAt isWriting), ((A 0), aI cI 10 yard), ((A 2), aI cI 9 length), ((A 15), aI cI 10 then_)] [(0, .ref h), (3, .int u3)] 32 [] := by
  intro n
  induction n with
  | zero =>
    intro u3 yard hf
    exact no_none hf
  | succ n ih =>
    intro u3 yard hf
    unfold f_X8_go_32 at hf
    refine r_iload_n C dX8_go_32 rfl 1 rfl rfl ?_
    refine r_bipush C dX8_go_33 kk_b_10 rfl ?_
    refine r_icmp_ge (tgt := 56) C dX8_go_35 rfl rfl (fun c3 => ?_) (fun c3 => ?_)
    · have hf := gd_t c3 hf
      cases hf
      exact r_vret C dX8_go_56 rfl
    · have hf := gd_f c3 hf
      refine r_aload_n C dX8_go_38 rfl 0 rfl rfl ?_
      refine r_get C dX8_go_39 fw_X8_go_X8 0 rfl rfl 0 (by decide) rfl fl_X8_go_7 rfl rfl ?_
      refine r_iload_n C dX8_go_42 rfl 1 rfl rfl ?_
      refine r_aload_n C dX8_go_43 rfl 0 rfl rfl ?_
      refine r_get C dX8_go_44 fw_X8_go_X8 0 rfl rfl 15 (by decide) rfl fl_X8_go_37 rfl rfl ?_
      refine r_iload_n C dX8_go_47 rfl 1 rfl rfl ?_
      obtain ⟨g4, hf⟩ := gd_n hf
      refine r_iald C dX8_go_48 3 0 rfl rfl g4 rfl ?_
      refine r_iast (ws' := [(h, oX8 A holding wool days sights padMany acts drawnBits drawnMany drawnNow badAct badWhy drawnAct drawnChild keptAt isWriting), ((A 0), aI cI 10 (upd yard u3.toNatClampNeg (then_ u3.toNatClampNeg))), ((A 2), aI cI 9 length), ((A 15), aI cI 10 then_)]) C dX8_go_49 1 0 rfl rfl g4 rfl rfl ?_
      refine r_iinc (lv' := [(3, .int (u3 + (1 : Int32))), (0, .ref h)]) C dX8_go_50 1 rfl (ki_1 _) (by decide) rfl rfl ?_
      refine r_goto (tgt := 32) C dX8_go_53 rfl ?_
      refine r_lv (lv' := [(0, .ref h), (3, .int (u3 + (1 : Int32)))]) [1, 0] rfl ?_
      exact ih _ _ hf
def f_X8_go (yard : Nat → Int32) (length : Nat → Int32) (then_ : Nat → Int32) (drawnBits : Int32) (drawnMany : Int32) (drawnNow : Int32) (u1 : Int32) (u2 : Int32) : Option ((Nat → Int32) × (Nat → Int32) × Int32 × Int32 × Int32) := (f_X8_findThen yard length then_ drawnBits u1 u2).bind (fun r1 => (f_X8_ones r1.2).bind (fun r2 => f_X8_go_32 r1.1 r1.2 (drawnMany + r2) r1.2 2000 (0 : Int32) yard))
set_option maxHeartbeats 4000000 in
set_option maxRecDepth 100000 in
theorem c_X8_go (l : Launch) (D : va_G) (cI cZ cG : ClassId) (h : Nat) (A : Nat → Nat) (yard : Nat → Int32) (length : Nat → Int32) (holding : Int32) (wool : Int32) (days : Int32) (sights : Int32) (padMany : Int32) (acts : Int32) (then_ : Nat → Int32) (drawnBits : Int32) (drawnMany : Int32) (drawnNow : Int32) (badAct : Int32) (badWhy : Int32) (drawnAct : Int32) (drawnChild : Int32) (keptAt : Int32) (isWriting : Int32) (u1 : Int32) (u2 : Int32) (res : (Nat → Int32) × (Nat → Int32) × Int32 × Int32 × Int32) (hf : f_X8_go yard length then_ drawnBits drawnMany drawnNow u1 u2 = some res) : CV l D (tysW cI cZ cG) yX8_go wsX8_go rm_X8_go [.ref h, .int u1, .int u2] [(h, oX8 A holding wool days sights padMany acts drawnBits drawnMany drawnNow badAct badWhy drawnAct drawnChild keptAt isWriting), ((A 0), aI cI 10 yard), ((A 2), aI cI 9 length), ((A 15), aI cI 10 then_)] [(h, oX8 A holding wool days sights padMany acts res.2.2.1 res.2.2.2.1 res.2.2.2.2 badAct badWhy drawnAct drawnChild keptAt isWriting), ((A 0), aI cI 10 res.1), ((A 2), aI cI 9 length), ((A 15), aI cI 10 res.2.1)] := by
  refine CG.intro (own := RX8) (by decide +kernel) rfl rfl (Nat.le_of_ble_eq_true rfl) (fun p e s m args below meth c C => ?_)
  refine r_lv (lv' := [(0, .ref h), (1, .int u1), (2, .int u2)]) [0, 1, 2] rfl ?_
  unfold f_X8_go at hf
  refine r_aload_n C dX8_go_0 rfl 0 rfl rfl ?_
  refine r_iload_n C dX8_go_1 rfl 1 rfl rfl ?_
  refine r_iload_n C dX8_go_2 rfl 2 rfl rfl ?_
  obtain ⟨r1, e1, hf⟩ := gd_b hf
  refine o_V (wn := [(h, oX8 A holding wool days sights padMany acts r1.2 drawnMany drawnNow badAct badWhy drawnAct drawnChild keptAt isWriting), ((A 0), aI cI 10 yard), ((A 2), aI cI 9 length), ((A 15), aI cI 10 r1.1)]) C [0, 1, 2, 3] rfl (x_V C dX8_go_3 (c_X8_findThen l D cI cZ cG h A yard length holding wool days sights padMany acts then_ drawnBits drawnMany drawnNow badAct badWhy drawnAct drawnChild keptAt isWriting u1 u2 r1 e1) rfl gX8_go_X8_findThen hd_X8_findThen rfl ⟨Nat.le_of_ble_eq_true rfl, Nat.le_of_ble_eq_true rfl⟩ ⟨rfl, rfl⟩ ⟨Nat.zero_le _, Nat.zero_le _⟩ rfl [0, 1, 2, 3] rfl rfl 0 rfl rfl (Nat.le_of_ble_eq_true rfl) rfl) rfl rfl rfl ?_
  refine r_aload_n C dX8_go_6 rfl 0 rfl rfl ?_
  refine r_aload_n C dX8_go_7 rfl 0 rfl rfl ?_
  refine r_get C dX8_go_8 fw_X8_go_X8 0 rfl rfl 16 (by decide) rfl fl_X8_go_142 rfl rfl ?_
  refine r_put (ty := .int) (ws' := [(h, oX8 A holding wool days sights padMany acts r1.2 drawnMany r1.2 badAct badWhy drawnAct drawnChild keptAt isWriting), ((A 0), aI cI 10 yard), ((A 2), aI cI 9 length), ((A 15), aI cI 10 r1.1)]) C dX8_go_11 fw_X8_go_X8 tyX8 tyX8_ok nmX8 0 rfl rfl 18 (by decide) rfl fl_X8_go_171 rfl (by decide +kernel) rfl rfl (Nat.le_of_ble_eq_true rfl) rfl rfl ?_
  refine r_aload_n C dX8_go_14 rfl 0 rfl rfl ?_
  refine r_dup C dX8_go_15 rfl rfl ?_
  refine r_get C dX8_go_16 fw_X8_go_X8 0 rfl rfl 17 (by decide) rfl fl_X8_go_174 rfl rfl ?_
  refine r_aload_n C dX8_go_19 rfl 0 rfl rfl ?_
  refine r_get C dX8_go_20 fw_X8_go_X8 0 rfl rfl 16 (by decide) rfl fl_X8_go_142 rfl rfl ?_
  obtain ⟨r2, e2, hf⟩ := gd_b hf
  refine o_I (wn := [(h, oX8 A holding wool days sights padMany acts r1.2 drawnMany r1.2 badAct badWhy drawnAct drawnChild keptAt isWriting), ((A 0), aI cI 10 yard), ((A 2), aI cI 9 length), ((A 15), aI cI 10 r1.1)]) C [] rfl (x_S C dX8_go_23 (c_X8_ones l D cI cZ cG r1.2 r2 e2) rfl gX8_go_X8_ones hs_X8_ones rfl ⟨Nat.le_of_ble_eq_true rfl, Nat.le_of_ble_eq_true rfl⟩ ⟨rfl, rfl⟩ ⟨Nat.zero_le _, Nat.zero_le _⟩ rfl [] rfl rfl (Nat.le_of_ble_eq_true rfl) rfl) rfl rfl rfl ?_
  refine r_iadd C dX8_go_26 rfl ?_
  refine r_put (ty := .int) (ws' := [(h, oX8 A holding wool days sights padMany acts r1.2 (drawnMany + r2) r1.2 badAct badWhy drawnAct drawnChild keptAt isWriting), ((A 0), aI cI 10 yard), ((A 2), aI cI 9 length), ((A 15), aI cI 10 r1.1)]) C dX8_go_27 fw_X8_go_X8 tyX8 tyX8_ok nmX8 0 rfl rfl 17 (by decide) rfl fl_X8_go_174 rfl (by decide +kernel) rfl rfl (Nat.le_of_ble_eq_true rfl) rfl rfl ?_
  refine r_iconst C dX8_go_30 kk_i_0 rfl ?_
  refine r_istore_n (lv' := [(3, .int (0 : Int32)), (0, .ref h), (1, .int u1), (2, .int u2)]) C dX8_go_31 rfl (by decide) rfl rfl ?_
  refine r_lv (lv' := [(0, .ref h), (3, .int (0 : Int32))]) [1, 0] rfl ?_
  refine k_X8_go_32 C h A length holding wool days sights padMany acts r1.1 r1.2 (drawnMany + r2) r1.2 badAct badWhy drawnAct drawnChild keptAt isWriting _ 2000 _ _ hf
theorem fw_X8_feel_X8 : ∀ w ∈ u_ws RX8 TX8 37, w ∈ wsX8_feel := by decide +kernel
theorem fl_X8_feel_13 : Cond.fieldLink RX8 13 "MittenLineModel" "feels" "[I" ∈ wsX8_feel := by decide +kernel
abbrev rm_X8_feel : Jvm.Room := { frames := 1, cells := 0, slots := 0, locals := 21 }
def f_X8_feel (feels : Nat → Int32) (u1 : Int32) (u2 : Int32) : Option ((Nat → Int32)) := if u1 < 0 ∨ 10 ≤ u1.toNatClampNeg then none else (f_X8_less (99 : Int32) ((feels u1.toNatClampNeg) + u2)).bind (fun r2 => some ((upd feels u1.toNatClampNeg r2)))
set_option maxHeartbeats 4000000 in
set_option maxRecDepth 100000 in
theorem c_X8_feel (l : Launch) (D : va_G) (cI cZ cG : ClassId) (h : Nat) (A : Nat → Nat) (feels : Nat → Int32) (holding : Int32) (wool : Int32) (days : Int32) (sights : Int32) (padMany : Int32) (acts : Int32) (drawnBits : Int32) (drawnMany : Int32) (drawnNow : Int32) (badAct : Int32) (badWhy : Int32) (drawnAct : Int32) (drawnChild : Int32) (keptAt : Int32) (isWriting : Int32) (u1 : Int32) (u2 : Int32) (res : (Nat → Int32)) (hf : f_X8_feel feels u1 u2 = some res) : CV l D (tysW cI cZ cG) yX8_feel wsX8_feel rm_X8_feel [.ref h, .int u1, .int u2] [(h, oX8 A holding wool days sights padMany acts drawnBits drawnMany drawnNow badAct badWhy drawnAct drawnChild keptAt isWriting), ((A 1), aI cI 10 feels)] [(h, oX8 A holding wool days sights padMany acts drawnBits drawnMany drawnNow badAct badWhy drawnAct drawnChild keptAt isWriting), ((A 1), aI cI 10 res)] := by
  refine CG.intro (own := RX8) (by decide +kernel) rfl rfl (Nat.le_of_ble_eq_true rfl) (fun p e s m args below meth c C => ?_)
  refine r_lv (lv' := [(0, .ref h), (1, .int u1), (2, .int u2)]) [0, 1, 2] rfl ?_
  unfold f_X8_feel at hf
  refine r_aload_n C dX8_feel_0 rfl 0 rfl rfl ?_
  refine r_get C dX8_feel_1 fw_X8_feel_X8 0 rfl rfl 1 (by decide) rfl fl_X8_feel_13 rfl rfl ?_
  refine r_iload_n C dX8_feel_4 rfl 1 rfl rfl ?_
  refine r_bipush C dX8_feel_5 kk_b_99 rfl ?_
  refine r_aload_n C dX8_feel_7 rfl 0 rfl rfl ?_
  refine r_get C dX8_feel_8 fw_X8_feel_X8 0 rfl rfl 1 (by decide) rfl fl_X8_feel_13 rfl rfl ?_
  refine r_iload_n C dX8_feel_11 rfl 1 rfl rfl ?_
  obtain ⟨g1, hf⟩ := gd_n hf
  refine r_iald C dX8_feel_12 1 0 rfl rfl g1 rfl ?_
  refine r_iload_n C dX8_feel_13 rfl 2 rfl rfl ?_
  refine r_iadd C dX8_feel_14 rfl ?_
  obtain ⟨r2, e2, hf⟩ := gd_b hf
  refine o_I (wn := [(h, oX8 A holding wool days sights padMany acts drawnBits drawnMany drawnNow badAct badWhy drawnAct drawnChild keptAt isWriting), ((A 1), aI cI 10 feels)]) C [] rfl (x_S C dX8_feel_15 (c_X8_less l D cI cZ cG (99 : Int32) ((feels u1.toNatClampNeg) + u2) r2 e2) rfl gX8_feel_X8_less hs_X8_less rfl ⟨Nat.le_of_ble_eq_true rfl, Nat.le_of_ble_eq_true rfl⟩ ⟨rfl, rfl⟩ ⟨Nat.zero_le _, Nat.zero_le _⟩ rfl [] rfl rfl (Nat.le_of_ble_eq_true rfl) rfl) rfl rfl rfl ?_
  refine r_iast (ws' := [(h, oX8 A holding wool days sights padMany acts drawnBits drawnMany drawnNow badAct badWhy drawnAct drawnChild keptAt isWriting), ((A 1), aI cI 10 (upd feels u1.toNatClampNeg r2))]) C dX8_feel_18 1 0 rfl rfl g1 rfl rfl ?_
  cases hf
  exact r_vret C dX8_feel_19 rfl
abbrev rm_X8_squeeze : Jvm.Room := { frames := 2, cells := 0, slots := 0, locals := 43 }
def f_X8_squeeze_7 (yard : Nat → Int32) (length : Nat → Int32) (kx58 : (Nat → Int32) → Option ((Nat → Int32))) : Nat → Int32 → Int32 → (Nat → Int32) → Option ((Nat → Int32))
  | 0, _, _, _ => none
  | n + 1, u3, u4, feels => if (10 : Int32) ≤ u4 then kx58 feels else if u3 ≤ 0 then kx58 feels else (f_X8_isTaut yard length (u4 - (1 : Int32))).bind (fun r3 => if r3 = 0 then if (u3 - (3 : Int32)) ≤ 0 then (f_X8_feel feels u4 (0 : Int32)).bind (fun r6 => f_X8_squeeze_7 yard length kx58 n (u3 - (3 : Int32)) (u4 + (1 : Int32)) r6) else (f_X8_feel feels u4 (u3 - (3 : Int32))).bind (fun r7 => f_X8_squeeze_7 yard length kx58 n (u3 - (3 : Int32)) (u4 + (1 : Int32)) r7) else if (u3 - (1 : Int32)) ≤ 0 then (f_X8_feel feels u4 (0 : Int32)).bind (fun r9 => f_X8_squeeze_7 yard length kx58 n (u3 - (1 : Int32)) (u4 + (1 : Int32)) r9) else (f_X8_feel feels u4 (u3 - (1 : Int32))).bind (fun r10 => f_X8_squeeze_7 yard length kx58 n (u3 - (1 : Int32)) (u4 + (1 : Int32)) r10))
set_option maxHeartbeats 4000000 in
set_option maxRecDepth 100000 in
theorem k_X8_squeeze_7 (C : Cx p s m args meth c D (tysW cI cZ cG) RX8 cX8_squeeze 5 wsX8_squeeze none) (h : Nat) (A : Nat → Nat) (yard : Nat → Int32) (length : Nat → Int32) (holding : Int32) (wool : Int32) (days : Int32) (sights : Int32) (padMany : Int32) (acts : Int32) (drawnBits : Int32) (drawnMany : Int32) (drawnNow : Int32) (badAct : Int32) (badWhy : Int32) (drawnAct : Int32) (drawnChild : Int32) (keptAt : Int32) (isWriting : Int32) (u1 : Int32) (u2 : Int32)  (kx58 : (Nat → Int32) → Option ((Nat → Int32))) (res : (Nat → Int32)) (hkx58 : ∀ (feels : Nat → Int32) , kx58 feels = some res → Wd p l e rm_X8_squeeze s m args below meth c D w0 5 0 0 (MQ below (QcV D (tysW cI cZ cG) w0 [(h, oX8 A holding wool days sights padMany acts drawnBits drawnMany drawnNow badAct badWhy drawnAct drawnChild keptAt isWriting), ((A 0), aI cI 10 yard), ((A 1), aI cI 10 res), ((A 2), aI cI 9 length)] s.heap.size) args s 0 0 (va_A w0 s.heap.size)) [(h, oX8 A holding wool days sights padMany acts drawnBits drawnMany drawnNow badAct badWhy drawnAct drawnChild keptAt isWriting), ((A 0), aI cI 10 yard), ((A 1), aI cI 10 feels), ((A 2), aI cI 9 length)] [(0, .ref h), (1, .int u1), (2, .int u2)] 58 []) : ∀ (n : Nat) (u3 : Int32) (u4 : Int32) (feels : Nat → Int32), f_X8_squeeze_7 yard length kx58 n u3 u4 feels = some res → Wd p l e rm_X8_squeeze s m args below meth c D w0 5 0 0 (MQ below (QcV D (tysW cI cZ cG) w0 [(h, oX8 A holding wool days sights padMany acts drawnBits drawnMany drawnNow badAct badWhy drawnAct drawnChild keptAt isWriting), ((A 0), aI cI 10 yard), ((A 1), aI cI 10 res), ((A 2), aI cI 9 length)] s.heap.size) args s 0 0 (va_A w0 s.heap.size)) [(h, oX8 A holding wool days sights padMany acts drawnBits drawnMany drawnNow badAct badWhy drawnAct drawnChild keptAt isWriting), ((A 0), aI cI 10 yard), ((A 1), aI cI 10 feels), ((A 2), aI cI 9 length)] [(0, .ref h), (1, .int u1), (2, .int u2), (3, .int u3), (4, .int u4)] 7 [] := by
  intro n
  induction n with
  | zero =>
    intro u3 u4 feels hf
    exact no_none hf
  | succ n ih =>
    intro u3 u4 feels hf
    unfold f_X8_squeeze_7 at hf
    refine r_iload C dX8_squeeze_7 4 rfl rfl ?_
    refine r_bipush C dX8_squeeze_9 kk_b_10 rfl ?_
    refine r_icmp_ge (tgt := 58) C dX8_squeeze_11 rfl rfl (fun c1 => ?_) (fun c1 => ?_)
    · have hf := gd_t c1 hf
      refine r_lv (lv' := [(0, .ref h), (1, .int u1), (2, .int u2)]) [0, 1, 2] rfl ?_
      exact hkx58 _ hf
    · have hf := gd_f c1 hf
      refine r_iload_n C dX8_squeeze_14 rfl 3 rfl rfl ?_
      refine r_if_le (y := 0) (tgt := 58) C dX8_squeeze_15 rfl rfl (fun c2 => ?_) (fun c2 => ?_)
      · have hf := gd_t c2 hf
        refine r_lv (lv' := [(0, .ref h), (1, .int u1), (2, .int u2)]) [0, 1, 2] rfl ?_
        exact hkx58 _ hf
      · have hf := gd_f c2 hf
        refine r_iload_n C dX8_squeeze_18 rfl 3 rfl rfl ?_
        refine r_aload_n C dX8_squeeze_19 rfl 0 rfl rfl ?_
        refine r_iload C dX8_squeeze_20 4 rfl rfl ?_
        refine r_iconst C dX8_squeeze_22 kk_i_1 rfl ?_
        refine r_isub C dX8_squeeze_23 rfl ?_
        obtain ⟨r3, e3, hf⟩ := gd_b hf
        refine o_I (wn := [(h, oX8 A holding wool days sights padMany acts drawnBits drawnMany drawnNow badAct badWhy drawnAct drawnChild keptAt isWriting), ((A 0), aI cI 10 yard), ((A 1), aI cI 10 feels), ((A 2), aI cI 9 length)]) C [0, 1, 3] rfl (x_V C dX8_squeeze_24 (c_X8_isTaut l D cI cZ cG h A yard length holding wool days sights padMany acts drawnBits drawnMany drawnNow badAct badWhy drawnAct drawnChild keptAt isWriting (u4 - (1 : Int32)) r3 e3) rfl gX8_squeeze_X8_isTaut hd_X8_isTaut rfl ⟨Nat.le_of_ble_eq_true rfl, Nat.le_of_ble_eq_true rfl⟩ ⟨rfl, rfl⟩ ⟨Nat.zero_le _, Nat.zero_le _⟩ rfl [0, 1, 3] rfl rfl 0 rfl rfl (Nat.le_of_ble_eq_true rfl) rfl) rfl rfl rfl ?_
        refine r_if_eq (y := 0) (tgt := 34) C dX8_squeeze_27 rfl rfl (fun c4 => ?_) (fun c4 => ?_)
        · have hf := gd_t c4 hf
          refine r_iconst C dX8_squeeze_34 kk_i_3 rfl ?_
          refine r_isub C dX8_squeeze_35 rfl ?_
          refine r_istore_n (lv' := [(3, .int (u3 - (3 : Int32))), (0, .ref h), (1, .int u1), (2, .int u2), (4, .int u4)]) C dX8_squeeze_36 rfl (by decide) rfl rfl ?_
          refine r_aload_n C dX8_squeeze_37 rfl 1 rfl rfl ?_
          refine r_iload C dX8_squeeze_38 4 rfl rfl ?_
          refine r_iload_n C dX8_squeeze_40 rfl 0 rfl rfl ?_
          refine r_if_le (y := 0) (tgt := 48) C dX8_squeeze_41 rfl rfl (fun c5 => ?_) (fun c5 => ?_)
          · have hf := gd_t c5 hf
            refine r_iconst C dX8_squeeze_48 kk_i_0 rfl ?_
            obtain ⟨r6, e6, hf⟩ := gd_b hf
            refine o_V (wn := [(h, oX8 A holding wool days sights padMany acts drawnBits drawnMany drawnNow badAct badWhy drawnAct drawnChild keptAt isWriting), ((A 0), aI cI 10 yard), ((A 1), aI cI 10 r6), ((A 2), aI cI 9 length)]) C [0, 2] rfl (x_V C dX8_squeeze_49 (c_X8_feel l D cI cZ cG h A feels holding wool days sights padMany acts drawnBits drawnMany drawnNow badAct badWhy drawnAct drawnChild keptAt isWriting u4 (0 : Int32) r6 e6) rfl gX8_squeeze_X8_feel hd_X8_feel rfl ⟨Nat.le_of_ble_eq_true rfl, Nat.le_of_ble_eq_true rfl⟩ ⟨rfl, rfl⟩ ⟨Nat.zero_le _, Nat.zero_le _⟩ rfl [0, 2] rfl rfl 0 rfl rfl (Nat.le_of_ble_eq_true rfl) rfl) rfl rfl rfl ?_
            refine r_iinc (lv' := [(4, .int (u4 + (1 : Int32))), (3, .int (u3 - (3 : Int32))), (0, .ref h), (1, .int u1), (2, .int u2)]) C dX8_squeeze_52 4 rfl (ki_1 _) (by decide) rfl rfl ?_
            refine r_goto (tgt := 7) C dX8_squeeze_55 rfl ?_
            refine r_lv (lv' := [(0, .ref h), (1, .int u1), (2, .int u2), (3, .int (u3 - (3 : Int32))), (4, .int (u4 + (1 : Int32)))]) [2, 3, 4, 1, 0] rfl ?_
            exact ih _ _ _ hf
          · have hf := gd_f c5 hf
            refine r_iload_n C dX8_squeeze_44 rfl 0 rfl rfl ?_
            refine r_goto (tgt := 49) C dX8_squeeze_45 rfl ?_
            obtain ⟨r7, e7, hf⟩ := gd_b hf
            refine o_V (wn := [(h, oX8 A holding wool days sights padMany acts drawnBits drawnMany drawnNow badAct badWhy drawnAct drawnChild keptAt isWriting), ((A 0), aI cI 10 yard), ((A 1), aI cI 10 r7), ((A 2), aI cI 9 length)]) C [0, 2] rfl (x_V C dX8_squeeze_49 (c_X8_feel l D cI cZ cG h A feels holding wool days sights padMany acts drawnBits drawnMany drawnNow badAct badWhy drawnAct drawnChild keptAt isWriting u4 (u3 - (3 : Int32)) r7 e7) rfl gX8_squeeze_X8_feel hd_X8_feel rfl ⟨Nat.le_of_ble_eq_true rfl, Nat.le_of_ble_eq_true rfl⟩ ⟨rfl, rfl⟩ ⟨Nat.zero_le _, Nat.zero_le _⟩ rfl [0, 2] rfl rfl 0 rfl rfl (Nat.le_of_ble_eq_true rfl) rfl) rfl rfl rfl ?_
            refine r_iinc (lv' := [(4, .int (u4 + (1 : Int32))), (3, .int (u3 - (3 : Int32))), (0, .ref h), (1, .int u1), (2, .int u2)]) C dX8_squeeze_52 4 rfl (ki_1 _) (by decide) rfl rfl ?_
            refine r_goto (tgt := 7) C dX8_squeeze_55 rfl ?_
            refine r_lv (lv' := [(0, .ref h), (1, .int u1), (2, .int u2), (3, .int (u3 - (3 : Int32))), (4, .int (u4 + (1 : Int32)))]) [2, 3, 4, 1, 0] rfl ?_
            exact ih _ _ _ hf
        · have hf := gd_f c4 hf
          refine r_iconst C dX8_squeeze_30 kk_i_1 rfl ?_
          refine r_goto (tgt := 35) C dX8_squeeze_31 rfl ?_
          refine r_isub C dX8_squeeze_35 rfl ?_
          refine r_istore_n (lv' := [(3, .int (u3 - (1 : Int32))), (0, .ref h), (1, .int u1), (2, .int u2), (4, .int u4)]) C dX8_squeeze_36 rfl (by decide) rfl rfl ?_
          refine r_aload_n C dX8_squeeze_37 rfl 1 rfl rfl ?_
          refine r_iload C dX8_squeeze_38 4 rfl rfl ?_
          refine r_iload_n C dX8_squeeze_40 rfl 0 rfl rfl ?_
          refine r_if_le (y := 0) (tgt := 48) C dX8_squeeze_41 rfl rfl (fun c8 => ?_) (fun c8 => ?_)
          · have hf := gd_t c8 hf
            refine r_iconst C dX8_squeeze_48 kk_i_0 rfl ?_
            obtain ⟨r9, e9, hf⟩ := gd_b hf
            refine o_V (wn := [(h, oX8 A holding wool days sights padMany acts drawnBits drawnMany drawnNow badAct badWhy drawnAct drawnChild keptAt isWriting), ((A 0), aI cI 10 yard), ((A 1), aI cI 10 r9), ((A 2), aI cI 9 length)]) C [0, 2] rfl (x_V C dX8_squeeze_49 (c_X8_feel l D cI cZ cG h A feels holding wool days sights padMany acts drawnBits drawnMany drawnNow badAct badWhy drawnAct drawnChild keptAt isWriting u4 (0 : Int32) r9 e9) rfl gX8_squeeze_X8_feel hd_X8_feel rfl ⟨Nat.le_of_ble_eq_true rfl, Nat.le_of_ble_eq_true rfl⟩ ⟨rfl, rfl⟩ ⟨Nat.zero_le _, Nat.zero_le _⟩ rfl [0, 2] rfl rfl 0 rfl rfl (Nat.le_of_ble_eq_true rfl) rfl) rfl rfl rfl ?_
            refine r_iinc (lv' := [(4, .int (u4 + (1 : Int32))), (3, .int (u3 - (1 : Int32))), (0, .ref h), (1, .int u1), (2, .int u2)]) C dX8_squeeze_52 4 rfl (ki_1 _) (by decide) rfl rfl ?_
            refine r_goto (tgt := 7) C dX8_squeeze_55 rfl ?_
            refine r_lv (lv' := [(0, .ref h), (1, .int u1), (2, .int u2), (3, .int (u3 - (1 : Int32))), (4, .int (u4 + (1 : Int32)))]) [2, 3, 4, 1, 0] rfl ?_
            exact ih _ _ _ hf
          · have hf := gd_f c8 hf
            refine r_iload_n C dX8_squeeze_44 rfl 0 rfl rfl ?_
            refine r_goto (tgt := 49) C dX8_squeeze_45 rfl ?_
            obtain ⟨r10, e10, hf⟩ := gd_b hf
            refine o_V (wn := [(h, oX8 A holding wool days sights padMany acts drawnBits drawnMany drawnNow badAct badWhy drawnAct drawnChild keptAt isWriting), ((A 0), aI cI 10 yard), ((A 1), aI cI 10 r10), ((A 2), aI cI 9 length)]) C [0, 2] rfl (x_V C dX8_squeeze_49 (c_X8_feel l D cI cZ cG h A feels holding wool days sights padMany acts drawnBits drawnMany drawnNow badAct badWhy drawnAct drawnChild keptAt isWriting u4 (u3 - (1 : Int32)) r10 e10) rfl gX8_squeeze_X8_feel hd_X8_feel rfl ⟨Nat.le_of_ble_eq_true rfl, Nat.le_of_ble_eq_true rfl⟩ ⟨rfl, rfl⟩ ⟨Nat.zero_le _, Nat.zero_le _⟩ rfl [0, 2] rfl rfl 0 rfl rfl (Nat.le_of_ble_eq_true rfl) rfl) rfl rfl rfl ?_
            refine r_iinc (lv' := [(4, .int (u4 + (1 : Int32))), (3, .int (u3 - (1 : Int32))), (0, .ref h), (1, .int u1), (2, .int u2)]) C dX8_squeeze_52 4 rfl (ki_1 _) (by decide) rfl rfl ?_
            refine r_goto (tgt := 7) C dX8_squeeze_55 rfl ?_
            refine r_lv (lv' := [(0, .ref h), (1, .int u1), (2, .int u2), (3, .int (u3 - (1 : Int32))), (4, .int (u4 + (1 : Int32)))]) [2, 3, 4, 1, 0] rfl ?_
            exact ih _ _ _ hf
def f_X8_squeeze_65 (yard : Nat → Int32) (length : Nat → Int32) : Nat → Int32 → Int32 → (Nat → Int32) → Option ((Nat → Int32))
  | 0, _, _, _ => none
  | n + 1, u3, u4, feels => if u4 < 0 then some (feels) else if u3 ≤ 0 then some (feels) else (f_X8_isTaut yard length u4).bind (fun r14 => if r14 = 0 then if (u3 - (3 : Int32)) ≤ 0 then (f_X8_feel feels u4 (0 : Int32)).bind (fun r17 => f_X8_squeeze_65 yard length n (u3 - (3 : Int32)) (u4 + (-1 : Int32)) r17) else (f_X8_feel feels u4 (u3 - (3 : Int32))).bind (fun r18 => f_X8_squeeze_65 yard length n (u3 - (3 : Int32)) (u4 + (-1 : Int32)) r18) else if (u3 - (1 : Int32)) ≤ 0 then (f_X8_feel feels u4 (0 : Int32)).bind (fun r20 => f_X8_squeeze_65 yard length n (u3 - (1 : Int32)) (u4 + (-1 : Int32)) r20) else (f_X8_feel feels u4 (u3 - (1 : Int32))).bind (fun r21 => f_X8_squeeze_65 yard length n (u3 - (1 : Int32)) (u4 + (-1 : Int32)) r21))
set_option maxHeartbeats 4000000 in
set_option maxRecDepth 100000 in
theorem k_X8_squeeze_65 (C : Cx p s m args meth c D (tysW cI cZ cG) RX8 cX8_squeeze 5 wsX8_squeeze none) (h : Nat) (A : Nat → Nat) (yard : Nat → Int32) (length : Nat → Int32) (holding : Int32) (wool : Int32) (days : Int32) (sights : Int32) (padMany : Int32) (acts : Int32) (drawnBits : Int32) (drawnMany : Int32) (drawnNow : Int32) (badAct : Int32) (badWhy : Int32) (drawnAct : Int32) (drawnChild : Int32) (keptAt : Int32) (isWriting : Int32)  (res : (Nat → Int32)) : ∀ (n : Nat) (u3 : Int32) (u4 : Int32) (feels : Nat → Int32), f_X8_squeeze_65 yard length n u3 u4 feels = some res → Wd p l e rm_X8_squeeze s m args below meth c D w0 5 0 0 (MQ below (QcV D (tysW cI cZ cG) w0 [(h, oX8 A holding wool days sights padMany acts drawnBits drawnMany drawnNow badAct badWhy drawnAct drawnChild keptAt isWriting), ((A 0), aI cI 10 yard), ((A 1), aI cI 10 res), ((A 2), aI cI 9 length)] s.heap.size) args s 0 0 (va_A w0 s.heap.size)) [(h, oX8 A holding wool days sights padMany acts drawnBits drawnMany drawnNow badAct badWhy drawnAct drawnChild keptAt isWriting), ((A 0), aI cI 10 yard), ((A 1), aI cI 10 feels), ((A 2), aI cI 9 length)] [(0, .ref h), (3, .int u3), (4, .int u4)] 65 [] := by
  intro n
  induction n with
  | zero =>
    intro u3 u4 feels hf
    exact no_none hf
  | succ n ih =>
    intro u3 u4 feels hf
    unfold f_X8_squeeze_65 at hf
    refine r_iload C dX8_squeeze_65 2 rfl rfl ?_
    refine r_if_lt (y := 0) (tgt := 112) C dX8_squeeze_67 rfl rfl (fun c12 => ?_) (fun c12 => ?_)
    · have hf := gd_t c12 hf
      cases hf
      exact r_vret C dX8_squeeze_112 rfl
    · have hf := gd_f c12 hf
      refine r_iload_n C dX8_squeeze_70 rfl 1 rfl rfl ?_
      refine r_if_le (y := 0) (tgt := 112) C dX8_squeeze_71 rfl rfl (fun c13 => ?_) (fun c13 => ?_)
      · have hf := gd_t c13 hf
        cases hf
        exact r_vret C dX8_squeeze_112 rfl
      · have hf := gd_f c13 hf
        refine r_iload_n C dX8_squeeze_74 rfl 1 rfl rfl ?_
        refine r_aload_n C dX8_squeeze_75 rfl 0 rfl rfl ?_
        refine r_iload C dX8_squeeze_76 2 rfl rfl ?_
        obtain ⟨r14, e14, hf⟩ := gd_b hf
        refine o_I (wn := [(h, oX8 A holding wool days sights padMany acts drawnBits drawnMany drawnNow badAct badWhy drawnAct drawnChild keptAt isWriting), ((A 0), aI cI 10 yard), ((A 1), aI cI 10 feels), ((A 2), aI cI 9 length)]) C [0, 1, 3] rfl (x_V C dX8_squeeze_78 (c_X8_isTaut l D cI cZ cG h A yard length holding wool days sights padMany acts drawnBits drawnMany drawnNow badAct badWhy drawnAct drawnChild keptAt isWriting u4 r14 e14) rfl gX8_squeeze_X8_isTaut hd_X8_isTaut rfl ⟨Nat.le_of_ble_eq_true rfl, Nat.le_of_ble_eq_true rfl⟩ ⟨rfl, rfl⟩ ⟨Nat.zero_le _, Nat.zero_le _⟩ rfl [0, 1, 3] rfl rfl 0 rfl rfl (Nat.le_of_ble_eq_true rfl) rfl) rfl rfl rfl ?_
        refine r_if_eq (y := 0) (tgt := 88) C dX8_squeeze_81 rfl rfl (fun c15 => ?_) (fun c15 => ?_)
        · have hf := gd_t c15 hf
          refine r_iconst C dX8_squeeze_88 kk_i_3 rfl ?_
          refine r_isub C dX8_squeeze_89 rfl ?_
          refine r_istore_n (lv' := [(3, .int (u3 - (3 : Int32))), (0, .ref h), (4, .int u4)]) C dX8_squeeze_90 rfl (by decide) rfl rfl ?_
          refine r_aload_n C dX8_squeeze_91 rfl 1 rfl rfl ?_
          refine r_iload C dX8_squeeze_92 2 rfl rfl ?_
          refine r_iload_n C dX8_squeeze_94 rfl 0 rfl rfl ?_
          refine r_if_le (y := 0) (tgt := 102) C dX8_squeeze_95 rfl rfl (fun c16 => ?_) (fun c16 => ?_)
          · have hf := gd_t c16 hf
            refine r_iconst C dX8_squeeze_102 kk_i_0 rfl ?_
            obtain ⟨r17, e17, hf⟩ := gd_b hf
            refine o_V (wn := [(h, oX8 A holding wool days sights padMany acts drawnBits drawnMany drawnNow badAct badWhy drawnAct drawnChild keptAt isWriting), ((A 0), aI cI 10 yard), ((A 1), aI cI 10 r17), ((A 2), aI cI 9 length)]) C [0, 2] rfl (x_V C dX8_squeeze_103 (c_X8_feel l D cI cZ cG h A feels holding wool days sights padMany acts drawnBits drawnMany drawnNow badAct badWhy drawnAct drawnChild keptAt isWriting u4 (0 : Int32) r17 e17) rfl gX8_squeeze_X8_feel hd_X8_feel rfl ⟨Nat.le_of_ble_eq_true rfl, Nat.le_of_ble_eq_true rfl⟩ ⟨rfl, rfl⟩ ⟨Nat.zero_le _, Nat.zero_le _⟩ rfl [0, 2] rfl rfl 0 rfl rfl (Nat.le_of_ble_eq_true rfl) rfl) rfl rfl rfl ?_
            refine r_iinc (lv' := [(4, .int (u4 + (-1 : Int32))), (3, .int (u3 - (3 : Int32))), (0, .ref h)]) C dX8_squeeze_106 2 rfl (ki_m1 _) (by decide) rfl rfl ?_
            refine r_goto (tgt := 65) C dX8_squeeze_109 rfl ?_
            refine r_lv (lv' := [(0, .ref h), (3, .int (u3 - (3 : Int32))), (4, .int (u4 + (-1 : Int32)))]) [2, 1, 0] rfl ?_
            exact ih _ _ _ hf
          · have hf := gd_f c16 hf
            refine r_iload_n C dX8_squeeze_98 rfl 0 rfl rfl ?_
            refine r_goto (tgt := 103) C dX8_squeeze_99 rfl ?_
            obtain ⟨r18, e18, hf⟩ := gd_b hf
            refine o_V (wn := [(h, oX8 A holding wool days sights padMany acts drawnBits drawnMany drawnNow badAct badWhy drawnAct drawnChild keptAt isWriting), ((A 0), aI cI 10 yard), ((A 1), aI cI 10 r18), ((A 2), aI cI 9 length)]) C [0, 2] rfl (x_V C dX8_squeeze_103 (c_X8_feel l D cI cZ cG h A feels holding wool days sights padMany acts drawnBits drawnMany drawnNow badAct badWhy drawnAct drawnChild keptAt isWriting u4 (u3 - (3 : Int32)) r18 e18) rfl gX8_squeeze_X8_feel hd_X8_feel rfl ⟨Nat.le_of_ble_eq_true rfl, Nat.le_of_ble_eq_true rfl⟩ ⟨rfl, rfl⟩ ⟨Nat.zero_le _, Nat.zero_le _⟩ rfl [0, 2] rfl rfl 0 rfl rfl (Nat.le_of_ble_eq_true rfl) rfl) rfl rfl rfl ?_
            refine r_iinc (lv' := [(4, .int (u4 + (-1 : Int32))), (3, .int (u3 - (3 : Int32))), (0, .ref h)]) C dX8_squeeze_106 2 rfl (ki_m1 _) (by decide) rfl rfl ?_
            refine r_goto (tgt := 65) C dX8_squeeze_109 rfl ?_
            refine r_lv (lv' := [(0, .ref h), (3, .int (u3 - (3 : Int32))), (4, .int (u4 + (-1 : Int32)))]) [2, 1, 0] rfl ?_
            exact ih _ _ _ hf
        · have hf := gd_f c15 hf
          refine r_iconst C dX8_squeeze_84 kk_i_1 rfl ?_
          refine r_goto (tgt := 89) C dX8_squeeze_85 rfl ?_
          refine r_isub C dX8_squeeze_89 rfl ?_
          refine r_istore_n (lv' := [(3, .int (u3 - (1 : Int32))), (0, .ref h), (4, .int u4)]) C dX8_squeeze_90 rfl (by decide) rfl rfl ?_
          refine r_aload_n C dX8_squeeze_91 rfl 1 rfl rfl ?_
          refine r_iload C dX8_squeeze_92 2 rfl rfl ?_
          refine r_iload_n C dX8_squeeze_94 rfl 0 rfl rfl ?_
          refine r_if_le (y := 0) (tgt := 102) C dX8_squeeze_95 rfl rfl (fun c19 => ?_) (fun c19 => ?_)
          · have hf := gd_t c19 hf
            refine r_iconst C dX8_squeeze_102 kk_i_0 rfl ?_
            obtain ⟨r20, e20, hf⟩ := gd_b hf
            refine o_V (wn := [(h, oX8 A holding wool days sights padMany acts drawnBits drawnMany drawnNow badAct badWhy drawnAct drawnChild keptAt isWriting), ((A 0), aI cI 10 yard), ((A 1), aI cI 10 r20), ((A 2), aI cI 9 length)]) C [0, 2] rfl (x_V C dX8_squeeze_103 (c_X8_feel l D cI cZ cG h A feels holding wool days sights padMany acts drawnBits drawnMany drawnNow badAct badWhy drawnAct drawnChild keptAt isWriting u4 (0 : Int32) r20 e20) rfl gX8_squeeze_X8_feel hd_X8_feel rfl ⟨Nat.le_of_ble_eq_true rfl, Nat.le_of_ble_eq_true rfl⟩ ⟨rfl, rfl⟩ ⟨Nat.zero_le _, Nat.zero_le _⟩ rfl [0, 2] rfl rfl 0 rfl rfl (Nat.le_of_ble_eq_true rfl) rfl) rfl rfl rfl ?_
            refine r_iinc (lv' := [(4, .int (u4 + (-1 : Int32))), (3, .int (u3 - (1 : Int32))), (0, .ref h)]) C dX8_squeeze_106 2 rfl (ki_m1 _) (by decide) rfl rfl ?_
            refine r_goto (tgt := 65) C dX8_squeeze_109 rfl ?_
            refine r_lv (lv' := [(0, .ref h), (3, .int (u3 - (1 : Int32))), (4, .int (u4 + (-1 : Int32)))]) [2, 1, 0] rfl ?_
            exact ih _ _ _ hf
          · have hf := gd_f c19 hf
            refine r_iload_n C dX8_squeeze_98 rfl 0 rfl rfl ?_
            refine r_goto (tgt := 103) C dX8_squeeze_99 rfl ?_
            obtain ⟨r21, e21, hf⟩ := gd_b hf
            refine o_V (wn := [(h, oX8 A holding wool days sights padMany acts drawnBits drawnMany drawnNow badAct badWhy drawnAct drawnChild keptAt isWriting), ((A 0), aI cI 10 yard), ((A 1), aI cI 10 r21), ((A 2), aI cI 9 length)]) C [0, 2] rfl (x_V C dX8_squeeze_103 (c_X8_feel l D cI cZ cG h A feels holding wool days sights padMany acts drawnBits drawnMany drawnNow badAct badWhy drawnAct drawnChild keptAt isWriting u4 (u3 - (1 : Int32)) r21 e21) rfl gX8_squeeze_X8_feel hd_X8_feel rfl ⟨Nat.le_of_ble_eq_true rfl, Nat.le_of_ble_eq_true rfl⟩ ⟨rfl, rfl⟩ ⟨Nat.zero_le _, Nat.zero_le _⟩ rfl [0, 2] rfl rfl 0 rfl rfl (Nat.le_of_ble_eq_true rfl) rfl) rfl rfl rfl ?_
            refine r_iinc (lv' := [(4, .int (u4 + (-1 : Int32))), (3, .int (u3 - (1 : Int32))), (0, .ref h)]) C dX8_squeeze_106 2 rfl (ki_m1 _) (by decide) rfl rfl ?_
            refine r_goto (tgt := 65) C dX8_squeeze_109 rfl ?_
            refine r_lv (lv' := [(0, .ref h), (3, .int (u3 - (1 : Int32))), (4, .int (u4 + (-1 : Int32)))]) [2, 1, 0] rfl ?_
            exact ih _ _ _ hf
def f_X8_squeeze (yard : Nat → Int32) (feels : Nat → Int32) (length : Nat → Int32) (u1 : Int32) (u2 : Int32) : Option ((Nat → Int32)) := f_X8_squeeze_7 yard length (fun feels_11 => f_X8_squeeze_65 yard length 2000 u2 (u1 - (1 : Int32)) feels_11) 2000 u2 (u1 + (1 : Int32)) feels
set_option maxHeartbeats 4000000 in
set_option maxRecDepth 100000 in
theorem c_X8_squeeze (l : Launch) (D : va_G) (cI cZ cG : ClassId) (h : Nat) (A : Nat → Nat) (yard : Nat → Int32) (feels : Nat → Int32) (length : Nat → Int32) (holding : Int32) (wool : Int32) (days : Int32) (sights : Int32) (padMany : Int32) (acts : Int32) (drawnBits : Int32) (drawnMany : Int32) (drawnNow : Int32) (badAct : Int32) (badWhy : Int32) (drawnAct : Int32) (drawnChild : Int32) (keptAt : Int32) (isWriting : Int32) (u1 : Int32) (u2 : Int32) (res : (Nat → Int32)) (hf : f_X8_squeeze yard feels length u1 u2 = some res) : CV l D (tysW cI cZ cG) yX8_squeeze wsX8_squeeze rm_X8_squeeze [.ref h, .int u1, .int u2] [(h, oX8 A holding wool days sights padMany acts drawnBits drawnMany drawnNow badAct badWhy drawnAct drawnChild keptAt isWriting), ((A 0), aI cI 10 yard), ((A 1), aI cI 10 feels), ((A 2), aI cI 9 length)] [(h, oX8 A holding wool days sights padMany acts drawnBits drawnMany drawnNow badAct badWhy drawnAct drawnChild keptAt isWriting), ((A 0), aI cI 10 yard), ((A 1), aI cI 10 res), ((A 2), aI cI 9 length)] := by
  refine CG.intro (own := RX8) (by decide +kernel) rfl rfl (Nat.le_of_ble_eq_true rfl) (fun p e s m args below meth c C => ?_)
  refine r_lv (lv' := [(0, .ref h), (1, .int u1), (2, .int u2)]) [0, 1, 2] rfl ?_
  unfold f_X8_squeeze at hf
  refine r_iload_n C dX8_squeeze_0 rfl 2 rfl rfl ?_
  refine r_istore_n (lv' := [(3, .int u2), (0, .ref h), (1, .int u1), (2, .int u2)]) C dX8_squeeze_1 rfl (by decide) rfl rfl ?_
  refine r_iload_n C dX8_squeeze_2 rfl 2 rfl rfl ?_
  refine r_iconst C dX8_squeeze_3 kk_i_1 rfl ?_
  refine r_iadd C dX8_squeeze_4 rfl ?_
  refine r_istore (lv' := [(4, .int (u1 + (1 : Int32))), (3, .int u2), (0, .ref h), (1, .int u1), (2, .int u2)]) C dX8_squeeze_5 (by decide) rfl rfl ?_
  refine r_lv (lv' := [(0, .ref h), (1, .int u1), (2, .int u2), (3, .int u2), (4, .int (u1 + (1 : Int32)))]) [2, 3, 4, 1, 0] rfl ?_
  refine k_X8_squeeze_7 C h A yard length holding wool days sights padMany acts drawnBits drawnMany drawnNow badAct badWhy drawnAct drawnChild keptAt isWriting u1 u2 _ _ ?_ 2000 _ _ _ hf
  · intro feels_11 hf
    refine r_iload_n C dX8_squeeze_58 rfl 2 rfl rfl ?_
    refine r_istore_n (lv' := [(3, .int u2), (0, .ref h), (1, .int u1), (2, .int u2)]) C dX8_squeeze_59 rfl (by decide) rfl rfl ?_
    refine r_iload_n C dX8_squeeze_60 rfl 2 rfl rfl ?_
    refine r_iconst C dX8_squeeze_61 kk_i_1 rfl ?_
    refine r_isub C dX8_squeeze_62 rfl ?_
    refine r_istore (lv' := [(4, .int (u1 - (1 : Int32))), (3, .int u2), (0, .ref h), (1, .int u1), (2, .int u2)]) C dX8_squeeze_63 (by decide) rfl rfl ?_
    refine r_lv (lv' := [(0, .ref h), (3, .int u2), (4, .int (u1 - (1 : Int32)))]) [2, 1, 0] rfl ?_
    refine k_X8_squeeze_65 C h A yard length holding wool days sights padMany acts drawnBits drawnMany drawnNow badAct badWhy drawnAct drawnChild keptAt isWriting _ 2000 _ _ _ hf
theorem fw_X8_passDay_X8 : ∀ w ∈ u_ws RX8 TX8 37, w ∈ wsX8_passDay := by decide +kernel
theorem fl_X8_passDay_13 : Cond.fieldLink RX8 13 "MittenLineModel" "feels" "[I" ∈ wsX8_passDay := by decide +kernel
theorem fl_X8_passDay_168 : Cond.fieldLink RX8 168 "MittenLineModel" "days" "I" ∈ wsX8_passDay := by decide +kernel
abbrev rm_X8_passDay : Jvm.Room := { frames := 0, cells := 0, slots := 0, locals := 0 }
def f_X8_passDay_2 (kx21 : (Nat → Int32) → Option ((Nat → Int32) × Int32)) : Nat → Int32 → (Nat → Int32) → Option ((Nat → Int32) × Int32)
  | 0, _, _ => none
  | n + 1, u1, feels => if (10 : Int32) ≤ u1 then kx21 feels else if u1 < 0 ∨ 10 ≤ u1.toNatClampNeg then none else f_X8_passDay_2 kx21 n (u1 + (1 : Int32)) (upd feels u1.toNatClampNeg (0 : Int32))
set_option maxHeartbeats 4000000 in
set_option maxRecDepth 100000 in
theorem k_X8_passDay_2 (C : Cx p s m args meth c D (tysW cI cZ cG) RX8 cX8_passDay 2 wsX8_passDay none) (h : Nat) (A : Nat → Nat) (holding : Int32) (wool : Int32) (days : Int32) (sights : Int32) (padMany : Int32) (acts : Int32) (drawnBits : Int32) (drawnMany : Int32) (drawnNow : Int32) (badAct : Int32) (badWhy : Int32) (drawnAct : Int32) (drawnChild : Int32) (keptAt : Int32) (isWriting : Int32)  (kx21 : (Nat → Int32) → Option ((Nat → Int32) × Int32)) (res : (Nat → Int32) × Int32) (hkx21 : ∀ (feels : Nat → Int32) , kx21 feels = some res → Wd p l e rm_X8_passDay s m args below meth c D w0 2 0 0 (MQ below (QcV D (tysW cI cZ cG) w0 [(h, oX8 A holding wool res.2 sights padMany acts drawnBits drawnMany drawnNow badAct badWhy drawnAct drawnChild keptAt isWriting), ((A 1), aI cI 10 res.1)] s.heap.size) args s 0 0 (va_A w0 s.heap.size)) [(h, oX8 A holding wool days sights padMany acts drawnBits drawnMany drawnNow badAct badWhy drawnAct drawnChild keptAt isWriting), ((A 1), aI cI 10 feels)] [(0, .ref h)] 21 []) : ∀ (n : Nat) (u1 : Int32) (feels : Nat → Int32), f_X8_passDay_2 kx21 n u1 feels = some res → Wd p l e rm_X8_passDay s m args below meth c D w0 2 0 0 (MQ below (QcV D (tysW cI cZ cG) w0 [(h, oX8 A holding wool res.2 sights padMany acts drawnBits drawnMany drawnNow badAct badWhy drawnAct drawnChild keptAt isWriting), ((A 1), aI cI 10 res.1)] s.heap.size) args s 0 0 (va_A w0 s.heap.size)) [(h, oX8 A holding wool days sights padMany acts drawnBits drawnMany drawnNow badAct badWhy drawnAct drawnChild keptAt isWriting), ((A 1), aI cI 10 feels)] [(0, .ref h), (1, .int u1)] 2 [] := by
  intro n
  induction n with
  | zero =>
    intro u1 feels hf
    exact no_none hf
  | succ n ih =>
    intro u1 feels hf
    unfold f_X8_passDay_2 at hf
    refine r_iload_n C dX8_passDay_2 rfl 1 rfl rfl ?_
    refine r_bipush C dX8_passDay_3 kk_b_10 rfl ?_
    refine r_icmp_ge (tgt := 21) C dX8_passDay_5 rfl rfl (fun c1 => ?_) (fun c1 => ?_)
    · have hf := gd_t c1 hf
      refine r_lv (lv' := [(0, .ref h)]) [0] rfl ?_
      exact hkx21 _ hf
    · have hf := gd_f c1 hf
      refine r_aload_n C dX8_passDay_8 rfl 0 rfl rfl ?_
      refine r_get C dX8_passDay_9 fw_X8_passDay_X8 0 rfl rfl 1 (by decide) rfl fl_X8_passDay_13 rfl rfl ?_
      refine r_iload_n C dX8_passDay_12 rfl 1 rfl rfl ?_
      refine r_iconst C dX8_passDay_13 kk_i_0 rfl ?_
      obtain ⟨g2, hf⟩ := gd_n hf
      refine r_iast (ws' := [(h, oX8 A holding wool days sights padMany acts drawnBits drawnMany drawnNow badAct badWhy drawnAct drawnChild keptAt isWriting), ((A 1), aI cI 10 (upd feels u1.toNatClampNeg (0 : Int32)))]) C dX8_passDay_14 1 0 rfl rfl g2 rfl rfl ?_
      refine r_iinc (lv' := [(1, .int (u1 + (1 : Int32))), (0, .ref h)]) C dX8_passDay_15 1 rfl (ki_1 _) (by decide) rfl rfl ?_
      refine r_goto (tgt := 2) C dX8_passDay_18 rfl ?_
      refine r_lv (lv' := [(0, .ref h), (1, .int (u1 + (1 : Int32)))]) [1, 0] rfl ?_
      exact ih _ _ hf
def f_X8_passDay (feels : Nat → Int32) (days : Int32) : Option ((Nat → Int32) × Int32) := f_X8_passDay_2 (fun feels_3 => some (feels_3, (days + (1 : Int32)))) 2000 (0 : Int32) feels
set_option maxHeartbeats 4000000 in
set_option maxRecDepth 100000 in
theorem c_X8_passDay (l : Launch) (D : va_G) (cI cZ cG : ClassId) (h : Nat) (A : Nat → Nat) (feels : Nat → Int32) (holding : Int32) (wool : Int32) (days : Int32) (sights : Int32) (padMany : Int32) (acts : Int32) (drawnBits : Int32) (drawnMany : Int32) (drawnNow : Int32) (badAct : Int32) (badWhy : Int32) (drawnAct : Int32) (drawnChild : Int32) (keptAt : Int32) (isWriting : Int32) (res : (Nat → Int32) × Int32) (hf : f_X8_passDay feels days = some res) : CV l D (tysW cI cZ cG) yX8_passDay wsX8_passDay rm_X8_passDay [.ref h] [(h, oX8 A holding wool days sights padMany acts drawnBits drawnMany drawnNow badAct badWhy drawnAct drawnChild keptAt isWriting), ((A 1), aI cI 10 feels)] [(h, oX8 A holding wool res.2 sights padMany acts drawnBits drawnMany drawnNow badAct badWhy drawnAct drawnChild keptAt isWriting), ((A 1), aI cI 10 res.1)] := by
  refine CG.intro (own := RX8) (by decide +kernel) rfl rfl (Nat.le_of_ble_eq_true rfl) (fun p e s m args below meth c C => ?_)
  refine r_lv (lv' := [(0, .ref h)]) [0] rfl ?_
  unfold f_X8_passDay at hf
  refine r_iconst C dX8_passDay_0 kk_i_0 rfl ?_
  refine r_istore_n (lv' := [(1, .int (0 : Int32)), (0, .ref h)]) C dX8_passDay_1 rfl (by decide) rfl rfl ?_
  refine r_lv (lv' := [(0, .ref h), (1, .int (0 : Int32))]) [1, 0] rfl ?_
  refine k_X8_passDay_2 C h A holding wool days sights padMany acts drawnBits drawnMany drawnNow badAct badWhy drawnAct drawnChild keptAt isWriting _ _ ?_ 2000 _ _ hf
  · intro feels_3 hf
    refine r_aload_n C dX8_passDay_21 rfl 0 rfl rfl ?_
    refine r_dup C dX8_passDay_22 rfl rfl ?_
    refine r_get C dX8_passDay_23 fw_X8_passDay_X8 0 rfl rfl 5 (by decide) rfl fl_X8_passDay_168 rfl rfl ?_
    refine r_iconst C dX8_passDay_26 kk_i_1 rfl ?_
    refine r_iadd C dX8_passDay_27 rfl ?_
    refine r_put (ty := .int) (ws' := [(h, oX8 A holding wool (days + (1 : Int32)) sights padMany acts drawnBits drawnMany drawnNow badAct badWhy drawnAct drawnChild keptAt isWriting), ((A 1), aI cI 10 feels_3)]) C dX8_passDay_28 fw_X8_passDay_X8 tyX8 tyX8_ok nmX8 0 rfl rfl 5 (by decide) rfl fl_X8_passDay_168 rfl (by decide +kernel) rfl rfl (Nat.le_of_ble_eq_true rfl) rfl rfl ?_
    cases hf
    exact r_vret C dX8_passDay_31 rfl
theorem fw_X8_happen_X8 : ∀ w ∈ u_ws RX8 TX8 37, w ∈ wsX8_happen := by decide +kernel
theorem fl_X8_happen_101 : Cond.fieldLink RX8 101 "MittenLineModel" "holding" "I" ∈ wsX8_happen := by decide +kernel
theorem fl_X8_happen_16 : Cond.fieldLink RX8 16 "MittenLineModel" "length" "[I" ∈ wsX8_happen := by decide +kernel
theorem fl_X8_happen_77 : Cond.fieldLink RX8 77 "MittenLineModel" "wool" "I" ∈ wsX8_happen := by decide +kernel
abbrev rm_X8_happen : Jvm.Room := { frames := 4, cells := 0, slots := 0, locals := 91 }
def f_X8_happen (yard : Nat → Int32) (feels : Nat → Int32) (length : Nat → Int32) (holding : Int32) (wool : Int32) (days : Int32) (then_ : Nat → Int32) (drawnBits : Int32) (drawnMany : Int32) (drawnNow : Int32) (u1 : Int32) (u2 : Int32) (u3 : Int32) : Option ((Nat → Int32) × (Nat → Int32) × (Nat → Int32) × Int32 × Int32 × Int32 × (Nat → Int32) × Int32 × Int32 × Int32) := if u1 = (0 : Int32) then (f_X8_go yard length then_ drawnBits drawnMany drawnNow u2 u3).bind (fun r2 => some (r2.1, feels, length, holding, wool, days, r2.2.1, r2.2.2.1, r2.2.2.2.1, r2.2.2.2.2)) else if u1 = (1 : Int32) then (f_X8_go yard length then_ drawnBits drawnMany drawnNow u2 (-u3)).bind (fun r4 => some (r4.1, feels, length, holding, wool, days, r4.2.1, r4.2.2.1, r4.2.2.2.1, r4.2.2.2.2)) else if u1 = (2 : Int32) then some (yard, feels, length, (holding ^^^ ((1 : Int32) <<< (u2 &&& 31))), wool, days, then_, drawnBits, drawnMany, drawnNow) else if u1 = (3 : Int32) then (f_X8_squeeze yard feels length u2 u3).bind (fun r7 => some (yard, r7, length, holding, wool, days, then_, drawnBits, drawnMany, drawnNow)) else if u1 = (4 : Int32) then if u2 < 0 ∨ 9 ≤ u2.toNatClampNeg then none else some (yard, feels, (upd length u2.toNatClampNeg ((length u2.toNatClampNeg) + (1 : Int32))), holding, (wool - (1 : Int32)), days, then_, drawnBits, drawnMany, drawnNow) else if u1 = (5 : Int32) then if u2 < 0 ∨ 9 ≤ u2.toNatClampNeg then none else (f_X8_less (999 : Int32) (wool + (1 : Int32))).bind (fun r12 => some (yard, feels, (upd length u2.toNatClampNeg ((length u2.toNatClampNeg) - (1 : Int32))), holding, r12, days, then_, drawnBits, drawnMany, drawnNow)) else (f_X8_passDay feels days).bind (fun r13 => some (yard, r13.1, length, holding, wool, r13.2, then_, drawnBits, drawnMany, drawnNow))
set_option maxHeartbeats 4000000 in
set_option maxRecDepth 100000 in
theorem c_X8_happen (l : Launch) (D : va_G) (cI cZ cG : ClassId) (h : Nat) (A : Nat → Nat) (yard : Nat → Int32) (feels : Nat → Int32) (length : Nat → Int32) (holding : Int32) (wool : Int32) (days : Int32) (sights : Int32) (padMany : Int32) (acts : Int32) (then_ : Nat → Int32) (drawnBits : Int32) (drawnMany : Int32) (drawnNow : Int32) (badAct : Int32) (badWhy : Int32) (drawnAct : Int32) (drawnChild : Int32) (keptAt : Int32) (isWriting : Int32) (u1 : Int32) (u2 : Int32) (u3 : Int32) (res : (Nat → Int32) × (Nat → Int32) × (Nat → Int32) × Int32 × Int32 × Int32 × (Nat → Int32) × Int32 × Int32 × Int32) (hf : f_X8_happen yard feels length holding wool days then_ drawnBits drawnMany drawnNow u1 u2 u3 = some res) : CV l D (tysW cI cZ cG) yX8_happen wsX8_happen rm_X8_happen [.ref h, .int u1, .int u2, .int u3] [(h, oX8 A holding wool days sights padMany acts drawnBits drawnMany drawnNow badAct badWhy drawnAct drawnChild keptAt isWriting), ((A 0), aI cI 10 yard), ((A 1), aI cI 10 feels), ((A 2), aI cI 9 length), ((A 15), aI cI 10 then_)] [(h, oX8 A res.2.2.2.1 res.2.2.2.2.1 res.2.2.2.2.2.1 sights padMany acts res.2.2.2.2.2.2.2.1 res.2.2.2.2.2.2.2.2.1 res.2.2.2.2.2.2.2.2.2 badAct badWhy drawnAct drawnChild keptAt isWriting), ((A 0), aI cI 10 res.1), ((A 1), aI cI 10 res.2.1), ((A 2), aI cI 9 res.2.2.1), ((A 15), aI cI 10 res.2.2.2.2.2.2.1)] := by
  refine CG.intro (own := RX8) (by decide +kernel) rfl rfl (Nat.le_of_ble_eq_true rfl) (fun p e s m args below meth c C => ?_)
  refine r_lv (lv' := [(0, .ref h), (1, .int u1), (2, .int u2), (3, .int u3)]) [0, 1, 2, 3] rfl ?_
  unfold f_X8_happen at hf
  refine r_iload_n C dX8_happen_0 rfl 1 rfl rfl ?_
  by_cases c1 : u1 = (0 : Int32)
  · have hf := gd_t c1 hf
    refine r_tabIn (tgt := 40) C dX8_happen_1 c1 (by decide) (by decide) rfl rfl ?_
    refine r_aload_n C dX8_happen_40 rfl 0 rfl rfl ?_
    refine r_iload_n C dX8_happen_41 rfl 2 rfl rfl ?_
    refine r_iload_n C dX8_happen_42 rfl 3 rfl rfl ?_
    obtain ⟨r2, e2, hf⟩ := gd_b hf
    refine o_V (wn := [(h, oX8 A holding wool days sights padMany acts r2.2.2.1 r2.2.2.2.1 r2.2.2.2.2 badAct badWhy drawnAct drawnChild keptAt isWriting), ((A 0), aI cI 10 r2.1), ((A 1), aI cI 10 feels), ((A 2), aI cI 9 length), ((A 15), aI cI 10 r2.2.1)]) C [0, 1, 3, 4] rfl (x_V C dX8_happen_43 (c_X8_go l D cI cZ cG h A yard length holding wool days sights padMany acts then_ drawnBits drawnMany drawnNow badAct badWhy drawnAct drawnChild keptAt isWriting u2 u3 r2 e2) rfl gX8_happen_X8_go hd_X8_go rfl ⟨Nat.le_of_ble_eq_true rfl, Nat.le_of_ble_eq_true rfl⟩ ⟨rfl, rfl⟩ ⟨Nat.zero_le _, Nat.zero_le _⟩ rfl [0, 1, 3, 4] rfl rfl 0 rfl rfl (Nat.le_of_ble_eq_true rfl) rfl) rfl rfl rfl ?_
    refine r_goto (tgt := 139) C dX8_happen_46 rfl ?_
    cases hf
    exact r_vret C dX8_happen_139 rfl
  have hf := gd_f c1 hf
  by_cases c3 : u1 = (1 : Int32)
  · have hf := gd_t c3 hf
    refine r_tabIn (tgt := 49) C dX8_happen_1 c3 (by decide) (by decide) rfl rfl ?_
    refine r_aload_n C dX8_happen_49 rfl 0 rfl rfl ?_
    refine r_iload_n C dX8_happen_50 rfl 2 rfl rfl ?_
    refine r_iload_n C dX8_happen_51 rfl 3 rfl rfl ?_
    refine r_ineg C dX8_happen_52 rfl ?_
    obtain ⟨r4, e4, hf⟩ := gd_b hf
    refine o_V (wn := [(h, oX8 A holding wool days sights padMany acts r4.2.2.1 r4.2.2.2.1 r4.2.2.2.2 badAct badWhy drawnAct drawnChild keptAt isWriting), ((A 0), aI cI 10 r4.1), ((A 1), aI cI 10 feels), ((A 2), aI cI 9 length), ((A 15), aI cI 10 r4.2.1)]) C [0, 1, 3, 4] rfl (x_V C dX8_happen_53 (c_X8_go l D cI cZ cG h A yard length holding wool days sights padMany acts then_ drawnBits drawnMany drawnNow badAct badWhy drawnAct drawnChild keptAt isWriting u2 (-u3) r4 e4) rfl gX8_happen_X8_go hd_X8_go rfl ⟨Nat.le_of_ble_eq_true rfl, Nat.le_of_ble_eq_true rfl⟩ ⟨rfl, rfl⟩ ⟨Nat.zero_le _, Nat.zero_le _⟩ rfl [0, 1, 3, 4] rfl rfl 0 rfl rfl (Nat.le_of_ble_eq_true rfl) rfl) rfl rfl rfl ?_
    refine r_goto (tgt := 139) C dX8_happen_56 rfl ?_
    cases hf
    exact r_vret C dX8_happen_139 rfl
  have hf := gd_f c3 hf
  by_cases c5 : u1 = (2 : Int32)
  · have hf := gd_t c5 hf
    refine r_tabIn (tgt := 59) C dX8_happen_1 c5 (by decide) (by decide) rfl rfl ?_
    refine r_aload_n C dX8_happen_59 rfl 0 rfl rfl ?_
    refine r_dup C dX8_happen_60 rfl rfl ?_
    refine r_get C dX8_happen_61 fw_X8_happen_X8 0 rfl rfl 3 (by decide) rfl fl_X8_happen_101 rfl rfl ?_
    refine r_iconst C dX8_happen_64 kk_i_1 rfl ?_
    refine r_iload_n C dX8_happen_65 rfl 2 rfl rfl ?_
    refine r_ishl C dX8_happen_66 rfl ?_
    refine r_ixor C dX8_happen_67 rfl ?_
    refine r_put (ty := .int) (ws' := [(h, oX8 A (holding ^^^ ((1 : Int32) <<< (u2 &&& 31))) wool days sights padMany acts drawnBits drawnMany drawnNow badAct badWhy drawnAct drawnChild keptAt isWriting), ((A 0), aI cI 10 yard), ((A 1), aI cI 10 feels), ((A 2), aI cI 9 length), ((A 15), aI cI 10 then_)]) C dX8_happen_68 fw_X8_happen_X8 tyX8 tyX8_ok nmX8 0 rfl rfl 3 (by decide) rfl fl_X8_happen_101 rfl (by decide +kernel) rfl rfl (Nat.le_of_ble_eq_true rfl) rfl rfl ?_
    refine r_goto (tgt := 139) C dX8_happen_71 rfl ?_
    cases hf
    exact r_vret C dX8_happen_139 rfl
  have hf := gd_f c5 hf
  by_cases c6 : u1 = (3 : Int32)
  · have hf := gd_t c6 hf
    refine r_tabIn (tgt := 74) C dX8_happen_1 c6 (by decide) (by decide) rfl rfl ?_
    refine r_aload_n C dX8_happen_74 rfl 0 rfl rfl ?_
    refine r_iload_n C dX8_happen_75 rfl 2 rfl rfl ?_
    refine r_iload_n C dX8_happen_76 rfl 3 rfl rfl ?_
    obtain ⟨r7, e7, hf⟩ := gd_b hf
    refine o_V (wn := [(h, oX8 A holding wool days sights padMany acts drawnBits drawnMany drawnNow badAct badWhy drawnAct drawnChild keptAt isWriting), ((A 0), aI cI 10 yard), ((A 1), aI cI 10 r7), ((A 2), aI cI 9 length), ((A 15), aI cI 10 then_)]) C [0, 1, 2, 3] rfl (x_V C dX8_happen_77 (c_X8_squeeze l D cI cZ cG h A yard feels length holding wool days sights padMany acts drawnBits drawnMany drawnNow badAct badWhy drawnAct drawnChild keptAt isWriting u2 u3 r7 e7) rfl gX8_happen_X8_squeeze hd_X8_squeeze rfl ⟨Nat.le_of_ble_eq_true rfl, Nat.le_of_ble_eq_true rfl⟩ ⟨rfl, rfl⟩ ⟨Nat.zero_le _, Nat.zero_le _⟩ rfl [0, 1, 2, 3] rfl rfl 0 rfl rfl (Nat.le_of_ble_eq_true rfl) rfl) rfl rfl rfl ?_
    refine r_goto (tgt := 139) C dX8_happen_80 rfl ?_
    cases hf
    exact r_vret C dX8_happen_139 rfl
  have hf := gd_f c6 hf
  by_cases c8 : u1 = (4 : Int32)
  · have hf := gd_t c8 hf
    refine r_tabIn (tgt := 83) C dX8_happen_1 c8 (by decide) (by decide) rfl rfl ?_
    refine r_aload_n C dX8_happen_83 rfl 0 rfl rfl ?_
    refine r_get C dX8_happen_84 fw_X8_happen_X8 0 rfl rfl 2 (by decide) rfl fl_X8_happen_16 rfl rfl ?_
    refine r_iload_n C dX8_happen_87 rfl 2 rfl rfl ?_
    refine r_dup2 C dX8_happen_88 rfl rfl rfl ?_
    obtain ⟨g9, hf⟩ := gd_n hf
    refine r_iald C dX8_happen_89 3 0 rfl rfl g9 rfl ?_
    refine r_iconst C dX8_happen_90 kk_i_1 rfl ?_
    refine r_iadd C dX8_happen_91 rfl ?_
    refine r_iast (ws' := [(h, oX8 A holding wool days sights padMany acts drawnBits drawnMany drawnNow badAct badWhy drawnAct drawnChild keptAt isWriting), ((A 0), aI cI 10 yard), ((A 1), aI cI 10 feels), ((A 2), aI cI 9 (upd length u2.toNatClampNeg ((length u2.toNatClampNeg) + (1 : Int32)))), ((A 15), aI cI 10 then_)]) C dX8_happen_92 3 0 rfl rfl g9 rfl rfl ?_
    refine r_aload_n C dX8_happen_93 rfl 0 rfl rfl ?_
    refine r_dup C dX8_happen_94 rfl rfl ?_
    refine r_get C dX8_happen_95 fw_X8_happen_X8 0 rfl rfl 4 (by decide) rfl fl_X8_happen_77 rfl rfl ?_
    refine r_iconst C dX8_happen_98 kk_i_1 rfl ?_
    refine r_isub C dX8_happen_99 rfl ?_
    refine r_put (ty := .int) (ws' := [(h, oX8 A holding (wool - (1 : Int32)) days sights padMany acts drawnBits drawnMany drawnNow badAct badWhy drawnAct drawnChild keptAt isWriting), ((A 0), aI cI 10 yard), ((A 1), aI cI 10 feels), ((A 2), aI cI 9 (upd length u2.toNatClampNeg ((length u2.toNatClampNeg) + (1 : Int32)))), ((A 15), aI cI 10 then_)]) C dX8_happen_100 fw_X8_happen_X8 tyX8 tyX8_ok nmX8 0 rfl rfl 4 (by decide) rfl fl_X8_happen_77 rfl (by decide +kernel) rfl rfl (Nat.le_of_ble_eq_true rfl) rfl rfl ?_
    refine r_goto (tgt := 139) C dX8_happen_103 rfl ?_
    cases hf
    exact r_vret C dX8_happen_139 rfl
  have hf := gd_f c8 hf
  by_cases c10 : u1 = (5 : Int32)
  · have hf := gd_t c10 hf
    refine r_tabIn (tgt := 106) C dX8_happen_1 c10 (by decide) (by decide) rfl rfl ?_
    refine r_aload_n C dX8_happen_106 rfl 0 rfl rfl ?_
    refine r_get C dX8_happen_107 fw_X8_happen_X8 0 rfl rfl 2 (by decide) rfl fl_X8_happen_16 rfl rfl ?_
    refine r_iload_n C dX8_happen_110 rfl 2 rfl rfl ?_
    refine r_dup2 C dX8_happen_111 rfl rfl rfl ?_
    obtain ⟨g11, hf⟩ := gd_n hf
    refine r_iald C dX8_happen_112 3 0 rfl rfl g11 rfl ?_
    refine r_iconst C dX8_happen_113 kk_i_1 rfl ?_
    refine r_isub C dX8_happen_114 rfl ?_
    refine r_iast (ws' := [(h, oX8 A holding wool days sights padMany acts drawnBits drawnMany drawnNow badAct badWhy drawnAct drawnChild keptAt isWriting), ((A 0), aI cI 10 yard), ((A 1), aI cI 10 feels), ((A 2), aI cI 9 (upd length u2.toNatClampNeg ((length u2.toNatClampNeg) - (1 : Int32)))), ((A 15), aI cI 10 then_)]) C dX8_happen_115 3 0 rfl rfl g11 rfl rfl ?_
    refine r_aload_n C dX8_happen_116 rfl 0 rfl rfl ?_
    refine r_sipush C dX8_happen_117 kk_s_999 rfl ?_
    refine r_aload_n C dX8_happen_120 rfl 0 rfl rfl ?_
    refine r_get C dX8_happen_121 fw_X8_happen_X8 0 rfl rfl 4 (by decide) rfl fl_X8_happen_77 rfl rfl ?_
    refine r_iconst C dX8_happen_124 kk_i_1 rfl ?_
    refine r_iadd C dX8_happen_125 rfl ?_
    obtain ⟨r12, e12, hf⟩ := gd_b hf
    refine o_I (wn := [(h, oX8 A holding wool days sights padMany acts drawnBits drawnMany drawnNow badAct badWhy drawnAct drawnChild keptAt isWriting), ((A 0), aI cI 10 yard), ((A 1), aI cI 10 feels), ((A 2), aI cI 9 (upd length u2.toNatClampNeg ((length u2.toNatClampNeg) - (1 : Int32)))), ((A 15), aI cI 10 then_)]) C [] rfl (x_S C dX8_happen_126 (c_X8_less l D cI cZ cG (999 : Int32) (wool + (1 : Int32)) r12 e12) rfl gX8_happen_X8_less hs_X8_less rfl ⟨Nat.le_of_ble_eq_true rfl, Nat.le_of_ble_eq_true rfl⟩ ⟨rfl, rfl⟩ ⟨Nat.zero_le _, Nat.zero_le _⟩ rfl [] rfl rfl (Nat.le_of_ble_eq_true rfl) rfl) rfl rfl rfl ?_
    refine r_put (ty := .int) (ws' := [(h, oX8 A holding r12 days sights padMany acts drawnBits drawnMany drawnNow badAct badWhy drawnAct drawnChild keptAt isWriting), ((A 0), aI cI 10 yard), ((A 1), aI cI 10 feels), ((A 2), aI cI 9 (upd length u2.toNatClampNeg ((length u2.toNatClampNeg) - (1 : Int32)))), ((A 15), aI cI 10 then_)]) C dX8_happen_129 fw_X8_happen_X8 tyX8 tyX8_ok nmX8 0 rfl rfl 4 (by decide) rfl fl_X8_happen_77 rfl (by decide +kernel) rfl rfl (Nat.le_of_ble_eq_true rfl) rfl rfl ?_
    refine r_goto (tgt := 139) C dX8_happen_132 rfl ?_
    cases hf
    exact r_vret C dX8_happen_139 rfl
  have hf := gd_f c10 hf
  refine r_tabOut (tgt := 135) C dX8_happen_1 (by have e0 := lv_neT (a := 0) c1 rfl; have e1 := lv_neT (a := 1) c3 rfl; have e2 := lv_neT (a := 2) c5 rfl; have e3 := lv_neT (a := 3) c6 rfl; have e4 := lv_neT (a := 4) c8 rfl; have e5 := lv_neT (a := 5) c10 rfl; omega) rfl ?_
  refine r_aload_n C dX8_happen_135 rfl 0 rfl rfl ?_
  obtain ⟨r13, e13, hf⟩ := gd_b hf
  refine o_V (wn := [(h, oX8 A holding wool r13.2 sights padMany acts drawnBits drawnMany drawnNow badAct badWhy drawnAct drawnChild keptAt isWriting), ((A 0), aI cI 10 yard), ((A 1), aI cI 10 r13.1), ((A 2), aI cI 9 length), ((A 15), aI cI 10 then_)]) C [0, 2] rfl (x_V C dX8_happen_136 (c_X8_passDay l D cI cZ cG h A feels holding wool days sights padMany acts drawnBits drawnMany drawnNow badAct badWhy drawnAct drawnChild keptAt isWriting r13 e13) rfl gX8_happen_X8_passDay hd_X8_passDay rfl ⟨Nat.le_of_ble_eq_true rfl, Nat.le_of_ble_eq_true rfl⟩ ⟨rfl, rfl⟩ ⟨Nat.zero_le _, Nat.zero_le _⟩ rfl [0, 2] rfl rfl 0 rfl rfl (Nat.le_of_ble_eq_true rfl) rfl) rfl rfl rfl ?_
  cases hf
  exact r_vret C dX8_happen_139 rfl
theorem fw_X8_keepNow_X8 : ∀ w ∈ u_ws RX8 TX8 37, w ∈ wsX8_keepNow := by decide +kernel
theorem fl_X8_keepNow_40 : Cond.fieldLink RX8 40 "MittenLineModel" "had" "[I" ∈ wsX8_keepNow := by decide +kernel
theorem fl_X8_keepNow_7 : Cond.fieldLink RX8 7 "MittenLineModel" "yard" "[I" ∈ wsX8_keepNow := by decide +kernel
theorem fl_X8_keepNow_13 : Cond.fieldLink RX8 13 "MittenLineModel" "feels" "[I" ∈ wsX8_keepNow := by decide +kernel
theorem fl_X8_keepNow_16 : Cond.fieldLink RX8 16 "MittenLineModel" "length" "[I" ∈ wsX8_keepNow := by decide +kernel
theorem fl_X8_keepNow_101 : Cond.fieldLink RX8 101 "MittenLineModel" "holding" "I" ∈ wsX8_keepNow := by decide +kernel
theorem fl_X8_keepNow_77 : Cond.fieldLink RX8 77 "MittenLineModel" "wool" "I" ∈ wsX8_keepNow := by decide +kernel
theorem fl_X8_keepNow_168 : Cond.fieldLink RX8 168 "MittenLineModel" "days" "I" ∈ wsX8_keepNow := by decide +kernel
abbrev rm_X8_keepNow : Jvm.Room := { frames := 0, cells := 0, slots := 0, locals := 0 }
def f_X8_keepNow_2 (yard : Nat → Int32) (feels : Nat → Int32) (kx41 : (Nat → Int32) → Option ((Nat → Int32))) : Nat → Int32 → (Nat → Int32) → Option ((Nat → Int32))
  | 0, _, _ => none
  | n + 1, u1, had => if (10 : Int32) ≤ u1 then kx41 had else if u1 < 0 ∨ 10 ≤ u1.toNatClampNeg then none else if u1 < 0 ∨ 32 ≤ u1.toNatClampNeg then none else if ((10 : Int32) + u1) < 0 ∨ 32 ≤ ((10 : Int32) + u1).toNatClampNeg then none else f_X8_keepNow_2 yard feels kx41 n (u1 + (1 : Int32)) (upd (upd had u1.toNatClampNeg (yard u1.toNatClampNeg)) ((10 : Int32) + u1).toNatClampNeg (feels u1.toNatClampNeg))
set_option maxHeartbeats 4000000 in
set_option maxRecDepth 100000 in
theorem k_X8_keepNow_2 (C : Cx p s m args meth c D (tysW cI cZ cG) RX8 cX8_keepNow 2 wsX8_keepNow none) (h : Nat) (A : Nat → Nat) (yard : Nat → Int32) (feels : Nat → Int32) (length : Nat → Int32) (holding : Int32) (wool : Int32) (days : Int32) (sights : Int32) (padMany : Int32) (acts : Int32) (drawnBits : Int32) (drawnMany : Int32) (drawnNow : Int32) (badAct : Int32) (badWhy : Int32) (drawnAct : Int32) (drawnChild : Int32) (keptAt : Int32) (isWriting : Int32)  (kx41 : (Nat → Int32) → Option ((Nat → Int32))) (res : (Nat → Int32)) (hkx41 : ∀ (had : Nat → Int32) , kx41 had = some res → Wd p l e rm_X8_keepNow s m args below meth c D w0 2 0 0 (MQ below (QcV D (tysW cI cZ cG) w0 [(h, oX8 A holding wool days sights padMany acts drawnBits drawnMany drawnNow badAct badWhy drawnAct drawnChild keptAt isWriting), ((A 0), aI cI 10 yard), ((A 1), aI cI 10 feels), ((A 2), aI cI 9 length), ((A 19), aI cI 32 res)] s.heap.size) args s 0 0 (va_A w0 s.heap.size)) [(h, oX8 A holding wool days sights padMany acts drawnBits drawnMany drawnNow badAct badWhy drawnAct drawnChild keptAt isWriting), ((A 0), aI cI 10 yard), ((A 1), aI cI 10 feels), ((A 2), aI cI 9 length), ((A 19), aI cI 32 had)] [(0, .ref h)] 41 []) : ∀ (n : Nat) (u1 : Int32) (had : Nat → Int32), f_X8_keepNow_2 yard feels kx41 n u1 had = some res → Wd p l e rm_X8_keepNow s m args below meth c D w0 2 0 0 (MQ below (QcV D (tysW cI cZ cG) w0 [(h, oX8 A holding wool days sights padMany acts drawnBits drawnMany drawnNow badAct badWhy drawnAct drawnChild keptAt isWriting), ((A 0), aI cI 10 yard), ((A 1), aI cI 10 feels), ((A 2), aI cI 9 length), ((A 19), aI cI 32 res)] s.heap.size) args s 0 0 (va_A w0 s.heap.size)) [(h, oX8 A holding wool days sights padMany acts drawnBits drawnMany drawnNow badAct badWhy drawnAct drawnChild keptAt isWriting), ((A 0), aI cI 10 yard), ((A 1), aI cI 10 feels), ((A 2), aI cI 9 length), ((A 19), aI cI 32 had)] [(0, .ref h), (1, .int u1)] 2 [] := by
  intro n
  induction n with
  | zero =>
    intro u1 had hf
    exact no_none hf
  | succ n ih =>
    intro u1 had hf
    unfold f_X8_keepNow_2 at hf
    refine r_iload_n C dX8_keepNow_2 rfl 1 rfl rfl ?_
    refine r_bipush C dX8_keepNow_3 kk_b_10 rfl ?_
    refine r_icmp_ge (tgt := 41) C dX8_keepNow_5 rfl rfl (fun c1 => ?_) (fun c1 => ?_)
    · have hf := gd_t c1 hf
      refine r_lv (lv' := [(0, .ref h)]) [0] rfl ?_
      exact hkx41 _ hf
    · have hf := gd_f c1 hf
      refine r_aload_n C dX8_keepNow_8 rfl 0 rfl rfl ?_
      refine r_get C dX8_keepNow_9 fw_X8_keepNow_X8 0 rfl rfl 19 (by decide) rfl fl_X8_keepNow_40 rfl rfl ?_
      refine r_iload_n C dX8_keepNow_12 rfl 1 rfl rfl ?_
      refine r_aload_n C dX8_keepNow_13 rfl 0 rfl rfl ?_
      refine r_get C dX8_keepNow_14 fw_X8_keepNow_X8 0 rfl rfl 0 (by decide) rfl fl_X8_keepNow_7 rfl rfl ?_
      refine r_iload_n C dX8_keepNow_17 rfl 1 rfl rfl ?_
      obtain ⟨g2, hf⟩ := gd_n hf
      refine r_iald C dX8_keepNow_18 1 0 rfl rfl g2 rfl ?_
      obtain ⟨g3, hf⟩ := gd_n hf
      refine r_iast (ws' := [(h, oX8 A holding wool days sights padMany acts drawnBits drawnMany drawnNow badAct badWhy drawnAct drawnChild keptAt isWriting), ((A 0), aI cI 10 yard), ((A 1), aI cI 10 feels), ((A 2), aI cI 9 length), ((A 19), aI cI 32 (upd had u1.toNatClampNeg (yard u1.toNatClampNeg)))]) C dX8_keepNow_19 4 0 rfl rfl g3 rfl rfl ?_
      refine r_aload_n C dX8_keepNow_20 rfl 0 rfl rfl ?_
      refine r_get C dX8_keepNow_21 fw_X8_keepNow_X8 0 rfl rfl 19 (by decide) rfl fl_X8_keepNow_40 rfl rfl ?_
      refine r_bipush C dX8_keepNow_24 kk_b_10 rfl ?_
      refine r_iload_n C dX8_keepNow_26 rfl 1 rfl rfl ?_
      refine r_iadd C dX8_keepNow_27 rfl ?_
      refine r_aload_n C dX8_keepNow_28 rfl 0 rfl rfl ?_
      refine r_get C dX8_keepNow_29 fw_X8_keepNow_X8 0 rfl rfl 1 (by decide) rfl fl_X8_keepNow_13 rfl rfl ?_
      refine r_iload_n C dX8_keepNow_32 rfl 1 rfl rfl ?_
      refine r_iald C dX8_keepNow_33 2 0 rfl rfl g2 rfl ?_
      obtain ⟨g4, hf⟩ := gd_n hf
      refine r_iast (ws' := [(h, oX8 A holding wool days sights padMany acts drawnBits drawnMany drawnNow badAct badWhy drawnAct drawnChild keptAt isWriting), ((A 0), aI cI 10 yard), ((A 1), aI cI 10 feels), ((A 2), aI cI 9 length), ((A 19), aI cI 32 (upd (upd had u1.toNatClampNeg (yard u1.toNatClampNeg)) ((10 : Int32) + u1).toNatClampNeg (feels u1.toNatClampNeg)))]) C dX8_keepNow_34 4 0 rfl rfl g4 rfl rfl ?_
      refine r_iinc (lv' := [(1, .int (u1 + (1 : Int32))), (0, .ref h)]) C dX8_keepNow_35 1 rfl (ki_1 _) (by decide) rfl rfl ?_
      refine r_goto (tgt := 2) C dX8_keepNow_38 rfl ?_
      refine r_lv (lv' := [(0, .ref h), (1, .int (u1 + (1 : Int32)))]) [1, 0] rfl ?_
      exact ih _ _ hf
def f_X8_keepNow_43 (length : Nat → Int32) (kx70 : (Nat → Int32) → Option ((Nat → Int32))) : Nat → Int32 → (Nat → Int32) → Option ((Nat → Int32))
  | 0, _, _ => none
  | n + 1, u1, had => if (9 : Int32) ≤ u1 then kx70 had else if u1 < 0 ∨ 9 ≤ u1.toNatClampNeg then none else if ((20 : Int32) + u1) < 0 ∨ 32 ≤ ((20 : Int32) + u1).toNatClampNeg then none else f_X8_keepNow_43 length kx70 n (u1 + (1 : Int32)) (upd had ((20 : Int32) + u1).toNatClampNeg (length u1.toNatClampNeg))
set_option maxHeartbeats 4000000 in
set_option maxRecDepth 100000 in
theorem k_X8_keepNow_43 (C : Cx p s m args meth c D (tysW cI cZ cG) RX8 cX8_keepNow 2 wsX8_keepNow none) (h : Nat) (A : Nat → Nat) (yard : Nat → Int32) (feels : Nat → Int32) (length : Nat → Int32) (holding : Int32) (wool : Int32) (days : Int32) (sights : Int32) (padMany : Int32) (acts : Int32) (drawnBits : Int32) (drawnMany : Int32) (drawnNow : Int32) (badAct : Int32) (badWhy : Int32) (drawnAct : Int32) (drawnChild : Int32) (keptAt : Int32) (isWriting : Int32)  (kx70 : (Nat → Int32) → Option ((Nat → Int32))) (res : (Nat → Int32)) (hkx70 : ∀ (had : Nat → Int32) , kx70 had = some res → Wd p l e rm_X8_keepNow s m args below meth c D w0 2 0 0 (MQ below (QcV D (tysW cI cZ cG) w0 [(h, oX8 A holding wool days sights padMany acts drawnBits drawnMany drawnNow badAct badWhy drawnAct drawnChild keptAt isWriting), ((A 0), aI cI 10 yard), ((A 1), aI cI 10 feels), ((A 2), aI cI 9 length), ((A 19), aI cI 32 res)] s.heap.size) args s 0 0 (va_A w0 s.heap.size)) [(h, oX8 A holding wool days sights padMany acts drawnBits drawnMany drawnNow badAct badWhy drawnAct drawnChild keptAt isWriting), ((A 0), aI cI 10 yard), ((A 1), aI cI 10 feels), ((A 2), aI cI 9 length), ((A 19), aI cI 32 had)] [(0, .ref h)] 70 []) : ∀ (n : Nat) (u1 : Int32) (had : Nat → Int32), f_X8_keepNow_43 length kx70 n u1 had = some res → Wd p l e rm_X8_keepNow s m args below meth c D w0 2 0 0 (MQ below (QcV D (tysW cI cZ cG) w0 [(h, oX8 A holding wool days sights padMany acts drawnBits drawnMany drawnNow badAct badWhy drawnAct drawnChild keptAt isWriting), ((A 0), aI cI 10 yard), ((A 1), aI cI 10 feels), ((A 2), aI cI 9 length), ((A 19), aI cI 32 res)] s.heap.size) args s 0 0 (va_A w0 s.heap.size)) [(h, oX8 A holding wool days sights padMany acts drawnBits drawnMany drawnNow badAct badWhy drawnAct drawnChild keptAt isWriting), ((A 0), aI cI 10 yard), ((A 1), aI cI 10 feels), ((A 2), aI cI 9 length), ((A 19), aI cI 32 had)] [(0, .ref h), (1, .int u1)] 43 [] := by
  intro n
  induction n with
  | zero =>
    intro u1 had hf
    exact no_none hf
  | succ n ih =>
    intro u1 had hf
    unfold f_X8_keepNow_43 at hf
    refine r_iload_n C dX8_keepNow_43 rfl 1 rfl rfl ?_
    refine r_bipush C dX8_keepNow_44 kk_b_9 rfl ?_
    refine r_icmp_ge (tgt := 70) C dX8_keepNow_46 rfl rfl (fun c6 => ?_) (fun c6 => ?_)
    · have hf := gd_t c6 hf
      refine r_lv (lv' := [(0, .ref h)]) [0] rfl ?_
      exact hkx70 _ hf
    · have hf := gd_f c6 hf
      refine r_aload_n C dX8_keepNow_49 rfl 0 rfl rfl ?_
      refine r_get C dX8_keepNow_50 fw_X8_keepNow_X8 0 rfl rfl 19 (by decide) rfl fl_X8_keepNow_40 rfl rfl ?_
      refine r_bipush C dX8_keepNow_53 kk_b_20 rfl ?_
      refine r_iload_n C dX8_keepNow_55 rfl 1 rfl rfl ?_
      refine r_iadd C dX8_keepNow_56 rfl ?_
      refine r_aload_n C dX8_keepNow_57 rfl 0 rfl rfl ?_
      refine r_get C dX8_keepNow_58 fw_X8_keepNow_X8 0 rfl rfl 2 (by decide) rfl fl_X8_keepNow_16 rfl rfl ?_
      refine r_iload_n C dX8_keepNow_61 rfl 1 rfl rfl ?_
      obtain ⟨g7, hf⟩ := gd_n hf
      refine r_iald C dX8_keepNow_62 3 0 rfl rfl g7 rfl ?_
      obtain ⟨g8, hf⟩ := gd_n hf
      refine r_iast (ws' := [(h, oX8 A holding wool days sights padMany acts drawnBits drawnMany drawnNow badAct badWhy drawnAct drawnChild keptAt isWriting), ((A 0), aI cI 10 yard), ((A 1), aI cI 10 feels), ((A 2), aI cI 9 length), ((A 19), aI cI 32 (upd had ((20 : Int32) + u1).toNatClampNeg (length u1.toNatClampNeg)))]) C dX8_keepNow_63 4 0 rfl rfl g8 rfl rfl ?_
      refine r_iinc (lv' := [(1, .int (u1 + (1 : Int32))), (0, .ref h)]) C dX8_keepNow_64 1 rfl (ki_1 _) (by decide) rfl rfl ?_
      refine r_goto (tgt := 43) C dX8_keepNow_67 rfl ?_
      refine r_lv (lv' := [(0, .ref h), (1, .int (u1 + (1 : Int32)))]) [1, 0] rfl ?_
      exact ih _ _ hf
def f_X8_keepNow (yard : Nat → Int32) (feels : Nat → Int32) (length : Nat → Int32) (holding : Int32) (wool : Int32) (days : Int32) (had : Nat → Int32) : Option ((Nat → Int32)) := f_X8_keepNow_2 yard feels (fun had_5 => f_X8_keepNow_43 length (fun had_9 => some ((upd (upd (upd had_9 (29 : Int32).toNatClampNeg holding) (30 : Int32).toNatClampNeg wool) (31 : Int32).toNatClampNeg days))) 2000 (0 : Int32) had_5) 2000 (0 : Int32) had
set_option maxHeartbeats 4000000 in
set_option maxRecDepth 100000 in
theorem c_X8_keepNow (l : Launch) (D : va_G) (cI cZ cG : ClassId) (h : Nat) (A : Nat → Nat) (yard : Nat → Int32) (feels : Nat → Int32) (length : Nat → Int32) (holding : Int32) (wool : Int32) (days : Int32) (sights : Int32) (padMany : Int32) (acts : Int32) (drawnBits : Int32) (drawnMany : Int32) (drawnNow : Int32) (had : Nat → Int32) (badAct : Int32) (badWhy : Int32) (drawnAct : Int32) (drawnChild : Int32) (keptAt : Int32) (isWriting : Int32) (res : (Nat → Int32)) (hf : f_X8_keepNow yard feels length holding wool days had = some res) : CV l D (tysW cI cZ cG) yX8_keepNow wsX8_keepNow rm_X8_keepNow [.ref h] [(h, oX8 A holding wool days sights padMany acts drawnBits drawnMany drawnNow badAct badWhy drawnAct drawnChild keptAt isWriting), ((A 0), aI cI 10 yard), ((A 1), aI cI 10 feels), ((A 2), aI cI 9 length), ((A 19), aI cI 32 had)] [(h, oX8 A holding wool days sights padMany acts drawnBits drawnMany drawnNow badAct badWhy drawnAct drawnChild keptAt isWriting), ((A 0), aI cI 10 yard), ((A 1), aI cI 10 feels), ((A 2), aI cI 9 length), ((A 19), aI cI 32 res)] := by
  refine CG.intro (own := RX8) (by decide +kernel) rfl rfl (Nat.le_of_ble_eq_true rfl) (fun p e s m args below meth c C => ?_)
  refine r_lv (lv' := [(0, .ref h)]) [0] rfl ?_
  unfold f_X8_keepNow at hf
  refine r_iconst C dX8_keepNow_0 kk_i_0 rfl ?_
  refine r_istore_n (lv' := [(1, .int (0 : Int32)), (0, .ref h)]) C dX8_keepNow_1 rfl (by decide) rfl rfl ?_
  refine r_lv (lv' := [(0, .ref h), (1, .int (0 : Int32))]) [1, 0] rfl ?_
  refine k_X8_keepNow_2 C h A yard feels length holding wool days sights padMany acts drawnBits drawnMany drawnNow badAct badWhy drawnAct drawnChild keptAt isWriting _ _ ?_ 2000 _ _ hf
  · intro had_5 hf
    refine r_iconst C dX8_keepNow_41 kk_i_0 rfl ?_
    refine r_istore_n (lv' := [(1, .int (0 : Int32)), (0, .ref h)]) C dX8_keepNow_42 rfl (by decide) rfl rfl ?_
    refine r_lv (lv' := [(0, .ref h), (1, .int (0 : Int32))]) [1, 0] rfl ?_
    refine k_X8_keepNow_43 C h A yard feels length holding wool days sights padMany acts drawnBits drawnMany drawnNow badAct badWhy drawnAct drawnChild keptAt isWriting _ _ ?_ 2000 _ _ hf
    · intro had_9 hf
      refine r_aload_n C dX8_keepNow_70 rfl 0 rfl rfl ?_
      refine r_get C dX8_keepNow_71 fw_X8_keepNow_X8 0 rfl rfl 19 (by decide) rfl fl_X8_keepNow_40 rfl rfl ?_
      refine r_bipush C dX8_keepNow_74 kk_b_29 rfl ?_
      refine r_aload_n C dX8_keepNow_76 rfl 0 rfl rfl ?_
      refine r_get C dX8_keepNow_77 fw_X8_keepNow_X8 0 rfl rfl 3 (by decide) rfl fl_X8_keepNow_101 rfl rfl ?_
      refine r_iast (ws' := [(h, oX8 A holding wool days sights padMany acts drawnBits drawnMany drawnNow badAct badWhy drawnAct drawnChild keptAt isWriting), ((A 0), aI cI 10 yard), ((A 1), aI cI 10 feels), ((A 2), aI cI 9 length), ((A 19), aI cI 32 (upd had_9 (29 : Int32).toNatClampNeg holding))]) C dX8_keepNow_80 4 0 rfl rfl (by decide) rfl rfl ?_
      refine r_aload_n C dX8_keepNow_81 rfl 0 rfl rfl ?_
      refine r_get C dX8_keepNow_82 fw_X8_keepNow_X8 0 rfl rfl 19 (by decide) rfl fl_X8_keepNow_40 rfl rfl ?_
      refine r_bipush C dX8_keepNow_85 kk_b_30 rfl ?_
      refine r_aload_n C dX8_keepNow_87 rfl 0 rfl rfl ?_
      refine r_get C dX8_keepNow_88 fw_X8_keepNow_X8 0 rfl rfl 4 (by decide) rfl fl_X8_keepNow_77 rfl rfl ?_
      refine r_iast (ws' := [(h, oX8 A holding wool days sights padMany acts drawnBits drawnMany drawnNow badAct badWhy drawnAct drawnChild keptAt isWriting), ((A 0), aI cI 10 yard), ((A 1), aI cI 10 feels), ((A 2), aI cI 9 length), ((A 19), aI cI 32 (upd (upd had_9 (29 : Int32).toNatClampNeg holding) (30 : Int32).toNatClampNeg wool))]) C dX8_keepNow_91 4 0 rfl rfl (by decide) rfl rfl ?_
      refine r_aload_n C dX8_keepNow_92 rfl 0 rfl rfl ?_
      refine r_get C dX8_keepNow_93 fw_X8_keepNow_X8 0 rfl rfl 19 (by decide) rfl fl_X8_keepNow_40 rfl rfl ?_
      refine r_bipush C dX8_keepNow_96 kk_b_31 rfl ?_
      refine r_aload_n C dX8_keepNow_98 rfl 0 rfl rfl ?_
      refine r_get C dX8_keepNow_99 fw_X8_keepNow_X8 0 rfl rfl 5 (by decide) rfl fl_X8_keepNow_168 rfl rfl ?_
      refine r_iast (ws' := [(h, oX8 A holding wool days sights padMany acts drawnBits drawnMany drawnNow badAct badWhy drawnAct drawnChild keptAt isWriting), ((A 0), aI cI 10 yard), ((A 1), aI cI 10 feels), ((A 2), aI cI 9 length), ((A 19), aI cI 32 (upd (upd (upd had_9 (29 : Int32).toNatClampNeg holding) (30 : Int32).toNatClampNeg wool) (31 : Int32).toNatClampNeg days))]) C dX8_keepNow_102 4 0 rfl rfl (by decide) rfl rfl ?_
      cases hf
      exact r_vret C dX8_keepNow_103 rfl
theorem fw_X8_back_X8 : ∀ w ∈ u_ws RX8 TX8 37, w ∈ wsX8_back := by decide +kernel
theorem fl_X8_back_7 : Cond.fieldLink RX8 7 "MittenLineModel" "yard" "[I" ∈ wsX8_back := by decide +kernel
theorem fl_X8_back_40 : Cond.fieldLink RX8 40 "MittenLineModel" "had" "[I" ∈ wsX8_back := by decide +kernel
theorem fl_X8_back_13 : Cond.fieldLink RX8 13 "MittenLineModel" "feels" "[I" ∈ wsX8_back := by decide +kernel
theorem fl_X8_back_16 : Cond.fieldLink RX8 16 "MittenLineModel" "length" "[I" ∈ wsX8_back := by decide +kernel
theorem fl_X8_back_101 : Cond.fieldLink RX8 101 "MittenLineModel" "holding" "I" ∈ wsX8_back := by decide +kernel
theorem fl_X8_back_77 : Cond.fieldLink RX8 77 "MittenLineModel" "wool" "I" ∈ wsX8_back := by decide +kernel
theorem fl_X8_back_168 : Cond.fieldLink RX8 168 "MittenLineModel" "days" "I" ∈ wsX8_back := by decide +kernel
abbrev rm_X8_back : Jvm.Room := { frames := 0, cells := 0, slots := 0, locals := 0 }
def f_X8_back_2 (had : Nat → Int32) (kx41 : (Nat → Int32) → (Nat → Int32) → Option (Int32 × (Nat → Int32) × (Nat → Int32) × (Nat → Int32) × Int32 × Int32 × Int32)) : Nat → Int32 → (Nat → Int32) → (Nat → Int32) → Option (Int32 × (Nat → Int32) × (Nat → Int32) × (Nat → Int32) × Int32 × Int32 × Int32)
  | 0, _, _, _ => none
  | n + 1, u2, yard, feels => if (10 : Int32) ≤ u2 then kx41 yard feels else if u2 < 0 ∨ 32 ≤ u2.toNatClampNeg then none else if u2 < 0 ∨ 10 ≤ u2.toNatClampNeg then none else if ((10 : Int32) + u2) < 0 ∨ 32 ≤ ((10 : Int32) + u2).toNatClampNeg then none else f_X8_back_2 had kx41 n (u2 + (1 : Int32)) (upd yard u2.toNatClampNeg (had u2.toNatClampNeg)) (upd feels u2.toNatClampNeg (had ((10 : Int32) + u2).toNatClampNeg))
set_option maxHeartbeats 4000000 in
set_option maxRecDepth 100000 in
theorem k_X8_back_2 (C : Cx p s m args meth c D (tysW cI cZ cG) RX8 cX8_back 3 wsX8_back (some .int)) (h : Nat) (A : Nat → Nat) (length : Nat → Int32) (holding : Int32) (wool : Int32) (days : Int32) (sights : Int32) (padMany : Int32) (acts : Int32) (drawnBits : Int32) (drawnMany : Int32) (drawnNow : Int32) (had : Nat → Int32) (badAct : Int32) (badWhy : Int32) (drawnAct : Int32) (drawnChild : Int32) (keptAt : Int32) (isWriting : Int32) (u1 : Int32)  (kx41 : (Nat → Int32) → (Nat → Int32) → Option (Int32 × (Nat → Int32) × (Nat → Int32) × (Nat → Int32) × Int32 × Int32 × Int32)) (res : Int32 × (Nat → Int32) × (Nat → Int32) × (Nat → Int32) × Int32 × Int32 × Int32) (hkx41 : ∀ (yard : Nat → Int32) (feels : Nat → Int32) , kx41 yard feels = some res → Wd p l e rm_X8_back s m args below meth c D w0 3 0 0 (MQ below (QcI D (tysW cI cZ cG) w0 [(h, oX8 A res.2.2.2.2.1 res.2.2.2.2.2.1 res.2.2.2.2.2.2 sights padMany acts drawnBits drawnMany drawnNow badAct badWhy drawnAct drawnChild keptAt isWriting), ((A 0), aI cI 10 res.2.1), ((A 1), aI cI 10 res.2.2.1), ((A 2), aI cI 9 res.2.2.2.1), ((A 19), aI cI 32 had)] res.1 s.heap.size) args s 0 0 (va_A w0 s.heap.size)) [(h, oX8 A holding wool days sights padMany acts drawnBits drawnMany drawnNow badAct badWhy drawnAct drawnChild keptAt isWriting), ((A 0), aI cI 10 yard), ((A 1), aI cI 10 feels), ((A 2), aI cI 9 length), ((A 19), aI cI 32 had)] [(0, .ref h), (1, .int u1)] 41 []) : ∀ (n : Nat) (u2 : Int32) (yard : Nat → Int32) (feels : Nat → Int32), f_X8_back_2 had kx41 n u2 yard feels = some res → Wd p l e rm_X8_back s m args below meth c D w0 3 0 0 (MQ below (QcI D (tysW cI cZ cG) w0 [(h, oX8 A res.2.2.2.2.1 res.2.2.2.2.2.1 res.2.2.2.2.2.2 sights padMany acts drawnBits drawnMany drawnNow badAct badWhy drawnAct drawnChild keptAt isWriting), ((A 0), aI cI 10 res.2.1), ((A 1), aI cI 10 res.2.2.1), ((A 2), aI cI 9 res.2.2.2.1), ((A 19), aI cI 32 had)] res.1 s.heap.size) args s 0 0 (va_A w0 s.heap.size)) [(h, oX8 A holding wool days sights padMany acts drawnBits drawnMany drawnNow badAct badWhy drawnAct drawnChild keptAt isWriting), ((A 0), aI cI 10 yard), ((A 1), aI cI 10 feels), ((A 2), aI cI 9 length), ((A 19), aI cI 32 had)] [(0, .ref h), (1, .int u1), (2, .int u2)] 2 [] := by
  intro n
  induction n with
  | zero =>
    intro u2 yard feels hf
    exact no_none hf
  | succ n ih =>
    intro u2 yard feels hf
    unfold f_X8_back_2 at hf
    refine r_iload_n C dX8_back_2 rfl 2 rfl rfl ?_
    refine r_bipush C dX8_back_3 kk_b_10 rfl ?_
    refine r_icmp_ge (tgt := 41) C dX8_back_5 rfl rfl (fun c1 => ?_) (fun c1 => ?_)
    · have hf := gd_t c1 hf
      refine r_lv (lv' := [(0, .ref h), (1, .int u1)]) [0, 1] rfl ?_
      exact hkx41 _ _ hf
    · have hf := gd_f c1 hf
      refine r_aload_n C dX8_back_8 rfl 0 rfl rfl ?_
      refine r_get C dX8_back_9 fw_X8_back_X8 0 rfl rfl 0 (by decide) rfl fl_X8_back_7 rfl rfl ?_
      refine r_iload_n C dX8_back_12 rfl 2 rfl rfl ?_
      refine r_aload_n C dX8_back_13 rfl 0 rfl rfl ?_
      refine r_get C dX8_back_14 fw_X8_back_X8 0 rfl rfl 19 (by decide) rfl fl_X8_back_40 rfl rfl ?_
      refine r_iload_n C dX8_back_17 rfl 2 rfl rfl ?_
      obtain ⟨g2, hf⟩ := gd_n hf
      refine r_iald C dX8_back_18 4 0 rfl rfl g2 rfl ?_
      obtain ⟨g3, hf⟩ := gd_n hf
      refine r_iast (ws' := [(h, oX8 A holding wool days sights padMany acts drawnBits drawnMany drawnNow badAct badWhy drawnAct drawnChild keptAt isWriting), ((A 0), aI cI 10 (upd yard u2.toNatClampNeg (had u2.toNatClampNeg))), ((A 1), aI cI 10 feels), ((A 2), aI cI 9 length), ((A 19), aI cI 32 had)]) C dX8_back_19 1 0 rfl rfl g3 rfl rfl ?_
      refine r_aload_n C dX8_back_20 rfl 0 rfl rfl ?_
      refine r_get C dX8_back_21 fw_X8_back_X8 0 rfl rfl 1 (by decide) rfl fl_X8_back_13 rfl rfl ?_
      refine r_iload_n C dX8_back_24 rfl 2 rfl rfl ?_
      refine r_aload_n C dX8_back_25 rfl 0 rfl rfl ?_
      refine r_get C dX8_back_26 fw_X8_back_X8 0 rfl rfl 19 (by decide) rfl fl_X8_back_40 rfl rfl ?_
      refine r_bipush C dX8_back_29 kk_b_10 rfl ?_
      refine r_iload_n C dX8_back_31 rfl 2 rfl rfl ?_
      refine r_iadd C dX8_back_32 rfl ?_
      obtain ⟨g4, hf⟩ := gd_n hf
      refine r_iald C dX8_back_33 4 0 rfl rfl g4 rfl ?_
      refine r_iast (ws' := [(h, oX8 A holding wool days sights padMany acts drawnBits drawnMany drawnNow badAct badWhy drawnAct drawnChild keptAt isWriting), ((A 0), aI cI 10 (upd yard u2.toNatClampNeg (had u2.toNatClampNeg))), ((A 1), aI cI 10 (upd feels u2.toNatClampNeg (had ((10 : Int32) + u2).toNatClampNeg))), ((A 2), aI cI 9 length), ((A 19), aI cI 32 had)]) C dX8_back_34 2 0 rfl rfl g3 rfl rfl ?_
      refine r_iinc (lv' := [(2, .int (u2 + (1 : Int32))), (0, .ref h), (1, .int u1)]) C dX8_back_35 2 rfl (ki_1 _) (by decide) rfl rfl ?_
      refine r_goto (tgt := 2) C dX8_back_38 rfl ?_
      refine r_lv (lv' := [(0, .ref h), (1, .int u1), (2, .int (u2 + (1 : Int32)))]) [1, 2, 0] rfl ?_
      exact ih _ _ _ hf
def f_X8_back_43 (had : Nat → Int32) (kx70 : (Nat → Int32) → Option (Int32 × (Nat → Int32) × (Nat → Int32) × (Nat → Int32) × Int32 × Int32 × Int32)) : Nat → Int32 → (Nat → Int32) → Option (Int32 × (Nat → Int32) × (Nat → Int32) × (Nat → Int32) × Int32 × Int32 × Int32)
  | 0, _, _ => none
  | n + 1, u2, length => if (9 : Int32) ≤ u2 then kx70 length else if ((20 : Int32) + u2) < 0 ∨ 32 ≤ ((20 : Int32) + u2).toNatClampNeg then none else if u2 < 0 ∨ 9 ≤ u2.toNatClampNeg then none else f_X8_back_43 had kx70 n (u2 + (1 : Int32)) (upd length u2.toNatClampNeg (had ((20 : Int32) + u2).toNatClampNeg))
set_option maxHeartbeats 4000000 in
set_option maxRecDepth 100000 in
theorem k_X8_back_43 (C : Cx p s m args meth c D (tysW cI cZ cG) RX8 cX8_back 3 wsX8_back (some .int)) (h : Nat) (A : Nat → Nat) (yard : Nat → Int32) (feels : Nat → Int32) (holding : Int32) (wool : Int32) (days : Int32) (sights : Int32) (padMany : Int32) (acts : Int32) (drawnBits : Int32) (drawnMany : Int32) (drawnNow : Int32) (had : Nat → Int32) (badAct : Int32) (badWhy : Int32) (drawnAct : Int32) (drawnChild : Int32) (keptAt : Int32) (isWriting : Int32) (u1 : Int32)  (kx70 : (Nat → Int32) → Option (Int32 × (Nat → Int32) × (Nat → Int32) × (Nat → Int32) × Int32 × Int32 × Int32)) (res : Int32 × (Nat → Int32) × (Nat → Int32) × (Nat → Int32) × Int32 × Int32 × Int32) (hkx70 : ∀ (length : Nat → Int32) , kx70 length = some res → Wd p l e rm_X8_back s m args below meth c D w0 3 0 0 (MQ below (QcI D (tysW cI cZ cG) w0 [(h, oX8 A res.2.2.2.2.1 res.2.2.2.2.2.1 res.2.2.2.2.2.2 sights padMany acts drawnBits drawnMany drawnNow badAct badWhy drawnAct drawnChild keptAt isWriting), ((A 0), aI cI 10 res.2.1), ((A 1), aI cI 10 res.2.2.1), ((A 2), aI cI 9 res.2.2.2.1), ((A 19), aI cI 32 had)] res.1 s.heap.size) args s 0 0 (va_A w0 s.heap.size)) [(h, oX8 A holding wool days sights padMany acts drawnBits drawnMany drawnNow badAct badWhy drawnAct drawnChild keptAt isWriting), ((A 0), aI cI 10 yard), ((A 1), aI cI 10 feels), ((A 2), aI cI 9 length), ((A 19), aI cI 32 had)] [(0, .ref h), (1, .int u1)] 70 []) : ∀ (n : Nat) (u2 : Int32) (length : Nat → Int32), f_X8_back_43 had kx70 n u2 length = some res → Wd p l e rm_X8_back s m args below meth c D w0 3 0 0 (MQ below (QcI D (tysW cI cZ cG) w0 [(h, oX8 A res.2.2.2.2.1 res.2.2.2.2.2.1 res.2.2.2.2.2.2 sights padMany acts drawnBits drawnMany drawnNow badAct badWhy drawnAct drawnChild keptAt isWriting), ((A 0), aI cI 10 res.2.1), ((A 1), aI cI 10 res.2.2.1), ((A 2), aI cI 9 res.2.2.2.1), ((A 19), aI cI 32 had)] res.1 s.heap.size) args s 0 0 (va_A w0 s.heap.size)) [(h, oX8 A holding wool days sights padMany acts drawnBits drawnMany drawnNow badAct badWhy drawnAct drawnChild keptAt isWriting), ((A 0), aI cI 10 yard), ((A 1), aI cI 10 feels), ((A 2), aI cI 9 length), ((A 19), aI cI 32 had)] [(0, .ref h), (1, .int u1), (2, .int u2)] 43 [] := by
  intro n
  induction n with
  | zero =>
    intro u2 length hf
    exact no_none hf
  | succ n ih =>
    intro u2 length hf
    unfold f_X8_back_43 at hf
    refine r_iload_n C dX8_back_43 rfl 2 rfl rfl ?_
    refine r_bipush C dX8_back_44 kk_b_9 rfl ?_
    refine r_icmp_ge (tgt := 70) C dX8_back_46 rfl rfl (fun c7 => ?_) (fun c7 => ?_)
    · have hf := gd_t c7 hf
      refine r_lv (lv' := [(0, .ref h), (1, .int u1)]) [0, 1] rfl ?_
      exact hkx70 _ hf
    · have hf := gd_f c7 hf
      refine r_aload_n C dX8_back_49 rfl 0 rfl rfl ?_
      refine r_get C dX8_back_50 fw_X8_back_X8 0 rfl rfl 2 (by decide) rfl fl_X8_back_16 rfl rfl ?_
      refine r_iload_n C dX8_back_53 rfl 2 rfl rfl ?_
      refine r_aload_n C dX8_back_54 rfl 0 rfl rfl ?_
      refine r_get C dX8_back_55 fw_X8_back_X8 0 rfl rfl 19 (by decide) rfl fl_X8_back_40 rfl rfl ?_
      refine r_bipush C dX8_back_58 kk_b_20 rfl ?_
      refine r_iload_n C dX8_back_60 rfl 2 rfl rfl ?_
      refine r_iadd C dX8_back_61 rfl ?_
      obtain ⟨g8, hf⟩ := gd_n hf
      refine r_iald C dX8_back_62 4 0 rfl rfl g8 rfl ?_
      obtain ⟨g9, hf⟩ := gd_n hf
      refine r_iast (ws' := [(h, oX8 A holding wool days sights padMany acts drawnBits drawnMany drawnNow badAct badWhy drawnAct drawnChild keptAt isWriting), ((A 0), aI cI 10 yard), ((A 1), aI cI 10 feels), ((A 2), aI cI 9 (upd length u2.toNatClampNeg (had ((20 : Int32) + u2).toNatClampNeg))), ((A 19), aI cI 32 had)]) C dX8_back_63 3 0 rfl rfl g9 rfl rfl ?_
      refine r_iinc (lv' := [(2, .int (u2 + (1 : Int32))), (0, .ref h), (1, .int u1)]) C dX8_back_64 2 rfl (ki_1 _) (by decide) rfl rfl ?_
      refine r_goto (tgt := 43) C dX8_back_67 rfl ?_
      refine r_lv (lv' := [(0, .ref h), (1, .int u1), (2, .int (u2 + (1 : Int32)))]) [1, 2, 0] rfl ?_
      exact ih _ _ hf
def f_X8_back (yard : Nat → Int32) (feels : Nat → Int32) (length : Nat → Int32) (holding : Int32) (wool : Int32) (days : Int32) (had : Nat → Int32) (u1 : Int32) : Option (Int32 × (Nat → Int32) × (Nat → Int32) × (Nat → Int32) × Int32 × Int32 × Int32) := f_X8_back_2 had (fun yard_5 feels_6 => f_X8_back_43 had (fun length_10 => some (u1, yard_5, feels_6, length_10, (had (29 : Int32).toNatClampNeg), (had (30 : Int32).toNatClampNeg), (had (31 : Int32).toNatClampNeg))) 2000 (0 : Int32) length) 2000 (0 : Int32) yard feels
set_option maxHeartbeats 4000000 in
set_option maxRecDepth 100000 in
theorem c_X8_back (l : Launch) (D : va_G) (cI cZ cG : ClassId) (h : Nat) (A : Nat → Nat) (yard : Nat → Int32) (feels : Nat → Int32) (length : Nat → Int32) (holding : Int32) (wool : Int32) (days : Int32) (sights : Int32) (padMany : Int32) (acts : Int32) (drawnBits : Int32) (drawnMany : Int32) (drawnNow : Int32) (had : Nat → Int32) (badAct : Int32) (badWhy : Int32) (drawnAct : Int32) (drawnChild : Int32) (keptAt : Int32) (isWriting : Int32) (u1 : Int32) (res : Int32 × (Nat → Int32) × (Nat → Int32) × (Nat → Int32) × Int32 × Int32 × Int32) (hf : f_X8_back yard feels length holding wool days had u1 = some res) : CI l D (tysW cI cZ cG) yX8_back wsX8_back rm_X8_back [.ref h, .int u1] [(h, oX8 A holding wool days sights padMany acts drawnBits drawnMany drawnNow badAct badWhy drawnAct drawnChild keptAt isWriting), ((A 0), aI cI 10 yard), ((A 1), aI cI 10 feels), ((A 2), aI cI 9 length), ((A 19), aI cI 32 had)] res.1 [(h, oX8 A res.2.2.2.2.1 res.2.2.2.2.2.1 res.2.2.2.2.2.2 sights padMany acts drawnBits drawnMany drawnNow badAct badWhy drawnAct drawnChild keptAt isWriting), ((A 0), aI cI 10 res.2.1), ((A 1), aI cI 10 res.2.2.1), ((A 2), aI cI 9 res.2.2.2.1), ((A 19), aI cI 32 had)] := by
  refine CG.intro (own := RX8) (by decide +kernel) rfl rfl (Nat.le_of_ble_eq_true rfl) (fun p e s m args below meth c C => ?_)
  refine r_lv (lv' := [(0, .ref h), (1, .int u1)]) [0, 1] rfl ?_
  unfold f_X8_back at hf
  refine r_iconst C dX8_back_0 kk_i_0 rfl ?_
  refine r_istore_n (lv' := [(2, .int (0 : Int32)), (0, .ref h), (1, .int u1)]) C dX8_back_1 rfl (by decide) rfl rfl ?_
  refine r_lv (lv' := [(0, .ref h), (1, .int u1), (2, .int (0 : Int32))]) [1, 2, 0] rfl ?_
  refine k_X8_back_2 C h A length holding wool days sights padMany acts drawnBits drawnMany drawnNow had badAct badWhy drawnAct drawnChild keptAt isWriting u1 _ _ ?_ 2000 _ _ _ hf
  · intro yard_5 feels_6 hf
    refine r_iconst C dX8_back_41 kk_i_0 rfl ?_
    refine r_istore_n (lv' := [(2, .int (0 : Int32)), (0, .ref h), (1, .int u1)]) C dX8_back_42 rfl (by decide) rfl rfl ?_
    refine r_lv (lv' := [(0, .ref h), (1, .int u1), (2, .int (0 : Int32))]) [1, 2, 0] rfl ?_
    refine k_X8_back_43 C h A yard_5 feels_6 holding wool days sights padMany acts drawnBits drawnMany drawnNow had badAct badWhy drawnAct drawnChild keptAt isWriting u1 _ _ ?_ 2000 _ _ hf
    · intro length_10 hf
      refine r_aload_n C dX8_back_70 rfl 0 rfl rfl ?_
      refine r_aload_n C dX8_back_71 rfl 0 rfl rfl ?_
      refine r_get C dX8_back_72 fw_X8_back_X8 0 rfl rfl 19 (by decide) rfl fl_X8_back_40 rfl rfl ?_
      refine r_bipush C dX8_back_75 kk_b_29 rfl ?_
      refine r_iald C dX8_back_77 4 0 rfl rfl (by decide) rfl ?_
      refine r_put (ty := .int) (ws' := [(h, oX8 A (had (29 : Int32).toNatClampNeg) wool days sights padMany acts drawnBits drawnMany drawnNow badAct badWhy drawnAct drawnChild keptAt isWriting), ((A 0), aI cI 10 yard_5), ((A 1), aI cI 10 feels_6), ((A 2), aI cI 9 length_10), ((A 19), aI cI 32 had)]) C dX8_back_78 fw_X8_back_X8 tyX8 tyX8_ok nmX8 0 rfl rfl 3 (by decide) rfl fl_X8_back_101 rfl (by decide +kernel) rfl rfl (Nat.le_of_ble_eq_true rfl) rfl rfl ?_
      refine r_aload_n C dX8_back_81 rfl 0 rfl rfl ?_
      refine r_aload_n C dX8_back_82 rfl 0 rfl rfl ?_
      refine r_get C dX8_back_83 fw_X8_back_X8 0 rfl rfl 19 (by decide) rfl fl_X8_back_40 rfl rfl ?_
      refine r_bipush C dX8_back_86 kk_b_30 rfl ?_
      refine r_iald C dX8_back_88 4 0 rfl rfl (by decide) rfl ?_
      refine r_put (ty := .int) (ws' := [(h, oX8 A (had (29 : Int32).toNatClampNeg) (had (30 : Int32).toNatClampNeg) days sights padMany acts drawnBits drawnMany drawnNow badAct badWhy drawnAct drawnChild keptAt isWriting), ((A 0), aI cI 10 yard_5), ((A 1), aI cI 10 feels_6), ((A 2), aI cI 9 length_10), ((A 19), aI cI 32 had)]) C dX8_back_89 fw_X8_back_X8 tyX8 tyX8_ok nmX8 0 rfl rfl 4 (by decide) rfl fl_X8_back_77 rfl (by decide +kernel) rfl rfl (Nat.le_of_ble_eq_true rfl) rfl rfl ?_
      refine r_aload_n C dX8_back_92 rfl 0 rfl rfl ?_
      refine r_aload_n C dX8_back_93 rfl 0 rfl rfl ?_
      refine r_get C dX8_back_94 fw_X8_back_X8 0 rfl rfl 19 (by decide) rfl fl_X8_back_40 rfl rfl ?_
      refine r_bipush C dX8_back_97 kk_b_31 rfl ?_
      refine r_iald C dX8_back_99 4 0 rfl rfl (by decide) rfl ?_
      refine r_put (ty := .int) (ws' := [(h, oX8 A (had (29 : Int32).toNatClampNeg) (had (30 : Int32).toNatClampNeg) (had (31 : Int32).toNatClampNeg) sights padMany acts drawnBits drawnMany drawnNow badAct badWhy drawnAct drawnChild keptAt isWriting), ((A 0), aI cI 10 yard_5), ((A 1), aI cI 10 feels_6), ((A 2), aI cI 9 length_10), ((A 19), aI cI 32 had)]) C dX8_back_100 fw_X8_back_X8 tyX8 tyX8_ok nmX8 0 rfl rfl 5 (by decide) rfl fl_X8_back_168 rfl (by decide +kernel) rfl rfl (Nat.le_of_ble_eq_true rfl) rfl rfl ?_
      refine r_iload_n C dX8_back_103 rfl 1 rfl rfl ?_
      cases hf
      exact r_iret C dX8_back_104 rfl
abbrev rm_X8_leastOf : Jvm.Room := { frames := 1, cells := 0, slots := 0, locals := 21 }
def f_X8_leastOf_6 (u0 : Int32) : Nat → Int32 → Int32 → Option (Int32)
  | 0, _, _ => none
  | n + 1, u1, u2 => if u2 < 0 then some (u1) else (f_X8_has u0 u2).bind (fun r2 => if r2 = 0 then f_X8_leastOf_6 u0 n u1 (u2 + (-1 : Int32)) else f_X8_leastOf_6 u0 n u2 (u2 + (-1 : Int32)))
set_option maxHeartbeats 4000000 in
set_option maxRecDepth 100000 in
theorem k_X8_leastOf_6 (C : Cx p s m args meth c D (tysW cI cZ cG) RX8 cX8_leastOf 3 wsX8_leastOf (some .int)) (u0 : Int32)  (res : Int32) : ∀ (n : Nat) (u1 : Int32) (u2 : Int32), f_X8_leastOf_6 u0 n u1 u2 = some res → Wd p l e rm_X8_leastOf s m args below meth c D w0 3 0 0 (MQ below (QcI D (tysW cI cZ cG) w0 [] res s.heap.size) args s 0 0 (va_A w0 s.heap.size)) [] [(0, .int u0), (1, .int u1), (2, .int u2)] 6 [] := by
  intro n
  induction n with
  | zero =>
    intro u1 u2 hf
    exact no_none hf
  | succ n ih =>
    intro u1 u2 hf
    unfold f_X8_leastOf_6 at hf
    refine r_iload_n C dX8_leastOf_6 rfl 2 rfl rfl ?_
    refine r_if_lt (y := 0) (tgt := 30) C dX8_leastOf_7 rfl rfl (fun c1 => ?_) (fun c1 => ?_)
    · have hf := gd_t c1 hf
      refine r_iload_n C dX8_leastOf_30 rfl 1 rfl rfl ?_
      cases hf
      exact r_iret C dX8_leastOf_31 rfl
    · have hf := gd_f c1 hf
      refine r_iload_n C dX8_leastOf_10 rfl 0 rfl rfl ?_
      refine r_iload_n C dX8_leastOf_11 rfl 2 rfl rfl ?_
      obtain ⟨r2, e2, hf⟩ := gd_b hf
      refine o_I (wn := []) C [] rfl (x_S C dX8_leastOf_12 (c_X8_has l D cI cZ cG u0 u2 r2 e2) rfl gX8_leastOf_X8_has hs_X8_has rfl ⟨Nat.le_of_ble_eq_true rfl, Nat.le_of_ble_eq_true rfl⟩ ⟨rfl, rfl⟩ ⟨Nat.zero_le _, Nat.zero_le _⟩ rfl [] rfl rfl (Nat.le_of_ble_eq_true rfl) rfl) rfl rfl rfl ?_
      refine r_if_eq (y := 0) (tgt := 22) C dX8_leastOf_15 rfl rfl (fun c3 => ?_) (fun c3 => ?_)
      · have hf := gd_t c3 hf
        refine r_iload_n C dX8_leastOf_22 rfl 1 rfl rfl ?_
        refine r_istore_n (lv' := [(1, .int u1), (0, .int u0), (2, .int u2)]) C dX8_leastOf_23 rfl (by decide) rfl rfl ?_
        refine r_iinc (lv' := [(2, .int (u2 + (-1 : Int32))), (1, .int u1), (0, .int u0)]) C dX8_leastOf_24 2 rfl (ki_m1 _) (by decide) rfl rfl ?_
        refine r_goto (tgt := 6) C dX8_leastOf_27 rfl ?_
        refine r_lv (lv' := [(0, .int u0), (1, .int u1), (2, .int (u2 + (-1 : Int32)))]) [2, 1, 0] rfl ?_
        exact ih _ _ hf
      · have hf := gd_f c3 hf
        refine r_iload_n C dX8_leastOf_18 rfl 2 rfl rfl ?_
        refine r_goto (tgt := 23) C dX8_leastOf_19 rfl ?_
        refine r_istore_n (lv' := [(1, .int u2), (0, .int u0), (2, .int u2)]) C dX8_leastOf_23 rfl (by decide) rfl rfl ?_
        refine r_iinc (lv' := [(2, .int (u2 + (-1 : Int32))), (1, .int u2), (0, .int u0)]) C dX8_leastOf_24 2 rfl (ki_m1 _) (by decide) rfl rfl ?_
        refine r_goto (tgt := 6) C dX8_leastOf_27 rfl ?_
        refine r_lv (lv' := [(0, .int u0), (1, .int u2), (2, .int (u2 + (-1 : Int32)))]) [2, 1, 0] rfl ?_
        exact ih _ _ hf
def f_X8_leastOf (u0 : Int32) : Option (Int32) := f_X8_leastOf_6 u0 2000 (-6 : Int32) (9 : Int32)
set_option maxHeartbeats 4000000 in
set_option maxRecDepth 100000 in
theorem c_X8_leastOf (l : Launch) (D : va_G) (cI cZ cG : ClassId) (u0 : Int32) (res : Int32) (hf : f_X8_leastOf u0 = some res) : CI l D (tysW cI cZ cG) yX8_leastOf wsX8_leastOf rm_X8_leastOf [.int u0] [] res [] := by
  refine CG.intro (own := RX8) (by decide +kernel) rfl rfl (Nat.le_of_ble_eq_true rfl) (fun p e s m args below meth c C => ?_)
  refine r_lv (lv' := [(0, .int u0)]) [0] rfl ?_
  unfold f_X8_leastOf at hf
  refine r_bipush C dX8_leastOf_0 kk_b_m6 rfl ?_
  refine r_istore_n (lv' := [(1, .int (-6 : Int32)), (0, .int u0)]) C dX8_leastOf_2 rfl (by decide) rfl rfl ?_
  refine r_bipush C dX8_leastOf_3 kk_b_9 rfl ?_
  refine r_istore_n (lv' := [(2, .int (9 : Int32)), (1, .int (-6 : Int32)), (0, .int u0)]) C dX8_leastOf_5 rfl (by decide) rfl rfl ?_
  refine r_lv (lv' := [(0, .int u0), (1, .int (-6 : Int32)), (2, .int (9 : Int32))]) [2, 1, 0] rfl ?_
  refine k_X8_leastOf_6 C u0 _ 2000 _ _ hf
theorem fw_X8_goOne_X8 : ∀ w ∈ u_ws RX8 TX8 37, w ∈ wsX8_goOne := by decide +kernel
theorem fl_X8_goOne_171 : Cond.fieldLink RX8 171 "MittenLineModel" "drawnNow" "I" ∈ wsX8_goOne := by decide +kernel
theorem fl_X8_goOne_28 : Cond.fieldLink RX8 28 "MittenLineModel" "act" "[I" ∈ wsX8_goOne := by decide +kernel
theorem fl_X8_goOne_31 : Cond.fieldLink RX8 31 "MittenLineModel" "who" "[I" ∈ wsX8_goOne := by decide +kernel
theorem fl_X8_goOne_34 : Cond.fieldLink RX8 34 "MittenLineModel" "much" "[I" ∈ wsX8_goOne := by decide +kernel
theorem fl_X8_goOne_199 : Cond.fieldLink RX8 199 "MittenLineModel" "drawnAct" "I" ∈ wsX8_goOne := by decide +kernel
theorem fl_X8_goOne_205 : Cond.fieldLink RX8 205 "MittenLineModel" "drawnChild" "I" ∈ wsX8_goOne := by decide +kernel
abbrev rm_X8_goOne : Jvm.Room := { frames := 5, cells := 0, slots := 0, locals := 114 }
def f_X8_goOne (yard : Nat → Int32) (feels : Nat → Int32) (length : Nat → Int32) (holding : Int32) (wool : Int32) (days : Int32) (act : Nat → Int32) (who : Nat → Int32) (much : Nat → Int32) (then_ : Nat → Int32) (drawnBits : Int32) (drawnMany : Int32) (drawnNow : Int32) (drawnAct : Int32) (drawnChild : Int32) (u1 : Int32) : Option ((Nat → Int32) × (Nat → Int32) × (Nat → Int32) × Int32 × Int32 × Int32 × (Nat → Int32) × Int32 × Int32 × Int32 × Int32 × Int32) := if u1 < 0 ∨ 60 ≤ u1.toNatClampNeg then none else (f_X8_happen yard feels length holding wool days then_ drawnBits drawnMany (0 : Int32) (act u1.toNatClampNeg) (who u1.toNatClampNeg) (much u1.toNatClampNeg)).bind (fun r2 => if r2.2.2.2.2.2.2.2.2.2 = 0 then some (r2.1, r2.2.1, r2.2.2.1, r2.2.2.2.1, r2.2.2.2.2.1, r2.2.2.2.2.2.1, r2.2.2.2.2.2.2.1, r2.2.2.2.2.2.2.2.1, r2.2.2.2.2.2.2.2.2.1, r2.2.2.2.2.2.2.2.2.2, drawnAct, drawnChild) else if 0 ≤ drawnAct then some (r2.1, r2.2.1, r2.2.2.1, r2.2.2.2.1, r2.2.2.2.2.1, r2.2.2.2.2.2.1, r2.2.2.2.2.2.2.1, r2.2.2.2.2.2.2.2.1, r2.2.2.2.2.2.2.2.2.1, r2.2.2.2.2.2.2.2.2.2, drawnAct, drawnChild) else (f_X8_leastOf r2.2.2.2.2.2.2.2.2.2).bind (fun r5 => some (r2.1, r2.2.1, r2.2.2.1, r2.2.2.2.1, r2.2.2.2.2.1, r2.2.2.2.2.2.1, r2.2.2.2.2.2.2.1, r2.2.2.2.2.2.2.2.1, r2.2.2.2.2.2.2.2.2.1, r2.2.2.2.2.2.2.2.2.2, u1, r5)))
set_option maxHeartbeats 4000000 in
set_option maxRecDepth 100000 in
theorem c_X8_goOne (l : Launch) (D : va_G) (cI cZ cG : ClassId) (h : Nat) (A : Nat → Nat) (yard : Nat → Int32) (feels : Nat → Int32) (length : Nat → Int32) (holding : Int32) (wool : Int32) (days : Int32) (sights : Int32) (padMany : Int32) (act : Nat → Int32) (who : Nat → Int32) (much : Nat → Int32) (acts : Int32) (then_ : Nat → Int32) (drawnBits : Int32) (drawnMany : Int32) (drawnNow : Int32) (badAct : Int32) (badWhy : Int32) (drawnAct : Int32) (drawnChild : Int32) (keptAt : Int32) (isWriting : Int32) (u1 : Int32) (res : (Nat → Int32) × (Nat → Int32) × (Nat → Int32) × Int32 × Int32 × Int32 × (Nat → Int32) × Int32 × Int32 × Int32 × Int32 × Int32) (hf : f_X8_goOne yard feels length holding wool days act who much then_ drawnBits drawnMany drawnNow drawnAct drawnChild u1 = some res) : CV l D (tysW cI cZ cG) yX8_goOne wsX8_goOne rm_X8_goOne [.ref h, .int u1] [(h, oX8 A holding wool days sights padMany acts drawnBits drawnMany drawnNow badAct badWhy drawnAct drawnChild keptAt isWriting), ((A 0), aI cI 10 yard), ((A 1), aI cI 10 feels), ((A 2), aI cI 9 length), ((A 11), aI cI 60 act), ((A 12), aI cI 60 who), ((A 13), aI cI 60 much), ((A 15), aI cI 10 then_)] [(h, oX8 A res.2.2.2.1 res.2.2.2.2.1 res.2.2.2.2.2.1 sights padMany acts res.2.2.2.2.2.2.2.1 res.2.2.2.2.2.2.2.2.1 res.2.2.2.2.2.2.2.2.2.1 badAct badWhy res.2.2.2.2.2.2.2.2.2.2.1 res.2.2.2.2.2.2.2.2.2.2.2 keptAt isWriting), ((A 0), aI cI 10 res.1), ((A 1), aI cI 10 res.2.1), ((A 2), aI cI 9 res.2.2.1), ((A 11), aI cI 60 act), ((A 12), aI cI 60 who), ((A 13), aI cI 60 much), ((A 15), aI cI 10 res.2.2.2.2.2.2.1)] := by
  refine CG.intro (own := RX8) (by decide +kernel) rfl rfl (Nat.le_of_ble_eq_true rfl) (fun p e s m args below meth c C => ?_)
  refine r_lv (lv' := [(0, .ref h), (1, .int u1)]) [0, 1] rfl ?_
  unfold f_X8_goOne at hf
  refine r_aload_n C dX8_goOne_0 rfl 0 rfl rfl ?_
  refine r_iconst C dX8_goOne_1 kk_i_0 rfl ?_
  refine r_put (ty := .int) (ws' := [(h, oX8 A holding wool days sights padMany acts drawnBits drawnMany (0 : Int32) badAct badWhy drawnAct drawnChild keptAt isWriting), ((A 0), aI cI 10 yard), ((A 1), aI cI 10 feels), ((A 2), aI cI 9 length), ((A 11), aI cI 60 act), ((A 12), aI cI 60 who), ((A 13), aI cI 60 much), ((A 15), aI cI 10 then_)]) C dX8_goOne_2 fw_X8_goOne_X8 tyX8 tyX8_ok nmX8 0 rfl rfl 18 (by decide) rfl fl_X8_goOne_171 rfl (by decide +kernel) rfl rfl (Nat.le_of_ble_eq_true rfl) rfl rfl ?_
  refine r_aload_n C dX8_goOne_5 rfl 0 rfl rfl ?_
  refine r_aload_n C dX8_goOne_6 rfl 0 rfl rfl ?_
  refine r_get C dX8_goOne_7 fw_X8_goOne_X8 0 rfl rfl 11 (by decide) rfl fl_X8_goOne_28 rfl rfl ?_
  refine r_iload_n C dX8_goOne_10 rfl 1 rfl rfl ?_
  obtain ⟨g1, hf⟩ := gd_n hf
  refine r_iald C dX8_goOne_11 4 0 rfl rfl g1 rfl ?_
  refine r_aload_n C dX8_goOne_12 rfl 0 rfl rfl ?_
  refine r_get C dX8_goOne_13 fw_X8_goOne_X8 0 rfl rfl 12 (by decide) rfl fl_X8_goOne_31 rfl rfl ?_
  refine r_iload_n C dX8_goOne_16 rfl 1 rfl rfl ?_
  refine r_iald C dX8_goOne_17 5 0 rfl rfl g1 rfl ?_
  refine r_aload_n C dX8_goOne_18 rfl 0 rfl rfl ?_
  refine r_get C dX8_goOne_19 fw_X8_goOne_X8 0 rfl rfl 13 (by decide) rfl fl_X8_goOne_34 rfl rfl ?_
  refine r_iload_n C dX8_goOne_22 rfl 1 rfl rfl ?_
  refine r_iald C dX8_goOne_23 6 0 rfl rfl g1 rfl ?_
  obtain ⟨r2, e2, hf⟩ := gd_b hf
  refine o_V (wn := [(h, oX8 A r2.2.2.2.1 r2.2.2.2.2.1 r2.2.2.2.2.2.1 sights padMany acts r2.2.2.2.2.2.2.2.1 r2.2.2.2.2.2.2.2.2.1 r2.2.2.2.2.2.2.2.2.2 badAct badWhy drawnAct drawnChild keptAt isWriting), ((A 0), aI cI 10 r2.1), ((A 1), aI cI 10 r2.2.1), ((A 2), aI cI 9 r2.2.2.1), ((A 11), aI cI 60 act), ((A 12), aI cI 60 who), ((A 13), aI cI 60 much), ((A 15), aI cI 10 r2.2.2.2.2.2.2.1)]) C [0, 1, 2, 3, 7] rfl (x_V C dX8_goOne_24 (c_X8_happen l D cI cZ cG h A yard feels length holding wool days sights padMany acts then_ drawnBits drawnMany (0 : Int32) badAct badWhy drawnAct drawnChild keptAt isWriting (act u1.toNatClampNeg) (who u1.toNatClampNeg) (much u1.toNatClampNeg) r2 e2) rfl gX8_goOne_X8_happen hd_X8_happen rfl ⟨Nat.le_of_ble_eq_true rfl, Nat.le_of_ble_eq_true rfl⟩ ⟨rfl, rfl⟩ ⟨Nat.zero_le _, Nat.zero_le _⟩ rfl [0, 1, 2, 3, 7] rfl rfl 0 rfl rfl (Nat.le_of_ble_eq_true rfl) rfl) rfl rfl rfl ?_
  refine r_aload_n C dX8_goOne_27 rfl 0 rfl rfl ?_
  refine r_get C dX8_goOne_28 fw_X8_goOne_X8 0 rfl rfl 18 (by decide) rfl fl_X8_goOne_171 rfl rfl ?_
  refine r_if_eq (y := 0) (tgt := 57) C dX8_goOne_31 rfl rfl (fun c3 => ?_) (fun c3 => ?_)
  · have hf := gd_t c3 hf
    cases hf
    exact r_vret C dX8_goOne_57 rfl
  · have hf := gd_f c3 hf
    refine r_aload_n C dX8_goOne_34 rfl 0 rfl rfl ?_
    refine r_get C dX8_goOne_35 fw_X8_goOne_X8 0 rfl rfl 22 (by decide) rfl fl_X8_goOne_199 rfl rfl ?_
    refine r_if_ge (y := 0) (tgt := 57) C dX8_goOne_38 rfl rfl (fun c4 => ?_) (fun c4 => ?_)
    · have hf := gd_t c4 hf
      cases hf
      exact r_vret C dX8_goOne_57 rfl
    · have hf := gd_f c4 hf
      refine r_aload_n C dX8_goOne_41 rfl 0 rfl rfl ?_
      refine r_iload_n C dX8_goOne_42 rfl 1 rfl rfl ?_
      refine r_put (ty := .int) (ws' := [(h, oX8 A r2.2.2.2.1 r2.2.2.2.2.1 r2.2.2.2.2.2.1 sights padMany acts r2.2.2.2.2.2.2.2.1 r2.2.2.2.2.2.2.2.2.1 r2.2.2.2.2.2.2.2.2.2 badAct badWhy u1 drawnChild keptAt isWriting), ((A 0), aI cI 10 r2.1), ((A 1), aI cI 10 r2.2.1), ((A 2), aI cI 9 r2.2.2.1), ((A 11), aI cI 60 act), ((A 12), aI cI 60 who), ((A 13), aI cI 60 much), ((A 15), aI cI 10 r2.2.2.2.2.2.2.1)]) C dX8_goOne_43 fw_X8_goOne_X8 tyX8 tyX8_ok nmX8 0 rfl rfl 22 (by decide) rfl fl_X8_goOne_199 rfl (by decide +kernel) rfl rfl (Nat.le_of_ble_eq_true rfl) rfl rfl ?_
      refine r_aload_n C dX8_goOne_46 rfl 0 rfl rfl ?_
      refine r_aload_n C dX8_goOne_47 rfl 0 rfl rfl ?_
      refine r_get C dX8_goOne_48 fw_X8_goOne_X8 0 rfl rfl 18 (by decide) rfl fl_X8_goOne_171 rfl rfl ?_
      obtain ⟨r5, e5, hf⟩ := gd_b hf
      refine o_I (wn := [(h, oX8 A r2.2.2.2.1 r2.2.2.2.2.1 r2.2.2.2.2.2.1 sights padMany acts r2.2.2.2.2.2.2.2.1 r2.2.2.2.2.2.2.2.2.1 r2.2.2.2.2.2.2.2.2.2 badAct badWhy u1 drawnChild keptAt isWriting), ((A 0), aI cI 10 r2.1), ((A 1), aI cI 10 r2.2.1), ((A 2), aI cI 9 r2.2.2.1), ((A 11), aI cI 60 act), ((A 12), aI cI 60 who), ((A 13), aI cI 60 much), ((A 15), aI cI 10 r2.2.2.2.2.2.2.1)]) C [] rfl (x_S C dX8_goOne_51 (c_X8_leastOf l D cI cZ cG r2.2.2.2.2.2.2.2.2.2 r5 e5) rfl gX8_goOne_X8_leastOf hs_X8_leastOf rfl ⟨Nat.le_of_ble_eq_true rfl, Nat.le_of_ble_eq_true rfl⟩ ⟨rfl, rfl⟩ ⟨Nat.zero_le _, Nat.zero_le _⟩ rfl [] rfl rfl (Nat.le_of_ble_eq_true rfl) rfl) rfl rfl rfl ?_
      refine r_put (ty := .int) (ws' := [(h, oX8 A r2.2.2.2.1 r2.2.2.2.2.1 r2.2.2.2.2.2.1 sights padMany acts r2.2.2.2.2.2.2.2.1 r2.2.2.2.2.2.2.2.2.1 r2.2.2.2.2.2.2.2.2.2 badAct badWhy u1 r5 keptAt isWriting), ((A 0), aI cI 10 r2.1), ((A 1), aI cI 10 r2.2.1), ((A 2), aI cI 9 r2.2.2.1), ((A 11), aI cI 60 act), ((A 12), aI cI 60 who), ((A 13), aI cI 60 much), ((A 15), aI cI 10 r2.2.2.2.2.2.2.1)]) C dX8_goOne_54 fw_X8_goOne_X8 tyX8 tyX8_ok nmX8 0 rfl rfl 23 (by decide) rfl fl_X8_goOne_205 rfl (by decide +kernel) rfl rfl (Nat.le_of_ble_eq_true rfl) rfl rfl ?_
      cases hf
      exact r_vret C dX8_goOne_57 rfl
theorem fw_X8_goDays_X8 : ∀ w ∈ u_ws RX8 TX8 37, w ∈ wsX8_goDays := by decide +kernel
theorem fl_X8_goDays_208 : Cond.fieldLink RX8 208 "MittenLineModel" "badAct" "I" ∈ wsX8_goDays := by decide +kernel
theorem fl_X8_goDays_211 : Cond.fieldLink RX8 211 "MittenLineModel" "badWhy" "I" ∈ wsX8_goDays := by decide +kernel
theorem fl_X8_goDays_199 : Cond.fieldLink RX8 199 "MittenLineModel" "drawnAct" "I" ∈ wsX8_goDays := by decide +kernel
theorem fl_X8_goDays_205 : Cond.fieldLink RX8 205 "MittenLineModel" "drawnChild" "I" ∈ wsX8_goDays := by decide +kernel
theorem fl_X8_goDays_174 : Cond.fieldLink RX8 174 "MittenLineModel" "drawnMany" "I" ∈ wsX8_goDays := by decide +kernel
theorem fl_X8_goDays_115 : Cond.fieldLink RX8 115 "MittenLineModel" "acts" "I" ∈ wsX8_goDays := by decide +kernel
theorem fl_X8_goDays_28 : Cond.fieldLink RX8 28 "MittenLineModel" "act" "[I" ∈ wsX8_goDays := by decide +kernel
theorem fl_X8_goDays_31 : Cond.fieldLink RX8 31 "MittenLineModel" "who" "[I" ∈ wsX8_goDays := by decide +kernel
theorem fl_X8_goDays_34 : Cond.fieldLink RX8 34 "MittenLineModel" "much" "[I" ∈ wsX8_goDays := by decide +kernel
abbrev rm_X8_goDays : Jvm.Room := { frames := 6, cells := 0, slots := 0, locals := 135 }
def f_X8_goDays_31 (act : Nat → Int32) (who : Nat → Int32) (much : Nat → Int32) (acts : Int32) : Nat → Int32 → (Nat → Int32) → (Nat → Int32) → (Nat → Int32) → Int32 → Int32 → Int32 → (Nat → Int32) → Int32 → Int32 → Int32 → Int32 → Int32 → Int32 → Int32 → Option ((Nat → Int32) × (Nat → Int32) × (Nat → Int32) × Int32 × Int32 × Int32 × (Nat → Int32) × Int32 × Int32 × Int32 × Int32 × Int32 × Int32 × Int32)
  | 0, _, _, _, _, _, _, _, _, _, _, _, _, _, _, _ => none
  | n + 1, u1, yard, feels, length, holding, wool, days, then_, drawnBits, drawnMany, drawnNow, badAct, badWhy, drawnAct, drawnChild => if acts ≤ u1 then some (yard, feels, length, holding, wool, days, then_, drawnBits, drawnMany, drawnNow, badAct, badWhy, drawnAct, drawnChild) else if 0 ≤ badAct then some (yard, feels, length, holding, wool, days, then_, drawnBits, drawnMany, drawnNow, badAct, badWhy, drawnAct, drawnChild) else if u1 < 0 ∨ 60 ≤ u1.toNatClampNeg then none else (f_X8_whyNot yard length holding wool days then_ drawnBits (act u1.toNatClampNeg) (who u1.toNatClampNeg) (much u1.toNatClampNeg)).bind (fun r4 => if r4.1 ≤ 0 then if r4.1 = 0 then (f_X8_goOne yard feels length holding wool days act who much r4.2.1 r4.2.2 drawnMany drawnNow drawnAct drawnChild u1).bind (fun r8 => f_X8_goDays_31 act who much acts n (u1 + (1 : Int32)) r8.1 r8.2.1 r8.2.2.1 r8.2.2.2.1 r8.2.2.2.2.1 r8.2.2.2.2.2.1 r8.2.2.2.2.2.2.1 r8.2.2.2.2.2.2.2.1 r8.2.2.2.2.2.2.2.2.1 r8.2.2.2.2.2.2.2.2.2.1 (-6 : Int32) (-6 : Int32) r8.2.2.2.2.2.2.2.2.2.2.1 r8.2.2.2.2.2.2.2.2.2.2.2) else f_X8_goDays_31 act who much acts n (u1 + (1 : Int32)) yard feels length holding wool days r4.2.1 r4.2.2 drawnMany drawnNow (-6 : Int32) (-6 : Int32) drawnAct drawnChild else if r4.1 = 0 then (f_X8_goOne yard feels length holding wool days act who much r4.2.1 r4.2.2 drawnMany drawnNow drawnAct drawnChild u1).bind (fun r11 => f_X8_goDays_31 act who much acts n (u1 + (1 : Int32)) r11.1 r11.2.1 r11.2.2.1 r11.2.2.2.1 r11.2.2.2.2.1 r11.2.2.2.2.2.1 r11.2.2.2.2.2.2.1 r11.2.2.2.2.2.2.2.1 r11.2.2.2.2.2.2.2.2.1 r11.2.2.2.2.2.2.2.2.2.1 u1 r4.1 r11.2.2.2.2.2.2.2.2.2.2.1 r11.2.2.2.2.2.2.2.2.2.2.2) else f_X8_goDays_31 act who much acts n (u1 + (1 : Int32)) yard feels length holding wool days r4.2.1 r4.2.2 drawnMany drawnNow u1 r4.1 drawnAct drawnChild)
set_option maxHeartbeats 4000000 in
set_option maxRecDepth 100000 in
theorem k_X8_goDays_31 (C : Cx p s m args meth c D (tysW cI cZ cG) RX8 cX8_goDays 3 wsX8_goDays none) (h : Nat) (A : Nat → Nat) (sights : Int32) (padMany : Int32) (act : Nat → Int32) (who : Nat → Int32) (much : Nat → Int32) (acts : Int32) (keptAt : Int32) (isWriting : Int32)  (res : (Nat → Int32) × (Nat → Int32) × (Nat → Int32) × Int32 × Int32 × Int32 × (Nat → Int32) × Int32 × Int32 × Int32 × Int32 × Int32 × Int32 × Int32) : ∀ (n : Nat) (u1 : Int32) (yard : Nat → Int32) (feels : Nat → Int32) (length : Nat → Int32) (holding : Int32) (wool : Int32) (days : Int32) (then_ : Nat → Int32) (drawnBits : Int32) (drawnMany : Int32) (drawnNow : Int32) (badAct : Int32) (badWhy : Int32) (drawnAct : Int32) (drawnChild : Int32), f_X8_goDays_31 act who much acts n u1 yard feels length holding wool days then_ drawnBits drawnMany drawnNow badAct badWhy drawnAct drawnChild = some res → Wd p l e rm_X8_goDays s m args below meth c D w0 3 0 0 (MQ below (QcV D (tysW cI cZ cG) w0 [(h, oX8 A res.2.2.2.1 res.2.2.2.2.1 res.2.2.2.2.2.1 sights padMany acts res.2.2.2.2.2.2.2.1 res.2.2.2.2.2.2.2.2.1 res.2.2.2.2.2.2.2.2.2.1 res.2.2.2.2.2.2.2.2.2.2.1 res.2.2.2.2.2.2.2.2.2.2.2.1 res.2.2.2.2.2.2.2.2.2.2.2.2.1 res.2.2.2.2.2.2.2.2.2.2.2.2.2 keptAt isWriting), ((A 0), aI cI 10 res.1), ((A 1), aI cI 10 res.2.1), ((A 2), aI cI 9 res.2.2.1), ((A 11), aI cI 60 act), ((A 12), aI cI 60 who), ((A 13), aI cI 60 much), ((A 15), aI cI 10 res.2.2.2.2.2.2.1)] s.heap.size) args s 0 0 (va_A w0 s.heap.size)) [(h, oX8 A holding wool days sights padMany acts drawnBits drawnMany drawnNow badAct badWhy drawnAct drawnChild keptAt isWriting), ((A 0), aI cI 10 yard), ((A 1), aI cI 10 feels), ((A 2), aI cI 9 length), ((A 11), aI cI 60 act), ((A 12), aI cI 60 who), ((A 13), aI cI 60 much), ((A 15), aI cI 10 then_)] [(0, .ref h), (1, .int u1)] 31 [] := by
  intro n
  induction n with
  | zero =>
    intro u1 yard feels length holding wool days then_ drawnBits drawnMany drawnNow badAct badWhy drawnAct drawnChild hf
    exact no_none hf
  | succ n ih =>
    intro u1 yard feels length holding wool days then_ drawnBits drawnMany drawnNow badAct badWhy drawnAct drawnChild hf
    unfold f_X8_goDays_31 at hf
    refine r_iload_n C dX8_goDays_31 rfl 1 rfl rfl ?_
    refine r_aload_n C dX8_goDays_32 rfl 0 rfl rfl ?_
    refine r_get C dX8_goDays_33 fw_X8_goDays_X8 0 rfl rfl 14 (by decide) rfl fl_X8_goDays_115 rfl rfl ?_
    refine r_icmp_ge (tgt := 112) C dX8_goDays_36 rfl rfl (fun c1 => ?_) (fun c1 => ?_)
    · have hf := gd_t c1 hf
      cases hf
      exact r_vret C dX8_goDays_112 rfl
    · have hf := gd_f c1 hf
      refine r_aload_n C dX8_goDays_39 rfl 0 rfl rfl ?_
      refine r_get C dX8_goDays_40 fw_X8_goDays_X8 0 rfl rfl 20 (by decide) rfl fl_X8_goDays_208 rfl rfl ?_
      refine r_if_ge (y := 0) (tgt := 112) C dX8_goDays_43 rfl rfl (fun c2 => ?_) (fun c2 => ?_)
      · have hf := gd_t c2 hf
        cases hf
        exact r_vret C dX8_goDays_112 rfl
      · have hf := gd_f c2 hf
        refine r_aload_n C dX8_goDays_46 rfl 0 rfl rfl ?_
        refine r_aload_n C dX8_goDays_47 rfl 0 rfl rfl ?_
        refine r_get C dX8_goDays_48 fw_X8_goDays_X8 0 rfl rfl 11 (by decide) rfl fl_X8_goDays_28 rfl rfl ?_
        refine r_iload_n C dX8_goDays_51 rfl 1 rfl rfl ?_
        obtain ⟨g3, hf⟩ := gd_n hf
        refine r_iald C dX8_goDays_52 4 0 rfl rfl g3 rfl ?_
        refine r_aload_n C dX8_goDays_53 rfl 0 rfl rfl ?_
        refine r_get C dX8_goDays_54 fw_X8_goDays_X8 0 rfl rfl 12 (by decide) rfl fl_X8_goDays_31 rfl rfl ?_
        refine r_iload_n C dX8_goDays_57 rfl 1 rfl rfl ?_
        refine r_iald C dX8_goDays_58 5 0 rfl rfl g3 rfl ?_
        refine r_aload_n C dX8_goDays_59 rfl 0 rfl rfl ?_
        refine r_get C dX8_goDays_60 fw_X8_goDays_X8 0 rfl rfl 13 (by decide) rfl fl_X8_goDays_34 rfl rfl ?_
        refine r_iload_n C dX8_goDays_63 rfl 1 rfl rfl ?_
        refine r_iald C dX8_goDays_64 6 0 rfl rfl g3 rfl ?_
        obtain ⟨r4, e4, hf⟩ := gd_b hf
        refine o_I (wn := [(h, oX8 A holding wool days sights padMany acts r4.2.2 drawnMany drawnNow badAct badWhy drawnAct drawnChild keptAt isWriting), ((A 0), aI cI 10 yard), ((A 1), aI cI 10 feels), ((A 2), aI cI 9 length), ((A 11), aI cI 60 act), ((A 12), aI cI 60 who), ((A 13), aI cI 60 much), ((A 15), aI cI 10 r4.2.1)]) C [0, 1, 3, 7] rfl (x_V C dX8_goDays_65 (c_X8_whyNot l D cI cZ cG h A yard length holding wool days sights padMany acts then_ drawnBits drawnMany drawnNow badAct badWhy drawnAct drawnChild keptAt isWriting (act u1.toNatClampNeg) (who u1.toNatClampNeg) (much u1.toNatClampNeg) r4 e4) rfl gX8_goDays_X8_whyNot hd_X8_whyNot rfl ⟨Nat.le_of_ble_eq_true rfl, Nat.le_of_ble_eq_true rfl⟩ ⟨rfl, rfl⟩ ⟨Nat.zero_le _, Nat.zero_le _⟩ rfl [0, 1, 3, 7] rfl rfl 0 rfl rfl (Nat.le_of_ble_eq_true rfl) rfl) rfl rfl rfl ?_
        refine r_istore_n (lv' := [(2, .int r4.1), (0, .ref h), (1, .int u1)]) C dX8_goDays_68 rfl (by decide) rfl rfl ?_
        refine r_aload_n C dX8_goDays_69 rfl 1 rfl rfl ?_
        refine r_iload_n C dX8_goDays_70 rfl 0 rfl rfl ?_
        refine r_if_le (y := 0) (tgt := 78) C dX8_goDays_71 rfl rfl (fun c5 => ?_) (fun c5 => ?_)
        · have hf := gd_t c5 hf
          refine r_bipush C dX8_goDays_78 kk_b_m6 rfl ?_
          refine r_put (ty := .int) (ws' := [(h, oX8 A holding wool days sights padMany acts r4.2.2 drawnMany drawnNow (-6 : Int32) badWhy drawnAct drawnChild keptAt isWriting), ((A 0), aI cI 10 yard), ((A 1), aI cI 10 feels), ((A 2), aI cI 9 length), ((A 11), aI cI 60 act), ((A 12), aI cI 60 who), ((A 13), aI cI 60 much), ((A 15), aI cI 10 r4.2.1)]) C dX8_goDays_80 fw_X8_goDays_X8 tyX8 tyX8_ok nmX8 0 rfl rfl 20 (by decide) rfl fl_X8_goDays_208 rfl (by decide +kernel) rfl rfl (Nat.le_of_ble_eq_true rfl) rfl rfl ?_
          refine r_aload_n C dX8_goDays_83 rfl 1 rfl rfl ?_
          refine r_iload_n C dX8_goDays_84 rfl 0 rfl rfl ?_
          refine r_if_le (y := 0) (tgt := 92) C dX8_goDays_85 rfl rfl (fun _ => ?_) (fun c6 => absurd c5 c6)
          refine r_bipush C dX8_goDays_92 kk_b_m6 rfl ?_
          refine r_put (ty := .int) (ws' := [(h, oX8 A holding wool days sights padMany acts r4.2.2 drawnMany drawnNow (-6 : Int32) (-6 : Int32) drawnAct drawnChild keptAt isWriting), ((A 0), aI cI 10 yard), ((A 1), aI cI 10 feels), ((A 2), aI cI 9 length), ((A 11), aI cI 60 act), ((A 12), aI cI 60 who), ((A 13), aI cI 60 much), ((A 15), aI cI 10 r4.2.1)]) C dX8_goDays_94 fw_X8_goDays_X8 tyX8 tyX8_ok nmX8 0 rfl rfl 21 (by decide) rfl fl_X8_goDays_211 rfl (by decide +kernel) rfl rfl (Nat.le_of_ble_eq_true rfl) rfl rfl ?_
          refine r_iload_n C dX8_goDays_97 rfl 0 rfl rfl ?_
          refine r_if_ne (y := 0) (tgt := 106) C dX8_goDays_98 rfl rfl (fun c7 => ?_) (fun c7 => ?_)
          · have hf := gd_f c7 hf
            refine r_iinc (lv' := [(1, .int (u1 + (1 : Int32))), (2, .int r4.1), (0, .ref h)]) C dX8_goDays_106 2 rfl (ki_1 _) (by decide) rfl rfl ?_
            refine r_goto (tgt := 31) C dX8_goDays_109 rfl ?_
            refine r_lv (lv' := [(0, .ref h), (1, .int (u1 + (1 : Int32)))]) [2, 0] rfl ?_
            exact ih _ _ _ _ _ _ _ _ _ _ _ _ _ _ _ hf
          · have hf := gd_t c7 hf
            refine r_aload_n C dX8_goDays_101 rfl 1 rfl rfl ?_
            refine r_iload_n C dX8_goDays_102 rfl 2 rfl rfl ?_
            obtain ⟨r8, e8, hf⟩ := gd_b hf
            refine o_V (wn := [(h, oX8 A r8.2.2.2.1 r8.2.2.2.2.1 r8.2.2.2.2.2.1 sights padMany acts r8.2.2.2.2.2.2.2.1 r8.2.2.2.2.2.2.2.2.1 r8.2.2.2.2.2.2.2.2.2.1 (-6 : Int32) (-6 : Int32) r8.2.2.2.2.2.2.2.2.2.2.1 r8.2.2.2.2.2.2.2.2.2.2.2 keptAt isWriting), ((A 0), aI cI 10 r8.1), ((A 1), aI cI 10 r8.2.1), ((A 2), aI cI 9 r8.2.2.1), ((A 11), aI cI 60 act), ((A 12), aI cI 60 who), ((A 13), aI cI 60 much), ((A 15), aI cI 10 r8.2.2.2.2.2.2.1)]) C [0, 1, 2, 3, 4, 5, 6, 7] rfl (x_V C dX8_goDays_103 (c_X8_goOne l D cI cZ cG h A yard feels length holding wool days sights padMany act who much acts r4.2.1 r4.2.2 drawnMany drawnNow (-6 : Int32) (-6 : Int32) drawnAct drawnChild keptAt isWriting u1 r8 e8) rfl gX8_goDays_X8_goOne hd_X8_goOne rfl ⟨Nat.le_of_ble_eq_true rfl, Nat.le_of_ble_eq_true rfl⟩ ⟨rfl, rfl⟩ ⟨Nat.zero_le _, Nat.zero_le _⟩ rfl [0, 1, 2, 3, 4, 5, 6, 7] rfl rfl 0 rfl rfl (Nat.le_of_ble_eq_true rfl) rfl) rfl rfl rfl ?_
            refine r_iinc (lv' := [(1, .int (u1 + (1 : Int32))), (2, .int r4.1), (0, .ref h)]) C dX8_goDays_106 2 rfl (ki_1 _) (by decide) rfl rfl ?_
            refine r_goto (tgt := 31) C dX8_goDays_109 rfl ?_
            refine r_lv (lv' := [(0, .ref h), (1, .int (u1 + (1 : Int32)))]) [2, 0] rfl ?_
            exact ih _ _ _ _ _ _ _ _ _ _ _ _ _ _ _ hf
        · have hf := gd_f c5 hf
          refine r_iload_n C dX8_goDays_74 rfl 2 rfl rfl ?_
          refine r_goto (tgt := 80) C dX8_goDays_75 rfl ?_
          refine r_put (ty := .int) (ws' := [(h, oX8 A holding wool days sights padMany acts r4.2.2 drawnMany drawnNow u1 badWhy drawnAct drawnChild keptAt isWriting), ((A 0), aI cI 10 yard), ((A 1), aI cI 10 feels), ((A 2), aI cI 9 length), ((A 11), aI cI 60 act), ((A 12), aI cI 60 who), ((A 13), aI cI 60 much), ((A 15), aI cI 10 r4.2.1)]) C dX8_goDays_80 fw_X8_goDays_X8 tyX8 tyX8_ok nmX8 0 rfl rfl 20 (by decide) rfl fl_X8_goDays_208 rfl (by decide +kernel) rfl rfl (Nat.le_of_ble_eq_true rfl) rfl rfl ?_
          refine r_aload_n C dX8_goDays_83 rfl 1 rfl rfl ?_
          refine r_iload_n C dX8_goDays_84 rfl 0 rfl rfl ?_
          refine r_if_le (y := 0) (tgt := 92) C dX8_goDays_85 rfl rfl (fun c9 => absurd c9 c5) (fun _ => ?_)
          refine r_iload_n C dX8_goDays_88 rfl 0 rfl rfl ?_
          refine r_goto (tgt := 94) C dX8_goDays_89 rfl ?_
          refine r_put (ty := .int) (ws' := [(h, oX8 A holding wool days sights padMany acts r4.2.2 drawnMany drawnNow u1 r4.1 drawnAct drawnChild keptAt isWriting), ((A 0), aI cI 10 yard), ((A 1), aI cI 10 feels), ((A 2), aI cI 9 length), ((A 11), aI cI 60 act), ((A 12), aI cI 60 who), ((A 13), aI cI 60 much), ((A 15), aI cI 10 r4.2.1)]) C dX8_goDays_94 fw_X8_goDays_X8 tyX8 tyX8_ok nmX8 0 rfl rfl 21 (by decide) rfl fl_X8_goDays_211 rfl (by decide +kernel) rfl rfl (Nat.le_of_ble_eq_true rfl) rfl rfl ?_
          refine r_iload_n C dX8_goDays_97 rfl 0 rfl rfl ?_
          refine r_if_ne (y := 0) (tgt := 106) C dX8_goDays_98 rfl rfl (fun c10 => ?_) (fun c10 => ?_)
          · have hf := gd_f c10 hf
            refine r_iinc (lv' := [(1, .int (u1 + (1 : Int32))), (2, .int r4.1), (0, .ref h)]) C dX8_goDays_106 2 rfl (ki_1 _) (by decide) rfl rfl ?_
            refine r_goto (tgt := 31) C dX8_goDays_109 rfl ?_
            refine r_lv (lv' := [(0, .ref h), (1, .int (u1 + (1 : Int32)))]) [2, 0] rfl ?_
            exact ih _ _ _ _ _ _ _ _ _ _ _ _ _ _ _ hf
          · have hf := gd_t c10 hf
            refine r_aload_n C dX8_goDays_101 rfl 1 rfl rfl ?_
            refine r_iload_n C dX8_goDays_102 rfl 2 rfl rfl ?_
            obtain ⟨r11, e11, hf⟩ := gd_b hf
            refine o_V (wn := [(h, oX8 A r11.2.2.2.1 r11.2.2.2.2.1 r11.2.2.2.2.2.1 sights padMany acts r11.2.2.2.2.2.2.2.1 r11.2.2.2.2.2.2.2.2.1 r11.2.2.2.2.2.2.2.2.2.1 u1 r4.1 r11.2.2.2.2.2.2.2.2.2.2.1 r11.2.2.2.2.2.2.2.2.2.2.2 keptAt isWriting), ((A 0), aI cI 10 r11.1), ((A 1), aI cI 10 r11.2.1), ((A 2), aI cI 9 r11.2.2.1), ((A 11), aI cI 60 act), ((A 12), aI cI 60 who), ((A 13), aI cI 60 much), ((A 15), aI cI 10 r11.2.2.2.2.2.2.1)]) C [0, 1, 2, 3, 4, 5, 6, 7] rfl (x_V C dX8_goDays_103 (c_X8_goOne l D cI cZ cG h A yard feels length holding wool days sights padMany act who much acts r4.2.1 r4.2.2 drawnMany drawnNow u1 r4.1 drawnAct drawnChild keptAt isWriting u1 r11 e11) rfl gX8_goDays_X8_goOne hd_X8_goOne rfl ⟨Nat.le_of_ble_eq_true rfl, Nat.le_of_ble_eq_true rfl⟩ ⟨rfl, rfl⟩ ⟨Nat.zero_le _, Nat.zero_le _⟩ rfl [0, 1, 2, 3, 4, 5, 6, 7] rfl rfl 0 rfl rfl (Nat.le_of_ble_eq_true rfl) rfl) rfl rfl rfl ?_
            refine r_iinc (lv' := [(1, .int (u1 + (1 : Int32))), (2, .int r4.1), (0, .ref h)]) C dX8_goDays_106 2 rfl (ki_1 _) (by decide) rfl rfl ?_
            refine r_goto (tgt := 31) C dX8_goDays_109 rfl ?_
            refine r_lv (lv' := [(0, .ref h), (1, .int (u1 + (1 : Int32)))]) [2, 0] rfl ?_
            exact ih _ _ _ _ _ _ _ _ _ _ _ _ _ _ _ hf
def f_X8_goDays (yard : Nat → Int32) (feels : Nat → Int32) (length : Nat → Int32) (holding : Int32) (wool : Int32) (days : Int32) (act : Nat → Int32) (who : Nat → Int32) (much : Nat → Int32) (acts : Int32) (then_ : Nat → Int32) (drawnBits : Int32) (drawnMany : Int32) (drawnNow : Int32) (badAct : Int32) (badWhy : Int32) (drawnAct : Int32) (drawnChild : Int32) : Option ((Nat → Int32) × (Nat → Int32) × (Nat → Int32) × Int32 × Int32 × Int32 × (Nat → Int32) × Int32 × Int32 × Int32 × Int32 × Int32 × Int32 × Int32) := f_X8_goDays_31 act who much acts 2000 (0 : Int32) yard feels length holding wool days then_ drawnBits (0 : Int32) drawnNow (-6 : Int32) (-6 : Int32) (-6 : Int32) (-6 : Int32)
set_option maxHeartbeats 4000000 in
set_option maxRecDepth 100000 in
theorem c_X8_goDays (l : Launch) (D : va_G) (cI cZ cG : ClassId) (h : Nat) (A : Nat → Nat) (yard : Nat → Int32) (feels : Nat → Int32) (length : Nat → Int32) (holding : Int32) (wool : Int32) (days : Int32) (sights : Int32) (padMany : Int32) (act : Nat → Int32) (who : Nat → Int32) (much : Nat → Int32) (acts : Int32) (then_ : Nat → Int32) (drawnBits : Int32) (drawnMany : Int32) (drawnNow : Int32) (badAct : Int32) (badWhy : Int32) (drawnAct : Int32) (drawnChild : Int32) (keptAt : Int32) (isWriting : Int32) (res : (Nat → Int32) × (Nat → Int32) × (Nat → Int32) × Int32 × Int32 × Int32 × (Nat → Int32) × Int32 × Int32 × Int32 × Int32 × Int32 × Int32 × Int32) (hf : f_X8_goDays yard feels length holding wool days act who much acts then_ drawnBits drawnMany drawnNow badAct badWhy drawnAct drawnChild = some res) : CV l D (tysW cI cZ cG) yX8_goDays wsX8_goDays rm_X8_goDays [.ref h] [(h, oX8 A holding wool days sights padMany acts drawnBits drawnMany drawnNow badAct badWhy drawnAct drawnChild keptAt isWriting), ((A 0), aI cI 10 yard), ((A 1), aI cI 10 feels), ((A 2), aI cI 9 length), ((A 11), aI cI 60 act), ((A 12), aI cI 60 who), ((A 13), aI cI 60 much), ((A 15), aI cI 10 then_)] [(h, oX8 A res.2.2.2.1 res.2.2.2.2.1 res.2.2.2.2.2.1 sights padMany acts res.2.2.2.2.2.2.2.1 res.2.2.2.2.2.2.2.2.1 res.2.2.2.2.2.2.2.2.2.1 res.2.2.2.2.2.2.2.2.2.2.1 res.2.2.2.2.2.2.2.2.2.2.2.1 res.2.2.2.2.2.2.2.2.2.2.2.2.1 res.2.2.2.2.2.2.2.2.2.2.2.2.2 keptAt isWriting), ((A 0), aI cI 10 res.1), ((A 1), aI cI 10 res.2.1), ((A 2), aI cI 9 res.2.2.1), ((A 11), aI cI 60 act), ((A 12), aI cI 60 who), ((A 13), aI cI 60 much), ((A 15), aI cI 10 res.2.2.2.2.2.2.1)] := by
  refine CG.intro (own := RX8) (by decide +kernel) rfl rfl (Nat.le_of_ble_eq_true rfl) (fun p e s m args below meth c C => ?_)
  refine r_lv (lv' := [(0, .ref h)]) [0] rfl ?_
  unfold f_X8_goDays at hf
  refine r_aload_n C dX8_goDays_0 rfl 0 rfl rfl ?_
  refine r_bipush C dX8_goDays_1 kk_b_m6 rfl ?_
  refine r_put (ty := .int) (ws' := [(h, oX8 A holding wool days sights padMany acts drawnBits drawnMany drawnNow (-6 : Int32) badWhy drawnAct drawnChild keptAt isWriting), ((A 0), aI cI 10 yard), ((A 1), aI cI 10 feels), ((A 2), aI cI 9 length), ((A 11), aI cI 60 act), ((A 12), aI cI 60 who), ((A 13), aI cI 60 much), ((A 15), aI cI 10 then_)]) C dX8_goDays_3 fw_X8_goDays_X8 tyX8 tyX8_ok nmX8 0 rfl rfl 20 (by decide) rfl fl_X8_goDays_208 rfl (by decide +kernel) rfl rfl (Nat.le_of_ble_eq_true rfl) rfl rfl ?_
  refine r_aload_n C dX8_goDays_6 rfl 0 rfl rfl ?_
  refine r_bipush C dX8_goDays_7 kk_b_m6 rfl ?_
  refine r_put (ty := .int) (ws' := [(h, oX8 A holding wool days sights padMany acts drawnBits drawnMany drawnNow (-6 : Int32) (-6 : Int32) drawnAct drawnChild keptAt isWriting), ((A 0), aI cI 10 yard), ((A 1), aI cI 10 feels), ((A 2), aI cI 9 length), ((A 11), aI cI 60 act), ((A 12), aI cI 60 who), ((A 13), aI cI 60 much), ((A 15), aI cI 10 then_)]) C dX8_goDays_9 fw_X8_goDays_X8 tyX8 tyX8_ok nmX8 0 rfl rfl 21 (by decide) rfl fl_X8_goDays_211 rfl (by decide +kernel) rfl rfl (Nat.le_of_ble_eq_true rfl) rfl rfl ?_
  refine r_aload_n C dX8_goDays_12 rfl 0 rfl rfl ?_
  refine r_bipush C dX8_goDays_13 kk_b_m6 rfl ?_
  refine r_put (ty := .int) (ws' := [(h, oX8 A holding wool days sights padMany acts drawnBits drawnMany drawnNow (-6 : Int32) (-6 : Int32) (-6 : Int32) drawnChild keptAt isWriting), ((A 0), aI cI 10 yard), ((A 1), aI cI 10 feels), ((A 2), aI cI 9 length), ((A 11), aI cI 60 act), ((A 12), aI cI 60 who), ((A 13), aI cI 60 much), ((A 15), aI cI 10 then_)]) C dX8_goDays_15 fw_X8_goDays_X8 tyX8 tyX8_ok nmX8 0 rfl rfl 22 (by decide) rfl fl_X8_goDays_199 rfl (by decide +kernel) rfl rfl (Nat.le_of_ble_eq_true rfl) rfl rfl ?_
  refine r_aload_n C dX8_goDays_18 rfl 0 rfl rfl ?_
  refine r_bipush C dX8_goDays_19 kk_b_m6 rfl ?_
  refine r_put (ty := .int) (ws' := [(h, oX8 A holding wool days sights padMany acts drawnBits drawnMany drawnNow (-6 : Int32) (-6 : Int32) (-6 : Int32) (-6 : Int32) keptAt isWriting), ((A 0), aI cI 10 yard), ((A 1), aI cI 10 feels), ((A 2), aI cI 9 length), ((A 11), aI cI 60 act), ((A 12), aI cI 60 who), ((A 13), aI cI 60 much), ((A 15), aI cI 10 then_)]) C dX8_goDays_21 fw_X8_goDays_X8 tyX8 tyX8_ok nmX8 0 rfl rfl 23 (by decide) rfl fl_X8_goDays_205 rfl (by decide +kernel) rfl rfl (Nat.le_of_ble_eq_true rfl) rfl rfl ?_
  refine r_aload_n C dX8_goDays_24 rfl 0 rfl rfl ?_
  refine r_iconst C dX8_goDays_25 kk_i_0 rfl ?_
  refine r_put (ty := .int) (ws' := [(h, oX8 A holding wool days sights padMany acts drawnBits (0 : Int32) drawnNow (-6 : Int32) (-6 : Int32) (-6 : Int32) (-6 : Int32) keptAt isWriting), ((A 0), aI cI 10 yard), ((A 1), aI cI 10 feels), ((A 2), aI cI 9 length), ((A 11), aI cI 60 act), ((A 12), aI cI 60 who), ((A 13), aI cI 60 much), ((A 15), aI cI 10 then_)]) C dX8_goDays_26 fw_X8_goDays_X8 tyX8 tyX8_ok nmX8 0 rfl rfl 17 (by decide) rfl fl_X8_goDays_174 rfl (by decide +kernel) rfl rfl (Nat.le_of_ble_eq_true rfl) rfl rfl ?_
  refine r_iconst C dX8_goDays_29 kk_i_0 rfl ?_
  refine r_istore_n (lv' := [(1, .int (0 : Int32)), (0, .ref h)]) C dX8_goDays_30 rfl (by decide) rfl rfl ?_
  refine r_lv (lv' := [(0, .ref h), (1, .int (0 : Int32))]) [1, 0] rfl ?_
  refine k_X8_goDays_31 C h A sights padMany act who much acts keptAt isWriting _ 2000 _ _ _ _ _ _ _ _ _ _ _ _ _ _ _ hf
theorem fw_X8_refusal_X8 : ∀ w ∈ u_ws RX8 TX8 37, w ∈ wsX8_refusal := by decide +kernel
theorem fl_X8_refusal_208 : Cond.fieldLink RX8 208 "MittenLineModel" "badAct" "I" ∈ wsX8_refusal := by decide +kernel
abbrev rm_X8_refusal : Jvm.Room := { frames := 7, cells := 0, slots := 0, locals := 157 }
def f_X8_refusal (yard : Nat → Int32) (feels : Nat → Int32) (length : Nat → Int32) (holding : Int32) (wool : Int32) (days : Int32) (pad : Nat → Int32) (padMany : Int32) (act : Nat → Int32) (who : Nat → Int32) (much : Nat → Int32) (acts : Int32) (then_ : Nat → Int32) (drawnBits : Int32) (drawnMany : Int32) (drawnNow : Int32) (had : Nat → Int32) (badAct : Int32) (badWhy : Int32) (drawnAct : Int32) (drawnChild : Int32) : Option (Int32 × (Nat → Int32) × (Nat → Int32) × (Nat → Int32) × Int32 × Int32 × Int32 × (Nat → Int32) × (Nat → Int32) × (Nat → Int32) × Int32 × (Nat → Int32) × Int32 × Int32 × Int32 × (Nat → Int32) × Int32 × Int32 × Int32 × Int32) := (f_X8_keepNow yard feels length holding wool days had).bind (fun r1 => (f_X8_fault pad padMany act who much acts).bind (fun r2 => if r2.1 < 0 then (f_X8_goDays yard feels length holding wool days r2.2.1 r2.2.2.1 r2.2.2.2.1 r2.2.2.2.2 then_ drawnBits drawnMany drawnNow badAct badWhy drawnAct drawnChild).bind (fun r4 => if r4.2.2.2.2.2.2.2.2.2.2.1 < 0 then some ((-6 : Int32), r4.1, r4.2.1, r4.2.2.1, r4.2.2.2.1, r4.2.2.2.2.1, r4.2.2.2.2.2.1, r2.2.1, r2.2.2.1, r2.2.2.2.1, r2.2.2.2.2, r4.2.2.2.2.2.2.1, r4.2.2.2.2.2.2.2.1, r4.2.2.2.2.2.2.2.2.1, r4.2.2.2.2.2.2.2.2.2.1, r1, r4.2.2.2.2.2.2.2.2.2.2.1, r4.2.2.2.2.2.2.2.2.2.2.2.1, r4.2.2.2.2.2.2.2.2.2.2.2.2.1, r4.2.2.2.2.2.2.2.2.2.2.2.2.2) else some ((-3 : Int32), r4.1, r4.2.1, r4.2.2.1, r4.2.2.2.1, r4.2.2.2.2.1, r4.2.2.2.2.2.1, r2.2.1, r2.2.2.1, r2.2.2.2.1, r2.2.2.2.2, r4.2.2.2.2.2.2.1, r4.2.2.2.2.2.2.2.1, r4.2.2.2.2.2.2.2.2.1, r4.2.2.2.2.2.2.2.2.2.1, r1, r4.2.2.2.2.2.2.2.2.2.2.1, r4.2.2.2.2.2.2.2.2.2.2.2.1, r4.2.2.2.2.2.2.2.2.2.2.2.2.1, r4.2.2.2.2.2.2.2.2.2.2.2.2.2)) else some ((-5 : Int32), yard, feels, length, holding, wool, days, r2.2.1, r2.2.2.1, r2.2.2.2.1, r2.2.2.2.2, then_, drawnBits, drawnMany, drawnNow, r1, badAct, badWhy, drawnAct, drawnChild)))
set_option maxHeartbeats 4000000 in
set_option maxRecDepth 100000 in
theorem c_X8_refusal (l : Launch) (D : va_G) (cI cZ cG : ClassId) (h : Nat) (A : Nat → Nat) (yard : Nat → Int32) (feels : Nat → Int32) (length : Nat → Int32) (holding : Int32) (wool : Int32) (days : Int32) (sights : Int32) (pad : Nat → Int32) (padMany : Int32) (act : Nat → Int32) (who : Nat → Int32) (much : Nat → Int32) (acts : Int32) (then_ : Nat → Int32) (drawnBits : Int32) (drawnMany : Int32) (drawnNow : Int32) (had : Nat → Int32) (badAct : Int32) (badWhy : Int32) (drawnAct : Int32) (drawnChild : Int32) (keptAt : Int32) (isWriting : Int32) (res : Int32 × (Nat → Int32) × (Nat → Int32) × (Nat → Int32) × Int32 × Int32 × Int32 × (Nat → Int32) × (Nat → Int32) × (Nat → Int32) × Int32 × (Nat → Int32) × Int32 × Int32 × Int32 × (Nat → Int32) × Int32 × Int32 × Int32 × Int32) (hf : f_X8_refusal yard feels length holding wool days pad padMany act who much acts then_ drawnBits drawnMany drawnNow had badAct badWhy drawnAct drawnChild = some res) : CI l D (tysW cI cZ cG) yX8_refusal wsX8_refusal rm_X8_refusal [.ref h] [(h, oX8 A holding wool days sights padMany acts drawnBits drawnMany drawnNow badAct badWhy drawnAct drawnChild keptAt isWriting), ((A 0), aI cI 10 yard), ((A 1), aI cI 10 feels), ((A 2), aI cI 9 length), ((A 9), aI cI 60 pad), ((A 11), aI cI 60 act), ((A 12), aI cI 60 who), ((A 13), aI cI 60 much), ((A 15), aI cI 10 then_), ((A 19), aI cI 32 had)] res.1 [(h, oX8 A res.2.2.2.2.1 res.2.2.2.2.2.1 res.2.2.2.2.2.2.1 sights padMany res.2.2.2.2.2.2.2.2.2.2.1 res.2.2.2.2.2.2.2.2.2.2.2.2.1 res.2.2.2.2.2.2.2.2.2.2.2.2.2.1 res.2.2.2.2.2.2.2.2.2.2.2.2.2.2.1 res.2.2.2.2.2.2.2.2.2.2.2.2.2.2.2.2.1 res.2.2.2.2.2.2.2.2.2.2.2.2.2.2.2.2.2.1 res.2.2.2.2.2.2.2.2.2.2.2.2.2.2.2.2.2.2.1 res.2.2.2.2.2.2.2.2.2.2.2.2.2.2.2.2.2.2.2 keptAt isWriting), ((A 0), aI cI 10 res.2.1), ((A 1), aI cI 10 res.2.2.1), ((A 2), aI cI 9 res.2.2.2.1), ((A 9), aI cI 60 pad), ((A 11), aI cI 60 res.2.2.2.2.2.2.2.1), ((A 12), aI cI 60 res.2.2.2.2.2.2.2.2.1), ((A 13), aI cI 60 res.2.2.2.2.2.2.2.2.2.1), ((A 15), aI cI 10 res.2.2.2.2.2.2.2.2.2.2.2.1), ((A 19), aI cI 32 res.2.2.2.2.2.2.2.2.2.2.2.2.2.2.2.1)] := by
  refine CG.intro (own := RX8) (by decide +kernel) rfl rfl (Nat.le_of_ble_eq_true rfl) (fun p e s m args below meth c C => ?_)
  refine r_lv (lv' := [(0, .ref h)]) [0] rfl ?_
  unfold f_X8_refusal at hf
  refine r_aload_n C dX8_refusal_0 rfl 0 rfl rfl ?_
  obtain ⟨r1, e1, hf⟩ := gd_b hf
  refine o_V (wn := [(h, oX8 A holding wool days sights padMany acts drawnBits drawnMany drawnNow badAct badWhy drawnAct drawnChild keptAt isWriting), ((A 0), aI cI 10 yard), ((A 1), aI cI 10 feels), ((A 2), aI cI 9 length), ((A 9), aI cI 60 pad), ((A 11), aI cI 60 act), ((A 12), aI cI 60 who), ((A 13), aI cI 60 much), ((A 15), aI cI 10 then_), ((A 19), aI cI 32 r1)]) C [0, 1, 2, 3, 9] rfl (x_V C dX8_refusal_1 (c_X8_keepNow l D cI cZ cG h A yard feels length holding wool days sights padMany acts drawnBits drawnMany drawnNow had badAct badWhy drawnAct drawnChild keptAt isWriting r1 e1) rfl gX8_refusal_X8_keepNow hd_X8_keepNow rfl ⟨Nat.le_of_ble_eq_true rfl, Nat.le_of_ble_eq_true rfl⟩ ⟨rfl, rfl⟩ ⟨Nat.zero_le _, Nat.zero_le _⟩ rfl [0, 1, 2, 3, 9] rfl rfl 0 rfl rfl (Nat.le_of_ble_eq_true rfl) rfl) rfl rfl rfl ?_
  refine r_aload_n C dX8_refusal_4 rfl 0 rfl rfl ?_
  obtain ⟨r2, e2, hf⟩ := gd_b hf
  refine o_I (wn := [(h, oX8 A holding wool days sights padMany r2.2.2.2.2 drawnBits drawnMany drawnNow badAct badWhy drawnAct drawnChild keptAt isWriting), ((A 0), aI cI 10 yard), ((A 1), aI cI 10 feels), ((A 2), aI cI 9 length), ((A 9), aI cI 60 pad), ((A 11), aI cI 60 r2.2.1), ((A 12), aI cI 60 r2.2.2.1), ((A 13), aI cI 60 r2.2.2.2.1), ((A 15), aI cI 10 then_), ((A 19), aI cI 32 r1)]) C [0, 4, 5, 6, 7] rfl (x_V C dX8_refusal_5 (c_X8_fault l D cI cZ cG h A holding wool days sights pad padMany act who much acts drawnBits drawnMany drawnNow badAct badWhy drawnAct drawnChild keptAt isWriting r2 e2) rfl gX8_refusal_X8_fault hd_X8_fault rfl ⟨Nat.le_of_ble_eq_true rfl, Nat.le_of_ble_eq_true rfl⟩ ⟨rfl, rfl⟩ ⟨Nat.zero_le _, Nat.zero_le _⟩ rfl [0, 4, 5, 6, 7] rfl rfl 0 rfl rfl (Nat.le_of_ble_eq_true rfl) rfl) rfl rfl rfl ?_
  refine r_if_lt (y := 0) (tgt := 14) C dX8_refusal_8 rfl rfl (fun c3 => ?_) (fun c3 => ?_)
  · have hf := gd_t c3 hf
    refine r_aload_n C dX8_refusal_14 rfl 0 rfl rfl ?_
    obtain ⟨r4, e4, hf⟩ := gd_b hf
    refine o_V (wn := [(h, oX8 A r4.2.2.2.1 r4.2.2.2.2.1 r4.2.2.2.2.2.1 sights padMany r2.2.2.2.2 r4.2.2.2.2.2.2.2.1 r4.2.2.2.2.2.2.2.2.1 r4.2.2.2.2.2.2.2.2.2.1 r4.2.2.2.2.2.2.2.2.2.2.1 r4.2.2.2.2.2.2.2.2.2.2.2.1 r4.2.2.2.2.2.2.2.2.2.2.2.2.1 r4.2.2.2.2.2.2.2.2.2.2.2.2.2 keptAt isWriting), ((A 0), aI cI 10 r4.1), ((A 1), aI cI 10 r4.2.1), ((A 2), aI cI 9 r4.2.2.1), ((A 9), aI cI 60 pad), ((A 11), aI cI 60 r2.2.1), ((A 12), aI cI 60 r2.2.2.1), ((A 13), aI cI 60 r2.2.2.2.1), ((A 15), aI cI 10 r4.2.2.2.2.2.2.1), ((A 19), aI cI 32 r1)]) C [0, 1, 2, 3, 5, 6, 7, 8] rfl (x_V C dX8_refusal_15 (c_X8_goDays l D cI cZ cG h A yard feels length holding wool days sights padMany r2.2.1 r2.2.2.1 r2.2.2.2.1 r2.2.2.2.2 then_ drawnBits drawnMany drawnNow badAct badWhy drawnAct drawnChild keptAt isWriting r4 e4) rfl gX8_refusal_X8_goDays hd_X8_goDays rfl ⟨Nat.le_of_ble_eq_true rfl, Nat.le_of_ble_eq_true rfl⟩ ⟨rfl, rfl⟩ ⟨Nat.zero_le _, Nat.zero_le _⟩ rfl [0, 1, 2, 3, 5, 6, 7, 8] rfl rfl 0 rfl rfl (Nat.le_of_ble_eq_true rfl) rfl) rfl rfl rfl ?_
    refine r_aload_n C dX8_refusal_18 rfl 0 rfl rfl ?_
    refine r_get C dX8_refusal_19 fw_X8_refusal_X8 0 rfl rfl 20 (by decide) rfl fl_X8_refusal_208 rfl rfl ?_
    refine r_if_lt (y := 0) (tgt := 30) C dX8_refusal_22 rfl rfl (fun c5 => ?_) (fun c5 => ?_)
    · have hf := gd_t c5 hf
      refine r_bipush C dX8_refusal_30 kk_b_m6 rfl ?_
      cases hf
      exact r_iret C dX8_refusal_32 rfl
    · have hf := gd_f c5 hf
      refine r_bipush C dX8_refusal_25 kk_b_m3 rfl ?_
      refine r_goto (tgt := 32) C dX8_refusal_27 rfl ?_
      cases hf
      exact r_iret C dX8_refusal_32 rfl
  · have hf := gd_f c3 hf
    refine r_bipush C dX8_refusal_11 kk_b_m5 rfl ?_
    cases hf
    exact r_iret C dX8_refusal_13 rfl
theorem wc_X8_judge_232 : Cond.constantLong RX8 232 (2 : Int64) ∈ wsX8_judge := by decide +kernel
theorem fw_X8_judge_X8 : ∀ w ∈ u_ws RX8 TX8 37, w ∈ wsX8_judge := by decide +kernel
theorem fl_X8_judge_174 : Cond.fieldLink RX8 174 "MittenLineModel" "drawnMany" "I" ∈ wsX8_judge := by decide +kernel
theorem fl_X8_judge_211 : Cond.fieldLink RX8 211 "MittenLineModel" "badWhy" "I" ∈ wsX8_judge := by decide +kernel
theorem fl_X8_judge_208 : Cond.fieldLink RX8 208 "MittenLineModel" "badAct" "I" ∈ wsX8_judge := by decide +kernel
abbrev rm_X8_judge : Jvm.Room := { frames := 8, cells := 0, slots := 0, locals := 177 }
def f_X8_judge (yard : Nat → Int32) (feels : Nat → Int32) (length : Nat → Int32) (holding : Int32) (wool : Int32) (days : Int32) (pad : Nat → Int32) (padMany : Int32) (act : Nat → Int32) (who : Nat → Int32) (much : Nat → Int32) (acts : Int32) (then_ : Nat → Int32) (drawnBits : Int32) (drawnMany : Int32) (drawnNow : Int32) (had : Nat → Int32) (badAct : Int32) (badWhy : Int32) (drawnAct : Int32) (drawnChild : Int32) (u1 : Int32) : Option (Int32 × (Nat → Int32) × (Nat → Int32) × (Nat → Int32) × Int32 × Int32 × Int32 × (Nat → Int32) × (Nat → Int32) × (Nat → Int32) × Int32 × (Nat → Int32) × Int32 × Int32 × Int32 × (Nat → Int32) × Int32 × Int32 × Int32 × Int32) := (f_X8_in u1.toInt64 (0 : Int64) (2 : Int64)).bind (fun r1 => if r1 = 0 then some ((-2 : Int32), yard, feels, length, holding, wool, days, act, who, much, acts, then_, drawnBits, drawnMany, drawnNow, had, badAct, badWhy, drawnAct, drawnChild) else (f_X8_refusal yard feels length holding wool days pad padMany act who much acts then_ drawnBits drawnMany drawnNow had badAct badWhy drawnAct drawnChild).bind (fun r3 => (f_X8_back r3.2.1 r3.2.2.1 r3.2.2.2.1 r3.2.2.2.2.1 r3.2.2.2.2.2.1 r3.2.2.2.2.2.2.1 r3.2.2.2.2.2.2.2.2.2.2.2.2.2.2.2.1 r3.1).bind (fun r4 => if r4.1 = (-5 : Int32) then some (r4.1, r4.2.1, r4.2.2.1, r4.2.2.2.1, r4.2.2.2.2.1, r4.2.2.2.2.2.1, r4.2.2.2.2.2.2, r3.2.2.2.2.2.2.2.1, r3.2.2.2.2.2.2.2.2.1, r3.2.2.2.2.2.2.2.2.2.1, r3.2.2.2.2.2.2.2.2.2.2.1, r3.2.2.2.2.2.2.2.2.2.2.2.1, r3.2.2.2.2.2.2.2.2.2.2.2.2.1, r3.2.2.2.2.2.2.2.2.2.2.2.2.2.1, r3.2.2.2.2.2.2.2.2.2.2.2.2.2.2.1, r3.2.2.2.2.2.2.2.2.2.2.2.2.2.2.2.1, r3.2.2.2.2.2.2.2.2.2.2.2.2.2.2.2.2.1, r3.2.2.2.2.2.2.2.2.2.2.2.2.2.2.2.2.2.1, r3.2.2.2.2.2.2.2.2.2.2.2.2.2.2.2.2.2.2.1, r3.2.2.2.2.2.2.2.2.2.2.2.2.2.2.2.2.2.2.2) else if u1 ≤ (1 : Int32) then if u1 = 0 then some (r3.2.2.2.2.2.2.2.2.2.2.2.2.2.2.2.2.1, r4.2.1, r4.2.2.1, r4.2.2.2.1, r4.2.2.2.2.1, r4.2.2.2.2.2.1, r4.2.2.2.2.2.2, r3.2.2.2.2.2.2.2.1, r3.2.2.2.2.2.2.2.2.1, r3.2.2.2.2.2.2.2.2.2.1, r3.2.2.2.2.2.2.2.2.2.2.1, r3.2.2.2.2.2.2.2.2.2.2.2.1, r3.2.2.2.2.2.2.2.2.2.2.2.2.1, r3.2.2.2.2.2.2.2.2.2.2.2.2.2.1, r3.2.2.2.2.2.2.2.2.2.2.2.2.2.2.1, r3.2.2.2.2.2.2.2.2.2.2.2.2.2.2.2.1, r3.2.2.2.2.2.2.2.2.2.2.2.2.2.2.2.2.1, r3.2.2.2.2.2.2.2.2.2.2.2.2.2.2.2.2.2.1, r3.2.2.2.2.2.2.2.2.2.2.2.2.2.2.2.2.2.2.1, r3.2.2.2.2.2.2.2.2.2.2.2.2.2.2.2.2.2.2.2) else if u1 = (1 : Int32) then some (r3.2.2.2.2.2.2.2.2.2.2.2.2.2.2.2.2.2.1, r4.2.1, r4.2.2.1, r4.2.2.2.1, r4.2.2.2.2.1, r4.2.2.2.2.2.1, r4.2.2.2.2.2.2, r3.2.2.2.2.2.2.2.1, r3.2.2.2.2.2.2.2.2.1, r3.2.2.2.2.2.2.2.2.2.1, r3.2.2.2.2.2.2.2.2.2.2.1, r3.2.2.2.2.2.2.2.2.2.2.2.1, r3.2.2.2.2.2.2.2.2.2.2.2.2.1, r3.2.2.2.2.2.2.2.2.2.2.2.2.2.1, r3.2.2.2.2.2.2.2.2.2.2.2.2.2.2.1, r3.2.2.2.2.2.2.2.2.2.2.2.2.2.2.2.1, r3.2.2.2.2.2.2.2.2.2.2.2.2.2.2.2.2.1, r3.2.2.2.2.2.2.2.2.2.2.2.2.2.2.2.2.2.1, r3.2.2.2.2.2.2.2.2.2.2.2.2.2.2.2.2.2.2.1, r3.2.2.2.2.2.2.2.2.2.2.2.2.2.2.2.2.2.2.2) else some (r3.2.2.2.2.2.2.2.2.2.2.2.2.2.1, r4.2.1, r4.2.2.1, r4.2.2.2.1, r4.2.2.2.2.1, r4.2.2.2.2.2.1, r4.2.2.2.2.2.2, r3.2.2.2.2.2.2.2.1, r3.2.2.2.2.2.2.2.2.1, r3.2.2.2.2.2.2.2.2.2.1, r3.2.2.2.2.2.2.2.2.2.2.1, r3.2.2.2.2.2.2.2.2.2.2.2.1, r3.2.2.2.2.2.2.2.2.2.2.2.2.1, r3.2.2.2.2.2.2.2.2.2.2.2.2.2.1, r3.2.2.2.2.2.2.2.2.2.2.2.2.2.2.1, r3.2.2.2.2.2.2.2.2.2.2.2.2.2.2.2.1, r3.2.2.2.2.2.2.2.2.2.2.2.2.2.2.2.2.1, r3.2.2.2.2.2.2.2.2.2.2.2.2.2.2.2.2.2.1, r3.2.2.2.2.2.2.2.2.2.2.2.2.2.2.2.2.2.2.1, r3.2.2.2.2.2.2.2.2.2.2.2.2.2.2.2.2.2.2.2) else if r4.1 = (-3 : Int32) then some (r4.1, r4.2.1, r4.2.2.1, r4.2.2.2.1, r4.2.2.2.2.1, r4.2.2.2.2.2.1, r4.2.2.2.2.2.2, r3.2.2.2.2.2.2.2.1, r3.2.2.2.2.2.2.2.2.1, r3.2.2.2.2.2.2.2.2.2.1, r3.2.2.2.2.2.2.2.2.2.2.1, r3.2.2.2.2.2.2.2.2.2.2.2.1, r3.2.2.2.2.2.2.2.2.2.2.2.2.1, r3.2.2.2.2.2.2.2.2.2.2.2.2.2.1, r3.2.2.2.2.2.2.2.2.2.2.2.2.2.2.1, r3.2.2.2.2.2.2.2.2.2.2.2.2.2.2.2.1, r3.2.2.2.2.2.2.2.2.2.2.2.2.2.2.2.2.1, r3.2.2.2.2.2.2.2.2.2.2.2.2.2.2.2.2.2.1, r3.2.2.2.2.2.2.2.2.2.2.2.2.2.2.2.2.2.2.1, r3.2.2.2.2.2.2.2.2.2.2.2.2.2.2.2.2.2.2.2) else if u1 = 0 then some (r3.2.2.2.2.2.2.2.2.2.2.2.2.2.2.2.2.1, r4.2.1, r4.2.2.1, r4.2.2.2.1, r4.2.2.2.2.1, r4.2.2.2.2.2.1, r4.2.2.2.2.2.2, r3.2.2.2.2.2.2.2.1, r3.2.2.2.2.2.2.2.2.1, r3.2.2.2.2.2.2.2.2.2.1, r3.2.2.2.2.2.2.2.2.2.2.1, r3.2.2.2.2.2.2.2.2.2.2.2.1, r3.2.2.2.2.2.2.2.2.2.2.2.2.1, r3.2.2.2.2.2.2.2.2.2.2.2.2.2.1, r3.2.2.2.2.2.2.2.2.2.2.2.2.2.2.1, r3.2.2.2.2.2.2.2.2.2.2.2.2.2.2.2.1, r3.2.2.2.2.2.2.2.2.2.2.2.2.2.2.2.2.1, r3.2.2.2.2.2.2.2.2.2.2.2.2.2.2.2.2.2.1, r3.2.2.2.2.2.2.2.2.2.2.2.2.2.2.2.2.2.2.1, r3.2.2.2.2.2.2.2.2.2.2.2.2.2.2.2.2.2.2.2) else if u1 = (1 : Int32) then some (r3.2.2.2.2.2.2.2.2.2.2.2.2.2.2.2.2.2.1, r4.2.1, r4.2.2.1, r4.2.2.2.1, r4.2.2.2.2.1, r4.2.2.2.2.2.1, r4.2.2.2.2.2.2, r3.2.2.2.2.2.2.2.1, r3.2.2.2.2.2.2.2.2.1, r3.2.2.2.2.2.2.2.2.2.1, r3.2.2.2.2.2.2.2.2.2.2.1, r3.2.2.2.2.2.2.2.2.2.2.2.1, r3.2.2.2.2.2.2.2.2.2.2.2.2.1, r3.2.2.2.2.2.2.2.2.2.2.2.2.2.1, r3.2.2.2.2.2.2.2.2.2.2.2.2.2.2.1, r3.2.2.2.2.2.2.2.2.2.2.2.2.2.2.2.1, r3.2.2.2.2.2.2.2.2.2.2.2.2.2.2.2.2.1, r3.2.2.2.2.2.2.2.2.2.2.2.2.2.2.2.2.2.1, r3.2.2.2.2.2.2.2.2.2.2.2.2.2.2.2.2.2.2.1, r3.2.2.2.2.2.2.2.2.2.2.2.2.2.2.2.2.2.2.2) else some (r3.2.2.2.2.2.2.2.2.2.2.2.2.2.1, r4.2.1, r4.2.2.1, r4.2.2.2.1, r4.2.2.2.2.1, r4.2.2.2.2.2.1, r4.2.2.2.2.2.2, r3.2.2.2.2.2.2.2.1, r3.2.2.2.2.2.2.2.2.1, r3.2.2.2.2.2.2.2.2.2.1, r3.2.2.2.2.2.2.2.2.2.2.1, r3.2.2.2.2.2.2.2.2.2.2.2.1, r3.2.2.2.2.2.2.2.2.2.2.2.2.1, r3.2.2.2.2.2.2.2.2.2.2.2.2.2.1, r3.2.2.2.2.2.2.2.2.2.2.2.2.2.2.1, r3.2.2.2.2.2.2.2.2.2.2.2.2.2.2.2.1, r3.2.2.2.2.2.2.2.2.2.2.2.2.2.2.2.2.1, r3.2.2.2.2.2.2.2.2.2.2.2.2.2.2.2.2.2.1, r3.2.2.2.2.2.2.2.2.2.2.2.2.2.2.2.2.2.2.1, r3.2.2.2.2.2.2.2.2.2.2.2.2.2.2.2.2.2.2.2))))
set_option maxHeartbeats 4000000 in
set_option maxRecDepth 100000 in
theorem c_X8_judge (l : Launch) (D : va_G) (cI cZ cG : ClassId) (h : Nat) (A : Nat → Nat) (yard : Nat → Int32) (feels : Nat → Int32) (length : Nat → Int32) (holding : Int32) (wool : Int32) (days : Int32) (sights : Int32) (pad : Nat → Int32) (padMany : Int32) (act : Nat → Int32) (who : Nat → Int32) (much : Nat → Int32) (acts : Int32) (then_ : Nat → Int32) (drawnBits : Int32) (drawnMany : Int32) (drawnNow : Int32) (had : Nat → Int32) (badAct : Int32) (badWhy : Int32) (drawnAct : Int32) (drawnChild : Int32) (keptAt : Int32) (isWriting : Int32) (u1 : Int32) (res : Int32 × (Nat → Int32) × (Nat → Int32) × (Nat → Int32) × Int32 × Int32 × Int32 × (Nat → Int32) × (Nat → Int32) × (Nat → Int32) × Int32 × (Nat → Int32) × Int32 × Int32 × Int32 × (Nat → Int32) × Int32 × Int32 × Int32 × Int32) (hf : f_X8_judge yard feels length holding wool days pad padMany act who much acts then_ drawnBits drawnMany drawnNow had badAct badWhy drawnAct drawnChild u1 = some res) : CI l D (tysW cI cZ cG) yX8_judge wsX8_judge rm_X8_judge [.ref h, .int u1] [(h, oX8 A holding wool days sights padMany acts drawnBits drawnMany drawnNow badAct badWhy drawnAct drawnChild keptAt isWriting), ((A 0), aI cI 10 yard), ((A 1), aI cI 10 feels), ((A 2), aI cI 9 length), ((A 9), aI cI 60 pad), ((A 11), aI cI 60 act), ((A 12), aI cI 60 who), ((A 13), aI cI 60 much), ((A 15), aI cI 10 then_), ((A 19), aI cI 32 had)] res.1 [(h, oX8 A res.2.2.2.2.1 res.2.2.2.2.2.1 res.2.2.2.2.2.2.1 sights padMany res.2.2.2.2.2.2.2.2.2.2.1 res.2.2.2.2.2.2.2.2.2.2.2.2.1 res.2.2.2.2.2.2.2.2.2.2.2.2.2.1 res.2.2.2.2.2.2.2.2.2.2.2.2.2.2.1 res.2.2.2.2.2.2.2.2.2.2.2.2.2.2.2.2.1 res.2.2.2.2.2.2.2.2.2.2.2.2.2.2.2.2.2.1 res.2.2.2.2.2.2.2.2.2.2.2.2.2.2.2.2.2.2.1 res.2.2.2.2.2.2.2.2.2.2.2.2.2.2.2.2.2.2.2 keptAt isWriting), ((A 0), aI cI 10 res.2.1), ((A 1), aI cI 10 res.2.2.1), ((A 2), aI cI 9 res.2.2.2.1), ((A 9), aI cI 60 pad), ((A 11), aI cI 60 res.2.2.2.2.2.2.2.1), ((A 12), aI cI 60 res.2.2.2.2.2.2.2.2.1), ((A 13), aI cI 60 res.2.2.2.2.2.2.2.2.2.1), ((A 15), aI cI 10 res.2.2.2.2.2.2.2.2.2.2.2.1), ((A 19), aI cI 32 res.2.2.2.2.2.2.2.2.2.2.2.2.2.2.2.1)] := by
  refine CG.intro (own := RX8) (by decide +kernel) rfl rfl (Nat.le_of_ble_eq_true rfl) (fun p e s m args below meth c C => ?_)
  refine r_lv (lv' := [(0, .ref h), (1, .int u1)]) [0, 1] rfl ?_
  unfold f_X8_judge at hf
  refine r_iload_n C dX8_judge_0 rfl 1 rfl rfl ?_
  refine r_i2l C dX8_judge_1 rfl ?_
  refine r_lconst (v := (0 : Int64)) C dX8_judge_2 rfl rfl ?_
  refine r_ldc2 C dX8_judge_3 wc_X8_judge_232 rfl ?_
  obtain ⟨r1, e1, hf⟩ := gd_b hf
  refine o_I (wn := [(h, oX8 A holding wool days sights padMany acts drawnBits drawnMany drawnNow badAct badWhy drawnAct drawnChild keptAt isWriting), ((A 0), aI cI 10 yard), ((A 1), aI cI 10 feels), ((A 2), aI cI 9 length), ((A 9), aI cI 60 pad), ((A 11), aI cI 60 act), ((A 12), aI cI 60 who), ((A 13), aI cI 60 much), ((A 15), aI cI 10 then_), ((A 19), aI cI 32 had)]) C [] rfl (x_S C dX8_judge_6 (c_X8_in l D cI cZ cG u1.toInt64 (0 : Int64) (2 : Int64) r1 e1) rfl gX8_judge_X8_in hs_X8_in rfl ⟨Nat.le_of_ble_eq_true rfl, Nat.le_of_ble_eq_true rfl⟩ ⟨rfl, rfl⟩ ⟨Nat.zero_le _, Nat.zero_le _⟩ rfl [] rfl rfl (Nat.le_of_ble_eq_true rfl) rfl) rfl rfl rfl ?_
  refine r_if_ne (y := 0) (tgt := 15) C dX8_judge_9 rfl rfl (fun c2 => ?_) (fun c2 => ?_)
  · have hf := gd_f c2 hf
    refine r_aload_n C dX8_judge_15 rfl 0 rfl rfl ?_
    refine r_aload_n C dX8_judge_16 rfl 0 rfl rfl ?_
    obtain ⟨r3, e3, hf⟩ := gd_b hf
    refine o_I (wn := [(h, oX8 A r3.2.2.2.2.1 r3.2.2.2.2.2.1 r3.2.2.2.2.2.2.1 sights padMany r3.2.2.2.2.2.2.2.2.2.2.1 r3.2.2.2.2.2.2.2.2.2.2.2.2.1 r3.2.2.2.2.2.2.2.2.2.2.2.2.2.1 r3.2.2.2.2.2.2.2.2.2.2.2.2.2.2.1 r3.2.2.2.2.2.2.2.2.2.2.2.2.2.2.2.2.1 r3.2.2.2.2.2.2.2.2.2.2.2.2.2.2.2.2.2.1 r3.2.2.2.2.2.2.2.2.2.2.2.2.2.2.2.2.2.2.1 r3.2.2.2.2.2.2.2.2.2.2.2.2.2.2.2.2.2.2.2 keptAt isWriting), ((A 0), aI cI 10 r3.2.1), ((A 1), aI cI 10 r3.2.2.1), ((A 2), aI cI 9 r3.2.2.2.1), ((A 9), aI cI 60 pad), ((A 11), aI cI 60 r3.2.2.2.2.2.2.2.1), ((A 12), aI cI 60 r3.2.2.2.2.2.2.2.2.1), ((A 13), aI cI 60 r3.2.2.2.2.2.2.2.2.2.1), ((A 15), aI cI 10 r3.2.2.2.2.2.2.2.2.2.2.2.1), ((A 19), aI cI 32 r3.2.2.2.2.2.2.2.2.2.2.2.2.2.2.2.1)]) C [0, 1, 2, 3, 4, 5, 6, 7, 8, 9] rfl (x_V C dX8_judge_17 (c_X8_refusal l D cI cZ cG h A yard feels length holding wool days sights pad padMany act who much acts then_ drawnBits drawnMany drawnNow had badAct badWhy drawnAct drawnChild keptAt isWriting r3 e3) rfl gX8_judge_X8_refusal hd_X8_refusal rfl ⟨Nat.le_of_ble_eq_true rfl, Nat.le_of_ble_eq_true rfl⟩ ⟨rfl, rfl⟩ ⟨Nat.zero_le _, Nat.zero_le _⟩ rfl [0, 1, 2, 3, 4, 5, 6, 7, 8, 9] rfl rfl 0 rfl rfl (Nat.le_of_ble_eq_true rfl) rfl) rfl rfl rfl ?_
    obtain ⟨r4, e4, hf⟩ := gd_b hf
    refine o_I (wn := [(h, oX8 A r4.2.2.2.2.1 r4.2.2.2.2.2.1 r4.2.2.2.2.2.2 sights padMany r3.2.2.2.2.2.2.2.2.2.2.1 r3.2.2.2.2.2.2.2.2.2.2.2.2.1 r3.2.2.2.2.2.2.2.2.2.2.2.2.2.1 r3.2.2.2.2.2.2.2.2.2.2.2.2.2.2.1 r3.2.2.2.2.2.2.2.2.2.2.2.2.2.2.2.2.1 r3.2.2.2.2.2.2.2.2.2.2.2.2.2.2.2.2.2.1 r3.2.2.2.2.2.2.2.2.2.2.2.2.2.2.2.2.2.2.1 r3.2.2.2.2.2.2.2.2.2.2.2.2.2.2.2.2.2.2.2 keptAt isWriting), ((A 0), aI cI 10 r4.2.1), ((A 1), aI cI 10 r4.2.2.1), ((A 2), aI cI 9 r4.2.2.2.1), ((A 9), aI cI 60 pad), ((A 11), aI cI 60 r3.2.2.2.2.2.2.2.1), ((A 12), aI cI 60 r3.2.2.2.2.2.2.2.2.1), ((A 13), aI cI 60 r3.2.2.2.2.2.2.2.2.2.1), ((A 15), aI cI 10 r3.2.2.2.2.2.2.2.2.2.2.2.1), ((A 19), aI cI 32 r3.2.2.2.2.2.2.2.2.2.2.2.2.2.2.2.1)]) C [0, 1, 2, 3, 9] rfl (x_V C dX8_judge_20 (c_X8_back l D cI cZ cG h A r3.2.1 r3.2.2.1 r3.2.2.2.1 r3.2.2.2.2.1 r3.2.2.2.2.2.1 r3.2.2.2.2.2.2.1 sights padMany r3.2.2.2.2.2.2.2.2.2.2.1 r3.2.2.2.2.2.2.2.2.2.2.2.2.1 r3.2.2.2.2.2.2.2.2.2.2.2.2.2.1 r3.2.2.2.2.2.2.2.2.2.2.2.2.2.2.1 r3.2.2.2.2.2.2.2.2.2.2.2.2.2.2.2.1 r3.2.2.2.2.2.2.2.2.2.2.2.2.2.2.2.2.1 r3.2.2.2.2.2.2.2.2.2.2.2.2.2.2.2.2.2.1 r3.2.2.2.2.2.2.2.2.2.2.2.2.2.2.2.2.2.2.1 r3.2.2.2.2.2.2.2.2.2.2.2.2.2.2.2.2.2.2.2 keptAt isWriting r3.1 r4 e4) rfl gX8_judge_X8_back hd_X8_back rfl ⟨Nat.le_of_ble_eq_true rfl, Nat.le_of_ble_eq_true rfl⟩ ⟨rfl, rfl⟩ ⟨Nat.zero_le _, Nat.zero_le _⟩ rfl [0, 1, 2, 3, 9] rfl rfl 0 rfl rfl (Nat.le_of_ble_eq_true rfl) rfl) rfl rfl rfl ?_
    refine r_istore_n (lv' := [(2, .int r4.1), (0, .ref h), (1, .int u1)]) C dX8_judge_23 rfl (by decide) rfl rfl ?_
    refine r_iload_n C dX8_judge_24 rfl 0 rfl rfl ?_
    refine r_bipush C dX8_judge_25 kk_b_m5 rfl ?_
    refine r_icmp_eq (tgt := 41) C dX8_judge_27 rfl rfl (fun c5 => ?_) (fun c5 => ?_)
    · have hf := gd_t c5 hf
      refine r_iload_n C dX8_judge_41 rfl 0 rfl rfl ?_
      cases hf
      exact r_iret C dX8_judge_42 rfl
    · have hf := gd_f c5 hf
      refine r_iload_n C dX8_judge_30 rfl 2 rfl rfl ?_
      refine r_iconst C dX8_judge_31 kk_i_1 rfl ?_
      refine r_icmp_le (tgt := 43) C dX8_judge_32 rfl rfl (fun c6 => ?_) (fun c6 => ?_)
      · have hf := gd_t c6 hf
        refine r_iload_n C dX8_judge_43 rfl 2 rfl rfl ?_
        refine r_if_ne (y := 0) (tgt := 54) C dX8_judge_44 rfl rfl (fun c7 => ?_) (fun c7 => ?_)
        · have hf := gd_f c7 hf
          refine r_iload_n C dX8_judge_54 rfl 2 rfl rfl ?_
          refine r_iconst C dX8_judge_55 kk_i_1 rfl ?_
          refine r_icmp_ne (tgt := 66) C dX8_judge_56 rfl rfl (fun c8 => ?_) (fun c8 => ?_)
          · have hf := gd_f c8 hf
            refine r_aload_n C dX8_judge_66 rfl 1 rfl rfl ?_
            refine r_get C dX8_judge_67 fw_X8_judge_X8 0 rfl rfl 17 (by decide) rfl fl_X8_judge_174 rfl rfl ?_
            cases hf
            exact r_iret C dX8_judge_70 rfl
          · have hf := gd_t c8 hf
            refine r_aload_n C dX8_judge_59 rfl 1 rfl rfl ?_
            refine r_get C dX8_judge_60 fw_X8_judge_X8 0 rfl rfl 21 (by decide) rfl fl_X8_judge_211 rfl rfl ?_
            refine r_goto (tgt := 70) C dX8_judge_63 rfl ?_
            cases hf
            exact r_iret C dX8_judge_70 rfl
        · have hf := gd_t c7 hf
          refine r_aload_n C dX8_judge_47 rfl 1 rfl rfl ?_
          refine r_get C dX8_judge_48 fw_X8_judge_X8 0 rfl rfl 20 (by decide) rfl fl_X8_judge_208 rfl rfl ?_
          refine r_goto (tgt := 70) C dX8_judge_51 rfl ?_
          cases hf
          exact r_iret C dX8_judge_70 rfl
      · have hf := gd_f c6 hf
        refine r_iload_n C dX8_judge_35 rfl 0 rfl rfl ?_
        refine r_bipush C dX8_judge_36 kk_b_m3 rfl ?_
        refine r_icmp_ne (tgt := 43) C dX8_judge_38 rfl rfl (fun c9 => ?_) (fun c9 => ?_)
        · have hf := gd_f c9 hf
          refine r_iload_n C dX8_judge_43 rfl 2 rfl rfl ?_
          refine r_if_ne (y := 0) (tgt := 54) C dX8_judge_44 rfl rfl (fun c10 => ?_) (fun c10 => ?_)
          · have hf := gd_f c10 hf
            refine r_iload_n C dX8_judge_54 rfl 2 rfl rfl ?_
            refine r_iconst C dX8_judge_55 kk_i_1 rfl ?_
            refine r_icmp_ne (tgt := 66) C dX8_judge_56 rfl rfl (fun c11 => ?_) (fun c11 => ?_)
            · have hf := gd_f c11 hf
              refine r_aload_n C dX8_judge_66 rfl 1 rfl rfl ?_
              refine r_get C dX8_judge_67 fw_X8_judge_X8 0 rfl rfl 17 (by decide) rfl fl_X8_judge_174 rfl rfl ?_
              cases hf
              exact r_iret C dX8_judge_70 rfl
            · have hf := gd_t c11 hf
              refine r_aload_n C dX8_judge_59 rfl 1 rfl rfl ?_
              refine r_get C dX8_judge_60 fw_X8_judge_X8 0 rfl rfl 21 (by decide) rfl fl_X8_judge_211 rfl rfl ?_
              refine r_goto (tgt := 70) C dX8_judge_63 rfl ?_
              cases hf
              exact r_iret C dX8_judge_70 rfl
          · have hf := gd_t c10 hf
            refine r_aload_n C dX8_judge_47 rfl 1 rfl rfl ?_
            refine r_get C dX8_judge_48 fw_X8_judge_X8 0 rfl rfl 20 (by decide) rfl fl_X8_judge_208 rfl rfl ?_
            refine r_goto (tgt := 70) C dX8_judge_51 rfl ?_
            cases hf
            exact r_iret C dX8_judge_70 rfl
        · have hf := gd_t c9 hf
          refine r_iload_n C dX8_judge_41 rfl 0 rfl rfl ?_
          cases hf
          exact r_iret C dX8_judge_42 rfl
  · have hf := gd_t c2 hf
    refine r_bipush C dX8_judge_12 kk_b_m2 rfl ?_
    cases hf
    exact r_iret C dX8_judge_14 rfl
theorem wc_X8_behind_232 : Cond.constantLong RX8 232 (2 : Int64) ∈ wsX8_behind := by decide +kernel
theorem fw_X8_behind_X8 : ∀ w ∈ u_ws RX8 TX8 37, w ∈ wsX8_behind := by decide +kernel
theorem fl_X8_behind_101 : Cond.fieldLink RX8 101 "MittenLineModel" "holding" "I" ∈ wsX8_behind := by decide +kernel
theorem fl_X8_behind_13 : Cond.fieldLink RX8 13 "MittenLineModel" "feels" "[I" ∈ wsX8_behind := by decide +kernel
theorem fl_X8_behind_7 : Cond.fieldLink RX8 7 "MittenLineModel" "yard" "[I" ∈ wsX8_behind := by decide +kernel
abbrev rm_X8_behind : Jvm.Room := { frames := 8, cells := 0, slots := 0, locals := 177 }
def f_X8_behind (yard : Nat → Int32) (feels : Nat → Int32) (length : Nat → Int32) (holding : Int32) (wool : Int32) (days : Int32) (pad : Nat → Int32) (padMany : Int32) (act : Nat → Int32) (who : Nat → Int32) (much : Nat → Int32) (acts : Int32) (then_ : Nat → Int32) (drawnBits : Int32) (drawnMany : Int32) (drawnNow : Int32) (had : Nat → Int32) (badAct : Int32) (badWhy : Int32) (drawnAct : Int32) (drawnChild : Int32) (u1 : Int32) (u2 : Int32) : Option (Int32 × (Nat → Int32) × (Nat → Int32) × (Nat → Int32) × Int32 × Int32 × Int32 × (Nat → Int32) × (Nat → Int32) × (Nat → Int32) × Int32 × (Nat → Int32) × Int32 × Int32 × Int32 × (Nat → Int32) × Int32 × Int32 × Int32 × Int32) := (f_X8_isChild u1).bind (fun r1 => if r1 = 0 then some ((-1 : Int32), yard, feels, length, holding, wool, days, act, who, much, acts, then_, drawnBits, drawnMany, drawnNow, had, badAct, badWhy, drawnAct, drawnChild) else (f_X8_in u2.toInt64 (0 : Int64) (2 : Int64)).bind (fun r3 => if r3 = 0 then some ((-2 : Int32), yard, feels, length, holding, wool, days, act, who, much, acts, then_, drawnBits, drawnMany, drawnNow, had, badAct, badWhy, drawnAct, drawnChild) else (f_X8_refusal yard feels length holding wool days pad padMany act who much acts then_ drawnBits drawnMany drawnNow had badAct badWhy drawnAct drawnChild).bind (fun r5 => if r5.1 = (-6 : Int32) then if u2 = 0 then if u1 < 0 ∨ 10 ≤ u1.toNatClampNeg then none else (f_X8_back r5.2.1 r5.2.2.1 r5.2.2.2.1 r5.2.2.2.2.1 r5.2.2.2.2.2.1 r5.2.2.2.2.2.2.1 r5.2.2.2.2.2.2.2.2.2.2.2.2.2.2.2.1 (r5.2.1 u1.toNatClampNeg)).bind (fun r13 => some (r13.1, r13.2.1, r13.2.2.1, r13.2.2.2.1, r13.2.2.2.2.1, r13.2.2.2.2.2.1, r13.2.2.2.2.2.2, r5.2.2.2.2.2.2.2.1, r5.2.2.2.2.2.2.2.2.1, r5.2.2.2.2.2.2.2.2.2.1, r5.2.2.2.2.2.2.2.2.2.2.1, r5.2.2.2.2.2.2.2.2.2.2.2.1, r5.2.2.2.2.2.2.2.2.2.2.2.2.1, r5.2.2.2.2.2.2.2.2.2.2.2.2.2.1, r5.2.2.2.2.2.2.2.2.2.2.2.2.2.2.1, r5.2.2.2.2.2.2.2.2.2.2.2.2.2.2.2.1, r5.2.2.2.2.2.2.2.2.2.2.2.2.2.2.2.2.1, r5.2.2.2.2.2.2.2.2.2.2.2.2.2.2.2.2.2.1, r5.2.2.2.2.2.2.2.2.2.2.2.2.2.2.2.2.2.2.1, r5.2.2.2.2.2.2.2.2.2.2.2.2.2.2.2.2.2.2.2)) else if u2 = (1 : Int32) then if u1 < 0 ∨ 10 ≤ u1.toNatClampNeg then none else (f_X8_back r5.2.1 r5.2.2.1 r5.2.2.2.1 r5.2.2.2.2.1 r5.2.2.2.2.2.1 r5.2.2.2.2.2.2.1 r5.2.2.2.2.2.2.2.2.2.2.2.2.2.2.2.1 (r5.2.2.1 u1.toNatClampNeg)).bind (fun r11 => some (r11.1, r11.2.1, r11.2.2.1, r11.2.2.2.1, r11.2.2.2.2.1, r11.2.2.2.2.2.1, r11.2.2.2.2.2.2, r5.2.2.2.2.2.2.2.1, r5.2.2.2.2.2.2.2.2.1, r5.2.2.2.2.2.2.2.2.2.1, r5.2.2.2.2.2.2.2.2.2.2.1, r5.2.2.2.2.2.2.2.2.2.2.2.1, r5.2.2.2.2.2.2.2.2.2.2.2.2.1, r5.2.2.2.2.2.2.2.2.2.2.2.2.2.1, r5.2.2.2.2.2.2.2.2.2.2.2.2.2.2.1, r5.2.2.2.2.2.2.2.2.2.2.2.2.2.2.2.1, r5.2.2.2.2.2.2.2.2.2.2.2.2.2.2.2.2.1, r5.2.2.2.2.2.2.2.2.2.2.2.2.2.2.2.2.2.1, r5.2.2.2.2.2.2.2.2.2.2.2.2.2.2.2.2.2.2.1, r5.2.2.2.2.2.2.2.2.2.2.2.2.2.2.2.2.2.2.2)) else (f_X8_back r5.2.1 r5.2.2.1 r5.2.2.2.1 r5.2.2.2.2.1 r5.2.2.2.2.2.1 r5.2.2.2.2.2.2.1 r5.2.2.2.2.2.2.2.2.2.2.2.2.2.2.2.1 ((r5.2.2.2.2.1 >>> (u1 &&& 31)) &&& (1 : Int32))).bind (fun r9 => some (r9.1, r9.2.1, r9.2.2.1, r9.2.2.2.1, r9.2.2.2.2.1, r9.2.2.2.2.2.1, r9.2.2.2.2.2.2, r5.2.2.2.2.2.2.2.1, r5.2.2.2.2.2.2.2.2.1, r5.2.2.2.2.2.2.2.2.2.1, r5.2.2.2.2.2.2.2.2.2.2.1, r5.2.2.2.2.2.2.2.2.2.2.2.1, r5.2.2.2.2.2.2.2.2.2.2.2.2.1, r5.2.2.2.2.2.2.2.2.2.2.2.2.2.1, r5.2.2.2.2.2.2.2.2.2.2.2.2.2.2.1, r5.2.2.2.2.2.2.2.2.2.2.2.2.2.2.2.1, r5.2.2.2.2.2.2.2.2.2.2.2.2.2.2.2.2.1, r5.2.2.2.2.2.2.2.2.2.2.2.2.2.2.2.2.2.1, r5.2.2.2.2.2.2.2.2.2.2.2.2.2.2.2.2.2.2.1, r5.2.2.2.2.2.2.2.2.2.2.2.2.2.2.2.2.2.2.2)) else (f_X8_back r5.2.1 r5.2.2.1 r5.2.2.2.1 r5.2.2.2.2.1 r5.2.2.2.2.2.1 r5.2.2.2.2.2.2.1 r5.2.2.2.2.2.2.2.2.2.2.2.2.2.2.2.1 r5.1).bind (fun r14 => some (r14.1, r14.2.1, r14.2.2.1, r14.2.2.2.1, r14.2.2.2.2.1, r14.2.2.2.2.2.1, r14.2.2.2.2.2.2, r5.2.2.2.2.2.2.2.1, r5.2.2.2.2.2.2.2.2.1, r5.2.2.2.2.2.2.2.2.2.1, r5.2.2.2.2.2.2.2.2.2.2.1, r5.2.2.2.2.2.2.2.2.2.2.2.1, r5.2.2.2.2.2.2.2.2.2.2.2.2.1, r5.2.2.2.2.2.2.2.2.2.2.2.2.2.1, r5.2.2.2.2.2.2.2.2.2.2.2.2.2.2.1, r5.2.2.2.2.2.2.2.2.2.2.2.2.2.2.2.1, r5.2.2.2.2.2.2.2.2.2.2.2.2.2.2.2.2.1, r5.2.2.2.2.2.2.2.2.2.2.2.2.2.2.2.2.2.1, r5.2.2.2.2.2.2.2.2.2.2.2.2.2.2.2.2.2.2.1, r5.2.2.2.2.2.2.2.2.2.2.2.2.2.2.2.2.2.2.2)))))
set_option maxHeartbeats 4000000 in
set_option maxRecDepth 100000 in
theorem c_X8_behind (l : Launch) (D : va_G) (cI cZ cG : ClassId) (h : Nat) (A : Nat → Nat) (yard : Nat → Int32) (feels : Nat → Int32) (length : Nat → Int32) (holding : Int32) (wool : Int32) (days : Int32) (sights : Int32) (pad : Nat → Int32) (padMany : Int32) (act : Nat → Int32) (who : Nat → Int32) (much : Nat → Int32) (acts : Int32) (then_ : Nat → Int32) (drawnBits : Int32) (drawnMany : Int32) (drawnNow : Int32) (had : Nat → Int32) (badAct : Int32) (badWhy : Int32) (drawnAct : Int32) (drawnChild : Int32) (keptAt : Int32) (isWriting : Int32) (u1 : Int32) (u2 : Int32) (res : Int32 × (Nat → Int32) × (Nat → Int32) × (Nat → Int32) × Int32 × Int32 × Int32 × (Nat → Int32) × (Nat → Int32) × (Nat → Int32) × Int32 × (Nat → Int32) × Int32 × Int32 × Int32 × (Nat → Int32) × Int32 × Int32 × Int32 × Int32) (hf : f_X8_behind yard feels length holding wool days pad padMany act who much acts then_ drawnBits drawnMany drawnNow had badAct badWhy drawnAct drawnChild u1 u2 = some res) : CI l D (tysW cI cZ cG) yX8_behind wsX8_behind rm_X8_behind [.ref h, .int u1, .int u2] [(h, oX8 A holding wool days sights padMany acts drawnBits drawnMany drawnNow badAct badWhy drawnAct drawnChild keptAt isWriting), ((A 0), aI cI 10 yard), ((A 1), aI cI 10 feels), ((A 2), aI cI 9 length), ((A 9), aI cI 60 pad), ((A 11), aI cI 60 act), ((A 12), aI cI 60 who), ((A 13), aI cI 60 much), ((A 15), aI cI 10 then_), ((A 19), aI cI 32 had)] res.1 [(h, oX8 A res.2.2.2.2.1 res.2.2.2.2.2.1 res.2.2.2.2.2.2.1 sights padMany res.2.2.2.2.2.2.2.2.2.2.1 res.2.2.2.2.2.2.2.2.2.2.2.2.1 res.2.2.2.2.2.2.2.2.2.2.2.2.2.1 res.2.2.2.2.2.2.2.2.2.2.2.2.2.2.1 res.2.2.2.2.2.2.2.2.2.2.2.2.2.2.2.2.1 res.2.2.2.2.2.2.2.2.2.2.2.2.2.2.2.2.2.1 res.2.2.2.2.2.2.2.2.2.2.2.2.2.2.2.2.2.2.1 res.2.2.2.2.2.2.2.2.2.2.2.2.2.2.2.2.2.2.2 keptAt isWriting), ((A 0), aI cI 10 res.2.1), ((A 1), aI cI 10 res.2.2.1), ((A 2), aI cI 9 res.2.2.2.1), ((A 9), aI cI 60 pad), ((A 11), aI cI 60 res.2.2.2.2.2.2.2.1), ((A 12), aI cI 60 res.2.2.2.2.2.2.2.2.1), ((A 13), aI cI 60 res.2.2.2.2.2.2.2.2.2.1), ((A 15), aI cI 10 res.2.2.2.2.2.2.2.2.2.2.2.1), ((A 19), aI cI 32 res.2.2.2.2.2.2.2.2.2.2.2.2.2.2.2.1)] := by
  refine CG.intro (own := RX8) (by decide +kernel) rfl rfl (Nat.le_of_ble_eq_true rfl) (fun p e s m args below meth c C => ?_)
  refine r_lv (lv' := [(0, .ref h), (1, .int u1), (2, .int u2)]) [0, 1, 2] rfl ?_
  unfold f_X8_behind at hf
  refine r_iload_n C dX8_behind_0 rfl 1 rfl rfl ?_
  obtain ⟨r1, e1, hf⟩ := gd_b hf
  refine o_I (wn := [(h, oX8 A holding wool days sights padMany acts drawnBits drawnMany drawnNow badAct badWhy drawnAct drawnChild keptAt isWriting), ((A 0), aI cI 10 yard), ((A 1), aI cI 10 feels), ((A 2), aI cI 9 length), ((A 9), aI cI 60 pad), ((A 11), aI cI 60 act), ((A 12), aI cI 60 who), ((A 13), aI cI 60 much), ((A 15), aI cI 10 then_), ((A 19), aI cI 32 had)]) C [] rfl (x_S C dX8_behind_1 (c_X8_isChild l D cI cZ cG u1 r1 e1) rfl gX8_behind_X8_isChild hs_X8_isChild rfl ⟨Nat.le_of_ble_eq_true rfl, Nat.le_of_ble_eq_true rfl⟩ ⟨rfl, rfl⟩ ⟨Nat.zero_le _, Nat.zero_le _⟩ rfl [] rfl rfl (Nat.le_of_ble_eq_true rfl) rfl) rfl rfl rfl ?_
  refine r_if_ne (y := 0) (tgt := 9) C dX8_behind_4 rfl rfl (fun c2 => ?_) (fun c2 => ?_)
  · have hf := gd_f c2 hf
    refine r_iload_n C dX8_behind_9 rfl 2 rfl rfl ?_
    refine r_i2l C dX8_behind_10 rfl ?_
    refine r_lconst (v := (0 : Int64)) C dX8_behind_11 rfl rfl ?_
    refine r_ldc2 C dX8_behind_12 wc_X8_behind_232 rfl ?_
    obtain ⟨r3, e3, hf⟩ := gd_b hf
    refine o_I (wn := [(h, oX8 A holding wool days sights padMany acts drawnBits drawnMany drawnNow badAct badWhy drawnAct drawnChild keptAt isWriting), ((A 0), aI cI 10 yard), ((A 1), aI cI 10 feels), ((A 2), aI cI 9 length), ((A 9), aI cI 60 pad), ((A 11), aI cI 60 act), ((A 12), aI cI 60 who), ((A 13), aI cI 60 much), ((A 15), aI cI 10 then_), ((A 19), aI cI 32 had)]) C [] rfl (x_S C dX8_behind_15 (c_X8_in l D cI cZ cG u2.toInt64 (0 : Int64) (2 : Int64) r3 e3) rfl gX8_behind_X8_in hs_X8_in rfl ⟨Nat.le_of_ble_eq_true rfl, Nat.le_of_ble_eq_true rfl⟩ ⟨rfl, rfl⟩ ⟨Nat.zero_le _, Nat.zero_le _⟩ rfl [] rfl rfl (Nat.le_of_ble_eq_true rfl) rfl) rfl rfl rfl ?_
    refine r_if_ne (y := 0) (tgt := 24) C dX8_behind_18 rfl rfl (fun c4 => ?_) (fun c4 => ?_)
    · have hf := gd_f c4 hf
      refine r_aload_n C dX8_behind_24 rfl 0 rfl rfl ?_
      obtain ⟨r5, e5, hf⟩ := gd_b hf
      refine o_I (wn := [(h, oX8 A r5.2.2.2.2.1 r5.2.2.2.2.2.1 r5.2.2.2.2.2.2.1 sights padMany r5.2.2.2.2.2.2.2.2.2.2.1 r5.2.2.2.2.2.2.2.2.2.2.2.2.1 r5.2.2.2.2.2.2.2.2.2.2.2.2.2.1 r5.2.2.2.2.2.2.2.2.2.2.2.2.2.2.1 r5.2.2.2.2.2.2.2.2.2.2.2.2.2.2.2.2.1 r5.2.2.2.2.2.2.2.2.2.2.2.2.2.2.2.2.2.1 r5.2.2.2.2.2.2.2.2.2.2.2.2.2.2.2.2.2.2.1 r5.2.2.2.2.2.2.2.2.2.2.2.2.2.2.2.2.2.2.2 keptAt isWriting), ((A 0), aI cI 10 r5.2.1), ((A 1), aI cI 10 r5.2.2.1), ((A 2), aI cI 9 r5.2.2.2.1), ((A 9), aI cI 60 pad), ((A 11), aI cI 60 r5.2.2.2.2.2.2.2.1), ((A 12), aI cI 60 r5.2.2.2.2.2.2.2.2.1), ((A 13), aI cI 60 r5.2.2.2.2.2.2.2.2.2.1), ((A 15), aI cI 10 r5.2.2.2.2.2.2.2.2.2.2.2.1), ((A 19), aI cI 32 r5.2.2.2.2.2.2.2.2.2.2.2.2.2.2.2.1)]) C [0, 1, 2, 3, 4, 5, 6, 7, 8, 9] rfl (x_V C dX8_behind_25 (c_X8_refusal l D cI cZ cG h A yard feels length holding wool days sights pad padMany act who much acts then_ drawnBits drawnMany drawnNow had badAct badWhy drawnAct drawnChild keptAt isWriting r5 e5) rfl gX8_behind_X8_refusal hd_X8_refusal rfl ⟨Nat.le_of_ble_eq_true rfl, Nat.le_of_ble_eq_true rfl⟩ ⟨rfl, rfl⟩ ⟨Nat.zero_le _, Nat.zero_le _⟩ rfl [0, 1, 2, 3, 4, 5, 6, 7, 8, 9] rfl rfl 0 rfl rfl (Nat.le_of_ble_eq_true rfl) rfl) rfl rfl rfl ?_
      refine r_istore_n (lv' := [(3, .int r5.1), (0, .ref h), (1, .int u1), (2, .int u2)]) C dX8_behind_28 rfl (by decide) rfl rfl ?_
      refine r_aload_n C dX8_behind_29 rfl 1 rfl rfl ?_
      refine r_iload_n C dX8_behind_30 rfl 0 rfl rfl ?_
      refine r_bipush C dX8_behind_31 kk_b_m6 rfl ?_
      refine r_icmp_eq (tgt := 40) C dX8_behind_33 rfl rfl (fun c6 => ?_) (fun c6 => ?_)
      · have hf := gd_t c6 hf
        refine r_iload_n C dX8_behind_40 rfl 3 rfl rfl ?_
        refine r_if_ne (y := 0) (tgt := 53) C dX8_behind_41 rfl rfl (fun c7 => ?_) (fun c7 => ?_)
        · have hf := gd_f c7 hf
          refine r_iload_n C dX8_behind_53 rfl 3 rfl rfl ?_
          refine r_iconst C dX8_behind_54 kk_i_1 rfl ?_
          refine r_icmp_ne (tgt := 67) C dX8_behind_55 rfl rfl (fun c8 => ?_) (fun c8 => ?_)
          · have hf := gd_f c8 hf
            refine r_aload_n C dX8_behind_67 rfl 1 rfl rfl ?_
            refine r_get C dX8_behind_68 fw_X8_behind_X8 0 rfl rfl 3 (by decide) rfl fl_X8_behind_101 rfl rfl ?_
            refine r_iload_n C dX8_behind_71 rfl 2 rfl rfl ?_
            refine r_ishr C dX8_behind_72 rfl ?_
            refine r_iconst C dX8_behind_73 kk_i_1 rfl ?_
            refine r_iand C dX8_behind_74 rfl ?_
            obtain ⟨r9, e9, hf⟩ := gd_b hf
            refine o_I (wn := [(h, oX8 A r9.2.2.2.2.1 r9.2.2.2.2.2.1 r9.2.2.2.2.2.2 sights padMany r5.2.2.2.2.2.2.2.2.2.2.1 r5.2.2.2.2.2.2.2.2.2.2.2.2.1 r5.2.2.2.2.2.2.2.2.2.2.2.2.2.1 r5.2.2.2.2.2.2.2.2.2.2.2.2.2.2.1 r5.2.2.2.2.2.2.2.2.2.2.2.2.2.2.2.2.1 r5.2.2.2.2.2.2.2.2.2.2.2.2.2.2.2.2.2.1 r5.2.2.2.2.2.2.2.2.2.2.2.2.2.2.2.2.2.2.1 r5.2.2.2.2.2.2.2.2.2.2.2.2.2.2.2.2.2.2.2 keptAt isWriting), ((A 0), aI cI 10 r9.2.1), ((A 1), aI cI 10 r9.2.2.1), ((A 2), aI cI 9 r9.2.2.2.1), ((A 9), aI cI 60 pad), ((A 11), aI cI 60 r5.2.2.2.2.2.2.2.1), ((A 12), aI cI 60 r5.2.2.2.2.2.2.2.2.1), ((A 13), aI cI 60 r5.2.2.2.2.2.2.2.2.2.1), ((A 15), aI cI 10 r5.2.2.2.2.2.2.2.2.2.2.2.1), ((A 19), aI cI 32 r5.2.2.2.2.2.2.2.2.2.2.2.2.2.2.2.1)]) C [0, 1, 2, 3, 9] rfl (x_V C dX8_behind_75 (c_X8_back l D cI cZ cG h A r5.2.1 r5.2.2.1 r5.2.2.2.1 r5.2.2.2.2.1 r5.2.2.2.2.2.1 r5.2.2.2.2.2.2.1 sights padMany r5.2.2.2.2.2.2.2.2.2.2.1 r5.2.2.2.2.2.2.2.2.2.2.2.2.1 r5.2.2.2.2.2.2.2.2.2.2.2.2.2.1 r5.2.2.2.2.2.2.2.2.2.2.2.2.2.2.1 r5.2.2.2.2.2.2.2.2.2.2.2.2.2.2.2.1 r5.2.2.2.2.2.2.2.2.2.2.2.2.2.2.2.2.1 r5.2.2.2.2.2.2.2.2.2.2.2.2.2.2.2.2.2.1 r5.2.2.2.2.2.2.2.2.2.2.2.2.2.2.2.2.2.2.1 r5.2.2.2.2.2.2.2.2.2.2.2.2.2.2.2.2.2.2.2 keptAt isWriting ((r5.2.2.2.2.1 >>> (u1 &&& 31)) &&& (1 : Int32)) r9 e9) rfl gX8_behind_X8_back hd_X8_back rfl ⟨Nat.le_of_ble_eq_true rfl, Nat.le_of_ble_eq_true rfl⟩ ⟨rfl, rfl⟩ ⟨Nat.zero_le _, Nat.zero_le _⟩ rfl [0, 1, 2, 3, 9] rfl rfl 0 rfl rfl (Nat.le_of_ble_eq_true rfl) rfl) rfl rfl rfl ?_
            cases hf
            exact r_iret C dX8_behind_78 rfl
          · have hf := gd_t c8 hf
            refine r_aload_n C dX8_behind_58 rfl 1 rfl rfl ?_
            refine r_get C dX8_behind_59 fw_X8_behind_X8 0 rfl rfl 1 (by decide) rfl fl_X8_behind_13 rfl rfl ?_
            refine r_iload_n C dX8_behind_62 rfl 2 rfl rfl ?_
            obtain ⟨g10, hf⟩ := gd_n hf
            refine r_iald C dX8_behind_63 2 0 rfl rfl g10 rfl ?_
            refine r_goto (tgt := 75) C dX8_behind_64 rfl ?_
            obtain ⟨r11, e11, hf⟩ := gd_b hf
            refine o_I (wn := [(h, oX8 A r11.2.2.2.2.1 r11.2.2.2.2.2.1 r11.2.2.2.2.2.2 sights padMany r5.2.2.2.2.2.2.2.2.2.2.1 r5.2.2.2.2.2.2.2.2.2.2.2.2.1 r5.2.2.2.2.2.2.2.2.2.2.2.2.2.1 r5.2.2.2.2.2.2.2.2.2.2.2.2.2.2.1 r5.2.2.2.2.2.2.2.2.2.2.2.2.2.2.2.2.1 r5.2.2.2.2.2.2.2.2.2.2.2.2.2.2.2.2.2.1 r5.2.2.2.2.2.2.2.2.2.2.2.2.2.2.2.2.2.2.1 r5.2.2.2.2.2.2.2.2.2.2.2.2.2.2.2.2.2.2.2 keptAt isWriting), ((A 0), aI cI 10 r11.2.1), ((A 1), aI cI 10 r11.2.2.1), ((A 2), aI cI 9 r11.2.2.2.1), ((A 9), aI cI 60 pad), ((A 11), aI cI 60 r5.2.2.2.2.2.2.2.1), ((A 12), aI cI 60 r5.2.2.2.2.2.2.2.2.1), ((A 13), aI cI 60 r5.2.2.2.2.2.2.2.2.2.1), ((A 15), aI cI 10 r5.2.2.2.2.2.2.2.2.2.2.2.1), ((A 19), aI cI 32 r5.2.2.2.2.2.2.2.2.2.2.2.2.2.2.2.1)]) C [0, 1, 2, 3, 9] rfl (x_V C dX8_behind_75 (c_X8_back l D cI cZ cG h A r5.2.1 r5.2.2.1 r5.2.2.2.1 r5.2.2.2.2.1 r5.2.2.2.2.2.1 r5.2.2.2.2.2.2.1 sights padMany r5.2.2.2.2.2.2.2.2.2.2.1 r5.2.2.2.2.2.2.2.2.2.2.2.2.1 r5.2.2.2.2.2.2.2.2.2.2.2.2.2.1 r5.2.2.2.2.2.2.2.2.2.2.2.2.2.2.1 r5.2.2.2.2.2.2.2.2.2.2.2.2.2.2.2.1 r5.2.2.2.2.2.2.2.2.2.2.2.2.2.2.2.2.1 r5.2.2.2.2.2.2.2.2.2.2.2.2.2.2.2.2.2.1 r5.2.2.2.2.2.2.2.2.2.2.2.2.2.2.2.2.2.2.1 r5.2.2.2.2.2.2.2.2.2.2.2.2.2.2.2.2.2.2.2 keptAt isWriting (r5.2.2.1 u1.toNatClampNeg) r11 e11) rfl gX8_behind_X8_back hd_X8_back rfl ⟨Nat.le_of_ble_eq_true rfl, Nat.le_of_ble_eq_true rfl⟩ ⟨rfl, rfl⟩ ⟨Nat.zero_le _, Nat.zero_le _⟩ rfl [0, 1, 2, 3, 9] rfl rfl 0 rfl rfl (Nat.le_of_ble_eq_true rfl) rfl) rfl rfl rfl ?_
            cases hf
            exact r_iret C dX8_behind_78 rfl
        · have hf := gd_t c7 hf
          refine r_aload_n C dX8_behind_44 rfl 1 rfl rfl ?_
          refine r_get C dX8_behind_45 fw_X8_behind_X8 0 rfl rfl 0 (by decide) rfl fl_X8_behind_7 rfl rfl ?_
          refine r_iload_n C dX8_behind_48 rfl 2 rfl rfl ?_
          obtain ⟨g12, hf⟩ := gd_n hf
          refine r_iald C dX8_behind_49 1 0 rfl rfl g12 rfl ?_
          refine r_goto (tgt := 75) C dX8_behind_50 rfl ?_
          obtain ⟨r13, e13, hf⟩ := gd_b hf
          refine o_I (wn := [(h, oX8 A r13.2.2.2.2.1 r13.2.2.2.2.2.1 r13.2.2.2.2.2.2 sights padMany r5.2.2.2.2.2.2.2.2.2.2.1 r5.2.2.2.2.2.2.2.2.2.2.2.2.1 r5.2.2.2.2.2.2.2.2.2.2.2.2.2.1 r5.2.2.2.2.2.2.2.2.2.2.2.2.2.2.1 r5.2.2.2.2.2.2.2.2.2.2.2.2.2.2.2.2.1 r5.2.2.2.2.2.2.2.2.2.2.2.2.2.2.2.2.2.1 r5.2.2.2.2.2.2.2.2.2.2.2.2.2.2.2.2.2.2.1 r5.2.2.2.2.2.2.2.2.2.2.2.2.2.2.2.2.2.2.2 keptAt isWriting), ((A 0), aI cI 10 r13.2.1), ((A 1), aI cI 10 r13.2.2.1), ((A 2), aI cI 9 r13.2.2.2.1), ((A 9), aI cI 60 pad), ((A 11), aI cI 60 r5.2.2.2.2.2.2.2.1), ((A 12), aI cI 60 r5.2.2.2.2.2.2.2.2.1), ((A 13), aI cI 60 r5.2.2.2.2.2.2.2.2.2.1), ((A 15), aI cI 10 r5.2.2.2.2.2.2.2.2.2.2.2.1), ((A 19), aI cI 32 r5.2.2.2.2.2.2.2.2.2.2.2.2.2.2.2.1)]) C [0, 1, 2, 3, 9] rfl (x_V C dX8_behind_75 (c_X8_back l D cI cZ cG h A r5.2.1 r5.2.2.1 r5.2.2.2.1 r5.2.2.2.2.1 r5.2.2.2.2.2.1 r5.2.2.2.2.2.2.1 sights padMany r5.2.2.2.2.2.2.2.2.2.2.1 r5.2.2.2.2.2.2.2.2.2.2.2.2.1 r5.2.2.2.2.2.2.2.2.2.2.2.2.2.1 r5.2.2.2.2.2.2.2.2.2.2.2.2.2.2.1 r5.2.2.2.2.2.2.2.2.2.2.2.2.2.2.2.1 r5.2.2.2.2.2.2.2.2.2.2.2.2.2.2.2.2.1 r5.2.2.2.2.2.2.2.2.2.2.2.2.2.2.2.2.2.1 r5.2.2.2.2.2.2.2.2.2.2.2.2.2.2.2.2.2.2.1 r5.2.2.2.2.2.2.2.2.2.2.2.2.2.2.2.2.2.2.2 keptAt isWriting (r5.2.1 u1.toNatClampNeg) r13 e13) rfl gX8_behind_X8_back hd_X8_back rfl ⟨Nat.le_of_ble_eq_true rfl, Nat.le_of_ble_eq_true rfl⟩ ⟨rfl, rfl⟩ ⟨Nat.zero_le _, Nat.zero_le _⟩ rfl [0, 1, 2, 3, 9] rfl rfl 0 rfl rfl (Nat.le_of_ble_eq_true rfl) rfl) rfl rfl rfl ?_
          cases hf
          exact r_iret C dX8_behind_78 rfl
      · have hf := gd_f c6 hf
        refine r_iload_n C dX8_behind_36 rfl 0 rfl rfl ?_
        refine r_goto (tgt := 75) C dX8_behind_37 rfl ?_
        obtain ⟨r14, e14, hf⟩ := gd_b hf
        refine o_I (wn := [(h, oX8 A r14.2.2.2.2.1 r14.2.2.2.2.2.1 r14.2.2.2.2.2.2 sights padMany r5.2.2.2.2.2.2.2.2.2.2.1 r5.2.2.2.2.2.2.2.2.2.2.2.2.1 r5.2.2.2.2.2.2.2.2.2.2.2.2.2.1 r5.2.2.2.2.2.2.2.2.2.2.2.2.2.2.1 r5.2.2.2.2.2.2.2.2.2.2.2.2.2.2.2.2.1 r5.2.2.2.2.2.2.2.2.2.2.2.2.2.2.2.2.2.1 r5.2.2.2.2.2.2.2.2.2.2.2.2.2.2.2.2.2.2.1 r5.2.2.2.2.2.2.2.2.2.2.2.2.2.2.2.2.2.2.2 keptAt isWriting), ((A 0), aI cI 10 r14.2.1), ((A 1), aI cI 10 r14.2.2.1), ((A 2), aI cI 9 r14.2.2.2.1), ((A 9), aI cI 60 pad), ((A 11), aI cI 60 r5.2.2.2.2.2.2.2.1), ((A 12), aI cI 60 r5.2.2.2.2.2.2.2.2.1), ((A 13), aI cI 60 r5.2.2.2.2.2.2.2.2.2.1), ((A 15), aI cI 10 r5.2.2.2.2.2.2.2.2.2.2.2.1), ((A 19), aI cI 32 r5.2.2.2.2.2.2.2.2.2.2.2.2.2.2.2.1)]) C [0, 1, 2, 3, 9] rfl (x_V C dX8_behind_75 (c_X8_back l D cI cZ cG h A r5.2.1 r5.2.2.1 r5.2.2.2.1 r5.2.2.2.2.1 r5.2.2.2.2.2.1 r5.2.2.2.2.2.2.1 sights padMany r5.2.2.2.2.2.2.2.2.2.2.1 r5.2.2.2.2.2.2.2.2.2.2.2.2.1 r5.2.2.2.2.2.2.2.2.2.2.2.2.2.1 r5.2.2.2.2.2.2.2.2.2.2.2.2.2.2.1 r5.2.2.2.2.2.2.2.2.2.2.2.2.2.2.2.1 r5.2.2.2.2.2.2.2.2.2.2.2.2.2.2.2.2.1 r5.2.2.2.2.2.2.2.2.2.2.2.2.2.2.2.2.2.1 r5.2.2.2.2.2.2.2.2.2.2.2.2.2.2.2.2.2.2.1 r5.2.2.2.2.2.2.2.2.2.2.2.2.2.2.2.2.2.2.2 keptAt isWriting r5.1 r14 e14) rfl gX8_behind_X8_back hd_X8_back rfl ⟨Nat.le_of_ble_eq_true rfl, Nat.le_of_ble_eq_true rfl⟩ ⟨rfl, rfl⟩ ⟨Nat.zero_le _, Nat.zero_le _⟩ rfl [0, 1, 2, 3, 9] rfl rfl 0 rfl rfl (Nat.le_of_ble_eq_true rfl) rfl) rfl rfl rfl ?_
        cases hf
        exact r_iret C dX8_behind_78 rfl
    · have hf := gd_t c4 hf
      refine r_bipush C dX8_behind_21 kk_b_m2 rfl ?_
      cases hf
      exact r_iret C dX8_behind_23 rfl
  · have hf := gd_t c2 hf
    refine r_iconst C dX8_behind_7 kk_i_m1 rfl ?_
    cases hf
    exact r_iret C dX8_behind_8 rfl
abbrev rm_X8_taut : Jvm.Room := { frames := 2, cells := 0, slots := 0, locals := 42 }
def f_X8_taut_4 (yard : Nat → Int32) (length : Nat → Int32) : Nat → Int32 → Int32 → Option (Int32)
  | 0, _, _ => none
  | n + 1, u1, u2 => if (9 : Int32) ≤ u2 then some (u1) else (f_X8_isTaut yard length u2).bind (fun r2 => if r2 = 0 then f_X8_taut_4 yard length n (u1 ||| (0 : Int32)) (u2 + (1 : Int32)) else f_X8_taut_4 yard length n (u1 ||| ((1 : Int32) <<< (u2 &&& 31))) (u2 + (1 : Int32)))
set_option maxHeartbeats 4000000 in
set_option maxRecDepth 100000 in
theorem k_X8_taut_4 (C : Cx p s m args meth c D (tysW cI cZ cG) RX8 cX8_taut 3 wsX8_taut (some .int)) (h : Nat) (A : Nat → Nat) (yard : Nat → Int32) (length : Nat → Int32) (holding : Int32) (wool : Int32) (days : Int32) (sights : Int32) (padMany : Int32) (acts : Int32) (drawnBits : Int32) (drawnMany : Int32) (drawnNow : Int32) (badAct : Int32) (badWhy : Int32) (drawnAct : Int32) (drawnChild : Int32) (keptAt : Int32) (isWriting : Int32)  (res : Int32) : ∀ (n : Nat) (u1 : Int32) (u2 : Int32), f_X8_taut_4 yard length n u1 u2 = some res → Wd p l e rm_X8_taut s m args below meth c D w0 3 0 0 (MQ below (QcI D (tysW cI cZ cG) w0 [(h, oX8 A holding wool days sights padMany acts drawnBits drawnMany drawnNow badAct badWhy drawnAct drawnChild keptAt isWriting), ((A 0), aI cI 10 yard), ((A 2), aI cI 9 length)] res s.heap.size) args s 0 0 (va_A w0 s.heap.size)) [(h, oX8 A holding wool days sights padMany acts drawnBits drawnMany drawnNow badAct badWhy drawnAct drawnChild keptAt isWriting), ((A 0), aI cI 10 yard), ((A 2), aI cI 9 length)] [(0, .ref h), (1, .int u1), (2, .int u2)] 4 [] := by
  intro n
  induction n with
  | zero =>
    intro u1 u2 hf
    exact no_none hf
  | succ n ih =>
    intro u1 u2 hf
    unfold f_X8_taut_4 at hf
    refine r_iload_n C dX8_taut_4 rfl 2 rfl rfl ?_
    refine r_bipush C dX8_taut_5 kk_b_9 rfl ?_
    refine r_icmp_ge (tgt := 34) C dX8_taut_7 rfl rfl (fun c1 => ?_) (fun c1 => ?_)
    · have hf := gd_t c1 hf
      refine r_iload_n C dX8_taut_34 rfl 1 rfl rfl ?_
      cases hf
      exact r_iret C dX8_taut_35 rfl
    · have hf := gd_f c1 hf
      refine r_iload_n C dX8_taut_10 rfl 1 rfl rfl ?_
      refine r_aload_n C dX8_taut_11 rfl 0 rfl rfl ?_
      refine r_iload_n C dX8_taut_12 rfl 2 rfl rfl ?_
      obtain ⟨r2, e2, hf⟩ := gd_b hf
      refine o_I (wn := [(h, oX8 A holding wool days sights padMany acts drawnBits drawnMany drawnNow badAct badWhy drawnAct drawnChild keptAt isWriting), ((A 0), aI cI 10 yard), ((A 2), aI cI 9 length)]) C [0, 1, 2] rfl (x_V C dX8_taut_13 (c_X8_isTaut l D cI cZ cG h A yard length holding wool days sights padMany acts drawnBits drawnMany drawnNow badAct badWhy drawnAct drawnChild keptAt isWriting u2 r2 e2) rfl gX8_taut_X8_isTaut hd_X8_isTaut rfl ⟨Nat.le_of_ble_eq_true rfl, Nat.le_of_ble_eq_true rfl⟩ ⟨rfl, rfl⟩ ⟨Nat.zero_le _, Nat.zero_le _⟩ rfl [0, 1, 2] rfl rfl 0 rfl rfl (Nat.le_of_ble_eq_true rfl) rfl) rfl rfl rfl ?_
      refine r_if_eq (y := 0) (tgt := 25) C dX8_taut_16 rfl rfl (fun c3 => ?_) (fun c3 => ?_)
      · have hf := gd_t c3 hf
        refine r_iconst C dX8_taut_25 kk_i_0 rfl ?_
        refine r_ior C dX8_taut_26 rfl ?_
        refine r_istore_n (lv' := [(1, .int (u1 ||| (0 : Int32))), (0, .ref h), (2, .int u2)]) C dX8_taut_27 rfl (by decide) rfl rfl ?_
        refine r_iinc (lv' := [(2, .int (u2 + (1 : Int32))), (1, .int (u1 ||| (0 : Int32))), (0, .ref h)]) C dX8_taut_28 2 rfl (ki_1 _) (by decide) rfl rfl ?_
        refine r_goto (tgt := 4) C dX8_taut_31 rfl ?_
        refine r_lv (lv' := [(0, .ref h), (1, .int (u1 ||| (0 : Int32))), (2, .int (u2 + (1 : Int32)))]) [2, 1, 0] rfl ?_
        exact ih _ _ hf
      · have hf := gd_f c3 hf
        refine r_iconst C dX8_taut_19 kk_i_1 rfl ?_
        refine r_iload_n C dX8_taut_20 rfl 2 rfl rfl ?_
        refine r_ishl C dX8_taut_21 rfl ?_
        refine r_goto (tgt := 26) C dX8_taut_22 rfl ?_
        refine r_ior C dX8_taut_26 rfl ?_
        refine r_istore_n (lv' := [(1, .int (u1 ||| ((1 : Int32) <<< (u2 &&& 31)))), (0, .ref h), (2, .int u2)]) C dX8_taut_27 rfl (by decide) rfl rfl ?_
        refine r_iinc (lv' := [(2, .int (u2 + (1 : Int32))), (1, .int (u1 ||| ((1 : Int32) <<< (u2 &&& 31)))), (0, .ref h)]) C dX8_taut_28 2 rfl (ki_1 _) (by decide) rfl rfl ?_
        refine r_goto (tgt := 4) C dX8_taut_31 rfl ?_
        refine r_lv (lv' := [(0, .ref h), (1, .int (u1 ||| ((1 : Int32) <<< (u2 &&& 31)))), (2, .int (u2 + (1 : Int32)))]) [2, 1, 0] rfl ?_
        exact ih _ _ hf
def f_X8_taut (yard : Nat → Int32) (length : Nat → Int32) : Option (Int32) := f_X8_taut_4 yard length 2000 (0 : Int32) (0 : Int32)
set_option maxHeartbeats 4000000 in
set_option maxRecDepth 100000 in
theorem c_X8_taut (l : Launch) (D : va_G) (cI cZ cG : ClassId) (h : Nat) (A : Nat → Nat) (yard : Nat → Int32) (length : Nat → Int32) (holding : Int32) (wool : Int32) (days : Int32) (sights : Int32) (padMany : Int32) (acts : Int32) (drawnBits : Int32) (drawnMany : Int32) (drawnNow : Int32) (badAct : Int32) (badWhy : Int32) (drawnAct : Int32) (drawnChild : Int32) (keptAt : Int32) (isWriting : Int32) (res : Int32) (hf : f_X8_taut yard length = some res) : CI l D (tysW cI cZ cG) yX8_taut wsX8_taut rm_X8_taut [.ref h] [(h, oX8 A holding wool days sights padMany acts drawnBits drawnMany drawnNow badAct badWhy drawnAct drawnChild keptAt isWriting), ((A 0), aI cI 10 yard), ((A 2), aI cI 9 length)] res [(h, oX8 A holding wool days sights padMany acts drawnBits drawnMany drawnNow badAct badWhy drawnAct drawnChild keptAt isWriting), ((A 0), aI cI 10 yard), ((A 2), aI cI 9 length)] := by
  refine CG.intro (own := RX8) (by decide +kernel) rfl rfl (Nat.le_of_ble_eq_true rfl) (fun p e s m args below meth c C => ?_)
  refine r_lv (lv' := [(0, .ref h)]) [0] rfl ?_
  unfold f_X8_taut at hf
  refine r_iconst C dX8_taut_0 kk_i_0 rfl ?_
  refine r_istore_n (lv' := [(1, .int (0 : Int32)), (0, .ref h)]) C dX8_taut_1 rfl (by decide) rfl rfl ?_
  refine r_iconst C dX8_taut_2 kk_i_0 rfl ?_
  refine r_istore_n (lv' := [(2, .int (0 : Int32)), (1, .int (0 : Int32)), (0, .ref h)]) C dX8_taut_3 rfl (by decide) rfl rfl ?_
  refine r_lv (lv' := [(0, .ref h), (1, .int (0 : Int32)), (2, .int (0 : Int32))]) [2, 1, 0] rfl ?_
  refine k_X8_taut_4 C h A yard length holding wool days sights padMany acts drawnBits drawnMany drawnNow badAct badWhy drawnAct drawnChild keptAt isWriting _ 2000 _ _ hf
theorem fw_X8_allYards_X8 : ∀ w ∈ u_ws RX8 TX8 37, w ∈ wsX8_allYards := by decide +kernel
theorem fl_X8_allYards_16 : Cond.fieldLink RX8 16 "MittenLineModel" "length" "[I" ∈ wsX8_allYards := by decide +kernel
abbrev rm_X8_allYards : Jvm.Room := { frames := 0, cells := 0, slots := 0, locals := 0 }
def f_X8_allYards_4 (length : Nat → Int32) : Nat → Int32 → Int32 → Option (Int32)
  | 0, _, _ => none
  | n + 1, u1, u2 => if (9 : Int32) ≤ u2 then some (u1) else if u2 < 0 ∨ 9 ≤ u2.toNatClampNeg then none else f_X8_allYards_4 length n (u1 + (length u2.toNatClampNeg)) (u2 + (1 : Int32))
set_option maxHeartbeats 4000000 in
set_option maxRecDepth 100000 in
theorem k_X8_allYards_4 (C : Cx p s m args meth c D (tysW cI cZ cG) RX8 cX8_allYards 3 wsX8_allYards (some .int)) (h : Nat) (A : Nat → Nat) (length : Nat → Int32) (holding : Int32) (wool : Int32) (days : Int32) (sights : Int32) (padMany : Int32) (acts : Int32) (drawnBits : Int32) (drawnMany : Int32) (drawnNow : Int32) (badAct : Int32) (badWhy : Int32) (drawnAct : Int32) (drawnChild : Int32) (keptAt : Int32) (isWriting : Int32)  (res : Int32) : ∀ (n : Nat) (u1 : Int32) (u2 : Int32), f_X8_allYards_4 length n u1 u2 = some res → Wd p l e rm_X8_allYards s m args below meth c D w0 3 0 0 (MQ below (QcI D (tysW cI cZ cG) w0 [(h, oX8 A holding wool days sights padMany acts drawnBits drawnMany drawnNow badAct badWhy drawnAct drawnChild keptAt isWriting), ((A 2), aI cI 9 length)] res s.heap.size) args s 0 0 (va_A w0 s.heap.size)) [(h, oX8 A holding wool days sights padMany acts drawnBits drawnMany drawnNow badAct badWhy drawnAct drawnChild keptAt isWriting), ((A 2), aI cI 9 length)] [(0, .ref h), (1, .int u1), (2, .int u2)] 4 [] := by
  intro n
  induction n with
  | zero =>
    intro u1 u2 hf
    exact no_none hf
  | succ n ih =>
    intro u1 u2 hf
    unfold f_X8_allYards_4 at hf
    refine r_iload_n C dX8_allYards_4 rfl 2 rfl rfl ?_
    refine r_bipush C dX8_allYards_5 kk_b_9 rfl ?_
    refine r_icmp_ge (tgt := 25) C dX8_allYards_7 rfl rfl (fun c1 => ?_) (fun c1 => ?_)
    · have hf := gd_t c1 hf
      refine r_iload_n C dX8_allYards_25 rfl 1 rfl rfl ?_
      cases hf
      exact r_iret C dX8_allYards_26 rfl
    · have hf := gd_f c1 hf
      refine r_iload_n C dX8_allYards_10 rfl 1 rfl rfl ?_
      refine r_aload_n C dX8_allYards_11 rfl 0 rfl rfl ?_
      refine r_get C dX8_allYards_12 fw_X8_allYards_X8 0 rfl rfl 2 (by decide) rfl fl_X8_allYards_16 rfl rfl ?_
      refine r_iload_n C dX8_allYards_15 rfl 2 rfl rfl ?_
      obtain ⟨g2, hf⟩ := gd_n hf
      refine r_iald C dX8_allYards_16 1 0 rfl rfl g2 rfl ?_
      refine r_iadd C dX8_allYards_17 rfl ?_
      refine r_istore_n (lv' := [(1, .int (u1 + (length u2.toNatClampNeg))), (0, .ref h), (2, .int u2)]) C dX8_allYards_18 rfl (by decide) rfl rfl ?_
      refine r_iinc (lv' := [(2, .int (u2 + (1 : Int32))), (1, .int (u1 + (length u2.toNatClampNeg))), (0, .ref h)]) C dX8_allYards_19 2 rfl (ki_1 _) (by decide) rfl rfl ?_
      refine r_goto (tgt := 4) C dX8_allYards_22 rfl ?_
      refine r_lv (lv' := [(0, .ref h), (1, .int (u1 + (length u2.toNatClampNeg))), (2, .int (u2 + (1 : Int32)))]) [2, 1, 0] rfl ?_
      exact ih _ _ hf
def f_X8_allYards (length : Nat → Int32) : Option (Int32) := f_X8_allYards_4 length 2000 (0 : Int32) (0 : Int32)
set_option maxHeartbeats 4000000 in
set_option maxRecDepth 100000 in
theorem c_X8_allYards (l : Launch) (D : va_G) (cI cZ cG : ClassId) (h : Nat) (A : Nat → Nat) (length : Nat → Int32) (holding : Int32) (wool : Int32) (days : Int32) (sights : Int32) (padMany : Int32) (acts : Int32) (drawnBits : Int32) (drawnMany : Int32) (drawnNow : Int32) (badAct : Int32) (badWhy : Int32) (drawnAct : Int32) (drawnChild : Int32) (keptAt : Int32) (isWriting : Int32) (res : Int32) (hf : f_X8_allYards length = some res) : CI l D (tysW cI cZ cG) yX8_allYards wsX8_allYards rm_X8_allYards [.ref h] [(h, oX8 A holding wool days sights padMany acts drawnBits drawnMany drawnNow badAct badWhy drawnAct drawnChild keptAt isWriting), ((A 2), aI cI 9 length)] res [(h, oX8 A holding wool days sights padMany acts drawnBits drawnMany drawnNow badAct badWhy drawnAct drawnChild keptAt isWriting), ((A 2), aI cI 9 length)] := by
  refine CG.intro (own := RX8) (by decide +kernel) rfl rfl (Nat.le_of_ble_eq_true rfl) (fun p e s m args below meth c C => ?_)
  refine r_lv (lv' := [(0, .ref h)]) [0] rfl ?_
  unfold f_X8_allYards at hf
  refine r_iconst C dX8_allYards_0 kk_i_0 rfl ?_
  refine r_istore_n (lv' := [(1, .int (0 : Int32)), (0, .ref h)]) C dX8_allYards_1 rfl (by decide) rfl rfl ?_
  refine r_iconst C dX8_allYards_2 kk_i_0 rfl ?_
  refine r_istore_n (lv' := [(2, .int (0 : Int32)), (1, .int (0 : Int32)), (0, .ref h)]) C dX8_allYards_3 rfl (by decide) rfl rfl ?_
  refine r_lv (lv' := [(0, .ref h), (1, .int (0 : Int32)), (2, .int (0 : Int32))]) [2, 1, 0] rfl ?_
  refine k_X8_allYards_4 C h A length holding wool days sights padMany acts drawnBits drawnMany drawnNow badAct badWhy drawnAct drawnChild keptAt isWriting _ 2000 _ _ hf
theorem wc_X8_line_240 : Cond.constantLong RX8 240 (3 : Int64) ∈ wsX8_line := by decide +kernel
theorem fw_X8_line_X8 : ∀ w ∈ u_ws RX8 TX8 37, w ∈ wsX8_line := by decide +kernel
theorem fl_X8_line_168 : Cond.fieldLink RX8 168 "MittenLineModel" "days" "I" ∈ wsX8_line := by decide +kernel
theorem fl_X8_line_77 : Cond.fieldLink RX8 77 "MittenLineModel" "wool" "I" ∈ wsX8_line := by decide +kernel
abbrev rm_X8_line : Jvm.Room := { frames := 8, cells := 0, slots := 0, locals := 177 }
def f_X8_line (yard : Nat → Int32) (feels : Nat → Int32) (length : Nat → Int32) (holding : Int32) (wool : Int32) (days : Int32) (pad : Nat → Int32) (padMany : Int32) (act : Nat → Int32) (who : Nat → Int32) (much : Nat → Int32) (acts : Int32) (then_ : Nat → Int32) (drawnBits : Int32) (drawnMany : Int32) (drawnNow : Int32) (had : Nat → Int32) (badAct : Int32) (badWhy : Int32) (drawnAct : Int32) (drawnChild : Int32) (u1 : Int32) : Option (Int32 × (Nat → Int32) × (Nat → Int32) × (Nat → Int32) × Int32 × Int32 × Int32 × (Nat → Int32) × (Nat → Int32) × (Nat → Int32) × Int32 × (Nat → Int32) × Int32 × Int32 × Int32 × (Nat → Int32) × Int32 × Int32 × Int32 × Int32) := (f_X8_in u1.toInt64 (0 : Int64) (3 : Int64)).bind (fun r1 => if r1 = 0 then some ((-2 : Int32), yard, feels, length, holding, wool, days, act, who, much, acts, then_, drawnBits, drawnMany, drawnNow, had, badAct, badWhy, drawnAct, drawnChild) else (f_X8_refusal yard feels length holding wool days pad padMany act who much acts then_ drawnBits drawnMany drawnNow had badAct badWhy drawnAct drawnChild).bind (fun r3 => if r3.1 = (-6 : Int32) then if u1 = 0 then (f_X8_taut r3.2.1 r3.2.2.2.1).bind (fun r12 => (f_X8_back r3.2.1 r3.2.2.1 r3.2.2.2.1 r3.2.2.2.2.1 r3.2.2.2.2.2.1 r3.2.2.2.2.2.2.1 r3.2.2.2.2.2.2.2.2.2.2.2.2.2.2.2.1 r12).bind (fun r13 => some (r13.1, r13.2.1, r13.2.2.1, r13.2.2.2.1, r13.2.2.2.2.1, r13.2.2.2.2.2.1, r13.2.2.2.2.2.2, r3.2.2.2.2.2.2.2.1, r3.2.2.2.2.2.2.2.2.1, r3.2.2.2.2.2.2.2.2.2.1, r3.2.2.2.2.2.2.2.2.2.2.1, r3.2.2.2.2.2.2.2.2.2.2.2.1, r3.2.2.2.2.2.2.2.2.2.2.2.2.1, r3.2.2.2.2.2.2.2.2.2.2.2.2.2.1, r3.2.2.2.2.2.2.2.2.2.2.2.2.2.2.1, r3.2.2.2.2.2.2.2.2.2.2.2.2.2.2.2.1, r3.2.2.2.2.2.2.2.2.2.2.2.2.2.2.2.2.1, r3.2.2.2.2.2.2.2.2.2.2.2.2.2.2.2.2.2.1, r3.2.2.2.2.2.2.2.2.2.2.2.2.2.2.2.2.2.2.1, r3.2.2.2.2.2.2.2.2.2.2.2.2.2.2.2.2.2.2.2))) else if u1 = (1 : Int32) then (f_X8_back r3.2.1 r3.2.2.1 r3.2.2.2.1 r3.2.2.2.2.1 r3.2.2.2.2.2.1 r3.2.2.2.2.2.2.1 r3.2.2.2.2.2.2.2.2.2.2.2.2.2.2.2.1 r3.2.2.2.2.2.1).bind (fun r11 => some (r11.1, r11.2.1, r11.2.2.1, r11.2.2.2.1, r11.2.2.2.2.1, r11.2.2.2.2.2.1, r11.2.2.2.2.2.2, r3.2.2.2.2.2.2.2.1, r3.2.2.2.2.2.2.2.2.1, r3.2.2.2.2.2.2.2.2.2.1, r3.2.2.2.2.2.2.2.2.2.2.1, r3.2.2.2.2.2.2.2.2.2.2.2.1, r3.2.2.2.2.2.2.2.2.2.2.2.2.1, r3.2.2.2.2.2.2.2.2.2.2.2.2.2.1, r3.2.2.2.2.2.2.2.2.2.2.2.2.2.2.1, r3.2.2.2.2.2.2.2.2.2.2.2.2.2.2.2.1, r3.2.2.2.2.2.2.2.2.2.2.2.2.2.2.2.2.1, r3.2.2.2.2.2.2.2.2.2.2.2.2.2.2.2.2.2.1, r3.2.2.2.2.2.2.2.2.2.2.2.2.2.2.2.2.2.2.1, r3.2.2.2.2.2.2.2.2.2.2.2.2.2.2.2.2.2.2.2)) else if u1 = (2 : Int32) then (f_X8_allYards r3.2.2.2.1).bind (fun r9 => (f_X8_back r3.2.1 r3.2.2.1 r3.2.2.2.1 r3.2.2.2.2.1 r3.2.2.2.2.2.1 r3.2.2.2.2.2.2.1 r3.2.2.2.2.2.2.2.2.2.2.2.2.2.2.2.1 r9).bind (fun r10 => some (r10.1, r10.2.1, r10.2.2.1, r10.2.2.2.1, r10.2.2.2.2.1, r10.2.2.2.2.2.1, r10.2.2.2.2.2.2, r3.2.2.2.2.2.2.2.1, r3.2.2.2.2.2.2.2.2.1, r3.2.2.2.2.2.2.2.2.2.1, r3.2.2.2.2.2.2.2.2.2.2.1, r3.2.2.2.2.2.2.2.2.2.2.2.1, r3.2.2.2.2.2.2.2.2.2.2.2.2.1, r3.2.2.2.2.2.2.2.2.2.2.2.2.2.1, r3.2.2.2.2.2.2.2.2.2.2.2.2.2.2.1, r3.2.2.2.2.2.2.2.2.2.2.2.2.2.2.2.1, r3.2.2.2.2.2.2.2.2.2.2.2.2.2.2.2.2.1, r3.2.2.2.2.2.2.2.2.2.2.2.2.2.2.2.2.2.1, r3.2.2.2.2.2.2.2.2.2.2.2.2.2.2.2.2.2.2.1, r3.2.2.2.2.2.2.2.2.2.2.2.2.2.2.2.2.2.2.2))) else (f_X8_back r3.2.1 r3.2.2.1 r3.2.2.2.1 r3.2.2.2.2.1 r3.2.2.2.2.2.1 r3.2.2.2.2.2.2.1 r3.2.2.2.2.2.2.2.2.2.2.2.2.2.2.2.1 r3.2.2.2.2.2.2.1).bind (fun r8 => some (r8.1, r8.2.1, r8.2.2.1, r8.2.2.2.1, r8.2.2.2.2.1, r8.2.2.2.2.2.1, r8.2.2.2.2.2.2, r3.2.2.2.2.2.2.2.1, r3.2.2.2.2.2.2.2.2.1, r3.2.2.2.2.2.2.2.2.2.1, r3.2.2.2.2.2.2.2.2.2.2.1, r3.2.2.2.2.2.2.2.2.2.2.2.1, r3.2.2.2.2.2.2.2.2.2.2.2.2.1, r3.2.2.2.2.2.2.2.2.2.2.2.2.2.1, r3.2.2.2.2.2.2.2.2.2.2.2.2.2.2.1, r3.2.2.2.2.2.2.2.2.2.2.2.2.2.2.2.1, r3.2.2.2.2.2.2.2.2.2.2.2.2.2.2.2.2.1, r3.2.2.2.2.2.2.2.2.2.2.2.2.2.2.2.2.2.1, r3.2.2.2.2.2.2.2.2.2.2.2.2.2.2.2.2.2.2.1, r3.2.2.2.2.2.2.2.2.2.2.2.2.2.2.2.2.2.2.2)) else (f_X8_back r3.2.1 r3.2.2.1 r3.2.2.2.1 r3.2.2.2.2.1 r3.2.2.2.2.2.1 r3.2.2.2.2.2.2.1 r3.2.2.2.2.2.2.2.2.2.2.2.2.2.2.2.1 r3.1).bind (fun r14 => some (r14.1, r14.2.1, r14.2.2.1, r14.2.2.2.1, r14.2.2.2.2.1, r14.2.2.2.2.2.1, r14.2.2.2.2.2.2, r3.2.2.2.2.2.2.2.1, r3.2.2.2.2.2.2.2.2.1, r3.2.2.2.2.2.2.2.2.2.1, r3.2.2.2.2.2.2.2.2.2.2.1, r3.2.2.2.2.2.2.2.2.2.2.2.1, r3.2.2.2.2.2.2.2.2.2.2.2.2.1, r3.2.2.2.2.2.2.2.2.2.2.2.2.2.1, r3.2.2.2.2.2.2.2.2.2.2.2.2.2.2.1, r3.2.2.2.2.2.2.2.2.2.2.2.2.2.2.2.1, r3.2.2.2.2.2.2.2.2.2.2.2.2.2.2.2.2.1, r3.2.2.2.2.2.2.2.2.2.2.2.2.2.2.2.2.2.1, r3.2.2.2.2.2.2.2.2.2.2.2.2.2.2.2.2.2.2.1, r3.2.2.2.2.2.2.2.2.2.2.2.2.2.2.2.2.2.2.2))))
set_option maxHeartbeats 4000000 in
set_option maxRecDepth 100000 in
theorem c_X8_line (l : Launch) (D : va_G) (cI cZ cG : ClassId) (h : Nat) (A : Nat → Nat) (yard : Nat → Int32) (feels : Nat → Int32) (length : Nat → Int32) (holding : Int32) (wool : Int32) (days : Int32) (sights : Int32) (pad : Nat → Int32) (padMany : Int32) (act : Nat → Int32) (who : Nat → Int32) (much : Nat → Int32) (acts : Int32) (then_ : Nat → Int32) (drawnBits : Int32) (drawnMany : Int32) (drawnNow : Int32) (had : Nat → Int32) (badAct : Int32) (badWhy : Int32) (drawnAct : Int32) (drawnChild : Int32) (keptAt : Int32) (isWriting : Int32) (u1 : Int32) (res : Int32 × (Nat → Int32) × (Nat → Int32) × (Nat → Int32) × Int32 × Int32 × Int32 × (Nat → Int32) × (Nat → Int32) × (Nat → Int32) × Int32 × (Nat → Int32) × Int32 × Int32 × Int32 × (Nat → Int32) × Int32 × Int32 × Int32 × Int32) (hf : f_X8_line yard feels length holding wool days pad padMany act who much acts then_ drawnBits drawnMany drawnNow had badAct badWhy drawnAct drawnChild u1 = some res) : CI l D (tysW cI cZ cG) yX8_line wsX8_line rm_X8_line [.ref h, .int u1] [(h, oX8 A holding wool days sights padMany acts drawnBits drawnMany drawnNow badAct badWhy drawnAct drawnChild keptAt isWriting), ((A 0), aI cI 10 yard), ((A 1), aI cI 10 feels), ((A 2), aI cI 9 length), ((A 9), aI cI 60 pad), ((A 11), aI cI 60 act), ((A 12), aI cI 60 who), ((A 13), aI cI 60 much), ((A 15), aI cI 10 then_), ((A 19), aI cI 32 had)] res.1 [(h, oX8 A res.2.2.2.2.1 res.2.2.2.2.2.1 res.2.2.2.2.2.2.1 sights padMany res.2.2.2.2.2.2.2.2.2.2.1 res.2.2.2.2.2.2.2.2.2.2.2.2.1 res.2.2.2.2.2.2.2.2.2.2.2.2.2.1 res.2.2.2.2.2.2.2.2.2.2.2.2.2.2.1 res.2.2.2.2.2.2.2.2.2.2.2.2.2.2.2.2.1 res.2.2.2.2.2.2.2.2.2.2.2.2.2.2.2.2.2.1 res.2.2.2.2.2.2.2.2.2.2.2.2.2.2.2.2.2.2.1 res.2.2.2.2.2.2.2.2.2.2.2.2.2.2.2.2.2.2.2 keptAt isWriting), ((A 0), aI cI 10 res.2.1), ((A 1), aI cI 10 res.2.2.1), ((A 2), aI cI 9 res.2.2.2.1), ((A 9), aI cI 60 pad), ((A 11), aI cI 60 res.2.2.2.2.2.2.2.1), ((A 12), aI cI 60 res.2.2.2.2.2.2.2.2.1), ((A 13), aI cI 60 res.2.2.2.2.2.2.2.2.2.1), ((A 15), aI cI 10 res.2.2.2.2.2.2.2.2.2.2.2.1), ((A 19), aI cI 32 res.2.2.2.2.2.2.2.2.2.2.2.2.2.2.2.1)] := by
  refine CG.intro (own := RX8) (by decide +kernel) rfl rfl (Nat.le_of_ble_eq_true rfl) (fun p e s m args below meth c C => ?_)
  refine r_lv (lv' := [(0, .ref h), (1, .int u1)]) [0, 1] rfl ?_
  unfold f_X8_line at hf
  refine r_iload_n C dX8_line_0 rfl 1 rfl rfl ?_
  refine r_i2l C dX8_line_1 rfl ?_
  refine r_lconst (v := (0 : Int64)) C dX8_line_2 rfl rfl ?_
  refine r_ldc2 C dX8_line_3 wc_X8_line_240 rfl ?_
  obtain ⟨r1, e1, hf⟩ := gd_b hf
  refine o_I (wn := [(h, oX8 A holding wool days sights padMany acts drawnBits drawnMany drawnNow badAct badWhy drawnAct drawnChild keptAt isWriting), ((A 0), aI cI 10 yard), ((A 1), aI cI 10 feels), ((A 2), aI cI 9 length), ((A 9), aI cI 60 pad), ((A 11), aI cI 60 act), ((A 12), aI cI 60 who), ((A 13), aI cI 60 much), ((A 15), aI cI 10 then_), ((A 19), aI cI 32 had)]) C [] rfl (x_S C dX8_line_6 (c_X8_in l D cI cZ cG u1.toInt64 (0 : Int64) (3 : Int64) r1 e1) rfl gX8_line_X8_in hs_X8_in rfl ⟨Nat.le_of_ble_eq_true rfl, Nat.le_of_ble_eq_true rfl⟩ ⟨rfl, rfl⟩ ⟨Nat.zero_le _, Nat.zero_le _⟩ rfl [] rfl rfl (Nat.le_of_ble_eq_true rfl) rfl) rfl rfl rfl ?_
  refine r_if_ne (y := 0) (tgt := 15) C dX8_line_9 rfl rfl (fun c2 => ?_) (fun c2 => ?_)
  · have hf := gd_f c2 hf
    refine r_aload_n C dX8_line_15 rfl 0 rfl rfl ?_
    obtain ⟨r3, e3, hf⟩ := gd_b hf
    refine o_I (wn := [(h, oX8 A r3.2.2.2.2.1 r3.2.2.2.2.2.1 r3.2.2.2.2.2.2.1 sights padMany r3.2.2.2.2.2.2.2.2.2.2.1 r3.2.2.2.2.2.2.2.2.2.2.2.2.1 r3.2.2.2.2.2.2.2.2.2.2.2.2.2.1 r3.2.2.2.2.2.2.2.2.2.2.2.2.2.2.1 r3.2.2.2.2.2.2.2.2.2.2.2.2.2.2.2.2.1 r3.2.2.2.2.2.2.2.2.2.2.2.2.2.2.2.2.2.1 r3.2.2.2.2.2.2.2.2.2.2.2.2.2.2.2.2.2.2.1 r3.2.2.2.2.2.2.2.2.2.2.2.2.2.2.2.2.2.2.2 keptAt isWriting), ((A 0), aI cI 10 r3.2.1), ((A 1), aI cI 10 r3.2.2.1), ((A 2), aI cI 9 r3.2.2.2.1), ((A 9), aI cI 60 pad), ((A 11), aI cI 60 r3.2.2.2.2.2.2.2.1), ((A 12), aI cI 60 r3.2.2.2.2.2.2.2.2.1), ((A 13), aI cI 60 r3.2.2.2.2.2.2.2.2.2.1), ((A 15), aI cI 10 r3.2.2.2.2.2.2.2.2.2.2.2.1), ((A 19), aI cI 32 r3.2.2.2.2.2.2.2.2.2.2.2.2.2.2.2.1)]) C [0, 1, 2, 3, 4, 5, 6, 7, 8, 9] rfl (x_V C dX8_line_16 (c_X8_refusal l D cI cZ cG h A yard feels length holding wool days sights pad padMany act who much acts then_ drawnBits drawnMany drawnNow had badAct badWhy drawnAct drawnChild keptAt isWriting r3 e3) rfl gX8_line_X8_refusal hd_X8_refusal rfl ⟨Nat.le_of_ble_eq_true rfl, Nat.le_of_ble_eq_true rfl⟩ ⟨rfl, rfl⟩ ⟨Nat.zero_le _, Nat.zero_le _⟩ rfl [0, 1, 2, 3, 4, 5, 6, 7, 8, 9] rfl rfl 0 rfl rfl (Nat.le_of_ble_eq_true rfl) rfl) rfl rfl rfl ?_
    refine r_istore_n (lv' := [(2, .int r3.1), (0, .ref h), (1, .int u1)]) C dX8_line_19 rfl (by decide) rfl rfl ?_
    refine r_aload_n C dX8_line_20 rfl 1 rfl rfl ?_
    refine r_iload_n C dX8_line_21 rfl 0 rfl rfl ?_
    refine r_bipush C dX8_line_22 kk_b_m6 rfl ?_
    refine r_icmp_eq (tgt := 31) C dX8_line_24 rfl rfl (fun c4 => ?_) (fun c4 => ?_)
    · have hf := gd_t c4 hf
      refine r_iload_n C dX8_line_31 rfl 2 rfl rfl ?_
      refine r_if_ne (y := 0) (tgt := 42) C dX8_line_32 rfl rfl (fun c5 => ?_) (fun c5 => ?_)
      · have hf := gd_f c5 hf
        refine r_iload_n C dX8_line_42 rfl 2 rfl rfl ?_
        refine r_iconst C dX8_line_43 kk_i_1 rfl ?_
        refine r_icmp_ne (tgt := 54) C dX8_line_44 rfl rfl (fun c6 => ?_) (fun c6 => ?_)
        · have hf := gd_f c6 hf
          refine r_iload_n C dX8_line_54 rfl 2 rfl rfl ?_
          refine r_iconst C dX8_line_55 kk_i_2 rfl ?_
          refine r_icmp_ne (tgt := 66) C dX8_line_56 rfl rfl (fun c7 => ?_) (fun c7 => ?_)
          · have hf := gd_f c7 hf
            refine r_aload_n C dX8_line_66 rfl 1 rfl rfl ?_
            refine r_get C dX8_line_67 fw_X8_line_X8 0 rfl rfl 5 (by decide) rfl fl_X8_line_168 rfl rfl ?_
            obtain ⟨r8, e8, hf⟩ := gd_b hf
            refine o_I (wn := [(h, oX8 A r8.2.2.2.2.1 r8.2.2.2.2.2.1 r8.2.2.2.2.2.2 sights padMany r3.2.2.2.2.2.2.2.2.2.2.1 r3.2.2.2.2.2.2.2.2.2.2.2.2.1 r3.2.2.2.2.2.2.2.2.2.2.2.2.2.1 r3.2.2.2.2.2.2.2.2.2.2.2.2.2.2.1 r3.2.2.2.2.2.2.2.2.2.2.2.2.2.2.2.2.1 r3.2.2.2.2.2.2.2.2.2.2.2.2.2.2.2.2.2.1 r3.2.2.2.2.2.2.2.2.2.2.2.2.2.2.2.2.2.2.1 r3.2.2.2.2.2.2.2.2.2.2.2.2.2.2.2.2.2.2.2 keptAt isWriting), ((A 0), aI cI 10 r8.2.1), ((A 1), aI cI 10 r8.2.2.1), ((A 2), aI cI 9 r8.2.2.2.1), ((A 9), aI cI 60 pad), ((A 11), aI cI 60 r3.2.2.2.2.2.2.2.1), ((A 12), aI cI 60 r3.2.2.2.2.2.2.2.2.1), ((A 13), aI cI 60 r3.2.2.2.2.2.2.2.2.2.1), ((A 15), aI cI 10 r3.2.2.2.2.2.2.2.2.2.2.2.1), ((A 19), aI cI 32 r3.2.2.2.2.2.2.2.2.2.2.2.2.2.2.2.1)]) C [0, 1, 2, 3, 9] rfl (x_V C dX8_line_70 (c_X8_back l D cI cZ cG h A r3.2.1 r3.2.2.1 r3.2.2.2.1 r3.2.2.2.2.1 r3.2.2.2.2.2.1 r3.2.2.2.2.2.2.1 sights padMany r3.2.2.2.2.2.2.2.2.2.2.1 r3.2.2.2.2.2.2.2.2.2.2.2.2.1 r3.2.2.2.2.2.2.2.2.2.2.2.2.2.1 r3.2.2.2.2.2.2.2.2.2.2.2.2.2.2.1 r3.2.2.2.2.2.2.2.2.2.2.2.2.2.2.2.1 r3.2.2.2.2.2.2.2.2.2.2.2.2.2.2.2.2.1 r3.2.2.2.2.2.2.2.2.2.2.2.2.2.2.2.2.2.1 r3.2.2.2.2.2.2.2.2.2.2.2.2.2.2.2.2.2.2.1 r3.2.2.2.2.2.2.2.2.2.2.2.2.2.2.2.2.2.2.2 keptAt isWriting r3.2.2.2.2.2.2.1 r8 e8) rfl gX8_line_X8_back hd_X8_back rfl ⟨Nat.le_of_ble_eq_true rfl, Nat.le_of_ble_eq_true rfl⟩ ⟨rfl, rfl⟩ ⟨Nat.zero_le _, Nat.zero_le _⟩ rfl [0, 1, 2, 3, 9] rfl rfl 0 rfl rfl (Nat.le_of_ble_eq_true rfl) rfl) rfl rfl rfl ?_
            cases hf
            exact r_iret C dX8_line_73 rfl
          · have hf := gd_t c7 hf
            refine r_aload_n C dX8_line_59 rfl 1 rfl rfl ?_
            obtain ⟨r9, e9, hf⟩ := gd_b hf
            refine o_I (wn := [(h, oX8 A r3.2.2.2.2.1 r3.2.2.2.2.2.1 r3.2.2.2.2.2.2.1 sights padMany r3.2.2.2.2.2.2.2.2.2.2.1 r3.2.2.2.2.2.2.2.2.2.2.2.2.1 r3.2.2.2.2.2.2.2.2.2.2.2.2.2.1 r3.2.2.2.2.2.2.2.2.2.2.2.2.2.2.1 r3.2.2.2.2.2.2.2.2.2.2.2.2.2.2.2.2.1 r3.2.2.2.2.2.2.2.2.2.2.2.2.2.2.2.2.2.1 r3.2.2.2.2.2.2.2.2.2.2.2.2.2.2.2.2.2.2.1 r3.2.2.2.2.2.2.2.2.2.2.2.2.2.2.2.2.2.2.2 keptAt isWriting), ((A 0), aI cI 10 r3.2.1), ((A 1), aI cI 10 r3.2.2.1), ((A 2), aI cI 9 r3.2.2.2.1), ((A 9), aI cI 60 pad), ((A 11), aI cI 60 r3.2.2.2.2.2.2.2.1), ((A 12), aI cI 60 r3.2.2.2.2.2.2.2.2.1), ((A 13), aI cI 60 r3.2.2.2.2.2.2.2.2.2.1), ((A 15), aI cI 10 r3.2.2.2.2.2.2.2.2.2.2.2.1), ((A 19), aI cI 32 r3.2.2.2.2.2.2.2.2.2.2.2.2.2.2.2.1)]) C [0, 3] rfl (x_V C dX8_line_60 (c_X8_allYards l D cI cZ cG h A r3.2.2.2.1 r3.2.2.2.2.1 r3.2.2.2.2.2.1 r3.2.2.2.2.2.2.1 sights padMany r3.2.2.2.2.2.2.2.2.2.2.1 r3.2.2.2.2.2.2.2.2.2.2.2.2.1 r3.2.2.2.2.2.2.2.2.2.2.2.2.2.1 r3.2.2.2.2.2.2.2.2.2.2.2.2.2.2.1 r3.2.2.2.2.2.2.2.2.2.2.2.2.2.2.2.2.1 r3.2.2.2.2.2.2.2.2.2.2.2.2.2.2.2.2.2.1 r3.2.2.2.2.2.2.2.2.2.2.2.2.2.2.2.2.2.2.1 r3.2.2.2.2.2.2.2.2.2.2.2.2.2.2.2.2.2.2.2 keptAt isWriting r9 e9) rfl gX8_line_X8_allYards hd_X8_allYards rfl ⟨Nat.le_of_ble_eq_true rfl, Nat.le_of_ble_eq_true rfl⟩ ⟨rfl, rfl⟩ ⟨Nat.zero_le _, Nat.zero_le _⟩ rfl [0, 3] rfl rfl 0 rfl rfl (Nat.le_of_ble_eq_true rfl) rfl) rfl rfl rfl ?_
            refine r_goto (tgt := 70) C dX8_line_63 rfl ?_
            obtain ⟨r10, e10, hf⟩ := gd_b hf
            refine o_I (wn := [(h, oX8 A r10.2.2.2.2.1 r10.2.2.2.2.2.1 r10.2.2.2.2.2.2 sights padMany r3.2.2.2.2.2.2.2.2.2.2.1 r3.2.2.2.2.2.2.2.2.2.2.2.2.1 r3.2.2.2.2.2.2.2.2.2.2.2.2.2.1 r3.2.2.2.2.2.2.2.2.2.2.2.2.2.2.1 r3.2.2.2.2.2.2.2.2.2.2.2.2.2.2.2.2.1 r3.2.2.2.2.2.2.2.2.2.2.2.2.2.2.2.2.2.1 r3.2.2.2.2.2.2.2.2.2.2.2.2.2.2.2.2.2.2.1 r3.2.2.2.2.2.2.2.2.2.2.2.2.2.2.2.2.2.2.2 keptAt isWriting), ((A 0), aI cI 10 r10.2.1), ((A 1), aI cI 10 r10.2.2.1), ((A 2), aI cI 9 r10.2.2.2.1), ((A 9), aI cI 60 pad), ((A 11), aI cI 60 r3.2.2.2.2.2.2.2.1), ((A 12), aI cI 60 r3.2.2.2.2.2.2.2.2.1), ((A 13), aI cI 60 r3.2.2.2.2.2.2.2.2.2.1), ((A 15), aI cI 10 r3.2.2.2.2.2.2.2.2.2.2.2.1), ((A 19), aI cI 32 r3.2.2.2.2.2.2.2.2.2.2.2.2.2.2.2.1)]) C [0, 1, 2, 3, 9] rfl (x_V C dX8_line_70 (c_X8_back l D cI cZ cG h A r3.2.1 r3.2.2.1 r3.2.2.2.1 r3.2.2.2.2.1 r3.2.2.2.2.2.1 r3.2.2.2.2.2.2.1 sights padMany r3.2.2.2.2.2.2.2.2.2.2.1 r3.2.2.2.2.2.2.2.2.2.2.2.2.1 r3.2.2.2.2.2.2.2.2.2.2.2.2.2.1 r3.2.2.2.2.2.2.2.2.2.2.2.2.2.2.1 r3.2.2.2.2.2.2.2.2.2.2.2.2.2.2.2.1 r3.2.2.2.2.2.2.2.2.2.2.2.2.2.2.2.2.1 r3.2.2.2.2.2.2.2.2.2.2.2.2.2.2.2.2.2.1 r3.2.2.2.2.2.2.2.2.2.2.2.2.2.2.2.2.2.2.1 r3.2.2.2.2.2.2.2.2.2.2.2.2.2.2.2.2.2.2.2 keptAt isWriting r9 r10 e10) rfl gX8_line_X8_back hd_X8_back rfl ⟨Nat.le_of_ble_eq_true rfl, Nat.le_of_ble_eq_true rfl⟩ ⟨rfl, rfl⟩ ⟨Nat.zero_le _, Nat.zero_le _⟩ rfl [0, 1, 2, 3, 9] rfl rfl 0 rfl rfl (Nat.le_of_ble_eq_true rfl) rfl) rfl rfl rfl ?_
            cases hf
            exact r_iret C dX8_line_73 rfl
        · have hf := gd_t c6 hf
          refine r_aload_n C dX8_line_47 rfl 1 rfl rfl ?_
          refine r_get C dX8_line_48 fw_X8_line_X8 0 rfl rfl 4 (by decide) rfl fl_X8_line_77 rfl rfl ?_
          refine r_goto (tgt := 70) C dX8_line_51 rfl ?_
          obtain ⟨r11, e11, hf⟩ := gd_b hf
          refine o_I (wn := [(h, oX8 A r11.2.2.2.2.1 r11.2.2.2.2.2.1 r11.2.2.2.2.2.2 sights padMany r3.2.2.2.2.2.2.2.2.2.2.1 r3.2.2.2.2.2.2.2.2.2.2.2.2.1 r3.2.2.2.2.2.2.2.2.2.2.2.2.2.1 r3.2.2.2.2.2.2.2.2.2.2.2.2.2.2.1 r3.2.2.2.2.2.2.2.2.2.2.2.2.2.2.2.2.1 r3.2.2.2.2.2.2.2.2.2.2.2.2.2.2.2.2.2.1 r3.2.2.2.2.2.2.2.2.2.2.2.2.2.2.2.2.2.2.1 r3.2.2.2.2.2.2.2.2.2.2.2.2.2.2.2.2.2.2.2 keptAt isWriting), ((A 0), aI cI 10 r11.2.1), ((A 1), aI cI 10 r11.2.2.1), ((A 2), aI cI 9 r11.2.2.2.1), ((A 9), aI cI 60 pad), ((A 11), aI cI 60 r3.2.2.2.2.2.2.2.1), ((A 12), aI cI 60 r3.2.2.2.2.2.2.2.2.1), ((A 13), aI cI 60 r3.2.2.2.2.2.2.2.2.2.1), ((A 15), aI cI 10 r3.2.2.2.2.2.2.2.2.2.2.2.1), ((A 19), aI cI 32 r3.2.2.2.2.2.2.2.2.2.2.2.2.2.2.2.1)]) C [0, 1, 2, 3, 9] rfl (x_V C dX8_line_70 (c_X8_back l D cI cZ cG h A r3.2.1 r3.2.2.1 r3.2.2.2.1 r3.2.2.2.2.1 r3.2.2.2.2.2.1 r3.2.2.2.2.2.2.1 sights padMany r3.2.2.2.2.2.2.2.2.2.2.1 r3.2.2.2.2.2.2.2.2.2.2.2.2.1 r3.2.2.2.2.2.2.2.2.2.2.2.2.2.1 r3.2.2.2.2.2.2.2.2.2.2.2.2.2.2.1 r3.2.2.2.2.2.2.2.2.2.2.2.2.2.2.2.1 r3.2.2.2.2.2.2.2.2.2.2.2.2.2.2.2.2.1 r3.2.2.2.2.2.2.2.2.2.2.2.2.2.2.2.2.2.1 r3.2.2.2.2.2.2.2.2.2.2.2.2.2.2.2.2.2.2.1 r3.2.2.2.2.2.2.2.2.2.2.2.2.2.2.2.2.2.2.2 keptAt isWriting r3.2.2.2.2.2.1 r11 e11) rfl gX8_line_X8_back hd_X8_back rfl ⟨Nat.le_of_ble_eq_true rfl, Nat.le_of_ble_eq_true rfl⟩ ⟨rfl, rfl⟩ ⟨Nat.zero_le _, Nat.zero_le _⟩ rfl [0, 1, 2, 3, 9] rfl rfl 0 rfl rfl (Nat.le_of_ble_eq_true rfl) rfl) rfl rfl rfl ?_
          cases hf
          exact r_iret C dX8_line_73 rfl
      · have hf := gd_t c5 hf
        refine r_aload_n C dX8_line_35 rfl 1 rfl rfl ?_
        obtain ⟨r12, e12, hf⟩ := gd_b hf
        refine o_I (wn := [(h, oX8 A r3.2.2.2.2.1 r3.2.2.2.2.2.1 r3.2.2.2.2.2.2.1 sights padMany r3.2.2.2.2.2.2.2.2.2.2.1 r3.2.2.2.2.2.2.2.2.2.2.2.2.1 r3.2.2.2.2.2.2.2.2.2.2.2.2.2.1 r3.2.2.2.2.2.2.2.2.2.2.2.2.2.2.1 r3.2.2.2.2.2.2.2.2.2.2.2.2.2.2.2.2.1 r3.2.2.2.2.2.2.2.2.2.2.2.2.2.2.2.2.2.1 r3.2.2.2.2.2.2.2.2.2.2.2.2.2.2.2.2.2.2.1 r3.2.2.2.2.2.2.2.2.2.2.2.2.2.2.2.2.2.2.2 keptAt isWriting), ((A 0), aI cI 10 r3.2.1), ((A 1), aI cI 10 r3.2.2.1), ((A 2), aI cI 9 r3.2.2.2.1), ((A 9), aI cI 60 pad), ((A 11), aI cI 60 r3.2.2.2.2.2.2.2.1), ((A 12), aI cI 60 r3.2.2.2.2.2.2.2.2.1), ((A 13), aI cI 60 r3.2.2.2.2.2.2.2.2.2.1), ((A 15), aI cI 10 r3.2.2.2.2.2.2.2.2.2.2.2.1), ((A 19), aI cI 32 r3.2.2.2.2.2.2.2.2.2.2.2.2.2.2.2.1)]) C [0, 1, 3] rfl (x_V C dX8_line_36 (c_X8_taut l D cI cZ cG h A r3.2.1 r3.2.2.2.1 r3.2.2.2.2.1 r3.2.2.2.2.2.1 r3.2.2.2.2.2.2.1 sights padMany r3.2.2.2.2.2.2.2.2.2.2.1 r3.2.2.2.2.2.2.2.2.2.2.2.2.1 r3.2.2.2.2.2.2.2.2.2.2.2.2.2.1 r3.2.2.2.2.2.2.2.2.2.2.2.2.2.2.1 r3.2.2.2.2.2.2.2.2.2.2.2.2.2.2.2.2.1 r3.2.2.2.2.2.2.2.2.2.2.2.2.2.2.2.2.2.1 r3.2.2.2.2.2.2.2.2.2.2.2.2.2.2.2.2.2.2.1 r3.2.2.2.2.2.2.2.2.2.2.2.2.2.2.2.2.2.2.2 keptAt isWriting r12 e12) rfl gX8_line_X8_taut hd_X8_taut rfl ⟨Nat.le_of_ble_eq_true rfl, Nat.le_of_ble_eq_true rfl⟩ ⟨rfl, rfl⟩ ⟨Nat.zero_le _, Nat.zero_le _⟩ rfl [0, 1, 3] rfl rfl 0 rfl rfl (Nat.le_of_ble_eq_true rfl) rfl) rfl rfl rfl ?_
        refine r_goto (tgt := 70) C dX8_line_39 rfl ?_
        obtain ⟨r13, e13, hf⟩ := gd_b hf
        refine o_I (wn := [(h, oX8 A r13.2.2.2.2.1 r13.2.2.2.2.2.1 r13.2.2.2.2.2.2 sights padMany r3.2.2.2.2.2.2.2.2.2.2.1 r3.2.2.2.2.2.2.2.2.2.2.2.2.1 r3.2.2.2.2.2.2.2.2.2.2.2.2.2.1 r3.2.2.2.2.2.2.2.2.2.2.2.2.2.2.1 r3.2.2.2.2.2.2.2.2.2.2.2.2.2.2.2.2.1 r3.2.2.2.2.2.2.2.2.2.2.2.2.2.2.2.2.2.1 r3.2.2.2.2.2.2.2.2.2.2.2.2.2.2.2.2.2.2.1 r3.2.2.2.2.2.2.2.2.2.2.2.2.2.2.2.2.2.2.2 keptAt isWriting), ((A 0), aI cI 10 r13.2.1), ((A 1), aI cI 10 r13.2.2.1), ((A 2), aI cI 9 r13.2.2.2.1), ((A 9), aI cI 60 pad), ((A 11), aI cI 60 r3.2.2.2.2.2.2.2.1), ((A 12), aI cI 60 r3.2.2.2.2.2.2.2.2.1), ((A 13), aI cI 60 r3.2.2.2.2.2.2.2.2.2.1), ((A 15), aI cI 10 r3.2.2.2.2.2.2.2.2.2.2.2.1), ((A 19), aI cI 32 r3.2.2.2.2.2.2.2.2.2.2.2.2.2.2.2.1)]) C [0, 1, 2, 3, 9] rfl (x_V C dX8_line_70 (c_X8_back l D cI cZ cG h A r3.2.1 r3.2.2.1 r3.2.2.2.1 r3.2.2.2.2.1 r3.2.2.2.2.2.1 r3.2.2.2.2.2.2.1 sights padMany r3.2.2.2.2.2.2.2.2.2.2.1 r3.2.2.2.2.2.2.2.2.2.2.2.2.1 r3.2.2.2.2.2.2.2.2.2.2.2.2.2.1 r3.2.2.2.2.2.2.2.2.2.2.2.2.2.2.1 r3.2.2.2.2.2.2.2.2.2.2.2.2.2.2.2.1 r3.2.2.2.2.2.2.2.2.2.2.2.2.2.2.2.2.1 r3.2.2.2.2.2.2.2.2.2.2.2.2.2.2.2.2.2.1 r3.2.2.2.2.2.2.2.2.2.2.2.2.2.2.2.2.2.2.1 r3.2.2.2.2.2.2.2.2.2.2.2.2.2.2.2.2.2.2.2 keptAt isWriting r12 r13 e13) rfl gX8_line_X8_back hd_X8_back rfl ⟨Nat.le_of_ble_eq_true rfl, Nat.le_of_ble_eq_true rfl⟩ ⟨rfl, rfl⟩ ⟨Nat.zero_le _, Nat.zero_le _⟩ rfl [0, 1, 2, 3, 9] rfl rfl 0 rfl rfl (Nat.le_of_ble_eq_true rfl) rfl) rfl rfl rfl ?_
        cases hf
        exact r_iret C dX8_line_73 rfl
    · have hf := gd_f c4 hf
      refine r_iload_n C dX8_line_27 rfl 0 rfl rfl ?_
      refine r_goto (tgt := 70) C dX8_line_28 rfl ?_
      obtain ⟨r14, e14, hf⟩ := gd_b hf
      refine o_I (wn := [(h, oX8 A r14.2.2.2.2.1 r14.2.2.2.2.2.1 r14.2.2.2.2.2.2 sights padMany r3.2.2.2.2.2.2.2.2.2.2.1 r3.2.2.2.2.2.2.2.2.2.2.2.2.1 r3.2.2.2.2.2.2.2.2.2.2.2.2.2.1 r3.2.2.2.2.2.2.2.2.2.2.2.2.2.2.1 r3.2.2.2.2.2.2.2.2.2.2.2.2.2.2.2.2.1 r3.2.2.2.2.2.2.2.2.2.2.2.2.2.2.2.2.2.1 r3.2.2.2.2.2.2.2.2.2.2.2.2.2.2.2.2.2.2.1 r3.2.2.2.2.2.2.2.2.2.2.2.2.2.2.2.2.2.2.2 keptAt isWriting), ((A 0), aI cI 10 r14.2.1), ((A 1), aI cI 10 r14.2.2.1), ((A 2), aI cI 9 r14.2.2.2.1), ((A 9), aI cI 60 pad), ((A 11), aI cI 60 r3.2.2.2.2.2.2.2.1), ((A 12), aI cI 60 r3.2.2.2.2.2.2.2.2.1), ((A 13), aI cI 60 r3.2.2.2.2.2.2.2.2.2.1), ((A 15), aI cI 10 r3.2.2.2.2.2.2.2.2.2.2.2.1), ((A 19), aI cI 32 r3.2.2.2.2.2.2.2.2.2.2.2.2.2.2.2.1)]) C [0, 1, 2, 3, 9] rfl (x_V C dX8_line_70 (c_X8_back l D cI cZ cG h A r3.2.1 r3.2.2.1 r3.2.2.2.1 r3.2.2.2.2.1 r3.2.2.2.2.2.1 r3.2.2.2.2.2.2.1 sights padMany r3.2.2.2.2.2.2.2.2.2.2.1 r3.2.2.2.2.2.2.2.2.2.2.2.2.1 r3.2.2.2.2.2.2.2.2.2.2.2.2.2.1 r3.2.2.2.2.2.2.2.2.2.2.2.2.2.2.1 r3.2.2.2.2.2.2.2.2.2.2.2.2.2.2.2.1 r3.2.2.2.2.2.2.2.2.2.2.2.2.2.2.2.2.1 r3.2.2.2.2.2.2.2.2.2.2.2.2.2.2.2.2.2.1 r3.2.2.2.2.2.2.2.2.2.2.2.2.2.2.2.2.2.2.1 r3.2.2.2.2.2.2.2.2.2.2.2.2.2.2.2.2.2.2.2 keptAt isWriting r3.1 r14 e14) rfl gX8_line_X8_back hd_X8_back rfl ⟨Nat.le_of_ble_eq_true rfl, Nat.le_of_ble_eq_true rfl⟩ ⟨rfl, rfl⟩ ⟨Nat.zero_le _, Nat.zero_le _⟩ rfl [0, 1, 2, 3, 9] rfl rfl 0 rfl rfl (Nat.le_of_ble_eq_true rfl) rfl) rfl rfl rfl ?_
      cases hf
      exact r_iret C dX8_line_73 rfl
  · have hf := gd_t c2 hf
    refine r_bipush C dX8_line_12 kk_b_m2 rfl ?_
    cases hf
    exact r_iret C dX8_line_14 rfl
theorem fw_X8_drawn_X8 : ∀ w ∈ u_ws RX8 TX8 37, w ∈ wsX8_drawn := by decide +kernel
theorem fl_X8_drawn_205 : Cond.fieldLink RX8 205 "MittenLineModel" "drawnChild" "I" ∈ wsX8_drawn := by decide +kernel
theorem fl_X8_drawn_199 : Cond.fieldLink RX8 199 "MittenLineModel" "drawnAct" "I" ∈ wsX8_drawn := by decide +kernel
abbrev rm_X8_drawn : Jvm.Room := { frames := 8, cells := 0, slots := 0, locals := 177 }
def f_X8_drawn (yard : Nat → Int32) (feels : Nat → Int32) (length : Nat → Int32) (holding : Int32) (wool : Int32) (days : Int32) (pad : Nat → Int32) (padMany : Int32) (act : Nat → Int32) (who : Nat → Int32) (much : Nat → Int32) (acts : Int32) (then_ : Nat → Int32) (drawnBits : Int32) (drawnMany : Int32) (drawnNow : Int32) (had : Nat → Int32) (badAct : Int32) (badWhy : Int32) (drawnAct : Int32) (drawnChild : Int32) (u1 : Int32) : Option (Int32 × (Nat → Int32) × (Nat → Int32) × (Nat → Int32) × Int32 × Int32 × Int32 × (Nat → Int32) × (Nat → Int32) × (Nat → Int32) × Int32 × (Nat → Int32) × Int32 × Int32 × Int32 × (Nat → Int32) × Int32 × Int32 × Int32 × Int32) := (f_X8_in u1.toInt64 (0 : Int64) (1 : Int64)).bind (fun r1 => if r1 = 0 then some ((-2 : Int32), yard, feels, length, holding, wool, days, act, who, much, acts, then_, drawnBits, drawnMany, drawnNow, had, badAct, badWhy, drawnAct, drawnChild) else (f_X8_refusal yard feels length holding wool days pad padMany act who much acts then_ drawnBits drawnMany drawnNow had badAct badWhy drawnAct drawnChild).bind (fun r3 => (f_X8_back r3.2.1 r3.2.2.1 r3.2.2.2.1 r3.2.2.2.2.1 r3.2.2.2.2.2.1 r3.2.2.2.2.2.2.1 r3.2.2.2.2.2.2.2.2.2.2.2.2.2.2.2.1 r3.1).bind (fun r4 => if r4.1 = (-6 : Int32) then if u1 = 0 then some (r3.2.2.2.2.2.2.2.2.2.2.2.2.2.2.2.2.2.2.1, r4.2.1, r4.2.2.1, r4.2.2.2.1, r4.2.2.2.2.1, r4.2.2.2.2.2.1, r4.2.2.2.2.2.2, r3.2.2.2.2.2.2.2.1, r3.2.2.2.2.2.2.2.2.1, r3.2.2.2.2.2.2.2.2.2.1, r3.2.2.2.2.2.2.2.2.2.2.1, r3.2.2.2.2.2.2.2.2.2.2.2.1, r3.2.2.2.2.2.2.2.2.2.2.2.2.1, r3.2.2.2.2.2.2.2.2.2.2.2.2.2.1, r3.2.2.2.2.2.2.2.2.2.2.2.2.2.2.1, r3.2.2.2.2.2.2.2.2.2.2.2.2.2.2.2.1, r3.2.2.2.2.2.2.2.2.2.2.2.2.2.2.2.2.1, r3.2.2.2.2.2.2.2.2.2.2.2.2.2.2.2.2.2.1, r3.2.2.2.2.2.2.2.2.2.2.2.2.2.2.2.2.2.2.1, r3.2.2.2.2.2.2.2.2.2.2.2.2.2.2.2.2.2.2.2) else some (r3.2.2.2.2.2.2.2.2.2.2.2.2.2.2.2.2.2.2.2, r4.2.1, r4.2.2.1, r4.2.2.2.1, r4.2.2.2.2.1, r4.2.2.2.2.2.1, r4.2.2.2.2.2.2, r3.2.2.2.2.2.2.2.1, r3.2.2.2.2.2.2.2.2.1, r3.2.2.2.2.2.2.2.2.2.1, r3.2.2.2.2.2.2.2.2.2.2.1, r3.2.2.2.2.2.2.2.2.2.2.2.1, r3.2.2.2.2.2.2.2.2.2.2.2.2.1, r3.2.2.2.2.2.2.2.2.2.2.2.2.2.1, r3.2.2.2.2.2.2.2.2.2.2.2.2.2.2.1, r3.2.2.2.2.2.2.2.2.2.2.2.2.2.2.2.1, r3.2.2.2.2.2.2.2.2.2.2.2.2.2.2.2.2.1, r3.2.2.2.2.2.2.2.2.2.2.2.2.2.2.2.2.2.1, r3.2.2.2.2.2.2.2.2.2.2.2.2.2.2.2.2.2.2.1, r3.2.2.2.2.2.2.2.2.2.2.2.2.2.2.2.2.2.2.2) else some (r4.1, r4.2.1, r4.2.2.1, r4.2.2.2.1, r4.2.2.2.2.1, r4.2.2.2.2.2.1, r4.2.2.2.2.2.2, r3.2.2.2.2.2.2.2.1, r3.2.2.2.2.2.2.2.2.1, r3.2.2.2.2.2.2.2.2.2.1, r3.2.2.2.2.2.2.2.2.2.2.1, r3.2.2.2.2.2.2.2.2.2.2.2.1, r3.2.2.2.2.2.2.2.2.2.2.2.2.1, r3.2.2.2.2.2.2.2.2.2.2.2.2.2.1, r3.2.2.2.2.2.2.2.2.2.2.2.2.2.2.1, r3.2.2.2.2.2.2.2.2.2.2.2.2.2.2.2.1, r3.2.2.2.2.2.2.2.2.2.2.2.2.2.2.2.2.1, r3.2.2.2.2.2.2.2.2.2.2.2.2.2.2.2.2.2.1, r3.2.2.2.2.2.2.2.2.2.2.2.2.2.2.2.2.2.2.1, r3.2.2.2.2.2.2.2.2.2.2.2.2.2.2.2.2.2.2.2))))
set_option maxHeartbeats 4000000 in
set_option maxRecDepth 100000 in
theorem c_X8_drawn (l : Launch) (D : va_G) (cI cZ cG : ClassId) (h : Nat) (A : Nat → Nat) (yard : Nat → Int32) (feels : Nat → Int32) (length : Nat → Int32) (holding : Int32) (wool : Int32) (days : Int32) (sights : Int32) (pad : Nat → Int32) (padMany : Int32) (act : Nat → Int32) (who : Nat → Int32) (much : Nat → Int32) (acts : Int32) (then_ : Nat → Int32) (drawnBits : Int32) (drawnMany : Int32) (drawnNow : Int32) (had : Nat → Int32) (badAct : Int32) (badWhy : Int32) (drawnAct : Int32) (drawnChild : Int32) (keptAt : Int32) (isWriting : Int32) (u1 : Int32) (res : Int32 × (Nat → Int32) × (Nat → Int32) × (Nat → Int32) × Int32 × Int32 × Int32 × (Nat → Int32) × (Nat → Int32) × (Nat → Int32) × Int32 × (Nat → Int32) × Int32 × Int32 × Int32 × (Nat → Int32) × Int32 × Int32 × Int32 × Int32) (hf : f_X8_drawn yard feels length holding wool days pad padMany act who much acts then_ drawnBits drawnMany drawnNow had badAct badWhy drawnAct drawnChild u1 = some res) : CI l D (tysW cI cZ cG) yX8_drawn wsX8_drawn rm_X8_drawn [.ref h, .int u1] [(h, oX8 A holding wool days sights padMany acts drawnBits drawnMany drawnNow badAct badWhy drawnAct drawnChild keptAt isWriting), ((A 0), aI cI 10 yard), ((A 1), aI cI 10 feels), ((A 2), aI cI 9 length), ((A 9), aI cI 60 pad), ((A 11), aI cI 60 act), ((A 12), aI cI 60 who), ((A 13), aI cI 60 much), ((A 15), aI cI 10 then_), ((A 19), aI cI 32 had)] res.1 [(h, oX8 A res.2.2.2.2.1 res.2.2.2.2.2.1 res.2.2.2.2.2.2.1 sights padMany res.2.2.2.2.2.2.2.2.2.2.1 res.2.2.2.2.2.2.2.2.2.2.2.2.1 res.2.2.2.2.2.2.2.2.2.2.2.2.2.1 res.2.2.2.2.2.2.2.2.2.2.2.2.2.2.1 res.2.2.2.2.2.2.2.2.2.2.2.2.2.2.2.2.1 res.2.2.2.2.2.2.2.2.2.2.2.2.2.2.2.2.2.1 res.2.2.2.2.2.2.2.2.2.2.2.2.2.2.2.2.2.2.1 res.2.2.2.2.2.2.2.2.2.2.2.2.2.2.2.2.2.2.2 keptAt isWriting), ((A 0), aI cI 10 res.2.1), ((A 1), aI cI 10 res.2.2.1), ((A 2), aI cI 9 res.2.2.2.1), ((A 9), aI cI 60 pad), ((A 11), aI cI 60 res.2.2.2.2.2.2.2.1), ((A 12), aI cI 60 res.2.2.2.2.2.2.2.2.1), ((A 13), aI cI 60 res.2.2.2.2.2.2.2.2.2.1), ((A 15), aI cI 10 res.2.2.2.2.2.2.2.2.2.2.2.1), ((A 19), aI cI 32 res.2.2.2.2.2.2.2.2.2.2.2.2.2.2.2.1)] := by
  refine CG.intro (own := RX8) (by decide +kernel) rfl rfl (Nat.le_of_ble_eq_true rfl) (fun p e s m args below meth c C => ?_)
  refine r_lv (lv' := [(0, .ref h), (1, .int u1)]) [0, 1] rfl ?_
  unfold f_X8_drawn at hf
  refine r_iload_n C dX8_drawn_0 rfl 1 rfl rfl ?_
  refine r_i2l C dX8_drawn_1 rfl ?_
  refine r_lconst (v := (0 : Int64)) C dX8_drawn_2 rfl rfl ?_
  refine r_lconst (v := (1 : Int64)) C dX8_drawn_3 rfl rfl ?_
  obtain ⟨r1, e1, hf⟩ := gd_b hf
  refine o_I (wn := [(h, oX8 A holding wool days sights padMany acts drawnBits drawnMany drawnNow badAct badWhy drawnAct drawnChild keptAt isWriting), ((A 0), aI cI 10 yard), ((A 1), aI cI 10 feels), ((A 2), aI cI 9 length), ((A 9), aI cI 60 pad), ((A 11), aI cI 60 act), ((A 12), aI cI 60 who), ((A 13), aI cI 60 much), ((A 15), aI cI 10 then_), ((A 19), aI cI 32 had)]) C [] rfl (x_S C dX8_drawn_4 (c_X8_in l D cI cZ cG u1.toInt64 (0 : Int64) (1 : Int64) r1 e1) rfl gX8_drawn_X8_in hs_X8_in rfl ⟨Nat.le_of_ble_eq_true rfl, Nat.le_of_ble_eq_true rfl⟩ ⟨rfl, rfl⟩ ⟨Nat.zero_le _, Nat.zero_le _⟩ rfl [] rfl rfl (Nat.le_of_ble_eq_true rfl) rfl) rfl rfl rfl ?_
  refine r_if_ne (y := 0) (tgt := 13) C dX8_drawn_7 rfl rfl (fun c2 => ?_) (fun c2 => ?_)
  · have hf := gd_f c2 hf
    refine r_aload_n C dX8_drawn_13 rfl 0 rfl rfl ?_
    refine r_aload_n C dX8_drawn_14 rfl 0 rfl rfl ?_
    obtain ⟨r3, e3, hf⟩ := gd_b hf
    refine o_I (wn := [(h, oX8 A r3.2.2.2.2.1 r3.2.2.2.2.2.1 r3.2.2.2.2.2.2.1 sights padMany r3.2.2.2.2.2.2.2.2.2.2.1 r3.2.2.2.2.2.2.2.2.2.2.2.2.1 r3.2.2.2.2.2.2.2.2.2.2.2.2.2.1 r3.2.2.2.2.2.2.2.2.2.2.2.2.2.2.1 r3.2.2.2.2.2.2.2.2.2.2.2.2.2.2.2.2.1 r3.2.2.2.2.2.2.2.2.2.2.2.2.2.2.2.2.2.1 r3.2.2.2.2.2.2.2.2.2.2.2.2.2.2.2.2.2.2.1 r3.2.2.2.2.2.2.2.2.2.2.2.2.2.2.2.2.2.2.2 keptAt isWriting), ((A 0), aI cI 10 r3.2.1), ((A 1), aI cI 10 r3.2.2.1), ((A 2), aI cI 9 r3.2.2.2.1), ((A 9), aI cI 60 pad), ((A 11), aI cI 60 r3.2.2.2.2.2.2.2.1), ((A 12), aI cI 60 r3.2.2.2.2.2.2.2.2.1), ((A 13), aI cI 60 r3.2.2.2.2.2.2.2.2.2.1), ((A 15), aI cI 10 r3.2.2.2.2.2.2.2.2.2.2.2.1), ((A 19), aI cI 32 r3.2.2.2.2.2.2.2.2.2.2.2.2.2.2.2.1)]) C [0, 1, 2, 3, 4, 5, 6, 7, 8, 9] rfl (x_V C dX8_drawn_15 (c_X8_refusal l D cI cZ cG h A yard feels length holding wool days sights pad padMany act who much acts then_ drawnBits drawnMany drawnNow had badAct badWhy drawnAct drawnChild keptAt isWriting r3 e3) rfl gX8_drawn_X8_refusal hd_X8_refusal rfl ⟨Nat.le_of_ble_eq_true rfl, Nat.le_of_ble_eq_true rfl⟩ ⟨rfl, rfl⟩ ⟨Nat.zero_le _, Nat.zero_le _⟩ rfl [0, 1, 2, 3, 4, 5, 6, 7, 8, 9] rfl rfl 0 rfl rfl (Nat.le_of_ble_eq_true rfl) rfl) rfl rfl rfl ?_
    obtain ⟨r4, e4, hf⟩ := gd_b hf
    refine o_I (wn := [(h, oX8 A r4.2.2.2.2.1 r4.2.2.2.2.2.1 r4.2.2.2.2.2.2 sights padMany r3.2.2.2.2.2.2.2.2.2.2.1 r3.2.2.2.2.2.2.2.2.2.2.2.2.1 r3.2.2.2.2.2.2.2.2.2.2.2.2.2.1 r3.2.2.2.2.2.2.2.2.2.2.2.2.2.2.1 r3.2.2.2.2.2.2.2.2.2.2.2.2.2.2.2.2.1 r3.2.2.2.2.2.2.2.2.2.2.2.2.2.2.2.2.2.1 r3.2.2.2.2.2.2.2.2.2.2.2.2.2.2.2.2.2.2.1 r3.2.2.2.2.2.2.2.2.2.2.2.2.2.2.2.2.2.2.2 keptAt isWriting), ((A 0), aI cI 10 r4.2.1), ((A 1), aI cI 10 r4.2.2.1), ((A 2), aI cI 9 r4.2.2.2.1), ((A 9), aI cI 60 pad), ((A 11), aI cI 60 r3.2.2.2.2.2.2.2.1), ((A 12), aI cI 60 r3.2.2.2.2.2.2.2.2.1), ((A 13), aI cI 60 r3.2.2.2.2.2.2.2.2.2.1), ((A 15), aI cI 10 r3.2.2.2.2.2.2.2.2.2.2.2.1), ((A 19), aI cI 32 r3.2.2.2.2.2.2.2.2.2.2.2.2.2.2.2.1)]) C [0, 1, 2, 3, 9] rfl (x_V C dX8_drawn_18 (c_X8_back l D cI cZ cG h A r3.2.1 r3.2.2.1 r3.2.2.2.1 r3.2.2.2.2.1 r3.2.2.2.2.2.1 r3.2.2.2.2.2.2.1 sights padMany r3.2.2.2.2.2.2.2.2.2.2.1 r3.2.2.2.2.2.2.2.2.2.2.2.2.1 r3.2.2.2.2.2.2.2.2.2.2.2.2.2.1 r3.2.2.2.2.2.2.2.2.2.2.2.2.2.2.1 r3.2.2.2.2.2.2.2.2.2.2.2.2.2.2.2.1 r3.2.2.2.2.2.2.2.2.2.2.2.2.2.2.2.2.1 r3.2.2.2.2.2.2.2.2.2.2.2.2.2.2.2.2.2.1 r3.2.2.2.2.2.2.2.2.2.2.2.2.2.2.2.2.2.2.1 r3.2.2.2.2.2.2.2.2.2.2.2.2.2.2.2.2.2.2.2 keptAt isWriting r3.1 r4 e4) rfl gX8_drawn_X8_back hd_X8_back rfl ⟨Nat.le_of_ble_eq_true rfl, Nat.le_of_ble_eq_true rfl⟩ ⟨rfl, rfl⟩ ⟨Nat.zero_le _, Nat.zero_le _⟩ rfl [0, 1, 2, 3, 9] rfl rfl 0 rfl rfl (Nat.le_of_ble_eq_true rfl) rfl) rfl rfl rfl ?_
    refine r_istore_n (lv' := [(2, .int r4.1), (0, .ref h), (1, .int u1)]) C dX8_drawn_21 rfl (by decide) rfl rfl ?_
    refine r_iload_n C dX8_drawn_22 rfl 0 rfl rfl ?_
    refine r_bipush C dX8_drawn_23 kk_b_m6 rfl ?_
    refine r_icmp_eq (tgt := 32) C dX8_drawn_25 rfl rfl (fun c5 => ?_) (fun c5 => ?_)
    · have hf := gd_t c5 hf
      refine r_iload_n C dX8_drawn_32 rfl 2 rfl rfl ?_
      refine r_if_ne (y := 0) (tgt := 43) C dX8_drawn_33 rfl rfl (fun c6 => ?_) (fun c6 => ?_)
      · have hf := gd_f c6 hf
        refine r_aload_n C dX8_drawn_43 rfl 1 rfl rfl ?_
        refine r_get C dX8_drawn_44 fw_X8_drawn_X8 0 rfl rfl 23 (by decide) rfl fl_X8_drawn_205 rfl rfl ?_
        cases hf
        exact r_iret C dX8_drawn_47 rfl
      · have hf := gd_t c6 hf
        refine r_aload_n C dX8_drawn_36 rfl 1 rfl rfl ?_
        refine r_get C dX8_drawn_37 fw_X8_drawn_X8 0 rfl rfl 22 (by decide) rfl fl_X8_drawn_199 rfl rfl ?_
        refine r_goto (tgt := 47) C dX8_drawn_40 rfl ?_
        cases hf
        exact r_iret C dX8_drawn_47 rfl
    · have hf := gd_f c5 hf
      refine r_iload_n C dX8_drawn_28 rfl 0 rfl rfl ?_
      refine r_goto (tgt := 47) C dX8_drawn_29 rfl ?_
      cases hf
      exact r_iret C dX8_drawn_47 rfl
  · have hf := gd_t c2 hf
    refine r_bipush C dX8_drawn_10 kk_b_m2 rfl ?_
    cases hf
    exact r_iret C dX8_drawn_12 rfl
theorem fw_X8_done_X8 : ∀ w ∈ u_ws RX8 TX8 37, w ∈ wsX8_done := by decide +kernel
theorem fl_X8_done_112 : Cond.fieldLink RX8 112 "MittenLineModel" "padMany" "I" ∈ wsX8_done := by decide +kernel
theorem fl_X8_done_115 : Cond.fieldLink RX8 115 "MittenLineModel" "acts" "I" ∈ wsX8_done := by decide +kernel
abbrev rm_X8_done : Jvm.Room := { frames := 8, cells := 0, slots := 0, locals := 177 }
def f_X8_done (yard : Nat → Int32) (feels : Nat → Int32) (length : Nat → Int32) (holding : Int32) (wool : Int32) (days : Int32) (pad : Nat → Int32) (padMany : Int32) (act : Nat → Int32) (who : Nat → Int32) (much : Nat → Int32) (acts : Int32) (then_ : Nat → Int32) (drawnBits : Int32) (drawnMany : Int32) (drawnNow : Int32) (had : Nat → Int32) (badAct : Int32) (badWhy : Int32) (drawnAct : Int32) (drawnChild : Int32) : Option (Int32 × (Nat → Int32) × (Nat → Int32) × (Nat → Int32) × Int32 × Int32 × Int32 × Int32 × (Nat → Int32) × (Nat → Int32) × (Nat → Int32) × Int32 × (Nat → Int32) × Int32 × Int32 × Int32 × (Nat → Int32) × Int32 × Int32 × Int32 × Int32) := (f_X8_refusal yard feels length holding wool days pad padMany act who much acts then_ drawnBits drawnMany drawnNow had badAct badWhy drawnAct drawnChild).bind (fun r1 => if r1.1 = (-6 : Int32) then some (r1.2.2.2.2.2.2.2.2.2.2.1, r1.2.1, r1.2.2.1, r1.2.2.2.1, r1.2.2.2.2.1, r1.2.2.2.2.2.1, r1.2.2.2.2.2.2.1, (0 : Int32), r1.2.2.2.2.2.2.2.1, r1.2.2.2.2.2.2.2.2.1, r1.2.2.2.2.2.2.2.2.2.1, r1.2.2.2.2.2.2.2.2.2.2.1, r1.2.2.2.2.2.2.2.2.2.2.2.1, r1.2.2.2.2.2.2.2.2.2.2.2.2.1, r1.2.2.2.2.2.2.2.2.2.2.2.2.2.1, r1.2.2.2.2.2.2.2.2.2.2.2.2.2.2.1, r1.2.2.2.2.2.2.2.2.2.2.2.2.2.2.2.1, r1.2.2.2.2.2.2.2.2.2.2.2.2.2.2.2.2.1, r1.2.2.2.2.2.2.2.2.2.2.2.2.2.2.2.2.2.1, r1.2.2.2.2.2.2.2.2.2.2.2.2.2.2.2.2.2.2.1, r1.2.2.2.2.2.2.2.2.2.2.2.2.2.2.2.2.2.2.2) else (f_X8_back r1.2.1 r1.2.2.1 r1.2.2.2.1 r1.2.2.2.2.1 r1.2.2.2.2.2.1 r1.2.2.2.2.2.2.1 r1.2.2.2.2.2.2.2.2.2.2.2.2.2.2.2.1 r1.1).bind (fun r3 => some (r3.1, r3.2.1, r3.2.2.1, r3.2.2.2.1, r3.2.2.2.2.1, r3.2.2.2.2.2.1, r3.2.2.2.2.2.2, padMany, r1.2.2.2.2.2.2.2.1, r1.2.2.2.2.2.2.2.2.1, r1.2.2.2.2.2.2.2.2.2.1, r1.2.2.2.2.2.2.2.2.2.2.1, r1.2.2.2.2.2.2.2.2.2.2.2.1, r1.2.2.2.2.2.2.2.2.2.2.2.2.1, r1.2.2.2.2.2.2.2.2.2.2.2.2.2.1, r1.2.2.2.2.2.2.2.2.2.2.2.2.2.2.1, r1.2.2.2.2.2.2.2.2.2.2.2.2.2.2.2.1, r1.2.2.2.2.2.2.2.2.2.2.2.2.2.2.2.2.1, r1.2.2.2.2.2.2.2.2.2.2.2.2.2.2.2.2.2.1, r1.2.2.2.2.2.2.2.2.2.2.2.2.2.2.2.2.2.2.1, r1.2.2.2.2.2.2.2.2.2.2.2.2.2.2.2.2.2.2.2)))
set_option maxHeartbeats 4000000 in
set_option maxRecDepth 100000 in
theorem c_X8_done (l : Launch) (D : va_G) (cI cZ cG : ClassId) (h : Nat) (A : Nat → Nat) (yard : Nat → Int32) (feels : Nat → Int32) (length : Nat → Int32) (holding : Int32) (wool : Int32) (days : Int32) (sights : Int32) (pad : Nat → Int32) (padMany : Int32) (act : Nat → Int32) (who : Nat → Int32) (much : Nat → Int32) (acts : Int32) (then_ : Nat → Int32) (drawnBits : Int32) (drawnMany : Int32) (drawnNow : Int32) (had : Nat → Int32) (badAct : Int32) (badWhy : Int32) (drawnAct : Int32) (drawnChild : Int32) (keptAt : Int32) (isWriting : Int32) (res : Int32 × (Nat → Int32) × (Nat → Int32) × (Nat → Int32) × Int32 × Int32 × Int32 × Int32 × (Nat → Int32) × (Nat → Int32) × (Nat → Int32) × Int32 × (Nat → Int32) × Int32 × Int32 × Int32 × (Nat → Int32) × Int32 × Int32 × Int32 × Int32) (hf : f_X8_done yard feels length holding wool days pad padMany act who much acts then_ drawnBits drawnMany drawnNow had badAct badWhy drawnAct drawnChild = some res) : CI l D (tysW cI cZ cG) yX8_done wsX8_done rm_X8_done [.ref h] [(h, oX8 A holding wool days sights padMany acts drawnBits drawnMany drawnNow badAct badWhy drawnAct drawnChild keptAt isWriting), ((A 0), aI cI 10 yard), ((A 1), aI cI 10 feels), ((A 2), aI cI 9 length), ((A 9), aI cI 60 pad), ((A 11), aI cI 60 act), ((A 12), aI cI 60 who), ((A 13), aI cI 60 much), ((A 15), aI cI 10 then_), ((A 19), aI cI 32 had)] res.1 [(h, oX8 A res.2.2.2.2.1 res.2.2.2.2.2.1 res.2.2.2.2.2.2.1 sights res.2.2.2.2.2.2.2.1 res.2.2.2.2.2.2.2.2.2.2.2.1 res.2.2.2.2.2.2.2.2.2.2.2.2.2.1 res.2.2.2.2.2.2.2.2.2.2.2.2.2.2.1 res.2.2.2.2.2.2.2.2.2.2.2.2.2.2.2.1 res.2.2.2.2.2.2.2.2.2.2.2.2.2.2.2.2.2.1 res.2.2.2.2.2.2.2.2.2.2.2.2.2.2.2.2.2.2.1 res.2.2.2.2.2.2.2.2.2.2.2.2.2.2.2.2.2.2.2.1 res.2.2.2.2.2.2.2.2.2.2.2.2.2.2.2.2.2.2.2.2 keptAt isWriting), ((A 0), aI cI 10 res.2.1), ((A 1), aI cI 10 res.2.2.1), ((A 2), aI cI 9 res.2.2.2.1), ((A 9), aI cI 60 pad), ((A 11), aI cI 60 res.2.2.2.2.2.2.2.2.1), ((A 12), aI cI 60 res.2.2.2.2.2.2.2.2.2.1), ((A 13), aI cI 60 res.2.2.2.2.2.2.2.2.2.2.1), ((A 15), aI cI 10 res.2.2.2.2.2.2.2.2.2.2.2.2.1), ((A 19), aI cI 32 res.2.2.2.2.2.2.2.2.2.2.2.2.2.2.2.2.1)] := by
  refine CG.intro (own := RX8) (by decide +kernel) rfl rfl (Nat.le_of_ble_eq_true rfl) (fun p e s m args below meth c C => ?_)
  refine r_lv (lv' := [(0, .ref h)]) [0] rfl ?_
  unfold f_X8_done at hf
  refine r_aload_n C dX8_done_0 rfl 0 rfl rfl ?_
  obtain ⟨r1, e1, hf⟩ := gd_b hf
  refine o_I (wn := [(h, oX8 A r1.2.2.2.2.1 r1.2.2.2.2.2.1 r1.2.2.2.2.2.2.1 sights padMany r1.2.2.2.2.2.2.2.2.2.2.1 r1.2.2.2.2.2.2.2.2.2.2.2.2.1 r1.2.2.2.2.2.2.2.2.2.2.2.2.2.1 r1.2.2.2.2.2.2.2.2.2.2.2.2.2.2.1 r1.2.2.2.2.2.2.2.2.2.2.2.2.2.2.2.2.1 r1.2.2.2.2.2.2.2.2.2.2.2.2.2.2.2.2.2.1 r1.2.2.2.2.2.2.2.2.2.2.2.2.2.2.2.2.2.2.1 r1.2.2.2.2.2.2.2.2.2.2.2.2.2.2.2.2.2.2.2 keptAt isWriting), ((A 0), aI cI 10 r1.2.1), ((A 1), aI cI 10 r1.2.2.1), ((A 2), aI cI 9 r1.2.2.2.1), ((A 9), aI cI 60 pad), ((A 11), aI cI 60 r1.2.2.2.2.2.2.2.1), ((A 12), aI cI 60 r1.2.2.2.2.2.2.2.2.1), ((A 13), aI cI 60 r1.2.2.2.2.2.2.2.2.2.1), ((A 15), aI cI 10 r1.2.2.2.2.2.2.2.2.2.2.2.1), ((A 19), aI cI 32 r1.2.2.2.2.2.2.2.2.2.2.2.2.2.2.2.1)]) C [0, 1, 2, 3, 4, 5, 6, 7, 8, 9] rfl (x_V C dX8_done_1 (c_X8_refusal l D cI cZ cG h A yard feels length holding wool days sights pad padMany act who much acts then_ drawnBits drawnMany drawnNow had badAct badWhy drawnAct drawnChild keptAt isWriting r1 e1) rfl gX8_done_X8_refusal hd_X8_refusal rfl ⟨Nat.le_of_ble_eq_true rfl, Nat.le_of_ble_eq_true rfl⟩ ⟨rfl, rfl⟩ ⟨Nat.zero_le _, Nat.zero_le _⟩ rfl [0, 1, 2, 3, 4, 5, 6, 7, 8, 9] rfl rfl 0 rfl rfl (Nat.le_of_ble_eq_true rfl) rfl) rfl rfl rfl ?_
  refine r_istore_n (lv' := [(1, .int r1.1), (0, .ref h)]) C dX8_done_4 rfl (by decide) rfl rfl ?_
  refine r_iload_n C dX8_done_5 rfl 0 rfl rfl ?_
  refine r_bipush C dX8_done_6 kk_b_m6 rfl ?_
  refine r_icmp_eq (tgt := 17) C dX8_done_8 rfl rfl (fun c2 => ?_) (fun c2 => ?_)
  · have hf := gd_t c2 hf
    refine r_aload_n C dX8_done_17 rfl 1 rfl rfl ?_
    refine r_iconst C dX8_done_18 kk_i_0 rfl ?_
    refine r_put (ty := .int) (ws' := [(h, oX8 A r1.2.2.2.2.1 r1.2.2.2.2.2.1 r1.2.2.2.2.2.2.1 sights (0 : Int32) r1.2.2.2.2.2.2.2.2.2.2.1 r1.2.2.2.2.2.2.2.2.2.2.2.2.1 r1.2.2.2.2.2.2.2.2.2.2.2.2.2.1 r1.2.2.2.2.2.2.2.2.2.2.2.2.2.2.1 r1.2.2.2.2.2.2.2.2.2.2.2.2.2.2.2.2.1 r1.2.2.2.2.2.2.2.2.2.2.2.2.2.2.2.2.2.1 r1.2.2.2.2.2.2.2.2.2.2.2.2.2.2.2.2.2.2.1 r1.2.2.2.2.2.2.2.2.2.2.2.2.2.2.2.2.2.2.2 keptAt isWriting), ((A 0), aI cI 10 r1.2.1), ((A 1), aI cI 10 r1.2.2.1), ((A 2), aI cI 9 r1.2.2.2.1), ((A 9), aI cI 60 pad), ((A 11), aI cI 60 r1.2.2.2.2.2.2.2.1), ((A 12), aI cI 60 r1.2.2.2.2.2.2.2.2.1), ((A 13), aI cI 60 r1.2.2.2.2.2.2.2.2.2.1), ((A 15), aI cI 10 r1.2.2.2.2.2.2.2.2.2.2.2.1), ((A 19), aI cI 32 r1.2.2.2.2.2.2.2.2.2.2.2.2.2.2.2.1)]) C dX8_done_19 fw_X8_done_X8 tyX8 tyX8_ok nmX8 0 rfl rfl 10 (by decide) rfl fl_X8_done_112 rfl (by decide +kernel) rfl rfl (Nat.le_of_ble_eq_true rfl) rfl rfl ?_
    refine r_aload_n C dX8_done_22 rfl 1 rfl rfl ?_
    refine r_get C dX8_done_23 fw_X8_done_X8 0 rfl rfl 14 (by decide) rfl fl_X8_done_115 rfl rfl ?_
    cases hf
    exact r_iret C dX8_done_26 rfl
  · have hf := gd_f c2 hf
    refine r_aload_n C dX8_done_11 rfl 1 rfl rfl ?_
    refine r_iload_n C dX8_done_12 rfl 0 rfl rfl ?_
    obtain ⟨r3, e3, hf⟩ := gd_b hf
    refine o_I (wn := [(h, oX8 A r3.2.2.2.2.1 r3.2.2.2.2.2.1 r3.2.2.2.2.2.2 sights padMany r1.2.2.2.2.2.2.2.2.2.2.1 r1.2.2.2.2.2.2.2.2.2.2.2.2.1 r1.2.2.2.2.2.2.2.2.2.2.2.2.2.1 r1.2.2.2.2.2.2.2.2.2.2.2.2.2.2.1 r1.2.2.2.2.2.2.2.2.2.2.2.2.2.2.2.2.1 r1.2.2.2.2.2.2.2.2.2.2.2.2.2.2.2.2.2.1 r1.2.2.2.2.2.2.2.2.2.2.2.2.2.2.2.2.2.2.1 r1.2.2.2.2.2.2.2.2.2.2.2.2.2.2.2.2.2.2.2 keptAt isWriting), ((A 0), aI cI 10 r3.2.1), ((A 1), aI cI 10 r3.2.2.1), ((A 2), aI cI 9 r3.2.2.2.1), ((A 9), aI cI 60 pad), ((A 11), aI cI 60 r1.2.2.2.2.2.2.2.1), ((A 12), aI cI 60 r1.2.2.2.2.2.2.2.2.1), ((A 13), aI cI 60 r1.2.2.2.2.2.2.2.2.2.1), ((A 15), aI cI 10 r1.2.2.2.2.2.2.2.2.2.2.2.1), ((A 19), aI cI 32 r1.2.2.2.2.2.2.2.2.2.2.2.2.2.2.2.1)]) C [0, 1, 2, 3, 9] rfl (x_V C dX8_done_13 (c_X8_back l D cI cZ cG h A r1.2.1 r1.2.2.1 r1.2.2.2.1 r1.2.2.2.2.1 r1.2.2.2.2.2.1 r1.2.2.2.2.2.2.1 sights padMany r1.2.2.2.2.2.2.2.2.2.2.1 r1.2.2.2.2.2.2.2.2.2.2.2.2.1 r1.2.2.2.2.2.2.2.2.2.2.2.2.2.1 r1.2.2.2.2.2.2.2.2.2.2.2.2.2.2.1 r1.2.2.2.2.2.2.2.2.2.2.2.2.2.2.2.1 r1.2.2.2.2.2.2.2.2.2.2.2.2.2.2.2.2.1 r1.2.2.2.2.2.2.2.2.2.2.2.2.2.2.2.2.2.1 r1.2.2.2.2.2.2.2.2.2.2.2.2.2.2.2.2.2.2.1 r1.2.2.2.2.2.2.2.2.2.2.2.2.2.2.2.2.2.2.2 keptAt isWriting r1.1 r3 e3) rfl gX8_done_X8_back hd_X8_back rfl ⟨Nat.le_of_ble_eq_true rfl, Nat.le_of_ble_eq_true rfl⟩ ⟨rfl, rfl⟩ ⟨Nat.zero_le _, Nat.zero_le _⟩ rfl [0, 1, 2, 3, 9] rfl rfl 0 rfl rfl (Nat.le_of_ble_eq_true rfl) rfl) rfl rfl rfl ?_
    cases hf
    exact r_iret C dX8_done_16 rfl
end
