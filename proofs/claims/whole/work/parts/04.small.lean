section
variable {p : Program} {l : Launch} {e : Env} {s : State} {m : MethodId} {args : Array Value} {below : List Frame} {meth : Method} {c : Code} {D : va_G} {cI cZ cG : ClassId} {w0 : va_W}
abbrev rm_X7_isWithin : Jvm.Room := { frames := 0, cells := 0, slots := 0, locals := 0 }
def f_X7_isWithin (u0 : Int32) (u1 : Int32) (u2 : Int32) : Option (Int32) := if u0 < u1 then some ((0 : Int32)) else if u2 < u0 then some ((0 : Int32)) else some ((1 : Int32))
set_option maxHeartbeats 4000000 in
set_option maxRecDepth 100000 in
theorem c_X7_isWithin (l : Launch) (D : va_G) (cI cZ cG : ClassId) (u0 : Int32) (u1 : Int32) (u2 : Int32) (res : Int32) (hf : f_X7_isWithin u0 u1 u2 = some res) : CI l D (tysW cI cZ cG) yX7_isWithin wsX7_isWithin rm_X7_isWithin [.int u0, .int u1, .int u2] [] res [] := by
  refine CG.intro (own := RX7) (by decide +kernel) rfl rfl (Nat.le_of_ble_eq_true rfl) (fun p e s m args below meth c C => ?_)
  refine r_lv (lv' := [(0, .int u0), (1, .int u1), (2, .int u2)]) [0, 1, 2] rfl ?_
  unfold f_X7_isWithin at hf
  refine r_iload_n C dX7_isWithin_0 rfl 0 rfl rfl ?_
  refine r_iload_n C dX7_isWithin_1 rfl 1 rfl rfl ?_
  refine r_icmp_lt (tgt := 14) C dX7_isWithin_2 rfl rfl (fun c1 => ?_) (fun c1 => ?_)
  · have hf := gd_t c1 hf
    refine r_iconst C dX7_isWithin_14 kk_i_0 rfl ?_
    cases hf
    exact r_zret C dX7_isWithin_15 nb0 rfl
  · have hf := gd_f c1 hf
    refine r_iload_n C dX7_isWithin_5 rfl 0 rfl rfl ?_
    refine r_iload_n C dX7_isWithin_6 rfl 2 rfl rfl ?_
    refine r_icmp_gt (tgt := 14) C dX7_isWithin_7 rfl rfl (fun c2 => ?_) (fun c2 => ?_)
    · have hf := gd_t c2 hf
      refine r_iconst C dX7_isWithin_14 kk_i_0 rfl ?_
      cases hf
      exact r_zret C dX7_isWithin_15 nb0 rfl
    · have hf := gd_f c2 hf
      refine r_iconst C dX7_isWithin_10 kk_i_1 rfl ?_
      refine r_goto (tgt := 15) C dX7_isWithin_11 rfl ?_
      cases hf
      exact r_zret C dX7_isWithin_15 nb1 rfl
abbrev rm_X7_leastBit : Jvm.Room := { frames := 0, cells := 0, slots := 0, locals := 0 }
def f_X7_leastBit_2 (u0 : Int32) : Nat → Int32 → Option (Int32)
  | 0, _ => none
  | n + 1, u1 => if (9 : Int32) < u1 then some ((-6 : Int32)) else if ((u0 >>> (u1 &&& 31)) &&& (1 : Int32)) = (1 : Int32) then some (u1) else f_X7_leastBit_2 u0 n (u1 + (1 : Int32))
set_option maxHeartbeats 4000000 in
set_option maxRecDepth 100000 in
theorem k_X7_leastBit_2 (C : Cx p s m args meth c D (tysW cI cZ cG) RX7 cX7_leastBit 2 wsX7_leastBit (some .int)) (u0 : Int32)  (res : Int32) : ∀ (n : Nat) (u1 : Int32), f_X7_leastBit_2 u0 n u1 = some res → Wd p l e rm_X7_leastBit s m args below meth c D w0 2 0 0 (MQ below (QcI D (tysW cI cZ cG) w0 [] res s.heap.size) args s 0 0 (va_A w0 s.heap.size)) [] [(0, .int u0), (1, .int u1)] 2 [] := by
  intro n
  induction n with
  | zero =>
    intro u1 hf
    exact no_none hf
  | succ n ih =>
    intro u1 hf
    unfold f_X7_leastBit_2 at hf
    refine r_iload_n C dX7_leastBit_2 rfl 1 rfl rfl ?_
    refine r_bipush C dX7_leastBit_3 kk_b_9 rfl ?_
    refine r_icmp_gt (tgt := 25) C dX7_leastBit_5 rfl rfl (fun c1 => ?_) (fun c1 => ?_)
    · have hf := gd_t c1 hf
      refine r_bipush C dX7_leastBit_25 kk_b_m6 rfl ?_
      cases hf
      exact r_iret C dX7_leastBit_27 rfl
    · have hf := gd_f c1 hf
      refine r_iload_n C dX7_leastBit_8 rfl 0 rfl rfl ?_
      refine r_iload_n C dX7_leastBit_9 rfl 1 rfl rfl ?_
      refine r_ishr C dX7_leastBit_10 rfl ?_
      refine r_iconst C dX7_leastBit_11 kk_i_1 rfl ?_
      refine r_iand C dX7_leastBit_12 rfl ?_
      refine r_iconst C dX7_leastBit_13 kk_i_1 rfl ?_
      refine r_icmp_ne (tgt := 19) C dX7_leastBit_14 rfl rfl (fun c2 => ?_) (fun c2 => ?_)
      · have hf := gd_f c2 hf
        refine r_iinc (lv' := [(1, .int (u1 + (1 : Int32))), (0, .int u0)]) C dX7_leastBit_19 1 rfl (ki_1 _) (by decide) rfl rfl ?_
        refine r_goto (tgt := 2) C dX7_leastBit_22 rfl ?_
        refine r_lv (lv' := [(0, .int u0), (1, .int (u1 + (1 : Int32)))]) [1, 0] rfl ?_
        exact ih _ hf
      · have hf := gd_t c2 hf
        refine r_iload_n C dX7_leastBit_17 rfl 1 rfl rfl ?_
        cases hf
        exact r_iret C dX7_leastBit_18 rfl
def f_X7_leastBit (u0 : Int32) : Option (Int32) := f_X7_leastBit_2 u0 2000 (0 : Int32)
set_option maxHeartbeats 4000000 in
set_option maxRecDepth 100000 in
theorem c_X7_leastBit (l : Launch) (D : va_G) (cI cZ cG : ClassId) (u0 : Int32) (res : Int32) (hf : f_X7_leastBit u0 = some res) : CI l D (tysW cI cZ cG) yX7_leastBit wsX7_leastBit rm_X7_leastBit [.int u0] [] res [] := by
  refine CG.intro (own := RX7) (by decide +kernel) rfl rfl (Nat.le_of_ble_eq_true rfl) (fun p e s m args below meth c C => ?_)
  refine r_lv (lv' := [(0, .int u0)]) [0] rfl ?_
  unfold f_X7_leastBit at hf
  refine r_iconst C dX7_leastBit_0 kk_i_0 rfl ?_
  refine r_istore_n (lv' := [(1, .int (0 : Int32)), (0, .int u0)]) C dX7_leastBit_1 rfl (by decide) rfl rfl ?_
  refine r_lv (lv' := [(0, .int u0), (1, .int (0 : Int32))]) [1, 0] rfl ?_
  refine k_X7_leastBit_2 C u0 _ 2000 _ hf
theorem wc_J6_bitCount_0f7a4_265 : Cond.constant RJ6 265 (1431655765 : Int32) ∈ wsJ6_bitCount_0f7a4 := by decide +kernel
theorem wc_J6_bitCount_0f7a4_266 : Cond.constant RJ6 266 (858993459 : Int32) ∈ wsJ6_bitCount_0f7a4 := by decide +kernel
theorem wc_J6_bitCount_0f7a4_267 : Cond.constant RJ6 267 (252645135 : Int32) ∈ wsJ6_bitCount_0f7a4 := by decide +kernel
abbrev rm_J6_bitCount_0f7a4 : Jvm.Room := { frames := 0, cells := 0, slots := 0, locals := 0 }
def f_J6_bitCount_0f7a4 (u0 : Int32) : Option (Int32) := some (((((((((u0 - ((u0.toUInt32 >>> ((1 : Int32).toUInt32 &&& Int32.toUInt32 31)).toInt32 &&& (1431655765 : Int32))) &&& (858993459 : Int32)) + (((u0 - ((u0.toUInt32 >>> ((1 : Int32).toUInt32 &&& Int32.toUInt32 31)).toInt32 &&& (1431655765 : Int32))).toUInt32 >>> ((2 : Int32).toUInt32 &&& Int32.toUInt32 31)).toInt32 &&& (858993459 : Int32))) + ((((u0 - ((u0.toUInt32 >>> ((1 : Int32).toUInt32 &&& Int32.toUInt32 31)).toInt32 &&& (1431655765 : Int32))) &&& (858993459 : Int32)) + (((u0 - ((u0.toUInt32 >>> ((1 : Int32).toUInt32 &&& Int32.toUInt32 31)).toInt32 &&& (1431655765 : Int32))).toUInt32 >>> ((2 : Int32).toUInt32 &&& Int32.toUInt32 31)).toInt32 &&& (858993459 : Int32))).toUInt32 >>> ((4 : Int32).toUInt32 &&& Int32.toUInt32 31)).toInt32) &&& (252645135 : Int32)) + ((((((u0 - ((u0.toUInt32 >>> ((1 : Int32).toUInt32 &&& Int32.toUInt32 31)).toInt32 &&& (1431655765 : Int32))) &&& (858993459 : Int32)) + (((u0 - ((u0.toUInt32 >>> ((1 : Int32).toUInt32 &&& Int32.toUInt32 31)).toInt32 &&& (1431655765 : Int32))).toUInt32 >>> ((2 : Int32).toUInt32 &&& Int32.toUInt32 31)).toInt32 &&& (858993459 : Int32))) + ((((u0 - ((u0.toUInt32 >>> ((1 : Int32).toUInt32 &&& Int32.toUInt32 31)).toInt32 &&& (1431655765 : Int32))) &&& (858993459 : Int32)) + (((u0 - ((u0.toUInt32 >>> ((1 : Int32).toUInt32 &&& Int32.toUInt32 31)).toInt32 &&& (1431655765 : Int32))).toUInt32 >>> ((2 : Int32).toUInt32 &&& Int32.toUInt32 31)).toInt32 &&& (858993459 : Int32))).toUInt32 >>> ((4 : Int32).toUInt32 &&& Int32.toUInt32 31)).toInt32) &&& (252645135 : Int32)).toUInt32 >>> ((8 : Int32).toUInt32 &&& Int32.toUInt32 31)).toInt32) + (((((((u0 - ((u0.toUInt32 >>> ((1 : Int32).toUInt32 &&& Int32.toUInt32 31)).toInt32 &&& (1431655765 : Int32))) &&& (858993459 : Int32)) + (((u0 - ((u0.toUInt32 >>> ((1 : Int32).toUInt32 &&& Int32.toUInt32 31)).toInt32 &&& (1431655765 : Int32))).toUInt32 >>> ((2 : Int32).toUInt32 &&& Int32.toUInt32 31)).toInt32 &&& (858993459 : Int32))) + ((((u0 - ((u0.toUInt32 >>> ((1 : Int32).toUInt32 &&& Int32.toUInt32 31)).toInt32 &&& (1431655765 : Int32))) &&& (858993459 : Int32)) + (((u0 - ((u0.toUInt32 >>> ((1 : Int32).toUInt32 &&& Int32.toUInt32 31)).toInt32 &&& (1431655765 : Int32))).toUInt32 >>> ((2 : Int32).toUInt32 &&& Int32.toUInt32 31)).toInt32 &&& (858993459 : Int32))).toUInt32 >>> ((4 : Int32).toUInt32 &&& Int32.toUInt32 31)).toInt32) &&& (252645135 : Int32)) + ((((((u0 - ((u0.toUInt32 >>> ((1 : Int32).toUInt32 &&& Int32.toUInt32 31)).toInt32 &&& (1431655765 : Int32))) &&& (858993459 : Int32)) + (((u0 - ((u0.toUInt32 >>> ((1 : Int32).toUInt32 &&& Int32.toUInt32 31)).toInt32 &&& (1431655765 : Int32))).toUInt32 >>> ((2 : Int32).toUInt32 &&& Int32.toUInt32 31)).toInt32 &&& (858993459 : Int32))) + ((((u0 - ((u0.toUInt32 >>> ((1 : Int32).toUInt32 &&& Int32.toUInt32 31)).toInt32 &&& (1431655765 : Int32))) &&& (858993459 : Int32)) + (((u0 - ((u0.toUInt32 >>> ((1 : Int32).toUInt32 &&& Int32.toUInt32 31)).toInt32 &&& (1431655765 : Int32))).toUInt32 >>> ((2 : Int32).toUInt32 &&& Int32.toUInt32 31)).toInt32 &&& (858993459 : Int32))).toUInt32 >>> ((4 : Int32).toUInt32 &&& Int32.toUInt32 31)).toInt32) &&& (252645135 : Int32)).toUInt32 >>> ((8 : Int32).toUInt32 &&& Int32.toUInt32 31)).toInt32).toUInt32 >>> ((16 : Int32).toUInt32 &&& Int32.toUInt32 31)).toInt32) &&& (63 : Int32)))
set_option maxHeartbeats 4000000 in
set_option maxRecDepth 100000 in
theorem c_J6_bitCount_0f7a4 (l : Launch) (D : va_G) (cI cZ cG : ClassId) (u0 : Int32) (res : Int32) (hf : f_J6_bitCount_0f7a4 u0 = some res) : CI l D (tysW cI cZ cG) yJ6_bitCount_0f7a4 wsJ6_bitCount_0f7a4 rm_J6_bitCount_0f7a4 [.int u0] [] res [] := by
  refine CG.intro (own := RJ6) (by decide +kernel) rfl rfl (Nat.le_of_ble_eq_true rfl) (fun p e s m args below meth c C => ?_)
  refine r_lv (lv' := [(0, .int u0)]) [0] rfl ?_
  unfold f_J6_bitCount_0f7a4 at hf
  refine r_iload_n C dJ6_bitCount_0f7a4_0 rfl 0 rfl rfl ?_
  refine r_iload_n C dJ6_bitCount_0f7a4_1 rfl 0 rfl rfl ?_
  refine r_iconst C dJ6_bitCount_0f7a4_2 kk_i_1 rfl ?_
  refine r_iushr C dJ6_bitCount_0f7a4_3 rfl ?_
  refine r_ldcw C dJ6_bitCount_0f7a4_4 wc_J6_bitCount_0f7a4_265 rfl ?_
  refine r_iand C dJ6_bitCount_0f7a4_7 rfl ?_
  refine r_isub C dJ6_bitCount_0f7a4_8 rfl ?_
  refine r_istore_n (lv' := [(0, .int (u0 - ((u0.toUInt32 >>> ((1 : Int32).toUInt32 &&& Int32.toUInt32 31)).toInt32 &&& (1431655765 : Int32))))]) C dJ6_bitCount_0f7a4_9 rfl (by decide) rfl rfl ?_
  refine r_iload_n C dJ6_bitCount_0f7a4_10 rfl 0 rfl rfl ?_
  refine r_ldcw C dJ6_bitCount_0f7a4_11 wc_J6_bitCount_0f7a4_266 rfl ?_
  refine r_iand C dJ6_bitCount_0f7a4_14 rfl ?_
  refine r_iload_n C dJ6_bitCount_0f7a4_15 rfl 0 rfl rfl ?_
  refine r_iconst C dJ6_bitCount_0f7a4_16 kk_i_2 rfl ?_
  refine r_iushr C dJ6_bitCount_0f7a4_17 rfl ?_
  refine r_ldcw C dJ6_bitCount_0f7a4_18 wc_J6_bitCount_0f7a4_266 rfl ?_
  refine r_iand C dJ6_bitCount_0f7a4_21 rfl ?_
  refine r_iadd C dJ6_bitCount_0f7a4_22 rfl ?_
  refine r_istore_n (lv' := [(0, .int (((u0 - ((u0.toUInt32 >>> ((1 : Int32).toUInt32 &&& Int32.toUInt32 31)).toInt32 &&& (1431655765 : Int32))) &&& (858993459 : Int32)) + (((u0 - ((u0.toUInt32 >>> ((1 : Int32).toUInt32 &&& Int32.toUInt32 31)).toInt32 &&& (1431655765 : Int32))).toUInt32 >>> ((2 : Int32).toUInt32 &&& Int32.toUInt32 31)).toInt32 &&& (858993459 : Int32))))]) C dJ6_bitCount_0f7a4_23 rfl (by decide) rfl rfl ?_
  refine r_iload_n C dJ6_bitCount_0f7a4_24 rfl 0 rfl rfl ?_
  refine r_iload_n C dJ6_bitCount_0f7a4_25 rfl 0 rfl rfl ?_
  refine r_iconst C dJ6_bitCount_0f7a4_26 kk_i_4 rfl ?_
  refine r_iushr C dJ6_bitCount_0f7a4_27 rfl ?_
  refine r_iadd C dJ6_bitCount_0f7a4_28 rfl ?_
  refine r_ldcw C dJ6_bitCount_0f7a4_29 wc_J6_bitCount_0f7a4_267 rfl ?_
  refine r_iand C dJ6_bitCount_0f7a4_32 rfl ?_
  refine r_istore_n (lv' := [(0, .int (((((u0 - ((u0.toUInt32 >>> ((1 : Int32).toUInt32 &&& Int32.toUInt32 31)).toInt32 &&& (1431655765 : Int32))) &&& (858993459 : Int32)) + (((u0 - ((u0.toUInt32 >>> ((1 : Int32).toUInt32 &&& Int32.toUInt32 31)).toInt32 &&& (1431655765 : Int32))).toUInt32 >>> ((2 : Int32).toUInt32 &&& Int32.toUInt32 31)).toInt32 &&& (858993459 : Int32))) + ((((u0 - ((u0.toUInt32 >>> ((1 : Int32).toUInt32 &&& Int32.toUInt32 31)).toInt32 &&& (1431655765 : Int32))) &&& (858993459 : Int32)) + (((u0 - ((u0.toUInt32 >>> ((1 : Int32).toUInt32 &&& Int32.toUInt32 31)).toInt32 &&& (1431655765 : Int32))).toUInt32 >>> ((2 : Int32).toUInt32 &&& Int32.toUInt32 31)).toInt32 &&& (858993459 : Int32))).toUInt32 >>> ((4 : Int32).toUInt32 &&& Int32.toUInt32 31)).toInt32) &&& (252645135 : Int32)))]) C dJ6_bitCount_0f7a4_33 rfl (by decide) rfl rfl ?_
  refine r_iload_n C dJ6_bitCount_0f7a4_34 rfl 0 rfl rfl ?_
  refine r_iload_n C dJ6_bitCount_0f7a4_35 rfl 0 rfl rfl ?_
  refine r_bipush C dJ6_bitCount_0f7a4_36 kk_b_8 rfl ?_
  refine r_iushr C dJ6_bitCount_0f7a4_38 rfl ?_
  refine r_iadd C dJ6_bitCount_0f7a4_39 rfl ?_
  refine r_istore_n (lv' := [(0, .int ((((((u0 - ((u0.toUInt32 >>> ((1 : Int32).toUInt32 &&& Int32.toUInt32 31)).toInt32 &&& (1431655765 : Int32))) &&& (858993459 : Int32)) + (((u0 - ((u0.toUInt32 >>> ((1 : Int32).toUInt32 &&& Int32.toUInt32 31)).toInt32 &&& (1431655765 : Int32))).toUInt32 >>> ((2 : Int32).toUInt32 &&& Int32.toUInt32 31)).toInt32 &&& (858993459 : Int32))) + ((((u0 - ((u0.toUInt32 >>> ((1 : Int32).toUInt32 &&& Int32.toUInt32 31)).toInt32 &&& (1431655765 : Int32))) &&& (858993459 : Int32)) + (((u0 - ((u0.toUInt32 >>> ((1 : Int32).toUInt32 &&& Int32.toUInt32 31)).toInt32 &&& (1431655765 : Int32))).toUInt32 >>> ((2 : Int32).toUInt32 &&& Int32.toUInt32 31)).toInt32 &&& (858993459 : Int32))).toUInt32 >>> ((4 : Int32).toUInt32 &&& Int32.toUInt32 31)).toInt32) &&& (252645135 : Int32)) + ((((((u0 - ((u0.toUInt32 >>> ((1 : Int32).toUInt32 &&& Int32.toUInt32 31)).toInt32 &&& (1431655765 : Int32))) &&& (858993459 : Int32)) + (((u0 - ((u0.toUInt32 >>> ((1 : Int32).toUInt32 &&& Int32.toUInt32 31)).toInt32 &&& (1431655765 : Int32))).toUInt32 >>> ((2 : Int32).toUInt32 &&& Int32.toUInt32 31)).toInt32 &&& (858993459 : Int32))) + ((((u0 - ((u0.toUInt32 >>> ((1 : Int32).toUInt32 &&& Int32.toUInt32 31)).toInt32 &&& (1431655765 : Int32))) &&& (858993459 : Int32)) + (((u0 - ((u0.toUInt32 >>> ((1 : Int32).toUInt32 &&& Int32.toUInt32 31)).toInt32 &&& (1431655765 : Int32))).toUInt32 >>> ((2 : Int32).toUInt32 &&& Int32.toUInt32 31)).toInt32 &&& (858993459 : Int32))).toUInt32 >>> ((4 : Int32).toUInt32 &&& Int32.toUInt32 31)).toInt32) &&& (252645135 : Int32)).toUInt32 >>> ((8 : Int32).toUInt32 &&& Int32.toUInt32 31)).toInt32))]) C dJ6_bitCount_0f7a4_40 rfl (by decide) rfl rfl ?_
  refine r_iload_n C dJ6_bitCount_0f7a4_41 rfl 0 rfl rfl ?_
  refine r_iload_n C dJ6_bitCount_0f7a4_42 rfl 0 rfl rfl ?_
  refine r_bipush C dJ6_bitCount_0f7a4_43 kk_b_16 rfl ?_
  refine r_iushr C dJ6_bitCount_0f7a4_45 rfl ?_
  refine r_iadd C dJ6_bitCount_0f7a4_46 rfl ?_
  refine r_istore_n (lv' := [(0, .int (((((((u0 - ((u0.toUInt32 >>> ((1 : Int32).toUInt32 &&& Int32.toUInt32 31)).toInt32 &&& (1431655765 : Int32))) &&& (858993459 : Int32)) + (((u0 - ((u0.toUInt32 >>> ((1 : Int32).toUInt32 &&& Int32.toUInt32 31)).toInt32 &&& (1431655765 : Int32))).toUInt32 >>> ((2 : Int32).toUInt32 &&& Int32.toUInt32 31)).toInt32 &&& (858993459 : Int32))) + ((((u0 - ((u0.toUInt32 >>> ((1 : Int32).toUInt32 &&& Int32.toUInt32 31)).toInt32 &&& (1431655765 : Int32))) &&& (858993459 : Int32)) + (((u0 - ((u0.toUInt32 >>> ((1 : Int32).toUInt32 &&& Int32.toUInt32 31)).toInt32 &&& (1431655765 : Int32))).toUInt32 >>> ((2 : Int32).toUInt32 &&& Int32.toUInt32 31)).toInt32 &&& (858993459 : Int32))).toUInt32 >>> ((4 : Int32).toUInt32 &&& Int32.toUInt32 31)).toInt32) &&& (252645135 : Int32)) + ((((((u0 - ((u0.toUInt32 >>> ((1 : Int32).toUInt32 &&& Int32.toUInt32 31)).toInt32 &&& (1431655765 : Int32))) &&& (858993459 : Int32)) + (((u0 - ((u0.toUInt32 >>> ((1 : Int32).toUInt32 &&& Int32.toUInt32 31)).toInt32 &&& (1431655765 : Int32))).toUInt32 >>> ((2 : Int32).toUInt32 &&& Int32.toUInt32 31)).toInt32 &&& (858993459 : Int32))) + ((((u0 - ((u0.toUInt32 >>> ((1 : Int32).toUInt32 &&& Int32.toUInt32 31)).toInt32 &&& (1431655765 : Int32))) &&& (858993459 : Int32)) + (((u0 - ((u0.toUInt32 >>> ((1 : Int32).toUInt32 &&& Int32.toUInt32 31)).toInt32 &&& (1431655765 : Int32))).toUInt32 >>> ((2 : Int32).toUInt32 &&& Int32.toUInt32 31)).toInt32 &&& (858993459 : Int32))).toUInt32 >>> ((4 : Int32).toUInt32 &&& Int32.toUInt32 31)).toInt32) &&& (252645135 : Int32)).toUInt32 >>> ((8 : Int32).toUInt32 &&& Int32.toUInt32 31)).toInt32) + (((((((u0 - ((u0.toUInt32 >>> ((1 : Int32).toUInt32 &&& Int32.toUInt32 31)).toInt32 &&& (1431655765 : Int32))) &&& (858993459 : Int32)) + (((u0 - ((u0.toUInt32 >>> ((1 : Int32).toUInt32 &&& Int32.toUInt32 31)).toInt32 &&& (1431655765 : Int32))).toUInt32 >>> ((2 : Int32).toUInt32 &&& Int32.toUInt32 31)).toInt32 &&& (858993459 : Int32))) + ((((u0 - ((u0.toUInt32 >>> ((1 : Int32).toUInt32 &&& Int32.toUInt32 31)).toInt32 &&& (1431655765 : Int32))) &&& (858993459 : Int32)) + (((u0 - ((u0.toUInt32 >>> ((1 : Int32).toUInt32 &&& Int32.toUInt32 31)).toInt32 &&& (1431655765 : Int32))).toUInt32 >>> ((2 : Int32).toUInt32 &&& Int32.toUInt32 31)).toInt32 &&& (858993459 : Int32))).toUInt32 >>> ((4 : Int32).toUInt32 &&& Int32.toUInt32 31)).toInt32) &&& (252645135 : Int32)) + ((((((u0 - ((u0.toUInt32 >>> ((1 : Int32).toUInt32 &&& Int32.toUInt32 31)).toInt32 &&& (1431655765 : Int32))) &&& (858993459 : Int32)) + (((u0 - ((u0.toUInt32 >>> ((1 : Int32).toUInt32 &&& Int32.toUInt32 31)).toInt32 &&& (1431655765 : Int32))).toUInt32 >>> ((2 : Int32).toUInt32 &&& Int32.toUInt32 31)).toInt32 &&& (858993459 : Int32))) + ((((u0 - ((u0.toUInt32 >>> ((1 : Int32).toUInt32 &&& Int32.toUInt32 31)).toInt32 &&& (1431655765 : Int32))) &&& (858993459 : Int32)) + (((u0 - ((u0.toUInt32 >>> ((1 : Int32).toUInt32 &&& Int32.toUInt32 31)).toInt32 &&& (1431655765 : Int32))).toUInt32 >>> ((2 : Int32).toUInt32 &&& Int32.toUInt32 31)).toInt32 &&& (858993459 : Int32))).toUInt32 >>> ((4 : Int32).toUInt32 &&& Int32.toUInt32 31)).toInt32) &&& (252645135 : Int32)).toUInt32 >>> ((8 : Int32).toUInt32 &&& Int32.toUInt32 31)).toInt32).toUInt32 >>> ((16 : Int32).toUInt32 &&& Int32.toUInt32 31)).toInt32))]) C dJ6_bitCount_0f7a4_47 rfl (by decide) rfl rfl ?_
  refine r_iload_n C dJ6_bitCount_0f7a4_48 rfl 0 rfl rfl ?_
  refine r_bipush C dJ6_bitCount_0f7a4_49 kk_b_63 rfl ?_
  refine r_iand C dJ6_bitCount_0f7a4_51 rfl ?_
  cases hf
  exact r_iret C dJ6_bitCount_0f7a4_52 rfl
abbrev rm_X7_digitCount : Jvm.Room := { frames := 0, cells := 0, slots := 0, locals := 0 }
def f_X7_digitCount_9 : Nat → Int32 → Int32 → Int32 → Option (Int32)
  | 0, _, _, _ => none
  | n + 1, u1, u2, u3 => if (10 : Int32) ≤ u3 then some (u1) else if u2 ≤ 0 then some (u1) else f_X7_digitCount_9 n (u1 + (1 : Int32)) (u2 / (10 : Int32)) (u3 + (1 : Int32))
set_option maxHeartbeats 4000000 in
set_option maxRecDepth 100000 in
theorem k_X7_digitCount_9 (C : Cx p s m args meth c D (tysW cI cZ cG) RX7 cX7_digitCount 4 wsX7_digitCount (some .int))  (res : Int32) : ∀ (n : Nat) (u1 : Int32) (u2 : Int32) (u3 : Int32), f_X7_digitCount_9 n u1 u2 u3 = some res → Wd p l e rm_X7_digitCount s m args below meth c D w0 4 0 0 (MQ below (QcI D (tysW cI cZ cG) w0 [] res s.heap.size) args s 0 0 (va_A w0 s.heap.size)) [] [(1, .int u1), (2, .int u2), (3, .int u3)] 9 [] := by
  intro n
  induction n with
  | zero =>
    intro u1 u2 u3 hf
    exact no_none hf
  | succ n ih =>
    intro u1 u2 u3 hf
    unfold f_X7_digitCount_9 at hf
    refine r_iload_n C dX7_digitCount_9 rfl 2 rfl rfl ?_
    refine r_bipush C dX7_digitCount_10 kk_b_10 rfl ?_
    refine r_icmp_ge (tgt := 33) C dX7_digitCount_12 rfl rfl (fun c1 => ?_) (fun c1 => ?_)
    · have hf := gd_t c1 hf
      refine r_iload_n C dX7_digitCount_33 rfl 0 rfl rfl ?_
      cases hf
      exact r_iret C dX7_digitCount_34 rfl
    · have hf := gd_f c1 hf
      refine r_iload_n C dX7_digitCount_15 rfl 1 rfl rfl ?_
      refine r_if_le (y := 0) (tgt := 33) C dX7_digitCount_16 rfl rfl (fun c2 => ?_) (fun c2 => ?_)
      · have hf := gd_t c2 hf
        refine r_iload_n C dX7_digitCount_33 rfl 0 rfl rfl ?_
        cases hf
        exact r_iret C dX7_digitCount_34 rfl
      · have hf := gd_f c2 hf
        refine r_iload_n C dX7_digitCount_19 rfl 1 rfl rfl ?_
        refine r_bipush C dX7_digitCount_20 kk_b_10 rfl ?_
        refine r_idiv C dX7_digitCount_22 (by decide) rfl ?_
        refine r_istore_n (lv' := [(2, .int (u2 / (10 : Int32))), (1, .int u1), (3, .int u3)]) C dX7_digitCount_23 rfl (by decide) rfl rfl ?_
        refine r_iinc (lv' := [(1, .int (u1 + (1 : Int32))), (2, .int (u2 / (10 : Int32))), (3, .int u3)]) C dX7_digitCount_24 1 rfl (ki_1 _) (by decide) rfl rfl ?_
        refine r_iinc (lv' := [(3, .int (u3 + (1 : Int32))), (1, .int (u1 + (1 : Int32))), (2, .int (u2 / (10 : Int32)))]) C dX7_digitCount_27 2 rfl (ki_1 _) (by decide) rfl rfl ?_
        refine r_goto (tgt := 9) C dX7_digitCount_30 rfl ?_
        refine r_lv (lv' := [(1, .int (u1 + (1 : Int32))), (2, .int (u2 / (10 : Int32))), (3, .int (u3 + (1 : Int32)))]) [1, 2, 0] rfl ?_
        exact ih _ _ _ hf
def f_X7_digitCount (u0 : Int32) : Option (Int32) := f_X7_digitCount_9 2000 (1 : Int32) (u0 / (10 : Int32)) (0 : Int32)
set_option maxHeartbeats 4000000 in
set_option maxRecDepth 100000 in
theorem c_X7_digitCount (l : Launch) (D : va_G) (cI cZ cG : ClassId) (u0 : Int32) (res : Int32) (hf : f_X7_digitCount u0 = some res) : CI l D (tysW cI cZ cG) yX7_digitCount wsX7_digitCount rm_X7_digitCount [.int u0] [] res [] := by
  refine CG.intro (own := RX7) (by decide +kernel) rfl rfl (Nat.le_of_ble_eq_true rfl) (fun p e s m args below meth c C => ?_)
  refine r_lv (lv' := [(0, .int u0)]) [0] rfl ?_
  unfold f_X7_digitCount at hf
  refine r_iconst C dX7_digitCount_0 kk_i_1 rfl ?_
  refine r_istore_n (lv' := [(1, .int (1 : Int32)), (0, .int u0)]) C dX7_digitCount_1 rfl (by decide) rfl rfl ?_
  refine r_iload_n C dX7_digitCount_2 rfl 1 rfl rfl ?_
  refine r_bipush C dX7_digitCount_3 kk_b_10 rfl ?_
  refine r_idiv C dX7_digitCount_5 (by decide) rfl ?_
  refine r_istore_n (lv' := [(2, .int (u0 / (10 : Int32))), (1, .int (1 : Int32)), (0, .int u0)]) C dX7_digitCount_6 rfl (by decide) rfl rfl ?_
  refine r_iconst C dX7_digitCount_7 kk_i_0 rfl ?_
  refine r_istore_n (lv' := [(3, .int (0 : Int32)), (2, .int (u0 / (10 : Int32))), (1, .int (1 : Int32)), (0, .int u0)]) C dX7_digitCount_8 rfl (by decide) rfl rfl ?_
  refine r_lv (lv' := [(1, .int (1 : Int32)), (2, .int (u0 / (10 : Int32))), (3, .int (0 : Int32))]) [2, 1, 0] rfl ?_
  refine k_X7_digitCount_9 C  _ 2000 _ _ _ hf
abbrev rm_X7_commonDivisor : Jvm.Room := { frames := 0, cells := 0, slots := 0, locals := 0 }
def f_X7_commonDivisor_9 : Nat → Int64 → Int64 → Int32 → Option (Int64)
  | 0, _, _, _ => none
  | n + 1, u4, u6, u8 => if (100 : Int32) ≤ u8 then some (u4) else if (lg_cmp u6 (0 : Int64)) = 0 then some (u4) else if u6 = 0 then none else f_X7_commonDivisor_9 n u6 (u4 - u4 / u6 * u6) (u8 + (1 : Int32))
set_option maxHeartbeats 4000000 in
set_option maxRecDepth 100000 in
theorem k_X7_commonDivisor_9 (C : Cx p s m args meth c D (tysW cI cZ cG) RX7 cX7_commonDivisor 11 wsX7_commonDivisor (some .long))  (res : Int64) : ∀ (n : Nat) (u4 : Int64) (u6 : Int64) (u8 : Int32), f_X7_commonDivisor_9 n u4 u6 u8 = some res → Wd p l e rm_X7_commonDivisor s m args below meth c D w0 11 0 0 (MQ below (QcL D (tysW cI cZ cG) w0 [] res s.heap.size) args s 0 0 (va_A w0 s.heap.size)) [] [(4, .long u4), (6, .long u6), (8, .int u8)] 9 [] := by
  intro n
  induction n with
  | zero =>
    intro u4 u6 u8 hf
    exact no_none hf
  | succ n ih =>
    intro u4 u6 u8 hf
    unfold f_X7_commonDivisor_9 at hf
    refine r_iload C dX7_commonDivisor_9 2 rfl rfl ?_
    refine r_bipush C dX7_commonDivisor_11 kk_b_100 rfl ?_
    refine r_icmp_ge (tgt := 44) C dX7_commonDivisor_13 rfl rfl (fun c1 => ?_) (fun c1 => ?_)
    · have hf := gd_t c1 hf
      refine r_lload C dX7_commonDivisor_44 0 rfl rfl ?_
      cases hf
      exact r_lret C dX7_commonDivisor_46 rfl
    · have hf := gd_f c1 hf
      refine r_lload C dX7_commonDivisor_16 1 rfl rfl ?_
      refine r_lconst (v := (0 : Int64)) C dX7_commonDivisor_18 rfl rfl ?_
      refine r_lcmp C dX7_commonDivisor_19 rfl ?_
      refine r_if_eq (y := 0) (tgt := 44) C dX7_commonDivisor_20 rfl rfl (fun c2 => ?_) (fun c2 => ?_)
      · have hf := gd_t c2 hf
        refine r_lload C dX7_commonDivisor_44 0 rfl rfl ?_
        cases hf
        exact r_lret C dX7_commonDivisor_46 rfl
      · have hf := gd_f c2 hf
        refine r_lload C dX7_commonDivisor_23 0 rfl rfl ?_
        refine r_lload C dX7_commonDivisor_25 1 rfl rfl ?_
        obtain ⟨g3, hf⟩ := gd_n hf
        refine r_lrem C dX7_commonDivisor_27 g3 rfl ?_
        refine r_lstore (lv' := [(9, .long (u4 - u4 / u6 * u6)), (4, .long u4), (6, .long u6), (8, .int u8)]) C dX7_commonDivisor_28 (by decide) rfl rfl ?_
        refine r_lload C dX7_commonDivisor_30 2 rfl rfl ?_
        refine r_lstore (lv' := [(4, .long u6), (9, .long (u4 - u4 / u6 * u6)), (6, .long u6), (8, .int u8)]) C dX7_commonDivisor_32 (by decide) rfl rfl ?_
        refine r_lload C dX7_commonDivisor_34 1 rfl rfl ?_
        refine r_lstore (lv' := [(6, .long (u4 - u4 / u6 * u6)), (4, .long u6), (9, .long (u4 - u4 / u6 * u6)), (8, .int u8)]) C dX7_commonDivisor_36 (by decide) rfl rfl ?_
        refine r_iinc (lv' := [(8, .int (u8 + (1 : Int32))), (6, .long (u4 - u4 / u6 * u6)), (4, .long u6), (9, .long (u4 - u4 / u6 * u6))]) C dX7_commonDivisor_38 3 rfl (ki_1 _) (by decide) rfl rfl ?_
        refine r_goto (tgt := 9) C dX7_commonDivisor_41 rfl ?_
        refine r_lv (lv' := [(4, .long u6), (6, .long (u4 - u4 / u6 * u6)), (8, .int (u8 + (1 : Int32)))]) [2, 1, 0] rfl ?_
        exact ih _ _ _ hf
def f_X7_commonDivisor (u0 : Int64) (u2 : Int64) : Option (Int64) := f_X7_commonDivisor_9 2000 u0 u2 (0 : Int32)
set_option maxHeartbeats 4000000 in
set_option maxRecDepth 100000 in
theorem c_X7_commonDivisor (l : Launch) (D : va_G) (cI cZ cG : ClassId) (u0 : Int64) (u2 : Int64) (res : Int64) (hf : f_X7_commonDivisor u0 u2 = some res) : CL l D (tysW cI cZ cG) yX7_commonDivisor wsX7_commonDivisor rm_X7_commonDivisor [.long u0, .long u2] [] res [] := by
  refine CG.intro (own := RX7) (by decide +kernel) rfl rfl (Nat.le_of_ble_eq_true rfl) (fun p e s m args below meth c C => ?_)
  refine r_lv (lv' := [(0, .long u0), (2, .long u2)]) [0, 1] rfl ?_
  unfold f_X7_commonDivisor at hf
  refine r_lload_n C dX7_commonDivisor_0 rfl 0 rfl rfl ?_
  refine r_lstore (lv' := [(4, .long u0), (0, .long u0), (2, .long u2)]) C dX7_commonDivisor_1 (by decide) rfl rfl ?_
  refine r_lload_n C dX7_commonDivisor_3 rfl 2 rfl rfl ?_
  refine r_lstore (lv' := [(6, .long u2), (4, .long u0), (0, .long u0), (2, .long u2)]) C dX7_commonDivisor_4 (by decide) rfl rfl ?_
  refine r_iconst C dX7_commonDivisor_6 kk_i_0 rfl ?_
  refine r_istore (lv' := [(8, .int (0 : Int32)), (6, .long u2), (4, .long u0), (0, .long u0), (2, .long u2)]) C dX7_commonDivisor_7 (by decide) rfl rfl ?_
  refine r_lv (lv' := [(4, .long u0), (6, .long u2), (8, .int (0 : Int32))]) [2, 1, 0] rfl ?_
  refine k_X7_commonDivisor_9 C  _ 2000 _ _ _ hf
abbrev rm_X7_lowestTerm : Jvm.Room := { frames := 1, cells := 0, slots := 0, locals := 30 }
def f_X7_lowestTerm (u0 : Int64) (u2 : Int64) (u4 : Int32) : Option (Int64) := (f_X7_commonDivisor u0 u2).bind (fun r1 => if (lg_cmp r1 (0 : Int64)) = 0 then some ((0 : Int64)) else if u4 = 0 then if r1 = 0 then none else some ((u0 / r1)) else if r1 = 0 then none else some ((u2 / r1)))
set_option maxHeartbeats 4000000 in
set_option maxRecDepth 100000 in
theorem c_X7_lowestTerm (l : Launch) (D : va_G) (cI cZ cG : ClassId) (u0 : Int64) (u2 : Int64) (u4 : Int32) (res : Int64) (hf : f_X7_lowestTerm u0 u2 u4 = some res) : CL l D (tysW cI cZ cG) yX7_lowestTerm wsX7_lowestTerm rm_X7_lowestTerm [.long u0, .long u2, .int u4] [] res [] := by
  refine CG.intro (own := RX7) (by decide +kernel) rfl rfl (Nat.le_of_ble_eq_true rfl) (fun p e s m args below meth c C => ?_)
  refine r_lv (lv' := [(0, .long u0), (2, .long u2), (4, .int u4)]) [0, 1, 2] rfl ?_
  unfold f_X7_lowestTerm at hf
  refine r_lload_n C dX7_lowestTerm_0 rfl 0 rfl rfl ?_
  refine r_lload_n C dX7_lowestTerm_1 rfl 1 rfl rfl ?_
  obtain ⟨r1, e1, hf⟩ := gd_b hf
  refine o_L (wn := []) C [] rfl (x_S C dX7_lowestTerm_2 (c_X7_commonDivisor l D cI cZ cG u0 u2 r1 e1) rfl gX7_lowestTerm_X7_commonDivisor hs_X7_commonDivisor rfl ⟨Nat.le_of_ble_eq_true rfl, Nat.le_of_ble_eq_true rfl⟩ ⟨rfl, rfl⟩ ⟨Nat.zero_le _, Nat.zero_le _⟩ rfl [] rfl rfl (Nat.le_of_ble_eq_true rfl) rfl) rfl rfl rfl ?_
  refine r_lstore (lv' := [(5, .long r1), (0, .long u0), (2, .long u2), (4, .int u4)]) C dX7_lowestTerm_5 (by decide) rfl rfl ?_
  refine r_lload C dX7_lowestTerm_7 0 rfl rfl ?_
  refine r_lconst (v := (0 : Int64)) C dX7_lowestTerm_9 rfl rfl ?_
  refine r_lcmp C dX7_lowestTerm_10 rfl ?_
  refine r_if_ne (y := 0) (tgt := 16) C dX7_lowestTerm_11 rfl rfl (fun c2 => ?_) (fun c2 => ?_)
  · have hf := gd_f c2 hf
    refine r_iload C dX7_lowestTerm_16 3 rfl rfl ?_
    refine r_if_ne (y := 0) (tgt := 28) C dX7_lowestTerm_18 rfl rfl (fun c3 => ?_) (fun c3 => ?_)
    · have hf := gd_f c3 hf
      refine r_lload_n C dX7_lowestTerm_28 rfl 2 rfl rfl ?_
      refine r_lload C dX7_lowestTerm_29 0 rfl rfl ?_
      obtain ⟨g4, hf⟩ := gd_n hf
      refine r_ldiv C dX7_lowestTerm_31 g4 rfl ?_
      cases hf
      exact r_lret C dX7_lowestTerm_32 rfl
    · have hf := gd_t c3 hf
      refine r_lload_n C dX7_lowestTerm_21 rfl 1 rfl rfl ?_
      refine r_lload C dX7_lowestTerm_22 0 rfl rfl ?_
      obtain ⟨g5, hf⟩ := gd_n hf
      refine r_ldiv C dX7_lowestTerm_24 g5 rfl ?_
      refine r_goto (tgt := 32) C dX7_lowestTerm_25 rfl ?_
      cases hf
      exact r_lret C dX7_lowestTerm_32 rfl
  · have hf := gd_t c2 hf
    refine r_lconst (v := (0 : Int64)) C dX7_lowestTerm_14 rfl rfl ?_
    cases hf
    exact r_lret C dX7_lowestTerm_15 rfl
abbrev rm_X7_power : Jvm.Room := { frames := 0, cells := 0, slots := 0, locals := 0 }
def f_X7_power_5 (u0 : Int64) (u2 : Int32) : Nat → Int64 → Int32 → Option (Int64)
  | 0, _, _ => none
  | n + 1, u3, u5 => if u2 ≤ u5 then some (u3) else f_X7_power_5 u0 u2 n (u3 * u0) (u5 + (1 : Int32))
set_option maxHeartbeats 4000000 in
set_option maxRecDepth 100000 in
theorem k_X7_power_5 (C : Cx p s m args meth c D (tysW cI cZ cG) RX7 cX7_power 6 wsX7_power (some .long)) (u0 : Int64) (u2 : Int32)  (res : Int64) : ∀ (n : Nat) (u3 : Int64) (u5 : Int32), f_X7_power_5 u0 u2 n u3 u5 = some res → Wd p l e rm_X7_power s m args below meth c D w0 6 0 0 (MQ below (QcL D (tysW cI cZ cG) w0 [] res s.heap.size) args s 0 0 (va_A w0 s.heap.size)) [] [(0, .long u0), (2, .int u2), (3, .long u3), (5, .int u5)] 5 [] := by
  intro n
  induction n with
  | zero =>
    intro u3 u5 hf
    exact no_none hf
  | succ n ih =>
    intro u3 u5 hf
    unfold f_X7_power_5 at hf
    refine r_iload C dX7_power_5 3 rfl rfl ?_
    refine r_iload_n C dX7_power_7 rfl 1 rfl rfl ?_
    refine r_icmp_ge (tgt := 21) C dX7_power_8 rfl rfl (fun c1 => ?_) (fun c1 => ?_)
    · have hf := gd_t c1 hf
      refine r_lload_n C dX7_power_21 rfl 2 rfl rfl ?_
      cases hf
      exact r_lret C dX7_power_22 rfl
    · have hf := gd_f c1 hf
      refine r_lload_n C dX7_power_11 rfl 2 rfl rfl ?_
      refine r_lload_n C dX7_power_12 rfl 0 rfl rfl ?_
      refine r_lmul C dX7_power_13 rfl ?_
      refine r_lstore_n (lv' := [(3, .long (u3 * u0)), (0, .long u0), (2, .int u2), (5, .int u5)]) C dX7_power_14 rfl (by decide) rfl rfl ?_
      refine r_iinc (lv' := [(5, .int (u5 + (1 : Int32))), (3, .long (u3 * u0)), (0, .long u0), (2, .int u2)]) C dX7_power_15 3 rfl (ki_1 _) (by decide) rfl rfl ?_
      refine r_goto (tgt := 5) C dX7_power_18 rfl ?_
      refine r_lv (lv' := [(0, .long u0), (2, .int u2), (3, .long (u3 * u0)), (5, .int (u5 + (1 : Int32)))]) [2, 3, 1, 0] rfl ?_
      exact ih _ _ hf
def f_X7_power (u0 : Int64) (u2 : Int32) : Option (Int64) := f_X7_power_5 u0 u2 2000 (1 : Int64) (0 : Int32)
set_option maxHeartbeats 4000000 in
set_option maxRecDepth 100000 in
theorem c_X7_power (l : Launch) (D : va_G) (cI cZ cG : ClassId) (u0 : Int64) (u2 : Int32) (res : Int64) (hf : f_X7_power u0 u2 = some res) : CL l D (tysW cI cZ cG) yX7_power wsX7_power rm_X7_power [.long u0, .int u2] [] res [] := by
  refine CG.intro (own := RX7) (by decide +kernel) rfl rfl (Nat.le_of_ble_eq_true rfl) (fun p e s m args below meth c C => ?_)
  refine r_lv (lv' := [(0, .long u0), (2, .int u2)]) [0, 1] rfl ?_
  unfold f_X7_power at hf
  refine r_lconst (v := (1 : Int64)) C dX7_power_0 rfl rfl ?_
  refine r_lstore_n (lv' := [(3, .long (1 : Int64)), (0, .long u0), (2, .int u2)]) C dX7_power_1 rfl (by decide) rfl rfl ?_
  refine r_iconst C dX7_power_2 kk_i_0 rfl ?_
  refine r_istore (lv' := [(5, .int (0 : Int32)), (3, .long (1 : Int64)), (0, .long u0), (2, .int u2)]) C dX7_power_3 (by decide) rfl rfl ?_
  refine r_lv (lv' := [(0, .long u0), (2, .int u2), (3, .long (1 : Int64)), (5, .int (0 : Int32))]) [2, 3, 1, 0] rfl ?_
  refine k_X7_power_5 C u0 u2 _ 2000 _ _ hf
abbrev rm_X7_kindByDraw : Jvm.Room := { frames := 0, cells := 0, slots := 0, locals := 0 }
def f_X7_kindByDraw (u0 : Int32) : Option (Int32) := if u0 = (0 : Int32) then some ((62 : Int32)) else if u0 = (1 : Int32) then some ((62 : Int32)) else if u0 = (2 : Int32) then some ((60 : Int32)) else if u0 = (3 : Int32) then some ((35 : Int32)) else if u0 = (4 : Int32) then some ((33 : Int32)) else if u0 = (5 : Int32) then some ((43 : Int32)) else if u0 = (6 : Int32) then some ((45 : Int32)) else some ((46 : Int32))
set_option maxHeartbeats 4000000 in
set_option maxRecDepth 100000 in
theorem c_X7_kindByDraw (l : Launch) (D : va_G) (cI cZ cG : ClassId) (u0 : Int32) (res : Int32) (hf : f_X7_kindByDraw u0 = some res) : CI l D (tysW cI cZ cG) yX7_kindByDraw wsX7_kindByDraw rm_X7_kindByDraw [.int u0] [] res [] := by
  refine CG.intro (own := RX7) (by decide +kernel) rfl rfl (Nat.le_of_ble_eq_true rfl) (fun p e s m args below meth c C => ?_)
  refine r_lv (lv' := [(0, .int u0)]) [0] rfl ?_
  unfold f_X7_kindByDraw at hf
  refine r_iload_n C dX7_kindByDraw_0 rfl 0 rfl rfl ?_
  by_cases c1 : u0 = (0 : Int32)
  · have hf := gd_t c1 hf
    refine r_tabIn (tgt := 44) C dX7_kindByDraw_1 c1 (by decide) (by decide) rfl rfl ?_
    refine r_bipush C dX7_kindByDraw_44 kk_b_62 rfl ?_
    cases hf
    exact r_iret C dX7_kindByDraw_46 rfl
  have hf := gd_f c1 hf
  by_cases c2 : u0 = (1 : Int32)
  · have hf := gd_t c2 hf
    refine r_tabIn (tgt := 44) C dX7_kindByDraw_1 c2 (by decide) (by decide) rfl rfl ?_
    refine r_bipush C dX7_kindByDraw_44 kk_b_62 rfl ?_
    cases hf
    exact r_iret C dX7_kindByDraw_46 rfl
  have hf := gd_f c2 hf
  by_cases c3 : u0 = (2 : Int32)
  · have hf := gd_t c3 hf
    refine r_tabIn (tgt := 47) C dX7_kindByDraw_1 c3 (by decide) (by decide) rfl rfl ?_
    refine r_bipush C dX7_kindByDraw_47 kk_b_60 rfl ?_
    cases hf
    exact r_iret C dX7_kindByDraw_49 rfl
  have hf := gd_f c3 hf
  by_cases c4 : u0 = (3 : Int32)
  · have hf := gd_t c4 hf
    refine r_tabIn (tgt := 50) C dX7_kindByDraw_1 c4 (by decide) (by decide) rfl rfl ?_
    refine r_bipush C dX7_kindByDraw_50 kk_b_35 rfl ?_
    cases hf
    exact r_iret C dX7_kindByDraw_52 rfl
  have hf := gd_f c4 hf
  by_cases c5 : u0 = (4 : Int32)
  · have hf := gd_t c5 hf
    refine r_tabIn (tgt := 53) C dX7_kindByDraw_1 c5 (by decide) (by decide) rfl rfl ?_
    refine r_bipush C dX7_kindByDraw_53 kk_b_33 rfl ?_
    cases hf
    exact r_iret C dX7_kindByDraw_55 rfl
  have hf := gd_f c5 hf
  by_cases c6 : u0 = (5 : Int32)
  · have hf := gd_t c6 hf
    refine r_tabIn (tgt := 56) C dX7_kindByDraw_1 c6 (by decide) (by decide) rfl rfl ?_
    refine r_bipush C dX7_kindByDraw_56 kk_b_43 rfl ?_
    cases hf
    exact r_iret C dX7_kindByDraw_58 rfl
  have hf := gd_f c6 hf
  by_cases c7 : u0 = (6 : Int32)
  · have hf := gd_t c7 hf
    refine r_tabIn (tgt := 59) C dX7_kindByDraw_1 c7 (by decide) (by decide) rfl rfl ?_
    refine r_bipush C dX7_kindByDraw_59 kk_b_45 rfl ?_
    cases hf
    exact r_iret C dX7_kindByDraw_61 rfl
  have hf := gd_f c7 hf
  refine r_tabOut (tgt := 62) C dX7_kindByDraw_1 (by have e0 := lv_neT (a := 0) c1 rfl; have e1 := lv_neT (a := 1) c2 rfl; have e2 := lv_neT (a := 2) c3 rfl; have e3 := lv_neT (a := 3) c4 rfl; have e4 := lv_neT (a := 4) c5 rfl; have e5 := lv_neT (a := 5) c6 rfl; have e6 := lv_neT (a := 6) c7 rfl; omega) rfl ?_
  refine r_bipush C dX7_kindByDraw_62 kk_b_46 rfl ?_
  cases hf
  exact r_iret C dX7_kindByDraw_64 rfl
end
