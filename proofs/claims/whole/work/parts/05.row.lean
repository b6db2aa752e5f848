section
variable {p : Program} {l : Launch} {e : Env} {s : State} {m : MethodId} {args : Array Value} {below : List Frame} {meth : Method} {c : Code} {D : va_G} {cI cZ cG : ClassId} {w0 : va_W}
theorem fw_X5_planDraw_X5 : ∀ w ∈ u_ws RX5 TX5 7, w ∈ wsX5_planDraw := by decide +kernel
theorem fl_X5_planDraw_21 : Cond.fieldLink RX5 21 "MittenLine$Row" "plan" "[I" ∈ wsX5_planDraw := by decide +kernel
abbrev rm_X5_planDraw : Jvm.Room := { frames := 0, cells := 0, slots := 0, locals := 0 }
def f_X5_planDraw (plan : Nat → Int32) (u1 : Int32) (u2 : Int32) (u3 : Int32) : Option (Int32 × (Nat → Int32)) := if u2 < 0 ∨ 10 ≤ u2.toNatClampNeg then none else if u1 < 0 ∨ 10 ≤ u1.toNatClampNeg then none else if ((plan u2.toNatClampNeg) - (plan u1.toNatClampNeg)) ≤ u3 then if ((plan u1.toNatClampNeg) - (plan u2.toNatClampNeg)) ≤ u3 then some ((0 : Int32), plan) else some ((1 : Int32), (upd plan u2.toNatClampNeg ((plan u1.toNatClampNeg) - u3))) else some ((1 : Int32), (upd plan u2.toNatClampNeg ((plan u1.toNatClampNeg) + u3)))
set_option maxHeartbeats 4000000 in
set_option maxRecDepth 100000 in
theorem c_X5_planDraw (l : Launch) (D : va_G) (cI cZ cG : ClassId) (h : Nat) (A : Nat → Nat) (plan : Nat → Int32) (holding : Int32) (wool : Int32) (day : Int32) (u1 : Int32) (u2 : Int32) (u3 : Int32) (res : Int32 × (Nat → Int32)) (hf : f_X5_planDraw plan u1 u2 u3 = some res) : CI l D (tysW cI cZ cG) yX5_planDraw wsX5_planDraw rm_X5_planDraw [.ref h, .int u1, .int u2, .int u3] [(h, oX5 A holding wool day), ((A 3), aI cI 10 plan)] res.1 [(h, oX5 A holding wool day), ((A 3), aI cI 10 res.2)] := by
  refine CG.intro (own := RX5) (by decide +kernel) rfl rfl (Nat.le_of_ble_eq_true rfl) (fun p e s m args below meth c C => ?_)
  refine r_lv (lv' := [(0, .ref h), (1, .int u1), (2, .int u2), (3, .int u3)]) [0, 1, 2, 3] rfl ?_
  unfold f_X5_planDraw at hf
  refine r_aload_n C dX5_planDraw_0 rfl 0 rfl rfl ?_
  refine r_get C dX5_planDraw_1 fw_X5_planDraw_X5 0 rfl rfl 3 (by decide) rfl fl_X5_planDraw_21 rfl rfl ?_
  refine r_iload_n C dX5_planDraw_4 rfl 2 rfl rfl ?_
  obtain ⟨g1, hf⟩ := gd_n hf
  refine r_iald C dX5_planDraw_5 1 0 rfl rfl g1 rfl ?_
  refine r_aload_n C dX5_planDraw_6 rfl 0 rfl rfl ?_
  refine r_get C dX5_planDraw_7 fw_X5_planDraw_X5 0 rfl rfl 3 (by decide) rfl fl_X5_planDraw_21 rfl rfl ?_
  refine r_iload_n C dX5_planDraw_10 rfl 1 rfl rfl ?_
  obtain ⟨g2, hf⟩ := gd_n hf
  refine r_iald C dX5_planDraw_11 1 0 rfl rfl g2 rfl ?_
  refine r_isub C dX5_planDraw_12 rfl ?_
  refine r_iload_n C dX5_planDraw_13 rfl 3 rfl rfl ?_
  refine r_icmp_le (tgt := 33) C dX5_planDraw_14 rfl rfl (fun c3 => ?_) (fun c3 => ?_)
  · have hf := gd_t c3 hf
    refine r_aload_n C dX5_planDraw_33 rfl 0 rfl rfl ?_
    refine r_get C dX5_planDraw_34 fw_X5_planDraw_X5 0 rfl rfl 3 (by decide) rfl fl_X5_planDraw_21 rfl rfl ?_
    refine r_iload_n C dX5_planDraw_37 rfl 1 rfl rfl ?_
    refine r_iald C dX5_planDraw_38 1 0 rfl rfl g2 rfl ?_
    refine r_aload_n C dX5_planDraw_39 rfl 0 rfl rfl ?_
    refine r_get C dX5_planDraw_40 fw_X5_planDraw_X5 0 rfl rfl 3 (by decide) rfl fl_X5_planDraw_21 rfl rfl ?_
    refine r_iload_n C dX5_planDraw_43 rfl 2 rfl rfl ?_
    refine r_iald C dX5_planDraw_44 1 0 rfl rfl g1 rfl ?_
    refine r_isub C dX5_planDraw_45 rfl ?_
    refine r_iload_n C dX5_planDraw_46 rfl 3 rfl rfl ?_
    refine r_icmp_le (tgt := 66) C dX5_planDraw_47 rfl rfl (fun c4 => ?_) (fun c4 => ?_)
    · have hf := gd_t c4 hf
      refine r_iconst C dX5_planDraw_66 kk_i_0 rfl ?_
      cases hf
      exact r_zret C dX5_planDraw_67 nb0 rfl
    · have hf := gd_f c4 hf
      refine r_aload_n C dX5_planDraw_50 rfl 0 rfl rfl ?_
      refine r_get C dX5_planDraw_51 fw_X5_planDraw_X5 0 rfl rfl 3 (by decide) rfl fl_X5_planDraw_21 rfl rfl ?_
      refine r_iload_n C dX5_planDraw_54 rfl 2 rfl rfl ?_
      refine r_aload_n C dX5_planDraw_55 rfl 0 rfl rfl ?_
      refine r_get C dX5_planDraw_56 fw_X5_planDraw_X5 0 rfl rfl 3 (by decide) rfl fl_X5_planDraw_21 rfl rfl ?_
      refine r_iload_n C dX5_planDraw_59 rfl 1 rfl rfl ?_
      refine r_iald C dX5_planDraw_60 1 0 rfl rfl g2 rfl ?_
      refine r_iload_n C dX5_planDraw_61 rfl 3 rfl rfl ?_
      refine r_isub C dX5_planDraw_62 rfl ?_
      refine r_iast (ws' := [(h, oX5 A holding wool day), ((A 3), aI cI 10 (upd plan u2.toNatClampNeg ((plan u1.toNatClampNeg) - u3)))]) C dX5_planDraw_63 1 0 rfl rfl g1 rfl rfl ?_
      refine r_iconst C dX5_planDraw_64 kk_i_1 rfl ?_
      cases hf
      exact r_zret C dX5_planDraw_65 nb1 rfl
  · have hf := gd_f c3 hf
    refine r_aload_n C dX5_planDraw_17 rfl 0 rfl rfl ?_
    refine r_get C dX5_planDraw_18 fw_X5_planDraw_X5 0 rfl rfl 3 (by decide) rfl fl_X5_planDraw_21 rfl rfl ?_
    refine r_iload_n C dX5_planDraw_21 rfl 2 rfl rfl ?_
    refine r_aload_n C dX5_planDraw_22 rfl 0 rfl rfl ?_
    refine r_get C dX5_planDraw_23 fw_X5_planDraw_X5 0 rfl rfl 3 (by decide) rfl fl_X5_planDraw_21 rfl rfl ?_
    refine r_iload_n C dX5_planDraw_26 rfl 1 rfl rfl ?_
    refine r_iald C dX5_planDraw_27 1 0 rfl rfl g2 rfl ?_
    refine r_iload_n C dX5_planDraw_28 rfl 3 rfl rfl ?_
    refine r_iadd C dX5_planDraw_29 rfl ?_
    refine r_iast (ws' := [(h, oX5 A holding wool day), ((A 3), aI cI 10 (upd plan u2.toNatClampNeg ((plan u1.toNatClampNeg) + u3)))]) C dX5_planDraw_30 1 0 rfl rfl g1 rfl rfl ?_
    refine r_iconst C dX5_planDraw_31 kk_i_1 rfl ?_
    cases hf
    exact r_zret C dX5_planDraw_32 nb1 rfl
theorem fw_X5_planStep_X5 : ∀ w ∈ u_ws RX5 TX5 7, w ∈ wsX5_planStep := by decide +kernel
theorem fl_X5_planStep_21 : Cond.fieldLink RX5 21 "MittenLine$Row" "plan" "[I" ∈ wsX5_planStep := by decide +kernel
theorem fl_X5_planStep_9 : Cond.fieldLink RX5 9 "MittenLine$Row" "yards" "[I" ∈ wsX5_planStep := by decide +kernel
theorem fl_X5_planStep_18 : Cond.fieldLink RX5 18 "MittenLine$Row" "lengths" "[I" ∈ wsX5_planStep := by decide +kernel
abbrev rm_X5_planStep : Jvm.Room := { frames := 1, cells := 0, slots := 0, locals := 23 }
def f_X5_planStep_2 (yards : Nat → Int32) (kx26 : (Nat → Int32) → Option (Int32 × (Nat → Int32))) : Nat → Int32 → (Nat → Int32) → Option (Int32 × (Nat → Int32))
  | 0, _, _ => none
  | n + 1, u3, plan => if (10 : Int32) ≤ u3 then kx26 plan else if u3 < 0 ∨ 10 ≤ u3.toNatClampNeg then none else f_X5_planStep_2 yards kx26 n (u3 + (1 : Int32)) (upd plan u3.toNatClampNeg (yards u3.toNatClampNeg))
set_option maxHeartbeats 4000000 in
set_option maxRecDepth 100000 in
theorem k_X5_planStep_2 (C : Cx p s m args meth c D (tysW cI cZ cG) RX5 cX5_planStep 5 wsX5_planStep (some .int)) (h : Nat) (A : Nat → Nat) (yards : Nat → Int32) (lengths : Nat → Int32) (holding : Int32) (wool : Int32) (day : Int32) (u1 : Int32) (u2 : Int32)  (kx26 : (Nat → Int32) → Option (Int32 × (Nat → Int32))) (res : Int32 × (Nat → Int32)) (hkx26 : ∀ (plan : Nat → Int32) , kx26 plan = some res → Wd p l e rm_X5_planStep s m args below meth c D w0 5 0 0 (MQ below (QcI D (tysW cI cZ cG) w0 [(h, oX5 A holding wool day), ((A 0), aI cI 10 yards), ((A 2), aI cI 9 lengths), ((A 3), aI cI 10 res.2)] res.1 s.heap.size) args s 0 0 (va_A w0 s.heap.size)) [(h, oX5 A holding wool day), ((A 0), aI cI 10 yards), ((A 2), aI cI 9 lengths), ((A 3), aI cI 10 plan)] [(0, .ref h), (1, .int u1), (2, .int u2)] 26 []) : ∀ (n : Nat) (u3 : Int32) (plan : Nat → Int32), f_X5_planStep_2 yards kx26 n u3 plan = some res → Wd p l e rm_X5_planStep s m args below meth c D w0 5 0 0 (MQ below (QcI D (tysW cI cZ cG) w0 [(h, oX5 A holding wool day), ((A 0), aI cI 10 yards), ((A 2), aI cI 9 lengths), ((A 3), aI cI 10 res.2)] res.1 s.heap.size) args s 0 0 (va_A w0 s.heap.size)) [(h, oX5 A holding wool day), ((A 0), aI cI 10 yards), ((A 2), aI cI 9 lengths), ((A 3), aI cI 10 plan)] [(0, .ref h), (1, .int u1), (2, .int u2), (3, .int u3)] 2 [] := by
  intro n
  induction n with
  | zero =>
    intro u3 plan hf
    exact no_none hf
  | succ n ih =>
    intro u3 plan hf
    unfold f_X5_planStep_2 at hf
    refine r_iload_n C dX5_planStep_2 rfl 3 rfl rfl ?_
    refine r_bipush C dX5_planStep_3 kk_b_10 rfl ?_
    refine r_icmp_ge (tgt := 26) C dX5_planStep_5 rfl rfl (fun c1 => ?_) (fun c1 => ?_)
    · have hf := gd_t c1 hf
      refine r_lv (lv' := [(0, .ref h), (1, .int u1), (2, .int u2)]) [0, 1, 2] rfl ?_
      exact hkx26 _ hf
    · have hf := gd_f c1 hf
      refine r_aload_n C dX5_planStep_8 rfl 0 rfl rfl ?_
      refine r_get C dX5_planStep_9 fw_X5_planStep_X5 0 rfl rfl 3 (by decide) rfl fl_X5_planStep_21 rfl rfl ?_
      refine r_iload_n C dX5_planStep_12 rfl 3 rfl rfl ?_
      refine r_aload_n C dX5_planStep_13 rfl 0 rfl rfl ?_
      refine r_get C dX5_planStep_14 fw_X5_planStep_X5 0 rfl rfl 0 (by decide) rfl fl_X5_planStep_9 rfl rfl ?_
      refine r_iload_n C dX5_planStep_17 rfl 3 rfl rfl ?_
      obtain ⟨g2, hf⟩ := gd_n hf
      refine r_iald C dX5_planStep_18 1 0 rfl rfl g2 rfl ?_
      refine r_iast (ws' := [(h, oX5 A holding wool day), ((A 0), aI cI 10 yards), ((A 2), aI cI 9 lengths), ((A 3), aI cI 10 (upd plan u3.toNatClampNeg (yards u3.toNatClampNeg)))]) C dX5_planStep_19 3 0 rfl rfl g2 rfl rfl ?_
      refine r_iinc (lv' := [(3, .int (u3 + (1 : Int32))), (0, .ref h), (1, .int u1), (2, .int u2)]) C dX5_planStep_20 3 rfl (ki_1 _) (by decide) rfl rfl ?_
      refine r_goto (tgt := 2) C dX5_planStep_23 rfl ?_
      refine r_lv (lv' := [(0, .ref h), (1, .int u1), (2, .int u2), (3, .int (u3 + (1 : Int32)))]) [1, 2, 3, 0] rfl ?_
      exact ih _ _ hf
def f_X5_planStep_40 (lengths : Nat → Int32) (kx82 : Int32 → (Nat → Int32) → Option (Int32 × (Nat → Int32))) : Nat → Int32 → Int32 → (Nat → Int32) → Option (Int32 × (Nat → Int32))
  | 0, _, _, _ => none
  | n + 1, u3, u4, plan => if (10 : Int32) ≤ u4 then kx82 u3 plan else if (u4 - (1 : Int32)) < 0 ∨ 9 ≤ (u4 - (1 : Int32)).toNatClampNeg then none else (f_X5_planDraw plan (u4 - (1 : Int32)) u4 (lengths (u4 - (1 : Int32)).toNatClampNeg)).bind (fun r7 => if r7.1 = 0 then kx82 u3 r7.2 else f_X5_planStep_40 lengths kx82 n (u3 ||| ((1 : Int32) <<< (u4 &&& 31))) (u4 + (1 : Int32)) r7.2)
set_option maxHeartbeats 4000000 in
set_option maxRecDepth 100000 in
theorem k_X5_planStep_40 (C : Cx p s m args meth c D (tysW cI cZ cG) RX5 cX5_planStep 5 wsX5_planStep (some .int)) (h : Nat) (A : Nat → Nat) (yards : Nat → Int32) (lengths : Nat → Int32) (holding : Int32) (wool : Int32) (day : Int32) (u1 : Int32)  (kx82 : Int32 → (Nat → Int32) → Option (Int32 × (Nat → Int32))) (res : Int32 × (Nat → Int32)) (hkx82 : ∀ (u3 : Int32) (plan : Nat → Int32) , kx82 u3 plan = some res → Wd p l e rm_X5_planStep s m args below meth c D w0 5 0 0 (MQ below (QcI D (tysW cI cZ cG) w0 [(h, oX5 A holding wool day), ((A 0), aI cI 10 yards), ((A 2), aI cI 9 lengths), ((A 3), aI cI 10 res.2)] res.1 s.heap.size) args s 0 0 (va_A w0 s.heap.size)) [(h, oX5 A holding wool day), ((A 0), aI cI 10 yards), ((A 2), aI cI 9 lengths), ((A 3), aI cI 10 plan)] [(0, .ref h), (1, .int u1), (3, .int u3)] 82 []) : ∀ (n : Nat) (u3 : Int32) (u4 : Int32) (plan : Nat → Int32), f_X5_planStep_40 lengths kx82 n u3 u4 plan = some res → Wd p l e rm_X5_planStep s m args below meth c D w0 5 0 0 (MQ below (QcI D (tysW cI cZ cG) w0 [(h, oX5 A holding wool day), ((A 0), aI cI 10 yards), ((A 2), aI cI 9 lengths), ((A 3), aI cI 10 res.2)] res.1 s.heap.size) args s 0 0 (va_A w0 s.heap.size)) [(h, oX5 A holding wool day), ((A 0), aI cI 10 yards), ((A 2), aI cI 9 lengths), ((A 3), aI cI 10 plan)] [(0, .ref h), (1, .int u1), (3, .int u3), (4, .int u4)] 40 [] := by
  intro n
  induction n with
  | zero =>
    intro u3 u4 plan hf
    exact no_none hf
  | succ n ih =>
    intro u3 u4 plan hf
    unfold f_X5_planStep_40 at hf
    refine r_iload C dX5_planStep_40 3 rfl rfl ?_
    refine r_bipush C dX5_planStep_42 kk_b_10 rfl ?_
    refine r_icmp_ge (tgt := 82) C dX5_planStep_44 rfl rfl (fun c5 => ?_) (fun c5 => ?_)
    · have hf := gd_t c5 hf
      refine r_lv (lv' := [(0, .ref h), (1, .int u1), (3, .int u3)]) [0, 1, 2] rfl ?_
      exact hkx82 _ _ hf
    · have hf := gd_f c5 hf
      refine r_aload_n C dX5_planStep_47 rfl 0 rfl rfl ?_
      refine r_iload C dX5_planStep_48 3 rfl rfl ?_
      refine r_iconst C dX5_planStep_50 kk_i_1 rfl ?_
      refine r_isub C dX5_planStep_51 rfl ?_
      refine r_iload C dX5_planStep_52 3 rfl rfl ?_
      refine r_aload_n C dX5_planStep_54 rfl 0 rfl rfl ?_
      refine r_get C dX5_planStep_55 fw_X5_planStep_X5 0 rfl rfl 2 (by decide) rfl fl_X5_planStep_18 rfl rfl ?_
      refine r_iload C dX5_planStep_58 3 rfl rfl ?_
      refine r_iconst C dX5_planStep_60 kk_i_1 rfl ?_
      refine r_isub C dX5_planStep_61 rfl ?_
      obtain ⟨g6, hf⟩ := gd_n hf
      refine r_iald C dX5_planStep_62 2 0 rfl rfl g6 rfl ?_
      obtain ⟨r7, e7, hf⟩ := gd_b hf
      refine o_I (wn := [(h, oX5 A holding wool day), ((A 0), aI cI 10 yards), ((A 2), aI cI 9 lengths), ((A 3), aI cI 10 r7.2)]) C [0, 3] rfl (x_V C dX5_planStep_63 (c_X5_planDraw l D cI cZ cG h A plan holding wool day (u4 - (1 : Int32)) u4 (lengths (u4 - (1 : Int32)).toNatClampNeg) r7 e7) rfl gX5_planStep_X5_planDraw hd_X5_planDraw rfl ⟨Nat.le_of_ble_eq_true rfl, Nat.le_of_ble_eq_true rfl⟩ ⟨rfl, rfl⟩ ⟨Nat.zero_le _, Nat.zero_le _⟩ rfl [0, 3] rfl rfl 0 rfl rfl (Nat.le_of_ble_eq_true rfl) rfl) rfl rfl rfl ?_
      refine r_if_eq (y := 0) (tgt := 82) C dX5_planStep_66 rfl rfl (fun c8 => ?_) (fun c8 => ?_)
      · have hf := gd_t c8 hf
        refine r_lv (lv' := [(0, .ref h), (1, .int u1), (3, .int u3)]) [0, 1, 2] rfl ?_
        exact hkx82 _ _ hf
      · have hf := gd_f c8 hf
        refine r_iload_n C dX5_planStep_69 rfl 2 rfl rfl ?_
        refine r_iconst C dX5_planStep_70 kk_i_1 rfl ?_
        refine r_iload C dX5_planStep_71 3 rfl rfl ?_
        refine r_ishl C dX5_planStep_73 rfl ?_
        refine r_ior C dX5_planStep_74 rfl ?_
        refine r_istore_n (lv' := [(3, .int (u3 ||| ((1 : Int32) <<< (u4 &&& 31)))), (0, .ref h), (1, .int u1), (4, .int u4)]) C dX5_planStep_75 rfl (by decide) rfl rfl ?_
        refine r_iinc (lv' := [(4, .int (u4 + (1 : Int32))), (3, .int (u3 ||| ((1 : Int32) <<< (u4 &&& 31)))), (0, .ref h), (1, .int u1)]) C dX5_planStep_76 3 rfl (ki_1 _) (by decide) rfl rfl ?_
        refine r_goto (tgt := 40) C dX5_planStep_79 rfl ?_
        refine r_lv (lv' := [(0, .ref h), (1, .int u1), (3, .int (u3 ||| ((1 : Int32) <<< (u4 &&& 31)))), (4, .int (u4 + (1 : Int32)))]) [2, 3, 1, 0] rfl ?_
        exact ih _ _ _ hf
def f_X5_planStep_87 (lengths : Nat → Int32) : Nat → Int32 → Int32 → (Nat → Int32) → Option (Int32 × (Nat → Int32))
  | 0, _, _, _ => none
  | n + 1, u3, u4, plan => if u4 < 0 then some (u3, plan) else if u4 < 0 ∨ 9 ≤ u4.toNatClampNeg then none else (f_X5_planDraw plan (u4 + (1 : Int32)) u4 (lengths u4.toNatClampNeg)).bind (fun r13 => if r13.1 = 0 then some (u3, r13.2) else f_X5_planStep_87 lengths n (u3 ||| ((1 : Int32) <<< (u4 &&& 31))) (u4 + (-1 : Int32)) r13.2)
set_option maxHeartbeats 4000000 in
set_option maxRecDepth 100000 in
theorem k_X5_planStep_87 (C : Cx p s m args meth c D (tysW cI cZ cG) RX5 cX5_planStep 5 wsX5_planStep (some .int)) (h : Nat) (A : Nat → Nat) (yards : Nat → Int32) (lengths : Nat → Int32) (holding : Int32) (wool : Int32) (day : Int32)  (res : Int32 × (Nat → Int32)) : ∀ (n : Nat) (u3 : Int32) (u4 : Int32) (plan : Nat → Int32), f_X5_planStep_87 lengths n u3 u4 plan = some res → Wd p l e rm_X5_planStep s m args below meth c D w0 5 0 0 (MQ below (QcI D (tysW cI cZ cG) w0 [(h, oX5 A holding wool day), ((A 0), aI cI 10 yards), ((A 2), aI cI 9 lengths), ((A 3), aI cI 10 res.2)] res.1 s.heap.size) args s 0 0 (va_A w0 s.heap.size)) [(h, oX5 A holding wool day), ((A 0), aI cI 10 yards), ((A 2), aI cI 9 lengths), ((A 3), aI cI 10 plan)] [(0, .ref h), (3, .int u3), (4, .int u4)] 87 [] := by
  intro n
  induction n with
  | zero =>
    intro u3 u4 plan hf
    exact no_none hf
  | succ n ih =>
    intro u3 u4 plan hf
    unfold f_X5_planStep_87 at hf
    refine r_iload C dX5_planStep_87 2 rfl rfl ?_
    refine r_if_lt (y := 0) (tgt := 125) C dX5_planStep_89 rfl rfl (fun c11 => ?_) (fun c11 => ?_)
    · have hf := gd_t c11 hf
      refine r_iload_n C dX5_planStep_125 rfl 1 rfl rfl ?_
      cases hf
      exact r_iret C dX5_planStep_126 rfl
    · have hf := gd_f c11 hf
      refine r_aload_n C dX5_planStep_92 rfl 0 rfl rfl ?_
      refine r_iload C dX5_planStep_93 2 rfl rfl ?_
      refine r_iconst C dX5_planStep_95 kk_i_1 rfl ?_
      refine r_iadd C dX5_planStep_96 rfl ?_
      refine r_iload C dX5_planStep_97 2 rfl rfl ?_
      refine r_aload_n C dX5_planStep_99 rfl 0 rfl rfl ?_
      refine r_get C dX5_planStep_100 fw_X5_planStep_X5 0 rfl rfl 2 (by decide) rfl fl_X5_planStep_18 rfl rfl ?_
      refine r_iload C dX5_planStep_103 2 rfl rfl ?_
      obtain ⟨g12, hf⟩ := gd_n hf
      refine r_iald C dX5_planStep_105 2 0 rfl rfl g12 rfl ?_
      obtain ⟨r13, e13, hf⟩ := gd_b hf
      refine o_I (wn := [(h, oX5 A holding wool day), ((A 0), aI cI 10 yards), ((A 2), aI cI 9 lengths), ((A 3), aI cI 10 r13.2)]) C [0, 3] rfl (x_V C dX5_planStep_106 (c_X5_planDraw l D cI cZ cG h A plan holding wool day (u4 + (1 : Int32)) u4 (lengths u4.toNatClampNeg) r13 e13) rfl gX5_planStep_X5_planDraw hd_X5_planDraw rfl ⟨Nat.le_of_ble_eq_true rfl, Nat.le_of_ble_eq_true rfl⟩ ⟨rfl, rfl⟩ ⟨Nat.zero_le _, Nat.zero_le _⟩ rfl [0, 3] rfl rfl 0 rfl rfl (Nat.le_of_ble_eq_true rfl) rfl) rfl rfl rfl ?_
      refine r_if_eq (y := 0) (tgt := 125) C dX5_planStep_109 rfl rfl (fun c14 => ?_) (fun c14 => ?_)
      · have hf := gd_t c14 hf
        refine r_iload_n C dX5_planStep_125 rfl 1 rfl rfl ?_
        cases hf
        exact r_iret C dX5_planStep_126 rfl
      · have hf := gd_f c14 hf
        refine r_iload_n C dX5_planStep_112 rfl 1 rfl rfl ?_
        refine r_iconst C dX5_planStep_113 kk_i_1 rfl ?_
        refine r_iload C dX5_planStep_114 2 rfl rfl ?_
        refine r_ishl C dX5_planStep_116 rfl ?_
        refine r_ior C dX5_planStep_117 rfl ?_
        refine r_istore_n (lv' := [(3, .int (u3 ||| ((1 : Int32) <<< (u4 &&& 31)))), (0, .ref h), (4, .int u4)]) C dX5_planStep_118 rfl (by decide) rfl rfl ?_
        refine r_iinc (lv' := [(4, .int (u4 + (-1 : Int32))), (3, .int (u3 ||| ((1 : Int32) <<< (u4 &&& 31)))), (0, .ref h)]) C dX5_planStep_119 2 rfl (ki_m1 _) (by decide) rfl rfl ?_
        refine r_goto (tgt := 87) C dX5_planStep_122 rfl ?_
        refine r_lv (lv' := [(0, .ref h), (3, .int (u3 ||| ((1 : Int32) <<< (u4 &&& 31)))), (4, .int (u4 + (-1 : Int32)))]) [2, 1, 0] rfl ?_
        exact ih _ _ _ hf
def f_X5_planStep (yards : Nat → Int32) (lengths : Nat → Int32) (plan : Nat → Int32) (u1 : Int32) (u2 : Int32) : Option (Int32 × (Nat → Int32)) := f_X5_planStep_2 yards (fun plan_3 => if u1 < 0 ∨ 10 ≤ u1.toNatClampNeg then none else f_X5_planStep_40 lengths (fun u3_9 plan_10 => f_X5_planStep_87 lengths 2000 u3_9 (u1 - (1 : Int32)) plan_10) 2000 (0 : Int32) (u1 + (1 : Int32)) (upd plan_3 u1.toNatClampNeg u2)) 2000 (0 : Int32) plan
set_option maxHeartbeats 4000000 in
set_option maxRecDepth 100000 in
theorem c_X5_planStep (l : Launch) (D : va_G) (cI cZ cG : ClassId) (h : Nat) (A : Nat → Nat) (yards : Nat → Int32) (lengths : Nat → Int32) (plan : Nat → Int32) (holding : Int32) (wool : Int32) (day : Int32) (u1 : Int32) (u2 : Int32) (res : Int32 × (Nat → Int32)) (hf : f_X5_planStep yards lengths plan u1 u2 = some res) : CI l D (tysW cI cZ cG) yX5_planStep wsX5_planStep rm_X5_planStep [.ref h, .int u1, .int u2] [(h, oX5 A holding wool day), ((A 0), aI cI 10 yards), ((A 2), aI cI 9 lengths), ((A 3), aI cI 10 plan)] res.1 [(h, oX5 A holding wool day), ((A 0), aI cI 10 yards), ((A 2), aI cI 9 lengths), ((A 3), aI cI 10 res.2)] := by
  refine CG.intro (own := RX5) (by decide +kernel) rfl rfl (Nat.le_of_ble_eq_true rfl) (fun p e s m args below meth c C => ?_)
  refine r_lv (lv' := [(0, .ref h), (1, .int u1), (2, .int u2)]) [0, 1, 2] rfl ?_
  unfold f_X5_planStep at hf
  refine r_iconst C dX5_planStep_0 kk_i_0 rfl ?_
  refine r_istore_n (lv' := [(3, .int (0 : Int32)), (0, .ref h), (1, .int u1), (2, .int u2)]) C dX5_planStep_1 rfl (by decide) rfl rfl ?_
  refine r_lv (lv' := [(0, .ref h), (1, .int u1), (2, .int u2), (3, .int (0 : Int32))]) [1, 2, 3, 0] rfl ?_
  refine k_X5_planStep_2 C h A yards lengths holding wool day u1 u2 _ _ ?_ 2000 _ _ hf
  · intro plan_3 hf
    refine r_aload_n C dX5_planStep_26 rfl 0 rfl rfl ?_
    refine r_get C dX5_planStep_27 fw_X5_planStep_X5 0 rfl rfl 3 (by decide) rfl fl_X5_planStep_21 rfl rfl ?_
    refine r_iload_n C dX5_planStep_30 rfl 1 rfl rfl ?_
    refine r_iload_n C dX5_planStep_31 rfl 2 rfl rfl ?_
    obtain ⟨g4, hf⟩ := gd_n hf
    refine r_iast (ws' := [(h, oX5 A holding wool day), ((A 0), aI cI 10 yards), ((A 2), aI cI 9 lengths), ((A 3), aI cI 10 (upd plan_3 u1.toNatClampNeg u2))]) C dX5_planStep_32 3 0 rfl rfl g4 rfl rfl ?_
    refine r_iconst C dX5_planStep_33 kk_i_0 rfl ?_
    refine r_istore_n (lv' := [(3, .int (0 : Int32)), (0, .ref h), (1, .int u1), (2, .int u2)]) C dX5_planStep_34 rfl (by decide) rfl rfl ?_
    refine r_iload_n C dX5_planStep_35 rfl 2 rfl rfl ?_
    refine r_iconst C dX5_planStep_36 kk_i_1 rfl ?_
    refine r_iadd C dX5_planStep_37 rfl ?_
    refine r_istore (lv' := [(4, .int (u1 + (1 : Int32))), (3, .int (0 : Int32)), (0, .ref h), (1, .int u1), (2, .int u2)]) C dX5_planStep_38 (by decide) rfl rfl ?_
    refine r_lv (lv' := [(0, .ref h), (1, .int u1), (3, .int (0 : Int32)), (4, .int (u1 + (1 : Int32)))]) [2, 3, 1, 0] rfl ?_
    refine k_X5_planStep_40 C h A yards lengths holding wool day u1 _ _ ?_ 2000 _ _ _ hf
    · intro u3_9 plan_10 hf
      refine r_iload_n C dX5_planStep_82 rfl 1 rfl rfl ?_
      refine r_iconst C dX5_planStep_83 kk_i_1 rfl ?_
      refine r_isub C dX5_planStep_84 rfl ?_
      refine r_istore (lv' := [(4, .int (u1 - (1 : Int32))), (0, .ref h), (1, .int u1), (3, .int u3_9)]) C dX5_planStep_85 (by decide) rfl rfl ?_
      refine r_lv (lv' := [(0, .ref h), (3, .int u3_9), (4, .int (u1 - (1 : Int32)))]) [1, 3, 0] rfl ?_
      refine k_X5_planStep_87 C h A yards lengths holding wool day _ 2000 _ _ _ hf
theorem wn_X5_whyNotStep_X7_isWithin_s : Cond.static yX7_isWithin ∈ wsX5_whyNotStep := by decide +kernel
theorem wn_X5_whyNotStep_X7_isWithin_i : Cond.initialized yX7_isWithin.cls ∈ wsX5_whyNotStep := by decide +kernel
theorem fw_X5_whyNotStep_X5 : ∀ w ∈ u_ws RX5 TX5 7, w ∈ wsX5_whyNotStep := by decide +kernel
theorem fl_X5_whyNotStep_28 : Cond.fieldLink RX5 28 "MittenLine$Row" "holding" "I" ∈ wsX5_whyNotStep := by decide +kernel
abbrev rm_X5_whyNotStep : Jvm.Room := { frames := 2, cells := 0, slots := 0, locals := 47 }
def f_X5_whyNotStep (yards : Nat → Int32) (lengths : Nat → Int32) (plan : Nat → Int32) (holding : Int32) (u1 : Int32) (u2 : Int32) : Option (Int32 × (Nat → Int32)) := (f_X7_isWithin u2 (0 : Int32) (999 : Int32)).bind (fun r1 => if r1 = 0 then some ((1 : Int32), plan) else (f_X5_planStep yards lengths plan u1 u2).bind (fun r3 => if ((r3.1 ||| ((1 : Int32) <<< (u1 &&& 31))) &&& holding) = 0 then some ((0 : Int32), r3.2) else some ((2 : Int32), r3.2)))
set_option maxHeartbeats 4000000 in
set_option maxRecDepth 100000 in
theorem c_X5_whyNotStep (l : Launch) (D : va_G) (cI cZ cG : ClassId) (h : Nat) (A : Nat → Nat) (yards : Nat → Int32) (lengths : Nat → Int32) (plan : Nat → Int32) (holding : Int32) (wool : Int32) (day : Int32) (u1 : Int32) (u2 : Int32) (res : Int32 × (Nat → Int32)) (hf : f_X5_whyNotStep yards lengths plan holding u1 u2 = some res) : CI l D (tysW cI cZ cG) yX5_whyNotStep wsX5_whyNotStep rm_X5_whyNotStep [.ref h, .int u1, .int u2] [(h, oX5 A holding wool day), ((A 0), aI cI 10 yards), ((A 2), aI cI 9 lengths), ((A 3), aI cI 10 plan)] res.1 [(h, oX5 A holding wool day), ((A 0), aI cI 10 yards), ((A 2), aI cI 9 lengths), ((A 3), aI cI 10 res.2)] := by
  refine CG.intro (own := RX5) (by decide +kernel) rfl rfl (Nat.le_of_ble_eq_true rfl) (fun p e s m args below meth c C => ?_)
  refine r_lv (lv' := [(0, .ref h), (1, .int u1), (2, .int u2)]) [0, 1, 2] rfl ?_
  unfold f_X5_whyNotStep at hf
  refine r_iload_n C dX5_whyNotStep_0 rfl 2 rfl rfl ?_
  refine r_iconst C dX5_whyNotStep_1 kk_i_0 rfl ?_
  refine r_sipush C dX5_whyNotStep_2 kk_s_999 rfl ?_
  obtain ⟨r1, e1, hf⟩ := gd_b hf
  refine o_I (wn := [(h, oX5 A holding wool day), ((A 0), aI cI 10 yards), ((A 2), aI cI 9 lengths), ((A 3), aI cI 10 plan)]) C [] rfl (x_SN C dX5_whyNotStep_5 (c_X7_isWithin l D cI cZ cG u2 (0 : Int32) (999 : Int32) r1 e1) rfl gX5_whyNotStep_X7_isWithin_n57 (List.mem_of_getElem? (i := 2) rfl) wn_X5_whyNotStep_X7_isWithin_s wn_X5_whyNotStep_X7_isWithin_i hs_X7_isWithin rfl ⟨Nat.le_of_ble_eq_true rfl, Nat.le_of_ble_eq_true rfl⟩ ⟨rfl, rfl⟩ ⟨Nat.zero_le _, Nat.zero_le _⟩ rfl [] rfl rfl (Nat.le_of_ble_eq_true rfl) rfl) rfl rfl rfl ?_
  refine r_if_ne (y := 0) (tgt := 13) C dX5_whyNotStep_8 rfl rfl (fun c2 => ?_) (fun c2 => ?_)
  · have hf := gd_f c2 hf
    refine r_aload_n C dX5_whyNotStep_13 rfl 0 rfl rfl ?_
    refine r_iload_n C dX5_whyNotStep_14 rfl 1 rfl rfl ?_
    refine r_iload_n C dX5_whyNotStep_15 rfl 2 rfl rfl ?_
    obtain ⟨r3, e3, hf⟩ := gd_b hf
    refine o_I (wn := [(h, oX5 A holding wool day), ((A 0), aI cI 10 yards), ((A 2), aI cI 9 lengths), ((A 3), aI cI 10 r3.2)]) C [0, 1, 2, 3] rfl (x_V C dX5_whyNotStep_16 (c_X5_planStep l D cI cZ cG h A yards lengths plan holding wool day u1 u2 r3 e3) rfl gX5_whyNotStep_X5_planStep hd_X5_planStep rfl ⟨Nat.le_of_ble_eq_true rfl, Nat.le_of_ble_eq_true rfl⟩ ⟨rfl, rfl⟩ ⟨Nat.zero_le _, Nat.zero_le _⟩ rfl [0, 1, 2, 3] rfl rfl 0 rfl rfl (Nat.le_of_ble_eq_true rfl) rfl) rfl rfl rfl ?_
    refine r_iconst C dX5_whyNotStep_19 kk_i_1 rfl ?_
    refine r_iload_n C dX5_whyNotStep_20 rfl 1 rfl rfl ?_
    refine r_ishl C dX5_whyNotStep_21 rfl ?_
    refine r_ior C dX5_whyNotStep_22 rfl ?_
    refine r_istore_n (lv' := [(3, .int (r3.1 ||| ((1 : Int32) <<< (u1 &&& 31)))), (0, .ref h), (1, .int u1), (2, .int u2)]) C dX5_whyNotStep_23 rfl (by decide) rfl rfl ?_
    refine r_iload_n C dX5_whyNotStep_24 rfl 0 rfl rfl ?_
    refine r_aload_n C dX5_whyNotStep_25 rfl 1 rfl rfl ?_
    refine r_get C dX5_whyNotStep_26 fw_X5_whyNotStep_X5 0 rfl rfl 4 (by decide) rfl fl_X5_whyNotStep_28 rfl rfl ?_
    refine r_iand C dX5_whyNotStep_29 rfl ?_
    refine r_if_eq (y := 0) (tgt := 37) C dX5_whyNotStep_30 rfl rfl (fun c4 => ?_) (fun c4 => ?_)
    · have hf := gd_t c4 hf
      refine r_iconst C dX5_whyNotStep_37 kk_i_0 rfl ?_
      cases hf
      exact r_iret C dX5_whyNotStep_38 rfl
    · have hf := gd_f c4 hf
      refine r_iconst C dX5_whyNotStep_33 kk_i_2 rfl ?_
      refine r_goto (tgt := 38) C dX5_whyNotStep_34 rfl ?_
      cases hf
      exact r_iret C dX5_whyNotStep_38 rfl
  · have hf := gd_t c2 hf
    refine r_iconst C dX5_whyNotStep_11 kk_i_1 rfl ?_
    cases hf
    exact r_iret C dX5_whyNotStep_12 rfl
theorem fw_X5_whyNotLetOut_X5 : ∀ w ∈ u_ws RX5 TX5 7, w ∈ wsX5_whyNotLetOut := by decide +kernel
theorem fl_X5_whyNotLetOut_24 : Cond.fieldLink RX5 24 "MittenLine$Row" "wool" "I" ∈ wsX5_whyNotLetOut := by decide +kernel
theorem fl_X5_whyNotLetOut_18 : Cond.fieldLink RX5 18 "MittenLine$Row" "lengths" "[I" ∈ wsX5_whyNotLetOut := by decide +kernel
abbrev rm_X5_whyNotLetOut : Jvm.Room := { frames := 0, cells := 0, slots := 0, locals := 0 }
def f_X5_whyNotLetOut (lengths : Nat → Int32) (wool : Int32) (u1 : Int32) : Option (Int32) := if u1 < (9 : Int32) then if wool = 0 then some ((4 : Int32)) else if u1 < 0 ∨ 9 ≤ u1.toNatClampNeg then none else if (lengths u1.toNatClampNeg) < (99 : Int32) then some ((0 : Int32)) else some ((5 : Int32)) else some ((3 : Int32))
set_option maxHeartbeats 4000000 in
set_option maxRecDepth 100000 in
theorem c_X5_whyNotLetOut (l : Launch) (D : va_G) (cI cZ cG : ClassId) (h : Nat) (A : Nat → Nat) (lengths : Nat → Int32) (holding : Int32) (wool : Int32) (day : Int32) (u1 : Int32) (res : Int32) (hf : f_X5_whyNotLetOut lengths wool u1 = some res) : CI l D (tysW cI cZ cG) yX5_whyNotLetOut wsX5_whyNotLetOut rm_X5_whyNotLetOut [.ref h, .int u1] [(h, oX5 A holding wool day), ((A 2), aI cI 9 lengths)] res [(h, oX5 A holding wool day), ((A 2), aI cI 9 lengths)] := by
  refine CG.intro (own := RX5) (by decide +kernel) rfl rfl (Nat.le_of_ble_eq_true rfl) (fun p e s m args below meth c C => ?_)
  refine r_lv (lv' := [(0, .ref h), (1, .int u1)]) [0, 1] rfl ?_
  unfold f_X5_whyNotLetOut at hf
  refine r_iload_n C dX5_whyNotLetOut_0 rfl 1 rfl rfl ?_
  refine r_bipush C dX5_whyNotLetOut_1 kk_b_9 rfl ?_
  refine r_icmp_lt (tgt := 8) C dX5_whyNotLetOut_3 rfl rfl (fun c1 => ?_) (fun c1 => ?_)
  · have hf := gd_t c1 hf
    refine r_aload_n C dX5_whyNotLetOut_8 rfl 0 rfl rfl ?_
    refine r_get C dX5_whyNotLetOut_9 fw_X5_whyNotLetOut_X5 0 rfl rfl 5 (by decide) rfl fl_X5_whyNotLetOut_24 rfl rfl ?_
    refine r_if_ne (y := 0) (tgt := 17) C dX5_whyNotLetOut_12 rfl rfl (fun c2 => ?_) (fun c2 => ?_)
    · have hf := gd_f c2 hf
      refine r_aload_n C dX5_whyNotLetOut_17 rfl 0 rfl rfl ?_
      refine r_get C dX5_whyNotLetOut_18 fw_X5_whyNotLetOut_X5 0 rfl rfl 2 (by decide) rfl fl_X5_whyNotLetOut_18 rfl rfl ?_
      refine r_iload_n C dX5_whyNotLetOut_21 rfl 1 rfl rfl ?_
      obtain ⟨g3, hf⟩ := gd_n hf
      refine r_iald C dX5_whyNotLetOut_22 1 0 rfl rfl g3 rfl ?_
      refine r_bipush C dX5_whyNotLetOut_23 kk_b_99 rfl ?_
      refine r_icmp_lt (tgt := 32) C dX5_whyNotLetOut_25 rfl rfl (fun c4 => ?_) (fun c4 => ?_)
      · have hf := gd_t c4 hf
        refine r_iconst C dX5_whyNotLetOut_32 kk_i_0 rfl ?_
        cases hf
        exact r_iret C dX5_whyNotLetOut_33 rfl
      · have hf := gd_f c4 hf
        refine r_iconst C dX5_whyNotLetOut_28 kk_i_5 rfl ?_
        refine r_goto (tgt := 33) C dX5_whyNotLetOut_29 rfl ?_
        cases hf
        exact r_iret C dX5_whyNotLetOut_33 rfl
    · have hf := gd_t c2 hf
      refine r_iconst C dX5_whyNotLetOut_15 kk_i_4 rfl ?_
      cases hf
      exact r_iret C dX5_whyNotLetOut_16 rfl
  · have hf := gd_f c1 hf
    refine r_iconst C dX5_whyNotLetOut_6 kk_i_3 rfl ?_
    cases hf
    exact r_iret C dX5_whyNotLetOut_7 rfl
theorem fw_X5_apart_X5 : ∀ w ∈ u_ws RX5 TX5 7, w ∈ wsX5_apart := by decide +kernel
theorem fl_X5_apart_9 : Cond.fieldLink RX5 9 "MittenLine$Row" "yards" "[I" ∈ wsX5_apart := by decide +kernel
theorem wm_X5_apart_abs_34 : Cond.methodLink RX5 34 Lib.Math.abs.name ∈ wsX5_apart := by decide +kernel
theorem wm_X5_apart_abs_s : Cond.static Lib.Math.abs.name ∈ wsX5_apart := by decide +kernel
theorem wm_X5_apart_i : Cond.initialized "java/lang/Math" ∈ wsX5_apart := by decide +kernel
theorem wm_X5_apart_abs_c : Cond.code Lib.Math.abs.name Lib.Math.abs.code 1 (some .int) ∈ wsX5_apart := by decide +kernel
abbrev rm_X5_apart : Jvm.Room := { frames := 1, cells := 0, slots := 0, locals := 24 }
def f_X5_apart (yards : Nat → Int32) (u1 : Int32) : Option (Int32) := if (u1 + (1 : Int32)) < 0 ∨ 10 ≤ (u1 + (1 : Int32)).toNatClampNeg then none else if u1 < 0 ∨ 10 ≤ u1.toNatClampNeg then none else some ((iabs ((yards (u1 + (1 : Int32)).toNatClampNeg) - (yards u1.toNatClampNeg))))
set_option maxHeartbeats 4000000 in
set_option maxRecDepth 100000 in
theorem c_X5_apart (l : Launch) (D : va_G) (cI cZ cG : ClassId) (h : Nat) (A : Nat → Nat) (yards : Nat → Int32) (holding : Int32) (wool : Int32) (day : Int32) (u1 : Int32) (res : Int32) (hf : f_X5_apart yards u1 = some res) : CI l D (tysW cI cZ cG) yX5_apart wsX5_apart rm_X5_apart [.ref h, .int u1] [(h, oX5 A holding wool day), ((A 0), aI cI 10 yards)] res [(h, oX5 A holding wool day), ((A 0), aI cI 10 yards)] := by
  refine CG.intro (own := RX5) (by decide +kernel) rfl rfl (Nat.le_of_ble_eq_true rfl) (fun p e s m args below meth c C => ?_)
  refine r_lv (lv' := [(0, .ref h), (1, .int u1)]) [0, 1] rfl ?_
  unfold f_X5_apart at hf
  refine r_aload_n C dX5_apart_0 rfl 0 rfl rfl ?_
  refine r_get C dX5_apart_1 fw_X5_apart_X5 0 rfl rfl 0 (by decide) rfl fl_X5_apart_9 rfl rfl ?_
  refine r_iload_n C dX5_apart_4 rfl 1 rfl rfl ?_
  refine r_iconst C dX5_apart_5 kk_i_1 rfl ?_
  refine r_iadd C dX5_apart_6 rfl ?_
  obtain ⟨g1, hf⟩ := gd_n hf
  refine r_iald C dX5_apart_7 1 0 rfl rfl g1 rfl ?_
  refine r_aload_n C dX5_apart_8 rfl 0 rfl rfl ?_
  refine r_get C dX5_apart_9 fw_X5_apart_X5 0 rfl rfl 0 (by decide) rfl fl_X5_apart_9 rfl rfl ?_
  refine r_iload_n C dX5_apart_12 rfl 1 rfl rfl ?_
  obtain ⟨g2, hf⟩ := gd_n hf
  refine r_iald C dX5_apart_13 1 0 rfl rfl g2 rfl ?_
  refine r_isub C dX5_apart_14 rfl ?_
  refine r_mabs C dX5_apart_15 wm_X5_apart_abs_34 wm_X5_apart_abs_s wm_X5_apart_i wm_X5_apart_abs_c (Nat.le_of_ble_eq_true rfl) (Nat.le_of_ble_eq_true rfl) (Nat.zero_le _) (Nat.zero_le _) rfl ?_
  cases hf
  exact r_iret C dX5_apart_18 rfl
theorem fw_X5_isTaut_X5 : ∀ w ∈ u_ws RX5 TX5 7, w ∈ wsX5_isTaut := by decide +kernel
theorem fl_X5_isTaut_18 : Cond.fieldLink RX5 18 "MittenLine$Row" "lengths" "[I" ∈ wsX5_isTaut := by decide +kernel
abbrev rm_X5_isTaut : Jvm.Room := { frames := 2, cells := 0, slots := 0, locals := 45 }
def f_X5_isTaut (yards : Nat → Int32) (lengths : Nat → Int32) (u1 : Int32) : Option (Int32) := (f_X5_apart yards u1).bind (fun r1 => if u1 < 0 ∨ 9 ≤ u1.toNatClampNeg then none else if r1 = (lengths u1.toNatClampNeg) then some ((1 : Int32)) else some ((0 : Int32)))
set_option maxHeartbeats 4000000 in
set_option maxRecDepth 100000 in
theorem c_X5_isTaut (l : Launch) (D : va_G) (cI cZ cG : ClassId) (h : Nat) (A : Nat → Nat) (yards : Nat → Int32) (lengths : Nat → Int32) (holding : Int32) (wool : Int32) (day : Int32) (u1 : Int32) (res : Int32) (hf : f_X5_isTaut yards lengths u1 = some res) : CI l D (tysW cI cZ cG) yX5_isTaut wsX5_isTaut rm_X5_isTaut [.ref h, .int u1] [(h, oX5 A holding wool day), ((A 0), aI cI 10 yards), ((A 2), aI cI 9 lengths)] res [(h, oX5 A holding wool day), ((A 0), aI cI 10 yards), ((A 2), aI cI 9 lengths)] := by
  refine CG.intro (own := RX5) (by decide +kernel) rfl rfl (Nat.le_of_ble_eq_true rfl) (fun p e s m args below meth c C => ?_)
  refine r_lv (lv' := [(0, .ref h), (1, .int u1)]) [0, 1] rfl ?_
  unfold f_X5_isTaut at hf
  refine r_aload_n C dX5_isTaut_0 rfl 0 rfl rfl ?_
  refine r_iload_n C dX5_isTaut_1 rfl 1 rfl rfl ?_
  obtain ⟨r1, e1, hf⟩ := gd_b hf
  refine o_I (wn := [(h, oX5 A holding wool day), ((A 0), aI cI 10 yards), ((A 2), aI cI 9 lengths)]) C [0, 1] rfl (x_V C dX5_isTaut_2 (c_X5_apart l D cI cZ cG h A yards holding wool day u1 r1 e1) rfl gX5_isTaut_X5_apart hd_X5_apart rfl ⟨Nat.le_of_ble_eq_true rfl, Nat.le_of_ble_eq_true rfl⟩ ⟨rfl, rfl⟩ ⟨Nat.zero_le _, Nat.zero_le _⟩ rfl [0, 1] rfl rfl 0 rfl rfl (Nat.le_of_ble_eq_true rfl) rfl) rfl rfl rfl ?_
  refine r_aload_n C dX5_isTaut_5 rfl 0 rfl rfl ?_
  refine r_get C dX5_isTaut_6 fw_X5_isTaut_X5 0 rfl rfl 2 (by decide) rfl fl_X5_isTaut_18 rfl rfl ?_
  refine r_iload_n C dX5_isTaut_9 rfl 1 rfl rfl ?_
  obtain ⟨g2, hf⟩ := gd_n hf
  refine r_iald C dX5_isTaut_10 2 0 rfl rfl g2 rfl ?_
  refine r_icmp_ne (tgt := 18) C dX5_isTaut_11 rfl rfl (fun c3 => ?_) (fun c3 => ?_)
  · have hf := gd_f c3 hf
    refine r_iconst C dX5_isTaut_18 kk_i_0 rfl ?_
    cases hf
    exact r_zret C dX5_isTaut_19 nb0 rfl
  · have hf := gd_t c3 hf
    refine r_iconst C dX5_isTaut_14 kk_i_1 rfl ?_
    refine r_goto (tgt := 19) C dX5_isTaut_15 rfl ?_
    cases hf
    exact r_zret C dX5_isTaut_19 nb1 rfl
theorem fw_X5_whyNotWind_X5 : ∀ w ∈ u_ws RX5 TX5 7, w ∈ wsX5_whyNotWind := by decide +kernel
theorem fl_X5_whyNotWind_18 : Cond.fieldLink RX5 18 "MittenLine$Row" "lengths" "[I" ∈ wsX5_whyNotWind := by decide +kernel
abbrev rm_X5_whyNotWind : Jvm.Room := { frames := 3, cells := 0, slots := 0, locals := 66 }
def f_X5_whyNotWind (yards : Nat → Int32) (lengths : Nat → Int32) (u1 : Int32) : Option (Int32) := if u1 < (9 : Int32) then (f_X5_isTaut yards lengths u1).bind (fun r2 => if r2 = 0 then if u1 < 0 ∨ 9 ≤ u1.toNatClampNeg then none else if (1 : Int32) < (lengths u1.toNatClampNeg) then some ((0 : Int32)) else some ((5 : Int32)) else some ((5 : Int32))) else some ((3 : Int32))
set_option maxHeartbeats 4000000 in
set_option maxRecDepth 100000 in
theorem c_X5_whyNotWind (l : Launch) (D : va_G) (cI cZ cG : ClassId) (h : Nat) (A : Nat → Nat) (yards : Nat → Int32) (lengths : Nat → Int32) (holding : Int32) (wool : Int32) (day : Int32) (u1 : Int32) (res : Int32) (hf : f_X5_whyNotWind yards lengths u1 = some res) : CI l D (tysW cI cZ cG) yX5_whyNotWind wsX5_whyNotWind rm_X5_whyNotWind [.ref h, .int u1] [(h, oX5 A holding wool day), ((A 0), aI cI 10 yards), ((A 2), aI cI 9 lengths)] res [(h, oX5 A holding wool day), ((A 0), aI cI 10 yards), ((A 2), aI cI 9 lengths)] := by
  refine CG.intro (own := RX5) (by decide +kernel) rfl rfl (Nat.le_of_ble_eq_true rfl) (fun p e s m args below meth c C => ?_)
  refine r_lv (lv' := [(0, .ref h), (1, .int u1)]) [0, 1] rfl ?_
  unfold f_X5_whyNotWind at hf
  refine r_iload_n C dX5_whyNotWind_0 rfl 1 rfl rfl ?_
  refine r_bipush C dX5_whyNotWind_1 kk_b_9 rfl ?_
  refine r_icmp_lt (tgt := 8) C dX5_whyNotWind_3 rfl rfl (fun c1 => ?_) (fun c1 => ?_)
  · have hf := gd_t c1 hf
    refine r_aload_n C dX5_whyNotWind_8 rfl 0 rfl rfl ?_
    refine r_iload_n C dX5_whyNotWind_9 rfl 1 rfl rfl ?_
    obtain ⟨r2, e2, hf⟩ := gd_b hf
    refine o_I (wn := [(h, oX5 A holding wool day), ((A 0), aI cI 10 yards), ((A 2), aI cI 9 lengths)]) C [0, 1, 2] rfl (x_V C dX5_whyNotWind_10 (c_X5_isTaut l D cI cZ cG h A yards lengths holding wool day u1 r2 e2) rfl gX5_whyNotWind_X5_isTaut hd_X5_isTaut rfl ⟨Nat.le_of_ble_eq_true rfl, Nat.le_of_ble_eq_true rfl⟩ ⟨rfl, rfl⟩ ⟨Nat.zero_le _, Nat.zero_le _⟩ rfl [0, 1, 2] rfl rfl 0 rfl rfl (Nat.le_of_ble_eq_true rfl) rfl) rfl rfl rfl ?_
    refine r_if_ne (y := 0) (tgt := 26) C dX5_whyNotWind_13 rfl rfl (fun c3 => ?_) (fun c3 => ?_)
    · have hf := gd_f c3 hf
      refine r_iconst C dX5_whyNotWind_26 kk_i_5 rfl ?_
      refine r_goto (tgt := 31) C dX5_whyNotWind_27 rfl ?_
      cases hf
      exact r_iret C dX5_whyNotWind_31 rfl
    · have hf := gd_t c3 hf
      refine r_aload_n C dX5_whyNotWind_16 rfl 0 rfl rfl ?_
      refine r_get C dX5_whyNotWind_17 fw_X5_whyNotWind_X5 0 rfl rfl 2 (by decide) rfl fl_X5_whyNotWind_18 rfl rfl ?_
      refine r_iload_n C dX5_whyNotWind_20 rfl 1 rfl rfl ?_
      obtain ⟨g4, hf⟩ := gd_n hf
      refine r_iald C dX5_whyNotWind_21 2 0 rfl rfl g4 rfl ?_
      refine r_iconst C dX5_whyNotWind_22 kk_i_1 rfl ?_
      refine r_icmp_gt (tgt := 30) C dX5_whyNotWind_23 rfl rfl (fun c5 => ?_) (fun c5 => ?_)
      · have hf := gd_t c5 hf
        refine r_iconst C dX5_whyNotWind_30 kk_i_0 rfl ?_
        cases hf
        exact r_iret C dX5_whyNotWind_31 rfl
      · have hf := gd_f c5 hf
        refine r_iconst C dX5_whyNotWind_26 kk_i_5 rfl ?_
        refine r_goto (tgt := 31) C dX5_whyNotWind_27 rfl ?_
        cases hf
        exact r_iret C dX5_whyNotWind_31 rfl
  · have hf := gd_f c1 hf
    refine r_iconst C dX5_whyNotWind_6 kk_i_3 rfl ?_
    cases hf
    exact r_iret C dX5_whyNotWind_7 rfl
theorem fw_X5_whyNot_X5 : ∀ w ∈ u_ws RX5 TX5 7, w ∈ wsX5_whyNot := by decide +kernel
theorem fl_X5_whyNot_31 : Cond.fieldLink RX5 31 "MittenLine$Row" "day" "I" ∈ wsX5_whyNot := by decide +kernel
theorem fl_X5_whyNot_9 : Cond.fieldLink RX5 9 "MittenLine$Row" "yards" "[I" ∈ wsX5_whyNot := by decide +kernel
abbrev rm_X5_whyNot : Jvm.Room := { frames := 4, cells := 0, slots := 0, locals := 87 }
def f_X5_whyNot (yards : Nat → Int32) (lengths : Nat → Int32) (plan : Nat → Int32) (holding : Int32) (wool : Int32) (day : Int32) (u1 : Int32) (u2 : Int32) (u3 : Int32) : Option (Int32 × (Nat → Int32)) := if u1 = (43 : Int32) then (f_X5_whyNotLetOut lengths wool u2).bind (fun r2 => some (r2, plan)) else if u1 = (45 : Int32) then (f_X5_whyNotWind yards lengths u2).bind (fun r4 => some (r4, plan)) else if u1 = (46 : Int32) then if day < (99 : Int32) then some ((0 : Int32), plan) else some ((6 : Int32), plan) else if u1 = (60 : Int32) then if u2 < 0 ∨ 10 ≤ u2.toNatClampNeg then none else (f_X5_whyNotStep yards lengths plan holding u2 ((yards u2.toNatClampNeg) - u3)).bind (fun r9 => some (r9.1, r9.2)) else if u1 = (62 : Int32) then if u2 < 0 ∨ 10 ≤ u2.toNatClampNeg then none else (f_X5_whyNotStep yards lengths plan holding u2 ((yards u2.toNatClampNeg) + u3)).bind (fun r12 => some (r12.1, r12.2)) else some ((0 : Int32), plan)
set_option maxHeartbeats 4000000 in
set_option maxRecDepth 100000 in
theorem c_X5_whyNot (l : Launch) (D : va_G) (cI cZ cG : ClassId) (h : Nat) (A : Nat → Nat) (yards : Nat → Int32) (lengths : Nat → Int32) (plan : Nat → Int32) (holding : Int32) (wool : Int32) (day : Int32) (u1 : Int32) (u2 : Int32) (u3 : Int32) (res : Int32 × (Nat → Int32)) (hf : f_X5_whyNot yards lengths plan holding wool day u1 u2 u3 = some res) : CI l D (tysW cI cZ cG) yX5_whyNot wsX5_whyNot rm_X5_whyNot [.ref h, .int u1, .int u2, .int u3] [(h, oX5 A holding wool day), ((A 0), aI cI 10 yards), ((A 2), aI cI 9 lengths), ((A 3), aI cI 10 plan)] res.1 [(h, oX5 A holding wool day), ((A 0), aI cI 10 yards), ((A 2), aI cI 9 lengths), ((A 3), aI cI 10 res.2)] := by
  refine CG.intro (own := RX5) (by decide +kernel) rfl rfl (Nat.le_of_ble_eq_true rfl) (fun p e s m args below meth c C => ?_)
  refine r_lv (lv' := [(0, .ref h), (1, .int u1), (2, .int u2), (3, .int u3)]) [0, 1, 2, 3] rfl ?_
  unfold f_X5_whyNot at hf
  refine r_iload_n C dX5_whyNot_0 rfl 1 rfl rfl ?_
  by_cases c1 : u1 = (43 : Int32)
  · have hf := gd_t c1 hf
    refine r_look (tgt := 80) C dX5_whyNot_1 (by decide) (by rw [c1] <;> rfl) rfl ?_
    refine r_aload_n C dX5_whyNot_80 rfl 0 rfl rfl ?_
    refine r_iload_n C dX5_whyNot_81 rfl 2 rfl rfl ?_
    obtain ⟨r2, e2, hf⟩ := gd_b hf
    refine o_I (wn := [(h, oX5 A holding wool day), ((A 0), aI cI 10 yards), ((A 2), aI cI 9 lengths), ((A 3), aI cI 10 plan)]) C [0, 2] rfl (x_V C dX5_whyNot_82 (c_X5_whyNotLetOut l D cI cZ cG h A lengths holding wool day u2 r2 e2) rfl gX5_whyNot_X5_whyNotLetOut hd_X5_whyNotLetOut rfl ⟨Nat.le_of_ble_eq_true rfl, Nat.le_of_ble_eq_true rfl⟩ ⟨rfl, rfl⟩ ⟨Nat.zero_le _, Nat.zero_le _⟩ rfl [0, 2] rfl rfl 0 rfl rfl (Nat.le_of_ble_eq_true rfl) rfl) rfl rfl rfl ?_
    cases hf
    exact r_iret C dX5_whyNot_85 rfl
  have hf := gd_f c1 hf
  by_cases c3 : u1 = (45 : Int32)
  · have hf := gd_t c3 hf
    refine r_look (tgt := 86) C dX5_whyNot_1 (by decide) (by rw [c3] <;> rfl) rfl ?_
    refine r_aload_n C dX5_whyNot_86 rfl 0 rfl rfl ?_
    refine r_iload_n C dX5_whyNot_87 rfl 2 rfl rfl ?_
    obtain ⟨r4, e4, hf⟩ := gd_b hf
    refine o_I (wn := [(h, oX5 A holding wool day), ((A 0), aI cI 10 yards), ((A 2), aI cI 9 lengths), ((A 3), aI cI 10 plan)]) C [0, 1, 2] rfl (x_V C dX5_whyNot_88 (c_X5_whyNotWind l D cI cZ cG h A yards lengths holding wool day u2 r4 e4) rfl gX5_whyNot_X5_whyNotWind hd_X5_whyNotWind rfl ⟨Nat.le_of_ble_eq_true rfl, Nat.le_of_ble_eq_true rfl⟩ ⟨rfl, rfl⟩ ⟨Nat.zero_le _, Nat.zero_le _⟩ rfl [0, 1, 2] rfl rfl 0 rfl rfl (Nat.le_of_ble_eq_true rfl) rfl) rfl rfl rfl ?_
    cases hf
    exact r_iret C dX5_whyNot_91 rfl
  have hf := gd_f c3 hf
  by_cases c5 : u1 = (46 : Int32)
  · have hf := gd_t c5 hf
    refine r_look (tgt := 92) C dX5_whyNot_1 (by decide) (by rw [c5] <;> rfl) rfl ?_
    refine r_aload_n C dX5_whyNot_92 rfl 0 rfl rfl ?_
    refine r_get C dX5_whyNot_93 fw_X5_whyNot_X5 0 rfl rfl 6 (by decide) rfl fl_X5_whyNot_31 rfl rfl ?_
    refine r_bipush C dX5_whyNot_96 kk_b_99 rfl ?_
    refine r_icmp_lt (tgt := 106) C dX5_whyNot_98 rfl rfl (fun c6 => ?_) (fun c6 => ?_)
    · have hf := gd_t c6 hf
      refine r_iconst C dX5_whyNot_106 kk_i_0 rfl ?_
      cases hf
      exact r_iret C dX5_whyNot_107 rfl
    · have hf := gd_f c6 hf
      refine r_bipush C dX5_whyNot_101 kk_b_6 rfl ?_
      refine r_goto (tgt := 107) C dX5_whyNot_103 rfl ?_
      cases hf
      exact r_iret C dX5_whyNot_107 rfl
  have hf := gd_f c5 hf
  by_cases c7 : u1 = (60 : Int32)
  · have hf := gd_t c7 hf
    refine r_look (tgt := 66) C dX5_whyNot_1 (by decide) (by rw [c7] <;> rfl) rfl ?_
    refine r_aload_n C dX5_whyNot_66 rfl 0 rfl rfl ?_
    refine r_iload_n C dX5_whyNot_67 rfl 2 rfl rfl ?_
    refine r_aload_n C dX5_whyNot_68 rfl 0 rfl rfl ?_
    refine r_get C dX5_whyNot_69 fw_X5_whyNot_X5 0 rfl rfl 0 (by decide) rfl fl_X5_whyNot_9 rfl rfl ?_
    refine r_iload_n C dX5_whyNot_72 rfl 2 rfl rfl ?_
    obtain ⟨g8, hf⟩ := gd_n hf
    refine r_iald C dX5_whyNot_73 1 0 rfl rfl g8 rfl ?_
    refine r_iload_n C dX5_whyNot_74 rfl 3 rfl rfl ?_
    refine r_isub C dX5_whyNot_75 rfl ?_
    obtain ⟨r9, e9, hf⟩ := gd_b hf
    refine o_I (wn := [(h, oX5 A holding wool day), ((A 0), aI cI 10 yards), ((A 2), aI cI 9 lengths), ((A 3), aI cI 10 r9.2)]) C [0, 1, 2, 3] rfl (x_V C dX5_whyNot_76 (c_X5_whyNotStep l D cI cZ cG h A yards lengths plan holding wool day u2 ((yards u2.toNatClampNeg) - u3) r9 e9) rfl gX5_whyNot_X5_whyNotStep hd_X5_whyNotStep rfl ⟨Nat.le_of_ble_eq_true rfl, Nat.le_of_ble_eq_true rfl⟩ ⟨rfl, rfl⟩ ⟨Nat.zero_le _, Nat.zero_le _⟩ rfl [0, 1, 2, 3] rfl rfl 0 rfl rfl (Nat.le_of_ble_eq_true rfl) rfl) rfl rfl rfl ?_
    cases hf
    exact r_iret C dX5_whyNot_79 rfl
  have hf := gd_f c7 hf
  by_cases c10 : u1 = (62 : Int32)
  · have hf := gd_t c10 hf
    refine r_look (tgt := 52) C dX5_whyNot_1 (by decide) (by rw [c10] <;> rfl) rfl ?_
    refine r_aload_n C dX5_whyNot_52 rfl 0 rfl rfl ?_
    refine r_iload_n C dX5_whyNot_53 rfl 2 rfl rfl ?_
    refine r_aload_n C dX5_whyNot_54 rfl 0 rfl rfl ?_
    refine r_get C dX5_whyNot_55 fw_X5_whyNot_X5 0 rfl rfl 0 (by decide) rfl fl_X5_whyNot_9 rfl rfl ?_
    refine r_iload_n C dX5_whyNot_58 rfl 2 rfl rfl ?_
    obtain ⟨g11, hf⟩ := gd_n hf
    refine r_iald C dX5_whyNot_59 1 0 rfl rfl g11 rfl ?_
    refine r_iload_n C dX5_whyNot_60 rfl 3 rfl rfl ?_
    refine r_iadd C dX5_whyNot_61 rfl ?_
    obtain ⟨r12, e12, hf⟩ := gd_b hf
    refine o_I (wn := [(h, oX5 A holding wool day), ((A 0), aI cI 10 yards), ((A 2), aI cI 9 lengths), ((A 3), aI cI 10 r12.2)]) C [0, 1, 2, 3] rfl (x_V C dX5_whyNot_62 (c_X5_whyNotStep l D cI cZ cG h A yards lengths plan holding wool day u2 ((yards u2.toNatClampNeg) + u3) r12 e12) rfl gX5_whyNot_X5_whyNotStep hd_X5_whyNotStep rfl ⟨Nat.le_of_ble_eq_true rfl, Nat.le_of_ble_eq_true rfl⟩ ⟨rfl, rfl⟩ ⟨Nat.zero_le _, Nat.zero_le _⟩ rfl [0, 1, 2, 3] rfl rfl 0 rfl rfl (Nat.le_of_ble_eq_true rfl) rfl) rfl rfl rfl ?_
    cases hf
    exact r_iret C dX5_whyNot_65 rfl
  have hf := gd_f c10 hf
  refine r_look (tgt := 108) C dX5_whyNot_1 (by decide) ((lv_osw c1 rfl).trans ((lv_osw c3 rfl).trans ((lv_osw c5 rfl).trans ((lv_osw c7 rfl).trans ((lv_osw c10 rfl).trans rfl))))) rfl ?_
  refine r_iconst C dX5_whyNot_108 kk_i_0 rfl ?_
  cases hf
  exact r_iret C dX5_whyNot_109 rfl
theorem fw_X5_step_X5 : ∀ w ∈ u_ws RX5 TX5 7, w ∈ wsX5_step := by decide +kernel
theorem fl_X5_step_9 : Cond.fieldLink RX5 9 "MittenLine$Row" "yards" "[I" ∈ wsX5_step := by decide +kernel
theorem fl_X5_step_21 : Cond.fieldLink RX5 21 "MittenLine$Row" "plan" "[I" ∈ wsX5_step := by decide +kernel
abbrev rm_X5_step : Jvm.Room := { frames := 2, cells := 0, slots := 0, locals := 47 }
def f_X5_step_10 (u3 : Int32) (plan : Nat → Int32) : Nat → Int32 → (Nat → Int32) → Option (Int32 × (Nat → Int32) × (Nat → Int32))
  | 0, _, _ => none
  | n + 1, u4, yards => if (10 : Int32) ≤ u4 then some (u3, yards, plan) else if u4 < 0 ∨ 10 ≤ u4.toNatClampNeg then none else f_X5_step_10 u3 plan n (u4 + (1 : Int32)) (upd yards u4.toNatClampNeg (plan u4.toNatClampNeg))
set_option maxHeartbeats 4000000 in
set_option maxRecDepth 100000 in
theorem k_X5_step_10 (C : Cx p s m args meth c D (tysW cI cZ cG) RX5 cX5_step 5 wsX5_step (some .int)) (h : Nat) (A : Nat → Nat) (lengths : Nat → Int32) (plan : Nat → Int32) (holding : Int32) (wool : Int32) (day : Int32) (u3 : Int32)  (res : Int32 × (Nat → Int32) × (Nat → Int32)) : ∀ (n : Nat) (u4 : Int32) (yards : Nat → Int32), f_X5_step_10 u3 plan n u4 yards = some res → Wd p l e rm_X5_step s m args below meth c D w0 5 0 0 (MQ below (QcI D (tysW cI cZ cG) w0 [(h, oX5 A holding wool day), ((A 0), aI cI 10 res.2.1), ((A 2), aI cI 9 lengths), ((A 3), aI cI 10 res.2.2)] res.1 s.heap.size) args s 0 0 (va_A w0 s.heap.size)) [(h, oX5 A holding wool day), ((A 0), aI cI 10 yards), ((A 2), aI cI 9 lengths), ((A 3), aI cI 10 plan)] [(0, .ref h), (3, .int u3), (4, .int u4)] 10 [] := by
  intro n
  induction n with
  | zero =>
    intro u4 yards hf
    exact no_none hf
  | succ n ih =>
    intro u4 yards hf
    unfold f_X5_step_10 at hf
    refine r_iload C dX5_step_10 2 rfl rfl ?_
    refine r_bipush C dX5_step_12 kk_b_10 rfl ?_
    refine r_icmp_ge (tgt := 37) C dX5_step_14 rfl rfl (fun c2 => ?_) (fun c2 => ?_)
    · have hf := gd_t c2 hf
      refine r_iload_n C dX5_step_37 rfl 1 rfl rfl ?_
      cases hf
      exact r_iret C dX5_step_38 rfl
    · have hf := gd_f c2 hf
      refine r_aload_n C dX5_step_17 rfl 0 rfl rfl ?_
      refine r_get C dX5_step_18 fw_X5_step_X5 0 rfl rfl 0 (by decide) rfl fl_X5_step_9 rfl rfl ?_
      refine r_iload C dX5_step_21 2 rfl rfl ?_
      refine r_aload_n C dX5_step_23 rfl 0 rfl rfl ?_
      refine r_get C dX5_step_24 fw_X5_step_X5 0 rfl rfl 3 (by decide) rfl fl_X5_step_21 rfl rfl ?_
      refine r_iload C dX5_step_27 2 rfl rfl ?_
      obtain ⟨g3, hf⟩ := gd_n hf
      refine r_iald C dX5_step_29 3 0 rfl rfl g3 rfl ?_
      refine r_iast (ws' := [(h, oX5 A holding wool day), ((A 0), aI cI 10 (upd yards u4.toNatClampNeg (plan u4.toNatClampNeg))), ((A 2), aI cI 9 lengths), ((A 3), aI cI 10 plan)]) C dX5_step_30 1 0 rfl rfl g3 rfl rfl ?_
      refine r_iinc (lv' := [(4, .int (u4 + (1 : Int32))), (0, .ref h), (3, .int u3)]) C dX5_step_31 2 rfl (ki_1 _) (by decide) rfl rfl ?_
      refine r_goto (tgt := 10) C dX5_step_34 rfl ?_
      refine r_lv (lv' := [(0, .ref h), (3, .int u3), (4, .int (u4 + (1 : Int32)))]) [1, 2, 0] rfl ?_
      exact ih _ _ hf
def f_X5_step (yards : Nat → Int32) (lengths : Nat → Int32) (plan : Nat → Int32) (u1 : Int32) (u2 : Int32) : Option (Int32 × (Nat → Int32) × (Nat → Int32)) := (f_X5_planStep yards lengths plan u1 u2).bind (fun r1 => f_X5_step_10 r1.1 r1.2 2000 (0 : Int32) yards)
set_option maxHeartbeats 4000000 in
set_option maxRecDepth 100000 in
theorem c_X5_step (l : Launch) (D : va_G) (cI cZ cG : ClassId) (h : Nat) (A : Nat → Nat) (yards : Nat → Int32) (lengths : Nat → Int32) (plan : Nat → Int32) (holding : Int32) (wool : Int32) (day : Int32) (u1 : Int32) (u2 : Int32) (res : Int32 × (Nat → Int32) × (Nat → Int32)) (hf : f_X5_step yards lengths plan u1 u2 = some res) : CI l D (tysW cI cZ cG) yX5_step wsX5_step rm_X5_step [.ref h, .int u1, .int u2] [(h, oX5 A holding wool day), ((A 0), aI cI 10 yards), ((A 2), aI cI 9 lengths), ((A 3), aI cI 10 plan)] res.1 [(h, oX5 A holding wool day), ((A 0), aI cI 10 res.2.1), ((A 2), aI cI 9 lengths), ((A 3), aI cI 10 res.2.2)] := by
  refine CG.intro (own := RX5) (by decide +kernel) rfl rfl (Nat.le_of_ble_eq_true rfl) (fun p e s m args below meth c C => ?_)
  refine r_lv (lv' := [(0, .ref h), (1, .int u1), (2, .int u2)]) [0, 1, 2] rfl ?_
  unfold f_X5_step at hf
  refine r_aload_n C dX5_step_0 rfl 0 rfl rfl ?_
  refine r_iload_n C dX5_step_1 rfl 1 rfl rfl ?_
  refine r_iload_n C dX5_step_2 rfl 2 rfl rfl ?_
  obtain ⟨r1, e1, hf⟩ := gd_b hf
  refine o_I (wn := [(h, oX5 A holding wool day), ((A 0), aI cI 10 yards), ((A 2), aI cI 9 lengths), ((A 3), aI cI 10 r1.2)]) C [0, 1, 2, 3] rfl (x_V C dX5_step_3 (c_X5_planStep l D cI cZ cG h A yards lengths plan holding wool day u1 u2 r1 e1) rfl gX5_step_X5_planStep hd_X5_planStep rfl ⟨Nat.le_of_ble_eq_true rfl, Nat.le_of_ble_eq_true rfl⟩ ⟨rfl, rfl⟩ ⟨Nat.zero_le _, Nat.zero_le _⟩ rfl [0, 1, 2, 3] rfl rfl 0 rfl rfl (Nat.le_of_ble_eq_true rfl) rfl) rfl rfl rfl ?_
  refine r_istore_n (lv' := [(3, .int r1.1), (0, .ref h), (1, .int u1), (2, .int u2)]) C dX5_step_6 rfl (by decide) rfl rfl ?_
  refine r_iconst C dX5_step_7 kk_i_0 rfl ?_
  refine r_istore (lv' := [(4, .int (0 : Int32)), (3, .int r1.1), (0, .ref h), (1, .int u1), (2, .int u2)]) C dX5_step_8 (by decide) rfl rfl ?_
  refine r_lv (lv' := [(0, .ref h), (3, .int r1.1), (4, .int (0 : Int32))]) [2, 1, 0] rfl ?_
  refine k_X5_step_10 C h A lengths r1.2 holding wool day r1.1 _ 2000 _ _ hf
theorem fw_X5_turnHold_X5 : ∀ w ∈ u_ws RX5 TX5 7, w ∈ wsX5_turnHold := by decide +kernel
theorem fl_X5_turnHold_28 : Cond.fieldLink RX5 28 "MittenLine$Row" "holding" "I" ∈ wsX5_turnHold := by decide +kernel
abbrev rm_X5_turnHold : Jvm.Room := { frames := 0, cells := 0, slots := 0, locals := 0 }
def f_X5_turnHold (holding : Int32) (u1 : Int32) : Option (Int32) := some ((holding ^^^ ((1 : Int32) <<< (u1 &&& 31))))
set_option maxHeartbeats 4000000 in
set_option maxRecDepth 100000 in
theorem c_X5_turnHold (l : Launch) (D : va_G) (cI cZ cG : ClassId) (h : Nat) (A : Nat → Nat) (holding : Int32) (wool : Int32) (day : Int32) (u1 : Int32) (res : Int32) (hf : f_X5_turnHold holding u1 = some res) : CV l D (tysW cI cZ cG) yX5_turnHold wsX5_turnHold rm_X5_turnHold [.ref h, .int u1] [(h, oX5 A holding wool day)] [(h, oX5 A res wool day)] := by
  refine CG.intro (own := RX5) (by decide +kernel) rfl rfl (Nat.le_of_ble_eq_true rfl) (fun p e s m args below meth c C => ?_)
  refine r_lv (lv' := [(0, .ref h), (1, .int u1)]) [0, 1] rfl ?_
  unfold f_X5_turnHold at hf
  refine r_aload_n C dX5_turnHold_0 rfl 0 rfl rfl ?_
  refine r_dup C dX5_turnHold_1 rfl rfl ?_
  refine r_get C dX5_turnHold_2 fw_X5_turnHold_X5 0 rfl rfl 4 (by decide) rfl fl_X5_turnHold_28 rfl rfl ?_
  refine r_iconst C dX5_turnHold_5 kk_i_1 rfl ?_
  refine r_iload_n C dX5_turnHold_6 rfl 1 rfl rfl ?_
  refine r_ishl C dX5_turnHold_7 rfl ?_
  refine r_ixor C dX5_turnHold_8 rfl ?_
  refine r_put (ty := .int) (ws' := [(h, oX5 A (holding ^^^ ((1 : Int32) <<< (u1 &&& 31))) wool day)]) C dX5_turnHold_9 fw_X5_turnHold_X5 tyX5 tyX5_ok nmX5 0 rfl rfl 4 (by decide) rfl fl_X5_turnHold_28 rfl (by decide +kernel) rfl rfl (Nat.le_of_ble_eq_true rfl) rfl rfl ?_
  cases hf
  exact r_vret C dX5_turnHold_12 rfl
abbrev rm_X5_lossBy : Jvm.Room := { frames := 3, cells := 0, slots := 0, locals := 66 }
def f_X5_lossBy (yards : Nat → Int32) (lengths : Nat → Int32) (u1 : Int32) : Option (Int32) := (f_X5_isTaut yards lengths u1).bind (fun r1 => if r1 = 0 then some ((3 : Int32)) else some ((1 : Int32)))
set_option maxHeartbeats 4000000 in
set_option maxRecDepth 100000 in
theorem c_X5_lossBy (l : Launch) (D : va_G) (cI cZ cG : ClassId) (h : Nat) (A : Nat → Nat) (yards : Nat → Int32) (lengths : Nat → Int32) (holding : Int32) (wool : Int32) (day : Int32) (u1 : Int32) (res : Int32) (hf : f_X5_lossBy yards lengths u1 = some res) : CI l D (tysW cI cZ cG) yX5_lossBy wsX5_lossBy rm_X5_lossBy [.ref h, .int u1] [(h, oX5 A holding wool day), ((A 0), aI cI 10 yards), ((A 2), aI cI 9 lengths)] res [(h, oX5 A holding wool day), ((A 0), aI cI 10 yards), ((A 2), aI cI 9 lengths)] := by
  refine CG.intro (own := RX5) (by decide +kernel) rfl rfl (Nat.le_of_ble_eq_true rfl) (fun p e s m args below meth c C => ?_)
  refine r_lv (lv' := [(0, .ref h), (1, .int u1)]) [0, 1] rfl ?_
  unfold f_X5_lossBy at hf
  refine r_aload_n C dX5_lossBy_0 rfl 0 rfl rfl ?_
  refine r_iload_n C dX5_lossBy_1 rfl 1 rfl rfl ?_
  obtain ⟨r1, e1, hf⟩ := gd_b hf
  refine o_I (wn := [(h, oX5 A holding wool day), ((A 0), aI cI 10 yards), ((A 2), aI cI 9 lengths)]) C [0, 1, 2] rfl (x_V C dX5_lossBy_2 (c_X5_isTaut l D cI cZ cG h A yards lengths holding wool day u1 r1 e1) rfl gX5_lossBy_X5_isTaut hd_X5_isTaut rfl ⟨Nat.le_of_ble_eq_true rfl, Nat.le_of_ble_eq_true rfl⟩ ⟨rfl, rfl⟩ ⟨Nat.zero_le _, Nat.zero_le _⟩ rfl [0, 1, 2] rfl rfl 0 rfl rfl (Nat.le_of_ble_eq_true rfl) rfl) rfl rfl rfl ?_
  refine r_if_eq (y := 0) (tgt := 12) C dX5_lossBy_5 rfl rfl (fun c2 => ?_) (fun c2 => ?_)
  · have hf := gd_t c2 hf
    refine r_iconst C dX5_lossBy_12 kk_i_3 rfl ?_
    cases hf
    exact r_iret C dX5_lossBy_13 rfl
  · have hf := gd_f c2 hf
    refine r_iconst C dX5_lossBy_8 kk_i_1 rfl ?_
    refine r_goto (tgt := 13) C dX5_lossBy_9 rfl ?_
    cases hf
    exact r_iret C dX5_lossBy_13 rfl
theorem fw_X5_feelMore_X5 : ∀ w ∈ u_ws RX5 TX5 7, w ∈ wsX5_feelMore := by decide +kernel
theorem fl_X5_feelMore_15 : Cond.fieldLink RX5 15 "MittenLine$Row" "feels" "[I" ∈ wsX5_feelMore := by decide +kernel
theorem wm_X5_feelMore_min_93 : Cond.methodLink RX5 93 Lib.Math.min.name ∈ wsX5_feelMore := by decide +kernel
theorem wm_X5_feelMore_min_s : Cond.static Lib.Math.min.name ∈ wsX5_feelMore := by decide +kernel
theorem wm_X5_feelMore_i : Cond.initialized "java/lang/Math" ∈ wsX5_feelMore := by decide +kernel
theorem wm_X5_feelMore_min_c : Cond.code Lib.Math.min.name Lib.Math.min.code 2 (some .int) ∈ wsX5_feelMore := by decide +kernel
abbrev rm_X5_feelMore : Jvm.Room := { frames := 1, cells := 0, slots := 0, locals := 24 }
def f_X5_feelMore (feels : Nat → Int32) (u1 : Int32) (u2 : Int32) : Option ((Nat → Int32)) := if u2 ≤ 0 then some (feels) else if u1 < 0 ∨ 10 ≤ u1.toNatClampNeg then none else some ((upd feels u1.toNatClampNeg (imin (99 : Int32) ((feels u1.toNatClampNeg) + u2))))
set_option maxHeartbeats 4000000 in
set_option maxRecDepth 100000 in
theorem c_X5_feelMore (l : Launch) (D : va_G) (cI cZ cG : ClassId) (h : Nat) (A : Nat → Nat) (feels : Nat → Int32) (holding : Int32) (wool : Int32) (day : Int32) (u1 : Int32) (u2 : Int32) (res : (Nat → Int32)) (hf : f_X5_feelMore feels u1 u2 = some res) : CV l D (tysW cI cZ cG) yX5_feelMore wsX5_feelMore rm_X5_feelMore [.ref h, .int u1, .int u2] [(h, oX5 A holding wool day), ((A 1), aI cI 10 feels)] [(h, oX5 A holding wool day), ((A 1), aI cI 10 res)] := by
  refine CG.intro (own := RX5) (by decide +kernel) rfl rfl (Nat.le_of_ble_eq_true rfl) (fun p e s m args below meth c C => ?_)
  refine r_lv (lv' := [(0, .ref h), (1, .int u1), (2, .int u2)]) [0, 1, 2] rfl ?_
  unfold f_X5_feelMore at hf
  refine r_iload_n C dX5_feelMore_0 rfl 2 rfl rfl ?_
  refine r_if_le (y := 0) (tgt := 23) C dX5_feelMore_1 rfl rfl (fun c1 => ?_) (fun c1 => ?_)
  · have hf := gd_t c1 hf
    cases hf
    exact r_vret C dX5_feelMore_23 rfl
  · have hf := gd_f c1 hf
    refine r_aload_n C dX5_feelMore_4 rfl 0 rfl rfl ?_
    refine r_get C dX5_feelMore_5 fw_X5_feelMore_X5 0 rfl rfl 1 (by decide) rfl fl_X5_feelMore_15 rfl rfl ?_
    refine r_iload_n C dX5_feelMore_8 rfl 1 rfl rfl ?_
    refine r_bipush C dX5_feelMore_9 kk_b_99 rfl ?_
    refine r_aload_n C dX5_feelMore_11 rfl 0 rfl rfl ?_
    refine r_get C dX5_feelMore_12 fw_X5_feelMore_X5 0 rfl rfl 1 (by decide) rfl fl_X5_feelMore_15 rfl rfl ?_
    refine r_iload_n C dX5_feelMore_15 rfl 1 rfl rfl ?_
    obtain ⟨g2, hf⟩ := gd_n hf
    refine r_iald C dX5_feelMore_16 1 0 rfl rfl g2 rfl ?_
    refine r_iload_n C dX5_feelMore_17 rfl 2 rfl rfl ?_
    refine r_iadd C dX5_feelMore_18 rfl ?_
    refine r_mmin C dX5_feelMore_19 wm_X5_feelMore_min_93 wm_X5_feelMore_min_s wm_X5_feelMore_i wm_X5_feelMore_min_c (Nat.le_of_ble_eq_true rfl) (Nat.le_of_ble_eq_true rfl) (Nat.zero_le _) (Nat.zero_le _) rfl ?_
    refine r_iast (ws' := [(h, oX5 A holding wool day), ((A 1), aI cI 10 (upd feels u1.toNatClampNeg (imin (99 : Int32) ((feels u1.toNatClampNeg) + u2))))]) C dX5_feelMore_22 1 0 rfl rfl g2 rfl rfl ?_
    cases hf
    exact r_vret C dX5_feelMore_23 rfl
abbrev rm_X5_squeeze : Jvm.Room := { frames := 4, cells := 0, slots := 0, locals := 87 }
def f_X5_squeeze_5 (yards : Nat → Int32) (lengths : Nat → Int32) (kx40 : (Nat → Int32) → Option ((Nat → Int32))) : Nat → Int32 → Int32 → (Nat → Int32) → Option ((Nat → Int32))
  | 0, _, _, _ => none
  | n + 1, u3, u4, feels => if (9 : Int32) ≤ u4 then kx40 feels else if u3 ≤ 0 then kx40 feels else (f_X5_lossBy yards lengths u4).bind (fun r3 => (f_X5_feelMore feels (u4 + (1 : Int32)) (u3 - r3)).bind (fun r4 => f_X5_squeeze_5 yards lengths kx40 n (u3 - r3) (u4 + (1 : Int32)) r4))
set_option maxHeartbeats 4000000 in
set_option maxRecDepth 100000 in
theorem k_X5_squeeze_5 (C : Cx p s m args meth c D (tysW cI cZ cG) RX5 cX5_squeeze 5 wsX5_squeeze none) (h : Nat) (A : Nat → Nat) (yards : Nat → Int32) (lengths : Nat → Int32) (holding : Int32) (wool : Int32) (day : Int32) (u1 : Int32) (u2 : Int32)  (kx40 : (Nat → Int32) → Option ((Nat → Int32))) (res : (Nat → Int32)) (hkx40 : ∀ (feels : Nat → Int32) , kx40 feels = some res → Wd p l e rm_X5_squeeze s m args below meth c D w0 5 0 0 (MQ below (QcV D (tysW cI cZ cG) w0 [(h, oX5 A holding wool day), ((A 0), aI cI 10 yards), ((A 1), aI cI 10 res), ((A 2), aI cI 9 lengths)] s.heap.size) args s 0 0 (va_A w0 s.heap.size)) [(h, oX5 A holding wool day), ((A 0), aI cI 10 yards), ((A 1), aI cI 10 feels), ((A 2), aI cI 9 lengths)] [(0, .ref h), (1, .int u1), (2, .int u2)] 40 []) : ∀ (n : Nat) (u3 : Int32) (u4 : Int32) (feels : Nat → Int32), f_X5_squeeze_5 yards lengths kx40 n u3 u4 feels = some res → Wd p l e rm_X5_squeeze s m args below meth c D w0 5 0 0 (MQ below (QcV D (tysW cI cZ cG) w0 [(h, oX5 A holding wool day), ((A 0), aI cI 10 yards), ((A 1), aI cI 10 res), ((A 2), aI cI 9 lengths)] s.heap.size) args s 0 0 (va_A w0 s.heap.size)) [(h, oX5 A holding wool day), ((A 0), aI cI 10 yards), ((A 1), aI cI 10 feels), ((A 2), aI cI 9 lengths)] [(0, .ref h), (1, .int u1), (2, .int u2), (3, .int u3), (4, .int u4)] 5 [] := by
  intro n
  induction n with
  | zero =>
    intro u3 u4 feels hf
    exact no_none hf
  | succ n ih =>
    intro u3 u4 feels hf
    unfold f_X5_squeeze_5 at hf
    refine r_iload C dX5_squeeze_5 4 rfl rfl ?_
    refine r_bipush C dX5_squeeze_7 kk_b_9 rfl ?_
    refine r_icmp_ge (tgt := 40) C dX5_squeeze_9 rfl rfl (fun c1 => ?_) (fun c1 => ?_)
    · have hf := gd_t c1 hf
      refine r_lv (lv' := [(0, .ref h), (1, .int u1), (2, .int u2)]) [0, 1, 2] rfl ?_
      exact hkx40 _ hf
    · have hf := gd_f c1 hf
      refine r_iload_n C dX5_squeeze_12 rfl 3 rfl rfl ?_
      refine r_if_le (y := 0) (tgt := 40) C dX5_squeeze_13 rfl rfl (fun c2 => ?_) (fun c2 => ?_)
      · have hf := gd_t c2 hf
        refine r_lv (lv' := [(0, .ref h), (1, .int u1), (2, .int u2)]) [0, 1, 2] rfl ?_
        exact hkx40 _ hf
      · have hf := gd_f c2 hf
        refine r_iload_n C dX5_squeeze_16 rfl 3 rfl rfl ?_
        refine r_aload_n C dX5_squeeze_17 rfl 0 rfl rfl ?_
        refine r_iload C dX5_squeeze_18 4 rfl rfl ?_
        obtain ⟨r3, e3, hf⟩ := gd_b hf
        refine o_I (wn := [(h, oX5 A holding wool day), ((A 0), aI cI 10 yards), ((A 1), aI cI 10 feels), ((A 2), aI cI 9 lengths)]) C [0, 1, 3] rfl (x_V C dX5_squeeze_20 (c_X5_lossBy l D cI cZ cG h A yards lengths holding wool day u4 r3 e3) rfl gX5_squeeze_X5_lossBy hd_X5_lossBy rfl ⟨Nat.le_of_ble_eq_true rfl, Nat.le_of_ble_eq_true rfl⟩ ⟨rfl, rfl⟩ ⟨Nat.zero_le _, Nat.zero_le _⟩ rfl [0, 1, 3] rfl rfl 0 rfl rfl (Nat.le_of_ble_eq_true rfl) rfl) rfl rfl rfl ?_
        refine r_isub C dX5_squeeze_23 rfl ?_
        refine r_istore_n (lv' := [(3, .int (u3 - r3)), (0, .ref h), (1, .int u1), (2, .int u2), (4, .int u4)]) C dX5_squeeze_24 rfl (by decide) rfl rfl ?_
        refine r_aload_n C dX5_squeeze_25 rfl 1 rfl rfl ?_
        refine r_iload C dX5_squeeze_26 4 rfl rfl ?_
        refine r_iconst C dX5_squeeze_28 kk_i_1 rfl ?_
        refine r_iadd C dX5_squeeze_29 rfl ?_
        refine r_iload_n C dX5_squeeze_30 rfl 0 rfl rfl ?_
        obtain ⟨r4, e4, hf⟩ := gd_b hf
        refine o_V (wn := [(h, oX5 A holding wool day), ((A 0), aI cI 10 yards), ((A 1), aI cI 10 r4), ((A 2), aI cI 9 lengths)]) C [0, 2] rfl (x_V C dX5_squeeze_31 (c_X5_feelMore l D cI cZ cG h A feels holding wool day (u4 + (1 : Int32)) (u3 - r3) r4 e4) rfl gX5_squeeze_X5_feelMore hd_X5_feelMore rfl ⟨Nat.le_of_ble_eq_true rfl, Nat.le_of_ble_eq_true rfl⟩ ⟨rfl, rfl⟩ ⟨Nat.zero_le _, Nat.zero_le _⟩ rfl [0, 2] rfl rfl 0 rfl rfl (Nat.le_of_ble_eq_true rfl) rfl) rfl rfl rfl ?_
        refine r_iinc (lv' := [(4, .int (u4 + (1 : Int32))), (3, .int (u3 - r3)), (0, .ref h), (1, .int u1), (2, .int u2)]) C dX5_squeeze_34 4 rfl (ki_1 _) (by decide) rfl rfl ?_
        refine r_goto (tgt := 5) C dX5_squeeze_37 rfl ?_
        refine r_lv (lv' := [(0, .ref h), (1, .int u1), (2, .int u2), (3, .int (u3 - r3)), (4, .int (u4 + (1 : Int32)))]) [2, 3, 4, 1, 0] rfl ?_
        exact ih _ _ _ hf
def f_X5_squeeze_47 (yards : Nat → Int32) (lengths : Nat → Int32) : Nat → Int32 → Int32 → (Nat → Int32) → Option ((Nat → Int32))
  | 0, _, _, _ => none
  | n + 1, u3, u4, feels => if u4 < 0 then some (feels) else if u3 ≤ 0 then some (feels) else (f_X5_lossBy yards lengths u4).bind (fun r8 => (f_X5_feelMore feels u4 (u3 - r8)).bind (fun r9 => f_X5_squeeze_47 yards lengths n (u3 - r8) (u4 + (-1 : Int32)) r9))
set_option maxHeartbeats 4000000 in
set_option maxRecDepth 100000 in
theorem k_X5_squeeze_47 (C : Cx p s m args meth c D (tysW cI cZ cG) RX5 cX5_squeeze 5 wsX5_squeeze none) (h : Nat) (A : Nat → Nat) (yards : Nat → Int32) (lengths : Nat → Int32) (holding : Int32) (wool : Int32) (day : Int32)  (res : (Nat → Int32)) : ∀ (n : Nat) (u3 : Int32) (u4 : Int32) (feels : Nat → Int32), f_X5_squeeze_47 yards lengths n u3 u4 feels = some res → Wd p l e rm_X5_squeeze s m args below meth c D w0 5 0 0 (MQ below (QcV D (tysW cI cZ cG) w0 [(h, oX5 A holding wool day), ((A 0), aI cI 10 yards), ((A 1), aI cI 10 res), ((A 2), aI cI 9 lengths)] s.heap.size) args s 0 0 (va_A w0 s.heap.size)) [(h, oX5 A holding wool day), ((A 0), aI cI 10 yards), ((A 1), aI cI 10 feels), ((A 2), aI cI 9 lengths)] [(0, .ref h), (3, .int u3), (4, .int u4)] 47 [] := by
  intro n
  induction n with
  | zero =>
    intro u3 u4 feels hf
    exact no_none hf
  | succ n ih =>
    intro u3 u4 feels hf
    unfold f_X5_squeeze_47 at hf
    refine r_iload C dX5_squeeze_47 2 rfl rfl ?_
    refine r_if_lt (y := 0) (tgt := 78) C dX5_squeeze_49 rfl rfl (fun c6 => ?_) (fun c6 => ?_)
    · have hf := gd_t c6 hf
      cases hf
      exact r_vret C dX5_squeeze_78 rfl
    · have hf := gd_f c6 hf
      refine r_iload_n C dX5_squeeze_52 rfl 1 rfl rfl ?_
      refine r_if_le (y := 0) (tgt := 78) C dX5_squeeze_53 rfl rfl (fun c7 => ?_) (fun c7 => ?_)
      · have hf := gd_t c7 hf
        cases hf
        exact r_vret C dX5_squeeze_78 rfl
      · have hf := gd_f c7 hf
        refine r_iload_n C dX5_squeeze_56 rfl 1 rfl rfl ?_
        refine r_aload_n C dX5_squeeze_57 rfl 0 rfl rfl ?_
        refine r_iload C dX5_squeeze_58 2 rfl rfl ?_
        obtain ⟨r8, e8, hf⟩ := gd_b hf
        refine o_I (wn := [(h, oX5 A holding wool day), ((A 0), aI cI 10 yards), ((A 1), aI cI 10 feels), ((A 2), aI cI 9 lengths)]) C [0, 1, 3] rfl (x_V C dX5_squeeze_60 (c_X5_lossBy l D cI cZ cG h A yards lengths holding wool day u4 r8 e8) rfl gX5_squeeze_X5_lossBy hd_X5_lossBy rfl ⟨Nat.le_of_ble_eq_true rfl, Nat.le_of_ble_eq_true rfl⟩ ⟨rfl, rfl⟩ ⟨Nat.zero_le _, Nat.zero_le _⟩ rfl [0, 1, 3] rfl rfl 0 rfl rfl (Nat.le_of_ble_eq_true rfl) rfl) rfl rfl rfl ?_
        refine r_isub C dX5_squeeze_63 rfl ?_
        refine r_istore_n (lv' := [(3, .int (u3 - r8)), (0, .ref h), (4, .int u4)]) C dX5_squeeze_64 rfl (by decide) rfl rfl ?_
        refine r_aload_n C dX5_squeeze_65 rfl 1 rfl rfl ?_
        refine r_iload C dX5_squeeze_66 2 rfl rfl ?_
        refine r_iload_n C dX5_squeeze_68 rfl 0 rfl rfl ?_
        obtain ⟨r9, e9, hf⟩ := gd_b hf
        refine o_V (wn := [(h, oX5 A holding wool day), ((A 0), aI cI 10 yards), ((A 1), aI cI 10 r9), ((A 2), aI cI 9 lengths)]) C [0, 2] rfl (x_V C dX5_squeeze_69 (c_X5_feelMore l D cI cZ cG h A feels holding wool day u4 (u3 - r8) r9 e9) rfl gX5_squeeze_X5_feelMore hd_X5_feelMore rfl ⟨Nat.le_of_ble_eq_true rfl, Nat.le_of_ble_eq_true rfl⟩ ⟨rfl, rfl⟩ ⟨Nat.zero_le _, Nat.zero_le _⟩ rfl [0, 2] rfl rfl 0 rfl rfl (Nat.le_of_ble_eq_true rfl) rfl) rfl rfl rfl ?_
        refine r_iinc (lv' := [(4, .int (u4 + (-1 : Int32))), (3, .int (u3 - r8)), (0, .ref h)]) C dX5_squeeze_72 2 rfl (ki_m1 _) (by decide) rfl rfl ?_
        refine r_goto (tgt := 47) C dX5_squeeze_75 rfl ?_
        refine r_lv (lv' := [(0, .ref h), (3, .int (u3 - r8)), (4, .int (u4 + (-1 : Int32)))]) [2, 1, 0] rfl ?_
        exact ih _ _ _ hf
def f_X5_squeeze (yards : Nat → Int32) (feels : Nat → Int32) (lengths : Nat → Int32) (u1 : Int32) (u2 : Int32) : Option ((Nat → Int32)) := f_X5_squeeze_5 yards lengths (fun feels_5 => f_X5_squeeze_47 yards lengths 2000 u2 (u1 - (1 : Int32)) feels_5) 2000 u2 u1 feels
set_option maxHeartbeats 4000000 in
set_option maxRecDepth 100000 in
theorem c_X5_squeeze (l : Launch) (D : va_G) (cI cZ cG : ClassId) (h : Nat) (A : Nat → Nat) (yards : Nat → Int32) (feels : Nat → Int32) (lengths : Nat → Int32) (holding : Int32) (wool : Int32) (day : Int32) (u1 : Int32) (u2 : Int32) (res : (Nat → Int32)) (hf : f_X5_squeeze yards feels lengths u1 u2 = some res) : CV l D (tysW cI cZ cG) yX5_squeeze wsX5_squeeze rm_X5_squeeze [.ref h, .int u1, .int u2] [(h, oX5 A holding wool day), ((A 0), aI cI 10 yards), ((A 1), aI cI 10 feels), ((A 2), aI cI 9 lengths)] [(h, oX5 A holding wool day), ((A 0), aI cI 10 yards), ((A 1), aI cI 10 res), ((A 2), aI cI 9 lengths)] := by
  refine CG.intro (own := RX5) (by decide +kernel) rfl rfl (Nat.le_of_ble_eq_true rfl) (fun p e s m args below meth c C => ?_)
  refine r_lv (lv' := [(0, .ref h), (1, .int u1), (2, .int u2)]) [0, 1, 2] rfl ?_
  unfold f_X5_squeeze at hf
  refine r_iload_n C dX5_squeeze_0 rfl 2 rfl rfl ?_
  refine r_istore_n (lv' := [(3, .int u2), (0, .ref h), (1, .int u1), (2, .int u2)]) C dX5_squeeze_1 rfl (by decide) rfl rfl ?_
  refine r_iload_n C dX5_squeeze_2 rfl 2 rfl rfl ?_
  refine r_istore (lv' := [(4, .int u1), (3, .int u2), (0, .ref h), (1, .int u1), (2, .int u2)]) C dX5_squeeze_3 (by decide) rfl rfl ?_
  refine r_lv (lv' := [(0, .ref h), (1, .int u1), (2, .int u2), (3, .int u2), (4, .int u1)]) [2, 3, 4, 1, 0] rfl ?_
  refine k_X5_squeeze_5 C h A yards lengths holding wool day u1 u2 _ _ ?_ 2000 _ _ _ hf
  · intro feels_5 hf
    refine r_iload_n C dX5_squeeze_40 rfl 2 rfl rfl ?_
    refine r_istore_n (lv' := [(3, .int u2), (0, .ref h), (1, .int u1), (2, .int u2)]) C dX5_squeeze_41 rfl (by decide) rfl rfl ?_
    refine r_iload_n C dX5_squeeze_42 rfl 2 rfl rfl ?_
    refine r_iconst C dX5_squeeze_43 kk_i_1 rfl ?_
    refine r_isub C dX5_squeeze_44 rfl ?_
    refine r_istore (lv' := [(4, .int (u1 - (1 : Int32))), (3, .int u2), (0, .ref h), (1, .int u1), (2, .int u2)]) C dX5_squeeze_45 (by decide) rfl rfl ?_
    refine r_lv (lv' := [(0, .ref h), (3, .int u2), (4, .int (u1 - (1 : Int32)))]) [2, 1, 0] rfl ?_
    refine k_X5_squeeze_47 C h A yards lengths holding wool day _ 2000 _ _ _ hf
theorem fw_X5_letOut_X5 : ∀ w ∈ u_ws RX5 TX5 7, w ∈ wsX5_letOut := by decide +kernel
theorem fl_X5_letOut_18 : Cond.fieldLink RX5 18 "MittenLine$Row" "lengths" "[I" ∈ wsX5_letOut := by decide +kernel
theorem fl_X5_letOut_24 : Cond.fieldLink RX5 24 "MittenLine$Row" "wool" "I" ∈ wsX5_letOut := by decide +kernel
abbrev rm_X5_letOut : Jvm.Room := { frames := 0, cells := 0, slots := 0, locals := 0 }
def f_X5_letOut (lengths : Nat → Int32) (wool : Int32) (u1 : Int32) : Option ((Nat → Int32) × Int32) := if u1 < (9 : Int32) then if u1 < 0 ∨ 9 ≤ u1.toNatClampNeg then none else some ((upd lengths u1.toNatClampNeg ((lengths u1.toNatClampNeg) + (1 : Int32))), (wool - (1 : Int32))) else some (lengths, wool)
set_option maxHeartbeats 4000000 in
set_option maxRecDepth 100000 in
theorem c_X5_letOut (l : Launch) (D : va_G) (cI cZ cG : ClassId) (h : Nat) (A : Nat → Nat) (lengths : Nat → Int32) (holding : Int32) (wool : Int32) (day : Int32) (u1 : Int32) (res : (Nat → Int32) × Int32) (hf : f_X5_letOut lengths wool u1 = some res) : CV l D (tysW cI cZ cG) yX5_letOut wsX5_letOut rm_X5_letOut [.ref h, .int u1] [(h, oX5 A holding wool day), ((A 2), aI cI 9 lengths)] [(h, oX5 A holding res.2 day), ((A 2), aI cI 9 res.1)] := by
  refine CG.intro (own := RX5) (by decide +kernel) rfl rfl (Nat.le_of_ble_eq_true rfl) (fun p e s m args below meth c C => ?_)
  refine r_lv (lv' := [(0, .ref h), (1, .int u1)]) [0, 1] rfl ?_
  unfold f_X5_letOut at hf
  refine r_iload_n C dX5_letOut_0 rfl 1 rfl rfl ?_
  refine r_bipush C dX5_letOut_1 kk_b_9 rfl ?_
  refine r_icmp_lt (tgt := 7) C dX5_letOut_3 rfl rfl (fun c1 => ?_) (fun c1 => ?_)
  · have hf := gd_t c1 hf
    refine r_aload_n C dX5_letOut_7 rfl 0 rfl rfl ?_
    refine r_get C dX5_letOut_8 fw_X5_letOut_X5 0 rfl rfl 2 (by decide) rfl fl_X5_letOut_18 rfl rfl ?_
    refine r_iload_n C dX5_letOut_11 rfl 1 rfl rfl ?_
    refine r_dup2 C dX5_letOut_12 rfl rfl rfl ?_
    obtain ⟨g2, hf⟩ := gd_n hf
    refine r_iald C dX5_letOut_13 1 0 rfl rfl g2 rfl ?_
    refine r_iconst C dX5_letOut_14 kk_i_1 rfl ?_
    refine r_iadd C dX5_letOut_15 rfl ?_
    refine r_iast (ws' := [(h, oX5 A holding wool day), ((A 2), aI cI 9 (upd lengths u1.toNatClampNeg ((lengths u1.toNatClampNeg) + (1 : Int32))))]) C dX5_letOut_16 1 0 rfl rfl g2 rfl rfl ?_
    refine r_aload_n C dX5_letOut_17 rfl 0 rfl rfl ?_
    refine r_dup C dX5_letOut_18 rfl rfl ?_
    refine r_get C dX5_letOut_19 fw_X5_letOut_X5 0 rfl rfl 5 (by decide) rfl fl_X5_letOut_24 rfl rfl ?_
    refine r_iconst C dX5_letOut_22 kk_i_1 rfl ?_
    refine r_isub C dX5_letOut_23 rfl ?_
    refine r_put (ty := .int) (ws' := [(h, oX5 A holding (wool - (1 : Int32)) day), ((A 2), aI cI 9 (upd lengths u1.toNatClampNeg ((lengths u1.toNatClampNeg) + (1 : Int32))))]) C dX5_letOut_24 fw_X5_letOut_X5 tyX5 tyX5_ok nmX5 0 rfl rfl 5 (by decide) rfl fl_X5_letOut_24 rfl (by decide +kernel) rfl rfl (Nat.le_of_ble_eq_true rfl) rfl rfl ?_
    cases hf
    exact r_vret C dX5_letOut_27 rfl
  · have hf := gd_f c1 hf
    cases hf
    exact r_vret C dX5_letOut_6 rfl
theorem fw_X5_windIn_X5 : ∀ w ∈ u_ws RX5 TX5 7, w ∈ wsX5_windIn := by decide +kernel
theorem fl_X5_windIn_18 : Cond.fieldLink RX5 18 "MittenLine$Row" "lengths" "[I" ∈ wsX5_windIn := by decide +kernel
theorem fl_X5_windIn_24 : Cond.fieldLink RX5 24 "MittenLine$Row" "wool" "I" ∈ wsX5_windIn := by decide +kernel
theorem wm_X5_windIn_min_93 : Cond.methodLink RX5 93 Lib.Math.min.name ∈ wsX5_windIn := by decide +kernel
theorem wm_X5_windIn_min_s : Cond.static Lib.Math.min.name ∈ wsX5_windIn := by decide +kernel
theorem wm_X5_windIn_i : Cond.initialized "java/lang/Math" ∈ wsX5_windIn := by decide +kernel
theorem wm_X5_windIn_min_c : Cond.code Lib.Math.min.name Lib.Math.min.code 2 (some .int) ∈ wsX5_windIn := by decide +kernel
abbrev rm_X5_windIn : Jvm.Room := { frames := 1, cells := 0, slots := 0, locals := 24 }
def f_X5_windIn (lengths : Nat → Int32) (wool : Int32) (u1 : Int32) : Option ((Nat → Int32) × Int32) := if u1 < (9 : Int32) then if u1 < 0 ∨ 9 ≤ u1.toNatClampNeg then none else some ((upd lengths u1.toNatClampNeg ((lengths u1.toNatClampNeg) - (1 : Int32))), (imin (999 : Int32) (wool + (1 : Int32)))) else some (lengths, wool)
set_option maxHeartbeats 4000000 in
set_option maxRecDepth 100000 in
theorem c_X5_windIn (l : Launch) (D : va_G) (cI cZ cG : ClassId) (h : Nat) (A : Nat → Nat) (lengths : Nat → Int32) (holding : Int32) (wool : Int32) (day : Int32) (u1 : Int32) (res : (Nat → Int32) × Int32) (hf : f_X5_windIn lengths wool u1 = some res) : CV l D (tysW cI cZ cG) yX5_windIn wsX5_windIn rm_X5_windIn [.ref h, .int u1] [(h, oX5 A holding wool day), ((A 2), aI cI 9 lengths)] [(h, oX5 A holding res.2 day), ((A 2), aI cI 9 res.1)] := by
  refine CG.intro (own := RX5) (by decide +kernel) rfl rfl (Nat.le_of_ble_eq_true rfl) (fun p e s m args below meth c C => ?_)
  refine r_lv (lv' := [(0, .ref h), (1, .int u1)]) [0, 1] rfl ?_
  unfold f_X5_windIn at hf
  refine r_iload_n C dX5_windIn_0 rfl 1 rfl rfl ?_
  refine r_bipush C dX5_windIn_1 kk_b_9 rfl ?_
  refine r_icmp_lt (tgt := 7) C dX5_windIn_3 rfl rfl (fun c1 => ?_) (fun c1 => ?_)
  · have hf := gd_t c1 hf
    refine r_aload_n C dX5_windIn_7 rfl 0 rfl rfl ?_
    refine r_get C dX5_windIn_8 fw_X5_windIn_X5 0 rfl rfl 2 (by decide) rfl fl_X5_windIn_18 rfl rfl ?_
    refine r_iload_n C dX5_windIn_11 rfl 1 rfl rfl ?_
    refine r_dup2 C dX5_windIn_12 rfl rfl rfl ?_
    obtain ⟨g2, hf⟩ := gd_n hf
    refine r_iald C dX5_windIn_13 1 0 rfl rfl g2 rfl ?_
    refine r_iconst C dX5_windIn_14 kk_i_1 rfl ?_
    refine r_isub C dX5_windIn_15 rfl ?_
    refine r_iast (ws' := [(h, oX5 A holding wool day), ((A 2), aI cI 9 (upd lengths u1.toNatClampNeg ((lengths u1.toNatClampNeg) - (1 : Int32))))]) C dX5_windIn_16 1 0 rfl rfl g2 rfl rfl ?_
    refine r_aload_n C dX5_windIn_17 rfl 0 rfl rfl ?_
    refine r_sipush C dX5_windIn_18 kk_s_999 rfl ?_
    refine r_aload_n C dX5_windIn_21 rfl 0 rfl rfl ?_
    refine r_get C dX5_windIn_22 fw_X5_windIn_X5 0 rfl rfl 5 (by decide) rfl fl_X5_windIn_24 rfl rfl ?_
    refine r_iconst C dX5_windIn_25 kk_i_1 rfl ?_
    refine r_iadd C dX5_windIn_26 rfl ?_
    refine r_mmin C dX5_windIn_27 wm_X5_windIn_min_93 wm_X5_windIn_min_s wm_X5_windIn_i wm_X5_windIn_min_c (Nat.le_of_ble_eq_true rfl) (Nat.le_of_ble_eq_true rfl) (Nat.zero_le _) (Nat.zero_le _) rfl ?_
    refine r_put (ty := .int) (ws' := [(h, oX5 A holding (imin (999 : Int32) (wool + (1 : Int32))) day), ((A 2), aI cI 9 (upd lengths u1.toNatClampNeg ((lengths u1.toNatClampNeg) - (1 : Int32))))]) C dX5_windIn_30 fw_X5_windIn_X5 tyX5 tyX5_ok nmX5 0 rfl rfl 5 (by decide) rfl fl_X5_windIn_24 rfl (by decide +kernel) rfl rfl (Nat.le_of_ble_eq_true rfl) rfl rfl ?_
    cases hf
    exact r_vret C dX5_windIn_33 rfl
  · have hf := gd_f c1 hf
    cases hf
    exact r_vret C dX5_windIn_6 rfl
theorem fw_X5_nextDay_X5 : ∀ w ∈ u_ws RX5 TX5 7, w ∈ wsX5_nextDay := by decide +kernel
theorem fl_X5_nextDay_31 : Cond.fieldLink RX5 31 "MittenLine$Row" "day" "I" ∈ wsX5_nextDay := by decide +kernel
theorem fl_X5_nextDay_15 : Cond.fieldLink RX5 15 "MittenLine$Row" "feels" "[I" ∈ wsX5_nextDay := by decide +kernel
abbrev rm_X5_nextDay : Jvm.Room := { frames := 0, cells := 0, slots := 0, locals := 0 }
def f_X5_nextDay_12 (day : Int32) : Nat → Int32 → (Nat → Int32) → Option ((Nat → Int32) × Int32)
  | 0, _, _ => none
  | n + 1, u1, feels => if (10 : Int32) ≤ u1 then some (feels, day) else if u1 < 0 ∨ 10 ≤ u1.toNatClampNeg then none else f_X5_nextDay_12 day n (u1 + (1 : Int32)) (upd feels u1.toNatClampNeg (0 : Int32))
set_option maxHeartbeats 4000000 in
set_option maxRecDepth 100000 in
theorem k_X5_nextDay_12 (C : Cx p s m args meth c D (tysW cI cZ cG) RX5 cX5_nextDay 2 wsX5_nextDay none) (h : Nat) (A : Nat → Nat) (holding : Int32) (wool : Int32) (day : Int32)  (res : (Nat → Int32) × Int32) : ∀ (n : Nat) (u1 : Int32) (feels : Nat → Int32), f_X5_nextDay_12 day n u1 feels = some res → Wd p l e rm_X5_nextDay s m args below meth c D w0 2 0 0 (MQ below (QcV D (tysW cI cZ cG) w0 [(h, oX5 A holding wool res.2), ((A 1), aI cI 10 res.1)] s.heap.size) args s 0 0 (va_A w0 s.heap.size)) [(h, oX5 A holding wool day), ((A 1), aI cI 10 feels)] [(0, .ref h), (1, .int u1)] 12 [] := by
  intro n
  induction n with
  | zero =>
    intro u1 feels hf
    exact no_none hf
  | succ n ih =>
    intro u1 feels hf
    unfold f_X5_nextDay_12 at hf
    refine r_iload_n C dX5_nextDay_12 rfl 1 rfl rfl ?_
    refine r_bipush C dX5_nextDay_13 kk_b_10 rfl ?_
    refine r_icmp_ge (tgt := 31) C dX5_nextDay_15 rfl rfl (fun c1 => ?_) (fun c1 => ?_)
    · have hf := gd_t c1 hf
      cases hf
      exact r_vret C dX5_nextDay_31 rfl
    · have hf := gd_f c1 hf
      refine r_aload_n C dX5_nextDay_18 rfl 0 rfl rfl ?_
      refine r_get C dX5_nextDay_19 fw_X5_nextDay_X5 0 rfl rfl 1 (by decide) rfl fl_X5_nextDay_15 rfl rfl ?_
      refine r_iload_n C dX5_nextDay_22 rfl 1 rfl rfl ?_
      refine r_iconst C dX5_nextDay_23 kk_i_0 rfl ?_
      obtain ⟨g2, hf⟩ := gd_n hf
      refine r_iast (ws' := [(h, oX5 A holding wool day), ((A 1), aI cI 10 (upd feels u1.toNatClampNeg (0 : Int32)))]) C dX5_nextDay_24 1 0 rfl rfl g2 rfl rfl ?_
      refine r_iinc (lv' := [(1, .int (u1 + (1 : Int32))), (0, .ref h)]) C dX5_nextDay_25 1 rfl (ki_1 _) (by decide) rfl rfl ?_
      refine r_goto (tgt := 12) C dX5_nextDay_28 rfl ?_
      refine r_lv (lv' := [(0, .ref h), (1, .int (u1 + (1 : Int32)))]) [1, 0] rfl ?_
      exact ih _ _ hf
def f_X5_nextDay (feels : Nat → Int32) (day : Int32) : Option ((Nat → Int32) × Int32) := f_X5_nextDay_12 (day + (1 : Int32)) 2000 (0 : Int32) feels
set_option maxHeartbeats 4000000 in
set_option maxRecDepth 100000 in
theorem c_X5_nextDay (l : Launch) (D : va_G) (cI cZ cG : ClassId) (h : Nat) (A : Nat → Nat) (feels : Nat → Int32) (holding : Int32) (wool : Int32) (day : Int32) (res : (Nat → Int32) × Int32) (hf : f_X5_nextDay feels day = some res) : CV l D (tysW cI cZ cG) yX5_nextDay wsX5_nextDay rm_X5_nextDay [.ref h] [(h, oX5 A holding wool day), ((A 1), aI cI 10 feels)] [(h, oX5 A holding wool res.2), ((A 1), aI cI 10 res.1)] := by
  refine CG.intro (own := RX5) (by decide +kernel) rfl rfl (Nat.le_of_ble_eq_true rfl) (fun p e s m args below meth c C => ?_)
  refine r_lv (lv' := [(0, .ref h)]) [0] rfl ?_
  unfold f_X5_nextDay at hf
  refine r_aload_n C dX5_nextDay_0 rfl 0 rfl rfl ?_
  refine r_dup C dX5_nextDay_1 rfl rfl ?_
  refine r_get C dX5_nextDay_2 fw_X5_nextDay_X5 0 rfl rfl 6 (by decide) rfl fl_X5_nextDay_31 rfl rfl ?_
  refine r_iconst C dX5_nextDay_5 kk_i_1 rfl ?_
  refine r_iadd C dX5_nextDay_6 rfl ?_
  refine r_put (ty := .int) (ws' := [(h, oX5 A holding wool (day + (1 : Int32))), ((A 1), aI cI 10 feels)]) C dX5_nextDay_7 fw_X5_nextDay_X5 tyX5 tyX5_ok nmX5 0 rfl rfl 6 (by decide) rfl fl_X5_nextDay_31 rfl (by decide +kernel) rfl rfl (Nat.le_of_ble_eq_true rfl) rfl rfl ?_
  refine r_iconst C dX5_nextDay_10 kk_i_0 rfl ?_
  refine r_istore_n (lv' := [(1, .int (0 : Int32)), (0, .ref h)]) C dX5_nextDay_11 rfl (by decide) rfl rfl ?_
  refine r_lv (lv' := [(0, .ref h), (1, .int (0 : Int32))]) [1, 0] rfl ?_
  refine k_X5_nextDay_12 C h A holding wool (day + (1 : Int32)) _ 2000 _ _ hf
theorem fw_X5_act_X5 : ∀ w ∈ u_ws RX5 TX5 7, w ∈ wsX5_act := by decide +kernel
theorem fl_X5_act_9 : Cond.fieldLink RX5 9 "MittenLine$Row" "yards" "[I" ∈ wsX5_act := by decide +kernel
abbrev rm_X5_act : Jvm.Room := { frames := 5, cells := 0, slots := 0, locals := 111 }
def f_X5_act (yards : Nat → Int32) (feels : Nat → Int32) (lengths : Nat → Int32) (plan : Nat → Int32) (holding : Int32) (wool : Int32) (day : Int32) (u1 : Int32) (u2 : Int32) (u3 : Int32) : Option (Int32 × (Nat → Int32) × (Nat → Int32) × (Nat → Int32) × (Nat → Int32) × Int32 × Int32 × Int32) := if u1 = (33 : Int32) then (f_X5_squeeze yards feels lengths u2 u3).bind (fun r2 => some ((0 : Int32), yards, r2, lengths, plan, holding, wool, day)) else if u1 = (35 : Int32) then (f_X5_turnHold holding u2).bind (fun r4 => some ((0 : Int32), yards, feels, lengths, plan, r4, wool, day)) else if u1 = (43 : Int32) then (f_X5_letOut lengths wool u2).bind (fun r6 => some ((0 : Int32), yards, feels, r6.1, plan, holding, r6.2, day)) else if u1 = (45 : Int32) then (f_X5_windIn lengths wool u2).bind (fun r8 => some ((0 : Int32), yards, feels, r8.1, plan, holding, r8.2, day)) else if u1 = (60 : Int32) then if u2 < 0 ∨ 10 ≤ u2.toNatClampNeg then none else (f_X5_step yards lengths plan u2 ((yards u2.toNatClampNeg) - u3)).bind (fun r11 => some (r11.1, r11.2.1, feels, lengths, r11.2.2, holding, wool, day)) else if u1 = (62 : Int32) then if u2 < 0 ∨ 10 ≤ u2.toNatClampNeg then none else (f_X5_step yards lengths plan u2 ((yards u2.toNatClampNeg) + u3)).bind (fun r14 => some (r14.1, r14.2.1, feels, lengths, r14.2.2, holding, wool, day)) else (f_X5_nextDay feels day).bind (fun r15 => some ((0 : Int32), yards, r15.1, lengths, plan, holding, wool, r15.2))
set_option maxHeartbeats 4000000 in
set_option maxRecDepth 100000 in
theorem c_X5_act (l : Launch) (D : va_G) (cI cZ cG : ClassId) (h : Nat) (A : Nat → Nat) (yards : Nat → Int32) (feels : Nat → Int32) (lengths : Nat → Int32) (plan : Nat → Int32) (holding : Int32) (wool : Int32) (day : Int32) (u1 : Int32) (u2 : Int32) (u3 : Int32) (res : Int32 × (Nat → Int32) × (Nat → Int32) × (Nat → Int32) × (Nat → Int32) × Int32 × Int32 × Int32) (hf : f_X5_act yards feels lengths plan holding wool day u1 u2 u3 = some res) : CI l D (tysW cI cZ cG) yX5_act wsX5_act rm_X5_act [.ref h, .int u1, .int u2, .int u3] [(h, oX5 A holding wool day), ((A 0), aI cI 10 yards), ((A 1), aI cI 10 feels), ((A 2), aI cI 9 lengths), ((A 3), aI cI 10 plan)] res.1 [(h, oX5 A res.2.2.2.2.2.1 res.2.2.2.2.2.2.1 res.2.2.2.2.2.2.2), ((A 0), aI cI 10 res.2.1), ((A 1), aI cI 10 res.2.2.1), ((A 2), aI cI 9 res.2.2.2.1), ((A 3), aI cI 10 res.2.2.2.2.1)] := by
  refine CG.intro (own := RX5) (by decide +kernel) rfl rfl (Nat.le_of_ble_eq_true rfl) (fun p e s m args below meth c C => ?_)
  refine r_lv (lv' := [(0, .ref h), (1, .int u1), (2, .int u2), (3, .int u3)]) [0, 1, 2, 3] rfl ?_
  unfold f_X5_act at hf
  refine r_iload_n C dX5_act_0 rfl 1 rfl rfl ?_
  by_cases c1 : u1 = (33 : Int32)
  · have hf := gd_t c1 hf
    refine r_look (tgt := 96) C dX5_act_1 (by decide) (by rw [c1] <;> rfl) rfl ?_
    refine r_aload_n C dX5_act_96 rfl 0 rfl rfl ?_
    refine r_iload_n C dX5_act_97 rfl 2 rfl rfl ?_
    refine r_iload_n C dX5_act_98 rfl 3 rfl rfl ?_
    obtain ⟨r2, e2, hf⟩ := gd_b hf
    refine o_V (wn := [(h, oX5 A holding wool day), ((A 0), aI cI 10 yards), ((A 1), aI cI 10 r2), ((A 2), aI cI 9 lengths), ((A 3), aI cI 10 plan)]) C [0, 1, 2, 3] rfl (x_V C dX5_act_99 (c_X5_squeeze l D cI cZ cG h A yards feels lengths holding wool day u2 u3 r2 e2) rfl gX5_act_X5_squeeze hd_X5_squeeze rfl ⟨Nat.le_of_ble_eq_true rfl, Nat.le_of_ble_eq_true rfl⟩ ⟨rfl, rfl⟩ ⟨Nat.zero_le _, Nat.zero_le _⟩ rfl [0, 1, 2, 3] rfl rfl 0 rfl rfl (Nat.le_of_ble_eq_true rfl) rfl) rfl rfl rfl ?_
    refine r_goto (tgt := 125) C dX5_act_102 rfl ?_
    refine r_iconst C dX5_act_125 kk_i_0 rfl ?_
    cases hf
    exact r_iret C dX5_act_126 rfl
  have hf := gd_f c1 hf
  by_cases c3 : u1 = (35 : Int32)
  · have hf := gd_t c3 hf
    refine r_look (tgt := 88) C dX5_act_1 (by decide) (by rw [c3] <;> rfl) rfl ?_
    refine r_aload_n C dX5_act_88 rfl 0 rfl rfl ?_
    refine r_iload_n C dX5_act_89 rfl 2 rfl rfl ?_
    obtain ⟨r4, e4, hf⟩ := gd_b hf
    refine o_V (wn := [(h, oX5 A r4 wool day), ((A 0), aI cI 10 yards), ((A 1), aI cI 10 feels), ((A 2), aI cI 9 lengths), ((A 3), aI cI 10 plan)]) C [0] rfl (x_V C dX5_act_90 (c_X5_turnHold l D cI cZ cG h A holding wool day u2 r4 e4) rfl gX5_act_X5_turnHold hd_X5_turnHold rfl ⟨Nat.le_of_ble_eq_true rfl, Nat.le_of_ble_eq_true rfl⟩ ⟨rfl, rfl⟩ ⟨Nat.zero_le _, Nat.zero_le _⟩ rfl [0] rfl rfl 0 rfl rfl (Nat.le_of_ble_eq_true rfl) rfl) rfl rfl rfl ?_
    refine r_goto (tgt := 125) C dX5_act_93 rfl ?_
    refine r_iconst C dX5_act_125 kk_i_0 rfl ?_
    cases hf
    exact r_iret C dX5_act_126 rfl
  have hf := gd_f c3 hf
  by_cases c5 : u1 = (43 : Int32)
  · have hf := gd_t c5 hf
    refine r_look (tgt := 105) C dX5_act_1 (by decide) (by rw [c5] <;> rfl) rfl ?_
    refine r_aload_n C dX5_act_105 rfl 0 rfl rfl ?_
    refine r_iload_n C dX5_act_106 rfl 2 rfl rfl ?_
    obtain ⟨r6, e6, hf⟩ := gd_b hf
    refine o_V (wn := [(h, oX5 A holding r6.2 day), ((A 0), aI cI 10 yards), ((A 1), aI cI 10 feels), ((A 2), aI cI 9 r6.1), ((A 3), aI cI 10 plan)]) C [0, 3] rfl (x_V C dX5_act_107 (c_X5_letOut l D cI cZ cG h A lengths holding wool day u2 r6 e6) rfl gX5_act_X5_letOut hd_X5_letOut rfl ⟨Nat.le_of_ble_eq_true rfl, Nat.le_of_ble_eq_true rfl⟩ ⟨rfl, rfl⟩ ⟨Nat.zero_le _, Nat.zero_le _⟩ rfl [0, 3] rfl rfl 0 rfl rfl (Nat.le_of_ble_eq_true rfl) rfl) rfl rfl rfl ?_
    refine r_goto (tgt := 125) C dX5_act_110 rfl ?_
    refine r_iconst C dX5_act_125 kk_i_0 rfl ?_
    cases hf
    exact r_iret C dX5_act_126 rfl
  have hf := gd_f c5 hf
  by_cases c7 : u1 = (45 : Int32)
  · have hf := gd_t c7 hf
    refine r_look (tgt := 113) C dX5_act_1 (by decide) (by rw [c7] <;> rfl) rfl ?_
    refine r_aload_n C dX5_act_113 rfl 0 rfl rfl ?_
    refine r_iload_n C dX5_act_114 rfl 2 rfl rfl ?_
    obtain ⟨r8, e8, hf⟩ := gd_b hf
    refine o_V (wn := [(h, oX5 A holding r8.2 day), ((A 0), aI cI 10 yards), ((A 1), aI cI 10 feels), ((A 2), aI cI 9 r8.1), ((A 3), aI cI 10 plan)]) C [0, 3] rfl (x_V C dX5_act_115 (c_X5_windIn l D cI cZ cG h A lengths holding wool day u2 r8 e8) rfl gX5_act_X5_windIn hd_X5_windIn rfl ⟨Nat.le_of_ble_eq_true rfl, Nat.le_of_ble_eq_true rfl⟩ ⟨rfl, rfl⟩ ⟨Nat.zero_le _, Nat.zero_le _⟩ rfl [0, 3] rfl rfl 0 rfl rfl (Nat.le_of_ble_eq_true rfl) rfl) rfl rfl rfl ?_
    refine r_goto (tgt := 125) C dX5_act_118 rfl ?_
    refine r_iconst C dX5_act_125 kk_i_0 rfl ?_
    cases hf
    exact r_iret C dX5_act_126 rfl
  have hf := gd_f c7 hf
  by_cases c9 : u1 = (60 : Int32)
  · have hf := gd_t c9 hf
    refine r_look (tgt := 74) C dX5_act_1 (by decide) (by rw [c9] <;> rfl) rfl ?_
    refine r_aload_n C dX5_act_74 rfl 0 rfl rfl ?_
    refine r_iload_n C dX5_act_75 rfl 2 rfl rfl ?_
    refine r_aload_n C dX5_act_76 rfl 0 rfl rfl ?_
    refine r_get C dX5_act_77 fw_X5_act_X5 0 rfl rfl 0 (by decide) rfl fl_X5_act_9 rfl rfl ?_
    refine r_iload_n C dX5_act_80 rfl 2 rfl rfl ?_
    obtain ⟨g10, hf⟩ := gd_n hf
    refine r_iald C dX5_act_81 1 0 rfl rfl g10 rfl ?_
    refine r_iload_n C dX5_act_82 rfl 3 rfl rfl ?_
    refine r_isub C dX5_act_83 rfl ?_
    obtain ⟨r11, e11, hf⟩ := gd_b hf
    refine o_I (wn := [(h, oX5 A holding wool day), ((A 0), aI cI 10 r11.2.1), ((A 1), aI cI 10 feels), ((A 2), aI cI 9 lengths), ((A 3), aI cI 10 r11.2.2)]) C [0, 1, 3, 4] rfl (x_V C dX5_act_84 (c_X5_step l D cI cZ cG h A yards lengths plan holding wool day u2 ((yards u2.toNatClampNeg) - u3) r11 e11) rfl gX5_act_X5_step hd_X5_step rfl ⟨Nat.le_of_ble_eq_true rfl, Nat.le_of_ble_eq_true rfl⟩ ⟨rfl, rfl⟩ ⟨Nat.zero_le _, Nat.zero_le _⟩ rfl [0, 1, 3, 4] rfl rfl 0 rfl rfl (Nat.le_of_ble_eq_true rfl) rfl) rfl rfl rfl ?_
    cases hf
    exact r_iret C dX5_act_87 rfl
  have hf := gd_f c9 hf
  by_cases c12 : u1 = (62 : Int32)
  · have hf := gd_t c12 hf
    refine r_look (tgt := 60) C dX5_act_1 (by decide) (by rw [c12] <;> rfl) rfl ?_
    refine r_aload_n C dX5_act_60 rfl 0 rfl rfl ?_
    refine r_iload_n C dX5_act_61 rfl 2 rfl rfl ?_
    refine r_aload_n C dX5_act_62 rfl 0 rfl rfl ?_
    refine r_get C dX5_act_63 fw_X5_act_X5 0 rfl rfl 0 (by decide) rfl fl_X5_act_9 rfl rfl ?_
    refine r_iload_n C dX5_act_66 rfl 2 rfl rfl ?_
    obtain ⟨g13, hf⟩ := gd_n hf
    refine r_iald C dX5_act_67 1 0 rfl rfl g13 rfl ?_
    refine r_iload_n C dX5_act_68 rfl 3 rfl rfl ?_
    refine r_iadd C dX5_act_69 rfl ?_
    obtain ⟨r14, e14, hf⟩ := gd_b hf
    refine o_I (wn := [(h, oX5 A holding wool day), ((A 0), aI cI 10 r14.2.1), ((A 1), aI cI 10 feels), ((A 2), aI cI 9 lengths), ((A 3), aI cI 10 r14.2.2)]) C [0, 1, 3, 4] rfl (x_V C dX5_act_70 (c_X5_step l D cI cZ cG h A yards lengths plan holding wool day u2 ((yards u2.toNatClampNeg) + u3) r14 e14) rfl gX5_act_X5_step hd_X5_step rfl ⟨Nat.le_of_ble_eq_true rfl, Nat.le_of_ble_eq_true rfl⟩ ⟨rfl, rfl⟩ ⟨Nat.zero_le _, Nat.zero_le _⟩ rfl [0, 1, 3, 4] rfl rfl 0 rfl rfl (Nat.le_of_ble_eq_true rfl) rfl) rfl rfl rfl ?_
    cases hf
    exact r_iret C dX5_act_73 rfl
  have hf := gd_f c12 hf
  refine r_look (tgt := 121) C dX5_act_1 (by decide) ((lv_osw c1 rfl).trans ((lv_osw c3 rfl).trans ((lv_osw c5 rfl).trans ((lv_osw c7 rfl).trans ((lv_osw c9 rfl).trans ((lv_osw c12 rfl).trans rfl)))))) rfl ?_
  refine r_aload_n C dX5_act_121 rfl 0 rfl rfl ?_
  obtain ⟨r15, e15, hf⟩ := gd_b hf
  refine o_V (wn := [(h, oX5 A holding wool r15.2), ((A 0), aI cI 10 yards), ((A 1), aI cI 10 r15.1), ((A 2), aI cI 9 lengths), ((A 3), aI cI 10 plan)]) C [0, 2] rfl (x_V C dX5_act_122 (c_X5_nextDay l D cI cZ cG h A feels holding wool day r15 e15) rfl gX5_act_X5_nextDay hd_X5_nextDay rfl ⟨Nat.le_of_ble_eq_true rfl, Nat.le_of_ble_eq_true rfl⟩ ⟨rfl, rfl⟩ ⟨Nat.zero_le _, Nat.zero_le _⟩ rfl [0, 2] rfl rfl 0 rfl rfl (Nat.le_of_ble_eq_true rfl) rfl) rfl rfl rfl ?_
  refine r_iconst C dX5_act_125 kk_i_0 rfl ?_
  cases hf
  exact r_iret C dX5_act_126 rfl
theorem fw_X5_copyFrom_X5 : ∀ w ∈ u_ws RX5 TX5 7, w ∈ wsX5_copyFrom := by decide +kernel
theorem fl_X5_copyFrom_9 : Cond.fieldLink RX5 9 "MittenLine$Row" "yards" "[I" ∈ wsX5_copyFrom := by decide +kernel
theorem fl_X5_copyFrom_15 : Cond.fieldLink RX5 15 "MittenLine$Row" "feels" "[I" ∈ wsX5_copyFrom := by decide +kernel
theorem fl_X5_copyFrom_18 : Cond.fieldLink RX5 18 "MittenLine$Row" "lengths" "[I" ∈ wsX5_copyFrom := by decide +kernel
theorem fl_X5_copyFrom_28 : Cond.fieldLink RX5 28 "MittenLine$Row" "holding" "I" ∈ wsX5_copyFrom := by decide +kernel
theorem fl_X5_copyFrom_24 : Cond.fieldLink RX5 24 "MittenLine$Row" "wool" "I" ∈ wsX5_copyFrom := by decide +kernel
theorem fl_X5_copyFrom_31 : Cond.fieldLink RX5 31 "MittenLine$Row" "day" "I" ∈ wsX5_copyFrom := by decide +kernel
abbrev rm_X5_copyFrom : Jvm.Room := { frames := 0, cells := 0, slots := 0, locals := 0 }
def f_X5_copyFrom_2 (o1_yards : Nat → Int32) (o1_feels : Nat → Int32) (kx38 : (Nat → Int32) → (Nat → Int32) → Option ((Nat → Int32) × (Nat → Int32) × (Nat → Int32) × Int32 × Int32 × Int32)) : Nat → Int32 → (Nat → Int32) → (Nat → Int32) → Option ((Nat → Int32) × (Nat → Int32) × (Nat → Int32) × Int32 × Int32 × Int32)
  | 0, _, _, _ => none
  | n + 1, u2, yards, feels => if (10 : Int32) ≤ u2 then kx38 yards feels else if u2 < 0 ∨ 10 ≤ u2.toNatClampNeg then none else f_X5_copyFrom_2 o1_yards o1_feels kx38 n (u2 + (1 : Int32)) (upd yards u2.toNatClampNeg (o1_yards u2.toNatClampNeg)) (upd feels u2.toNatClampNeg (o1_feels u2.toNatClampNeg))
set_option maxHeartbeats 4000000 in
set_option maxRecDepth 100000 in
theorem k_X5_copyFrom_2 (C : Cx p s m args meth c D (tysW cI cZ cG) RX5 cX5_copyFrom 3 wsX5_copyFrom none) (h h1 : Nat) (A B1 : Nat → Nat) (lengths : Nat → Int32) (holding : Int32) (wool : Int32) (day : Int32) (o1_yards : Nat → Int32) (o1_feels : Nat → Int32) (o1_lengths : Nat → Int32) (o1_holding : Int32) (o1_wool : Int32) (o1_day : Int32)  (kx38 : (Nat → Int32) → (Nat → Int32) → Option ((Nat → Int32) × (Nat → Int32) × (Nat → Int32) × Int32 × Int32 × Int32)) (res : (Nat → Int32) × (Nat → Int32) × (Nat → Int32) × Int32 × Int32 × Int32) (hkx38 : ∀ (yards : Nat → Int32) (feels : Nat → Int32) , kx38 yards feels = some res → Wd p l e rm_X5_copyFrom s m args below meth c D w0 3 0 0 (MQ below (QcV D (tysW cI cZ cG) w0 [(h, oX5 A res.2.2.2.1 res.2.2.2.2.1 res.2.2.2.2.2), (h1, oX5 B1 o1_holding o1_wool o1_day), ((A 0), aI cI 10 res.1), ((A 1), aI cI 10 res.2.1), ((A 2), aI cI 9 res.2.2.1), ((B1 0), aI cI 10 o1_yards), ((B1 1), aI cI 10 o1_feels), ((B1 2), aI cI 9 o1_lengths)] s.heap.size) args s 0 0 (va_A w0 s.heap.size)) [(h, oX5 A holding wool day), (h1, oX5 B1 o1_holding o1_wool o1_day), ((A 0), aI cI 10 yards), ((A 1), aI cI 10 feels), ((A 2), aI cI 9 lengths), ((B1 0), aI cI 10 o1_yards), ((B1 1), aI cI 10 o1_feels), ((B1 2), aI cI 9 o1_lengths)] [(0, .ref h), (1, .ref h1)] 38 []) : ∀ (n : Nat) (u2 : Int32) (yards : Nat → Int32) (feels : Nat → Int32), f_X5_copyFrom_2 o1_yards o1_feels kx38 n u2 yards feels = some res → Wd p l e rm_X5_copyFrom s m args below meth c D w0 3 0 0 (MQ below (QcV D (tysW cI cZ cG) w0 [(h, oX5 A res.2.2.2.1 res.2.2.2.2.1 res.2.2.2.2.2), (h1, oX5 B1 o1_holding o1_wool o1_day), ((A 0), aI cI 10 res.1), ((A 1), aI cI 10 res.2.1), ((A 2), aI cI 9 res.2.2.1), ((B1 0), aI cI 10 o1_yards), ((B1 1), aI cI 10 o1_feels), ((B1 2), aI cI 9 o1_lengths)] s.heap.size) args s 0 0 (va_A w0 s.heap.size)) [(h, oX5 A holding wool day), (h1, oX5 B1 o1_holding o1_wool o1_day), ((A 0), aI cI 10 yards), ((A 1), aI cI 10 feels), ((A 2), aI cI 9 lengths), ((B1 0), aI cI 10 o1_yards), ((B1 1), aI cI 10 o1_feels), ((B1 2), aI cI 9 o1_lengths)] [(0, .ref h), (1, .ref h1), (2, .int u2)] 2 [] := by
  intro n
  induction n with
  | zero =>
    intro u2 yards feels hf
    exact no_none hf
  | succ n ih =>
    intro u2 yards feels hf
    unfold f_X5_copyFrom_2 at hf
    refine r_iload_n C dX5_copyFrom_2 rfl 2 rfl rfl ?_
    refine r_bipush C dX5_copyFrom_3 kk_b_10 rfl ?_
    refine r_icmp_ge (tgt := 38) C dX5_copyFrom_5 rfl rfl (fun c1 => ?_) (fun c1 => ?_)
    · have hf := gd_t c1 hf
      refine r_lv (lv' := [(0, .ref h), (1, .ref h1)]) [0, 1] rfl ?_
      exact hkx38 _ _ hf
    · have hf := gd_f c1 hf
      refine r_aload_n C dX5_copyFrom_8 rfl 0 rfl rfl ?_
      refine r_get C dX5_copyFrom_9 fw_X5_copyFrom_X5 0 rfl rfl 0 (by decide) rfl fl_X5_copyFrom_9 rfl rfl ?_
      refine r_iload_n C dX5_copyFrom_12 rfl 2 rfl rfl ?_
      refine r_aload_n C dX5_copyFrom_13 rfl 1 rfl rfl ?_
      refine r_get C dX5_copyFrom_14 fw_X5_copyFrom_X5 1 rfl rfl 0 (by decide) rfl fl_X5_copyFrom_9 rfl rfl ?_
      refine r_iload_n C dX5_copyFrom_17 rfl 2 rfl rfl ?_
      obtain ⟨g2, hf⟩ := gd_n hf
      refine r_iald C dX5_copyFrom_18 5 0 rfl rfl g2 rfl ?_
      refine r_iast (ws' := [(h, oX5 A holding wool day), (h1, oX5 B1 o1_holding o1_wool o1_day), ((A 0), aI cI 10 (upd yards u2.toNatClampNeg (o1_yards u2.toNatClampNeg))), ((A 1), aI cI 10 feels), ((A 2), aI cI 9 lengths), ((B1 0), aI cI 10 o1_yards), ((B1 1), aI cI 10 o1_feels), ((B1 2), aI cI 9 o1_lengths)]) C dX5_copyFrom_19 2 0 rfl rfl g2 rfl rfl ?_
      refine r_aload_n C dX5_copyFrom_20 rfl 0 rfl rfl ?_
      refine r_get C dX5_copyFrom_21 fw_X5_copyFrom_X5 0 rfl rfl 1 (by decide) rfl fl_X5_copyFrom_15 rfl rfl ?_
      refine r_iload_n C dX5_copyFrom_24 rfl 2 rfl rfl ?_
      refine r_aload_n C dX5_copyFrom_25 rfl 1 rfl rfl ?_
      refine r_get C dX5_copyFrom_26 fw_X5_copyFrom_X5 1 rfl rfl 1 (by decide) rfl fl_X5_copyFrom_15 rfl rfl ?_
      refine r_iload_n C dX5_copyFrom_29 rfl 2 rfl rfl ?_
      refine r_iald C dX5_copyFrom_30 6 0 rfl rfl g2 rfl ?_
      refine r_iast (ws' := [(h, oX5 A holding wool day), (h1, oX5 B1 o1_holding o1_wool o1_day), ((A 0), aI cI 10 (upd yards u2.toNatClampNeg (o1_yards u2.toNatClampNeg))), ((A 1), aI cI 10 (upd feels u2.toNatClampNeg (o1_feels u2.toNatClampNeg))), ((A 2), aI cI 9 lengths), ((B1 0), aI cI 10 o1_yards), ((B1 1), aI cI 10 o1_feels), ((B1 2), aI cI 9 o1_lengths)]) C dX5_copyFrom_31 3 0 rfl rfl g2 rfl rfl ?_
      refine r_iinc (lv' := [(2, .int (u2 + (1 : Int32))), (0, .ref h), (1, .ref h1)]) C dX5_copyFrom_32 2 rfl (ki_1 _) (by decide) rfl rfl ?_
      refine r_goto (tgt := 2) C dX5_copyFrom_35 rfl ?_
      refine r_lv (lv' := [(0, .ref h), (1, .ref h1), (2, .int (u2 + (1 : Int32)))]) [1, 2, 0] rfl ?_
      exact ih _ _ _ hf
def f_X5_copyFrom_40 (o1_lengths : Nat → Int32) (kx64 : (Nat → Int32) → Option ((Nat → Int32) × (Nat → Int32) × (Nat → Int32) × Int32 × Int32 × Int32)) : Nat → Int32 → (Nat → Int32) → Option ((Nat → Int32) × (Nat → Int32) × (Nat → Int32) × Int32 × Int32 × Int32)
  | 0, _, _ => none
  | n + 1, u2, lengths => if (9 : Int32) ≤ u2 then kx64 lengths else if u2 < 0 ∨ 9 ≤ u2.toNatClampNeg then none else f_X5_copyFrom_40 o1_lengths kx64 n (u2 + (1 : Int32)) (upd lengths u2.toNatClampNeg (o1_lengths u2.toNatClampNeg))
set_option maxHeartbeats 4000000 in
set_option maxRecDepth 100000 in
theorem k_X5_copyFrom_40 (C : Cx p s m args meth c D (tysW cI cZ cG) RX5 cX5_copyFrom 3 wsX5_copyFrom none) (h h1 : Nat) (A B1 : Nat → Nat) (yards : Nat → Int32) (feels : Nat → Int32) (holding : Int32) (wool : Int32) (day : Int32) (o1_yards : Nat → Int32) (o1_feels : Nat → Int32) (o1_lengths : Nat → Int32) (o1_holding : Int32) (o1_wool : Int32) (o1_day : Int32)  (kx64 : (Nat → Int32) → Option ((Nat → Int32) × (Nat → Int32) × (Nat → Int32) × Int32 × Int32 × Int32)) (res : (Nat → Int32) × (Nat → Int32) × (Nat → Int32) × Int32 × Int32 × Int32) (hkx64 : ∀ (lengths : Nat → Int32) , kx64 lengths = some res → Wd p l e rm_X5_copyFrom s m args below meth c D w0 3 0 0 (MQ below (QcV D (tysW cI cZ cG) w0 [(h, oX5 A res.2.2.2.1 res.2.2.2.2.1 res.2.2.2.2.2), (h1, oX5 B1 o1_holding o1_wool o1_day), ((A 0), aI cI 10 res.1), ((A 1), aI cI 10 res.2.1), ((A 2), aI cI 9 res.2.2.1), ((B1 0), aI cI 10 o1_yards), ((B1 1), aI cI 10 o1_feels), ((B1 2), aI cI 9 o1_lengths)] s.heap.size) args s 0 0 (va_A w0 s.heap.size)) [(h, oX5 A holding wool day), (h1, oX5 B1 o1_holding o1_wool o1_day), ((A 0), aI cI 10 yards), ((A 1), aI cI 10 feels), ((A 2), aI cI 9 lengths), ((B1 0), aI cI 10 o1_yards), ((B1 1), aI cI 10 o1_feels), ((B1 2), aI cI 9 o1_lengths)] [(0, .ref h), (1, .ref h1)] 64 []) : ∀ (n : Nat) (u2 : Int32) (lengths : Nat → Int32), f_X5_copyFrom_40 o1_lengths kx64 n u2 lengths = some res → Wd p l e rm_X5_copyFrom s m args below meth c D w0 3 0 0 (MQ below (QcV D (tysW cI cZ cG) w0 [(h, oX5 A res.2.2.2.1 res.2.2.2.2.1 res.2.2.2.2.2), (h1, oX5 B1 o1_holding o1_wool o1_day), ((A 0), aI cI 10 res.1), ((A 1), aI cI 10 res.2.1), ((A 2), aI cI 9 res.2.2.1), ((B1 0), aI cI 10 o1_yards), ((B1 1), aI cI 10 o1_feels), ((B1 2), aI cI 9 o1_lengths)] s.heap.size) args s 0 0 (va_A w0 s.heap.size)) [(h, oX5 A holding wool day), (h1, oX5 B1 o1_holding o1_wool o1_day), ((A 0), aI cI 10 yards), ((A 1), aI cI 10 feels), ((A 2), aI cI 9 lengths), ((B1 0), aI cI 10 o1_yards), ((B1 1), aI cI 10 o1_feels), ((B1 2), aI cI 9 o1_lengths)] [(0, .ref h), (1, .ref h1), (2, .int u2)] 40 [] := by
  intro n
  induction n with
  | zero =>
    intro u2 lengths hf
    exact no_none hf
  | succ n ih =>
    intro u2 lengths hf
    unfold f_X5_copyFrom_40 at hf
    refine r_iload_n C dX5_copyFrom_40 rfl 2 rfl rfl ?_
    refine r_bipush C dX5_copyFrom_41 kk_b_9 rfl ?_
    refine r_icmp_ge (tgt := 64) C dX5_copyFrom_43 rfl rfl (fun c5 => ?_) (fun c5 => ?_)
    · have hf := gd_t c5 hf
      refine r_lv (lv' := [(0, .ref h), (1, .ref h1)]) [0, 1] rfl ?_
      exact hkx64 _ hf
    · have hf := gd_f c5 hf
      refine r_aload_n C dX5_copyFrom_46 rfl 0 rfl rfl ?_
      refine r_get C dX5_copyFrom_47 fw_X5_copyFrom_X5 0 rfl rfl 2 (by decide) rfl fl_X5_copyFrom_18 rfl rfl ?_
      refine r_iload_n C dX5_copyFrom_50 rfl 2 rfl rfl ?_
      refine r_aload_n C dX5_copyFrom_51 rfl 1 rfl rfl ?_
      refine r_get C dX5_copyFrom_52 fw_X5_copyFrom_X5 1 rfl rfl 2 (by decide) rfl fl_X5_copyFrom_18 rfl rfl ?_
      refine r_iload_n C dX5_copyFrom_55 rfl 2 rfl rfl ?_
      obtain ⟨g6, hf⟩ := gd_n hf
      refine r_iald C dX5_copyFrom_56 7 0 rfl rfl g6 rfl ?_
      refine r_iast (ws' := [(h, oX5 A holding wool day), (h1, oX5 B1 o1_holding o1_wool o1_day), ((A 0), aI cI 10 yards), ((A 1), aI cI 10 feels), ((A 2), aI cI 9 (upd lengths u2.toNatClampNeg (o1_lengths u2.toNatClampNeg))), ((B1 0), aI cI 10 o1_yards), ((B1 1), aI cI 10 o1_feels), ((B1 2), aI cI 9 o1_lengths)]) C dX5_copyFrom_57 4 0 rfl rfl g6 rfl rfl ?_
      refine r_iinc (lv' := [(2, .int (u2 + (1 : Int32))), (0, .ref h), (1, .ref h1)]) C dX5_copyFrom_58 2 rfl (ki_1 _) (by decide) rfl rfl ?_
      refine r_goto (tgt := 40) C dX5_copyFrom_61 rfl ?_
      refine r_lv (lv' := [(0, .ref h), (1, .ref h1), (2, .int (u2 + (1 : Int32)))]) [1, 2, 0] rfl ?_
      exact ih _ _ hf
def f_X5_copyFrom (yards : Nat → Int32) (feels : Nat → Int32) (lengths : Nat → Int32) (holding : Int32) (wool : Int32) (day : Int32) (o1_yards : Nat → Int32) (o1_feels : Nat → Int32) (o1_lengths : Nat → Int32) (o1_holding : Int32) (o1_wool : Int32) (o1_day : Int32) : Option ((Nat → Int32) × (Nat → Int32) × (Nat → Int32) × Int32 × Int32 × Int32) := f_X5_copyFrom_2 o1_yards o1_feels (fun yards_3 feels_4 => f_X5_copyFrom_40 o1_lengths (fun lengths_7 => some (yards_3, feels_4, lengths_7, o1_holding, o1_wool, o1_day)) 2000 (0 : Int32) lengths) 2000 (0 : Int32) yards feels
set_option maxHeartbeats 4000000 in
set_option maxRecDepth 100000 in
theorem c_X5_copyFrom (l : Launch) (D : va_G) (cI cZ cG : ClassId) (h h1 : Nat) (A B1 : Nat → Nat) (yards : Nat → Int32) (feels : Nat → Int32) (lengths : Nat → Int32) (holding : Int32) (wool : Int32) (day : Int32) (o1_yards : Nat → Int32) (o1_feels : Nat → Int32) (o1_lengths : Nat → Int32) (o1_holding : Int32) (o1_wool : Int32) (o1_day : Int32) (res : (Nat → Int32) × (Nat → Int32) × (Nat → Int32) × Int32 × Int32 × Int32) (hf : f_X5_copyFrom yards feels lengths holding wool day o1_yards o1_feels o1_lengths o1_holding o1_wool o1_day = some res) : CV l D (tysW cI cZ cG) yX5_copyFrom wsX5_copyFrom rm_X5_copyFrom [.ref h, .ref h1] [(h, oX5 A holding wool day), (h1, oX5 B1 o1_holding o1_wool o1_day), ((A 0), aI cI 10 yards), ((A 1), aI cI 10 feels), ((A 2), aI cI 9 lengths), ((B1 0), aI cI 10 o1_yards), ((B1 1), aI cI 10 o1_feels), ((B1 2), aI cI 9 o1_lengths)] [(h, oX5 A res.2.2.2.1 res.2.2.2.2.1 res.2.2.2.2.2), (h1, oX5 B1 o1_holding o1_wool o1_day), ((A 0), aI cI 10 res.1), ((A 1), aI cI 10 res.2.1), ((A 2), aI cI 9 res.2.2.1), ((B1 0), aI cI 10 o1_yards), ((B1 1), aI cI 10 o1_feels), ((B1 2), aI cI 9 o1_lengths)] := by
  refine CG.intro (own := RX5) (by decide +kernel) rfl rfl (Nat.le_of_ble_eq_true rfl) (fun p e s m args below meth c C => ?_)
  refine r_lv (lv' := [(0, .ref h), (1, .ref h1)]) [0, 1] rfl ?_
  unfold f_X5_copyFrom at hf
  refine r_iconst C dX5_copyFrom_0 kk_i_0 rfl ?_
  refine r_istore_n (lv' := [(2, .int (0 : Int32)), (0, .ref h), (1, .ref h1)]) C dX5_copyFrom_1 rfl (by decide) rfl rfl ?_
  refine r_lv (lv' := [(0, .ref h), (1, .ref h1), (2, .int (0 : Int32))]) [1, 2, 0] rfl ?_
  refine k_X5_copyFrom_2 C h h1 A B1 lengths holding wool day o1_yards o1_feels o1_lengths o1_holding o1_wool o1_day _ _ ?_ 2000 _ _ _ hf
  · intro yards_3 feels_4 hf
    refine r_iconst C dX5_copyFrom_38 kk_i_0 rfl ?_
    refine r_istore_n (lv' := [(2, .int (0 : Int32)), (0, .ref h), (1, .ref h1)]) C dX5_copyFrom_39 rfl (by decide) rfl rfl ?_
    refine r_lv (lv' := [(0, .ref h), (1, .ref h1), (2, .int (0 : Int32))]) [1, 2, 0] rfl ?_
    refine k_X5_copyFrom_40 C h h1 A B1 yards_3 feels_4 holding wool day o1_yards o1_feels o1_lengths o1_holding o1_wool o1_day _ _ ?_ 2000 _ _ hf
    · intro lengths_7 hf
      refine r_aload_n C dX5_copyFrom_64 rfl 0 rfl rfl ?_
      refine r_aload_n C dX5_copyFrom_65 rfl 1 rfl rfl ?_
      refine r_get C dX5_copyFrom_66 fw_X5_copyFrom_X5 1 rfl rfl 4 (by decide) rfl fl_X5_copyFrom_28 rfl rfl ?_
      refine r_put (ty := .int) (ws' := [(h, oX5 A o1_holding wool day), (h1, oX5 B1 o1_holding o1_wool o1_day), ((A 0), aI cI 10 yards_3), ((A 1), aI cI 10 feels_4), ((A 2), aI cI 9 lengths_7), ((B1 0), aI cI 10 o1_yards), ((B1 1), aI cI 10 o1_feels), ((B1 2), aI cI 9 o1_lengths)]) C dX5_copyFrom_69 fw_X5_copyFrom_X5 tyX5 tyX5_ok nmX5 0 rfl rfl 4 (by decide) rfl fl_X5_copyFrom_28 rfl (by decide +kernel) rfl rfl (Nat.le_of_ble_eq_true rfl) rfl rfl ?_
      refine r_aload_n C dX5_copyFrom_72 rfl 0 rfl rfl ?_
      refine r_aload_n C dX5_copyFrom_73 rfl 1 rfl rfl ?_
      refine r_get C dX5_copyFrom_74 fw_X5_copyFrom_X5 1 rfl rfl 5 (by decide) rfl fl_X5_copyFrom_24 rfl rfl ?_
      refine r_put (ty := .int) (ws' := [(h, oX5 A o1_holding o1_wool day), (h1, oX5 B1 o1_holding o1_wool o1_day), ((A 0), aI cI 10 yards_3), ((A 1), aI cI 10 feels_4), ((A 2), aI cI 9 lengths_7), ((B1 0), aI cI 10 o1_yards), ((B1 1), aI cI 10 o1_feels), ((B1 2), aI cI 9 o1_lengths)]) C dX5_copyFrom_77 fw_X5_copyFrom_X5 tyX5 tyX5_ok nmX5 0 rfl rfl 5 (by decide) rfl fl_X5_copyFrom_24 rfl (by decide +kernel) rfl rfl (Nat.le_of_ble_eq_true rfl) rfl rfl ?_
      refine r_aload_n C dX5_copyFrom_80 rfl 0 rfl rfl ?_
      refine r_aload_n C dX5_copyFrom_81 rfl 1 rfl rfl ?_
      refine r_get C dX5_copyFrom_82 fw_X5_copyFrom_X5 1 rfl rfl 6 (by decide) rfl fl_X5_copyFrom_31 rfl rfl ?_
      refine r_put (ty := .int) (ws' := [(h, oX5 A o1_holding o1_wool o1_day), (h1, oX5 B1 o1_holding o1_wool o1_day), ((A 0), aI cI 10 yards_3), ((A 1), aI cI 10 feels_4), ((A 2), aI cI 9 lengths_7), ((B1 0), aI cI 10 o1_yards), ((B1 1), aI cI 10 o1_feels), ((B1 2), aI cI 9 o1_lengths)]) C dX5_copyFrom_85 fw_X5_copyFrom_X5 tyX5 tyX5_ok nmX5 0 rfl rfl 6 (by decide) rfl fl_X5_copyFrom_31 rfl (by decide +kernel) rfl rfl (Nat.le_of_ble_eq_true rfl) rfl rfl ?_
      cases hf
      exact r_vret C dX5_copyFrom_88 rfl
theorem fw_X5_holdsFast_X5 : ∀ w ∈ u_ws RX5 TX5 7, w ∈ wsX5_holdsFast := by decide +kernel
theorem fl_X5_holdsFast_28 : Cond.fieldLink RX5 28 "MittenLine$Row" "holding" "I" ∈ wsX5_holdsFast := by decide +kernel
abbrev rm_X5_holdsFast : Jvm.Room := { frames := 0, cells := 0, slots := 0, locals := 0 }
def f_X5_holdsFast (holding : Int32) (u1 : Int32) : Option (Int32) := if ((holding >>> (u1 &&& 31)) &&& (1 : Int32)) = (1 : Int32) then some ((1 : Int32)) else some ((0 : Int32))
set_option maxHeartbeats 4000000 in
set_option maxRecDepth 100000 in
theorem c_X5_holdsFast (l : Launch) (D : va_G) (cI cZ cG : ClassId) (h : Nat) (A : Nat → Nat) (holding : Int32) (wool : Int32) (day : Int32) (u1 : Int32) (res : Int32) (hf : f_X5_holdsFast holding u1 = some res) : CI l D (tysW cI cZ cG) yX5_holdsFast wsX5_holdsFast rm_X5_holdsFast [.ref h, .int u1] [(h, oX5 A holding wool day)] res [(h, oX5 A holding wool day)] := by
  refine CG.intro (own := RX5) (by decide +kernel) rfl rfl (Nat.le_of_ble_eq_true rfl) (fun p e s m args below meth c C => ?_)
  refine r_lv (lv' := [(0, .ref h), (1, .int u1)]) [0, 1] rfl ?_
  unfold f_X5_holdsFast at hf
  refine r_aload_n C dX5_holdsFast_0 rfl 0 rfl rfl ?_
  refine r_get C dX5_holdsFast_1 fw_X5_holdsFast_X5 0 rfl rfl 4 (by decide) rfl fl_X5_holdsFast_28 rfl rfl ?_
  refine r_iload_n C dX5_holdsFast_4 rfl 1 rfl rfl ?_
  refine r_ishr C dX5_holdsFast_5 rfl ?_
  refine r_iconst C dX5_holdsFast_6 kk_i_1 rfl ?_
  refine r_iand C dX5_holdsFast_7 rfl ?_
  refine r_iconst C dX5_holdsFast_8 kk_i_1 rfl ?_
  refine r_icmp_ne (tgt := 16) C dX5_holdsFast_9 rfl rfl (fun c1 => ?_) (fun c1 => ?_)
  · have hf := gd_f c1 hf
    refine r_iconst C dX5_holdsFast_16 kk_i_0 rfl ?_
    cases hf
    exact r_zret C dX5_holdsFast_17 nb0 rfl
  · have hf := gd_t c1 hf
    refine r_iconst C dX5_holdsFast_12 kk_i_1 rfl ?_
    refine r_goto (tgt := 17) C dX5_holdsFast_13 rfl ?_
    cases hf
    exact r_zret C dX5_holdsFast_17 nb1 rfl
abbrev rm_X5_tautBits : Jvm.Room := { frames := 3, cells := 0, slots := 0, locals := 66 }
def f_X5_tautBits_4 (yards : Nat → Int32) (lengths : Nat → Int32) : Nat → Int32 → Int32 → Option (Int32)
  | 0, _, _ => none
  | n + 1, u1, u2 => if (9 : Int32) ≤ u2 then some (u1) else (f_X5_isTaut yards lengths u2).bind (fun r2 => if r2 = 0 then f_X5_tautBits_4 yards lengths n u1 (u2 + (1 : Int32)) else f_X5_tautBits_4 yards lengths n (u1 ||| ((1 : Int32) <<< (u2 &&& 31))) (u2 + (1 : Int32)))
set_option maxHeartbeats 4000000 in
set_option maxRecDepth 100000 in
theorem k_X5_tautBits_4 (C : Cx p s m args meth c D (tysW cI cZ cG) RX5 cX5_tautBits 3 wsX5_tautBits (some .int)) (h : Nat) (A : Nat → Nat) (yards : Nat → Int32) (lengths : Nat → Int32) (holding : Int32) (wool : Int32) (day : Int32)  (res : Int32) : ∀ (n : Nat) (u1 : Int32) (u2 : Int32), f_X5_tautBits_4 yards lengths n u1 u2 = some res → Wd p l e rm_X5_tautBits s m args below meth c D w0 3 0 0 (MQ below (QcI D (tysW cI cZ cG) w0 [(h, oX5 A holding wool day), ((A 0), aI cI 10 yards), ((A 2), aI cI 9 lengths)] res s.heap.size) args s 0 0 (va_A w0 s.heap.size)) [(h, oX5 A holding wool day), ((A 0), aI cI 10 yards), ((A 2), aI cI 9 lengths)] [(0, .ref h), (1, .int u1), (2, .int u2)] 4 [] := by
  intro n
  induction n with
  | zero =>
    intro u1 u2 hf
    exact no_none hf
  | succ n ih =>
    intro u1 u2 hf
    unfold f_X5_tautBits_4 at hf
    refine r_iload_n C dX5_tautBits_4 rfl 2 rfl rfl ?_
    refine r_bipush C dX5_tautBits_5 kk_b_9 rfl ?_
    refine r_icmp_ge (tgt := 30) C dX5_tautBits_7 rfl rfl (fun c1 => ?_) (fun c1 => ?_)
    · have hf := gd_t c1 hf
      refine r_iload_n C dX5_tautBits_30 rfl 1 rfl rfl ?_
      cases hf
      exact r_iret C dX5_tautBits_31 rfl
    · have hf := gd_f c1 hf
      refine r_aload_n C dX5_tautBits_10 rfl 0 rfl rfl ?_
      refine r_iload_n C dX5_tautBits_11 rfl 2 rfl rfl ?_
      obtain ⟨r2, e2, hf⟩ := gd_b hf
      refine o_I (wn := [(h, oX5 A holding wool day), ((A 0), aI cI 10 yards), ((A 2), aI cI 9 lengths)]) C [0, 1, 2] rfl (x_V C dX5_tautBits_12 (c_X5_isTaut l D cI cZ cG h A yards lengths holding wool day u2 r2 e2) rfl gX5_tautBits_X5_isTaut hd_X5_isTaut rfl ⟨Nat.le_of_ble_eq_true rfl, Nat.le_of_ble_eq_true rfl⟩ ⟨rfl, rfl⟩ ⟨Nat.zero_le _, Nat.zero_le _⟩ rfl [0, 1, 2] rfl rfl 0 rfl rfl (Nat.le_of_ble_eq_true rfl) rfl) rfl rfl rfl ?_
      refine r_if_eq (y := 0) (tgt := 24) C dX5_tautBits_15 rfl rfl (fun c3 => ?_) (fun c3 => ?_)
      · have hf := gd_t c3 hf
        refine r_iinc (lv' := [(2, .int (u2 + (1 : Int32))), (0, .ref h), (1, .int u1)]) C dX5_tautBits_24 2 rfl (ki_1 _) (by decide) rfl rfl ?_
        refine r_goto (tgt := 4) C dX5_tautBits_27 rfl ?_
        refine r_lv (lv' := [(0, .ref h), (1, .int u1), (2, .int (u2 + (1 : Int32)))]) [1, 2, 0] rfl ?_
        exact ih _ _ hf
      · have hf := gd_f c3 hf
        refine r_iload_n C dX5_tautBits_18 rfl 1 rfl rfl ?_
        refine r_iconst C dX5_tautBits_19 kk_i_1 rfl ?_
        refine r_iload_n C dX5_tautBits_20 rfl 2 rfl rfl ?_
        refine r_ishl C dX5_tautBits_21 rfl ?_
        refine r_ior C dX5_tautBits_22 rfl ?_
        refine r_istore_n (lv' := [(1, .int (u1 ||| ((1 : Int32) <<< (u2 &&& 31)))), (0, .ref h), (2, .int u2)]) C dX5_tautBits_23 rfl (by decide) rfl rfl ?_
        refine r_iinc (lv' := [(2, .int (u2 + (1 : Int32))), (1, .int (u1 ||| ((1 : Int32) <<< (u2 &&& 31)))), (0, .ref h)]) C dX5_tautBits_24 2 rfl (ki_1 _) (by decide) rfl rfl ?_
        refine r_goto (tgt := 4) C dX5_tautBits_27 rfl ?_
        refine r_lv (lv' := [(0, .ref h), (1, .int (u1 ||| ((1 : Int32) <<< (u2 &&& 31)))), (2, .int (u2 + (1 : Int32)))]) [2, 1, 0] rfl ?_
        exact ih _ _ hf
def f_X5_tautBits (yards : Nat → Int32) (lengths : Nat → Int32) : Option (Int32) := f_X5_tautBits_4 yards lengths 2000 (0 : Int32) (0 : Int32)
set_option maxHeartbeats 4000000 in
set_option maxRecDepth 100000 in
theorem c_X5_tautBits (l : Launch) (D : va_G) (cI cZ cG : ClassId) (h : Nat) (A : Nat → Nat) (yards : Nat → Int32) (lengths : Nat → Int32) (holding : Int32) (wool : Int32) (day : Int32) (res : Int32) (hf : f_X5_tautBits yards lengths = some res) : CI l D (tysW cI cZ cG) yX5_tautBits wsX5_tautBits rm_X5_tautBits [.ref h] [(h, oX5 A holding wool day), ((A 0), aI cI 10 yards), ((A 2), aI cI 9 lengths)] res [(h, oX5 A holding wool day), ((A 0), aI cI 10 yards), ((A 2), aI cI 9 lengths)] := by
  refine CG.intro (own := RX5) (by decide +kernel) rfl rfl (Nat.le_of_ble_eq_true rfl) (fun p e s m args below meth c C => ?_)
  refine r_lv (lv' := [(0, .ref h)]) [0] rfl ?_
  unfold f_X5_tautBits at hf
  refine r_iconst C dX5_tautBits_0 kk_i_0 rfl ?_
  refine r_istore_n (lv' := [(1, .int (0 : Int32)), (0, .ref h)]) C dX5_tautBits_1 rfl (by decide) rfl rfl ?_
  refine r_iconst C dX5_tautBits_2 kk_i_0 rfl ?_
  refine r_istore_n (lv' := [(2, .int (0 : Int32)), (1, .int (0 : Int32)), (0, .ref h)]) C dX5_tautBits_3 rfl (by decide) rfl rfl ?_
  refine r_lv (lv' := [(0, .ref h), (1, .int (0 : Int32)), (2, .int (0 : Int32))]) [2, 1, 0] rfl ?_
  refine k_X5_tautBits_4 C h A yards lengths holding wool day _ 2000 _ _ hf
theorem fw_X5_allLengths_X5 : ∀ w ∈ u_ws RX5 TX5 7, w ∈ wsX5_allLengths := by decide +kernel
theorem fl_X5_allLengths_18 : Cond.fieldLink RX5 18 "MittenLine$Row" "lengths" "[I" ∈ wsX5_allLengths := by decide +kernel
abbrev rm_X5_allLengths : Jvm.Room := { frames := 0, cells := 0, slots := 0, locals := 0 }
def f_X5_allLengths_4 (lengths : Nat → Int32) : Nat → Int32 → Int32 → Option (Int32)
  | 0, _, _ => none
  | n + 1, u1, u2 => if (9 : Int32) ≤ u2 then some (u1) else if u2 < 0 ∨ 9 ≤ u2.toNatClampNeg then none else f_X5_allLengths_4 lengths n (u1 + (lengths u2.toNatClampNeg)) (u2 + (1 : Int32))
set_option maxHeartbeats 4000000 in
set_option maxRecDepth 100000 in
theorem k_X5_allLengths_4 (C : Cx p s m args meth c D (tysW cI cZ cG) RX5 cX5_allLengths 3 wsX5_allLengths (some .int)) (h : Nat) (A : Nat → Nat) (lengths : Nat → Int32) (holding : Int32) (wool : Int32) (day : Int32)  (res : Int32) : ∀ (n : Nat) (u1 : Int32) (u2 : Int32), f_X5_allLengths_4 lengths n u1 u2 = some res → Wd p l e rm_X5_allLengths s m args below meth c D w0 3 0 0 (MQ below (QcI D (tysW cI cZ cG) w0 [(h, oX5 A holding wool day), ((A 2), aI cI 9 lengths)] res s.heap.size) args s 0 0 (va_A w0 s.heap.size)) [(h, oX5 A holding wool day), ((A 2), aI cI 9 lengths)] [(0, .ref h), (1, .int u1), (2, .int u2)] 4 [] := by
  intro n
  induction n with
  | zero =>
    intro u1 u2 hf
    exact no_none hf
  | succ n ih =>
    intro u1 u2 hf
    unfold f_X5_allLengths_4 at hf
    refine r_iload_n C dX5_allLengths_4 rfl 2 rfl rfl ?_
    refine r_bipush C dX5_allLengths_5 kk_b_9 rfl ?_
    refine r_icmp_ge (tgt := 25) C dX5_allLengths_7 rfl rfl (fun c1 => ?_) (fun c1 => ?_)
    · have hf := gd_t c1 hf
      refine r_iload_n C dX5_allLengths_25 rfl 1 rfl rfl ?_
      cases hf
      exact r_iret C dX5_allLengths_26 rfl
    · have hf := gd_f c1 hf
      refine r_iload_n C dX5_allLengths_10 rfl 1 rfl rfl ?_
      refine r_aload_n C dX5_allLengths_11 rfl 0 rfl rfl ?_
      refine r_get C dX5_allLengths_12 fw_X5_allLengths_X5 0 rfl rfl 2 (by decide) rfl fl_X5_allLengths_18 rfl rfl ?_
      refine r_iload_n C dX5_allLengths_15 rfl 2 rfl rfl ?_
      obtain ⟨g2, hf⟩ := gd_n hf
      refine r_iald C dX5_allLengths_16 1 0 rfl rfl g2 rfl ?_
      refine r_iadd C dX5_allLengths_17 rfl ?_
      refine r_istore_n (lv' := [(1, .int (u1 + (lengths u2.toNatClampNeg))), (0, .ref h), (2, .int u2)]) C dX5_allLengths_18 rfl (by decide) rfl rfl ?_
      refine r_iinc (lv' := [(2, .int (u2 + (1 : Int32))), (1, .int (u1 + (lengths u2.toNatClampNeg))), (0, .ref h)]) C dX5_allLengths_19 2 rfl (ki_1 _) (by decide) rfl rfl ?_
      refine r_goto (tgt := 4) C dX5_allLengths_22 rfl ?_
      refine r_lv (lv' := [(0, .ref h), (1, .int (u1 + (lengths u2.toNatClampNeg))), (2, .int (u2 + (1 : Int32)))]) [2, 1, 0] rfl ?_
      exact ih _ _ hf
def f_X5_allLengths (lengths : Nat → Int32) : Option (Int32) := f_X5_allLengths_4 lengths 2000 (0 : Int32) (0 : Int32)
set_option maxHeartbeats 4000000 in
set_option maxRecDepth 100000 in
theorem c_X5_allLengths (l : Launch) (D : va_G) (cI cZ cG : ClassId) (h : Nat) (A : Nat → Nat) (lengths : Nat → Int32) (holding : Int32) (wool : Int32) (day : Int32) (res : Int32) (hf : f_X5_allLengths lengths = some res) : CI l D (tysW cI cZ cG) yX5_allLengths wsX5_allLengths rm_X5_allLengths [.ref h] [(h, oX5 A holding wool day), ((A 2), aI cI 9 lengths)] res [(h, oX5 A holding wool day), ((A 2), aI cI 9 lengths)] := by
  refine CG.intro (own := RX5) (by decide +kernel) rfl rfl (Nat.le_of_ble_eq_true rfl) (fun p e s m args below meth c C => ?_)
  refine r_lv (lv' := [(0, .ref h)]) [0] rfl ?_
  unfold f_X5_allLengths at hf
  refine r_iconst C dX5_allLengths_0 kk_i_0 rfl ?_
  refine r_istore_n (lv' := [(1, .int (0 : Int32)), (0, .ref h)]) C dX5_allLengths_1 rfl (by decide) rfl rfl ?_
  refine r_iconst C dX5_allLengths_2 kk_i_0 rfl ?_
  refine r_istore_n (lv' := [(2, .int (0 : Int32)), (1, .int (0 : Int32)), (0, .ref h)]) C dX5_allLengths_3 rfl (by decide) rfl rfl ?_
  refine r_lv (lv' := [(0, .ref h), (1, .int (0 : Int32)), (2, .int (0 : Int32))]) [2, 1, 0] rfl ?_
  refine k_X5_allLengths_4 C h A lengths holding wool day _ 2000 _ _ hf
theorem fw_X5_hasStringFor_X5 : ∀ w ∈ u_ws RX5 TX5 7, w ∈ wsX5_hasStringFor := by decide +kernel
theorem fl_X5_hasStringFor_9 : Cond.fieldLink RX5 9 "MittenLine$Row" "yards" "[I" ∈ wsX5_hasStringFor := by decide +kernel
theorem wm_X5_hasStringFor_abs_34 : Cond.methodLink RX5 34 Lib.Math.abs.name ∈ wsX5_hasStringFor := by decide +kernel
theorem wm_X5_hasStringFor_abs_s : Cond.static Lib.Math.abs.name ∈ wsX5_hasStringFor := by decide +kernel
theorem wm_X5_hasStringFor_i : Cond.initialized "java/lang/Math" ∈ wsX5_hasStringFor := by decide +kernel
theorem wm_X5_hasStringFor_abs_c : Cond.code Lib.Math.abs.name Lib.Math.abs.code 1 (some .int) ∈ wsX5_hasStringFor := by decide +kernel
theorem fl_X5_hasStringFor_18 : Cond.fieldLink RX5 18 "MittenLine$Row" "lengths" "[I" ∈ wsX5_hasStringFor := by decide +kernel
abbrev rm_X5_hasStringFor : Jvm.Room := { frames := 1, cells := 0, slots := 0, locals := 24 }
def f_X5_hasStringFor (yards : Nat → Int32) (lengths : Nat → Int32) (u1 : Int32) (u2 : Int32) : Option (Int32) := if u1 ≤ 0 then if u1 = (9 : Int32) then some ((1 : Int32)) else if (u1 + (1 : Int32)) < 0 ∨ 10 ≤ (u1 + (1 : Int32)).toNatClampNeg then none else if u1 < 0 ∨ 9 ≤ u1.toNatClampNeg then none else if (lengths u1.toNatClampNeg) < (iabs (u2 - (yards (u1 + (1 : Int32)).toNatClampNeg))) then some ((0 : Int32)) else some ((1 : Int32)) else if (u1 - (1 : Int32)) < 0 ∨ 10 ≤ (u1 - (1 : Int32)).toNatClampNeg then none else if (u1 - (1 : Int32)) < 0 ∨ 9 ≤ (u1 - (1 : Int32)).toNatClampNeg then none else if (iabs (u2 - (yards (u1 - (1 : Int32)).toNatClampNeg))) ≤ (lengths (u1 - (1 : Int32)).toNatClampNeg) then if u1 = (9 : Int32) then some ((1 : Int32)) else if (u1 + (1 : Int32)) < 0 ∨ 10 ≤ (u1 + (1 : Int32)).toNatClampNeg then none else if u1 < 0 ∨ 9 ≤ u1.toNatClampNeg then none else if (lengths u1.toNatClampNeg) < (iabs (u2 - (yards (u1 + (1 : Int32)).toNatClampNeg))) then some ((0 : Int32)) else some ((1 : Int32)) else some ((0 : Int32))
set_option maxHeartbeats 4000000 in
set_option maxRecDepth 100000 in
theorem c_X5_hasStringFor (l : Launch) (D : va_G) (cI cZ cG : ClassId) (h : Nat) (A : Nat → Nat) (yards : Nat → Int32) (lengths : Nat → Int32) (holding : Int32) (wool : Int32) (day : Int32) (u1 : Int32) (u2 : Int32) (res : Int32) (hf : f_X5_hasStringFor yards lengths u1 u2 = some res) : CI l D (tysW cI cZ cG) yX5_hasStringFor wsX5_hasStringFor rm_X5_hasStringFor [.ref h, .int u1, .int u2] [(h, oX5 A holding wool day), ((A 0), aI cI 10 yards), ((A 2), aI cI 9 lengths)] res [(h, oX5 A holding wool day), ((A 0), aI cI 10 yards), ((A 2), aI cI 9 lengths)] := by
  refine CG.intro (own := RX5) (by decide +kernel) rfl rfl (Nat.le_of_ble_eq_true rfl) (fun p e s m args below meth c C => ?_)
  refine r_lv (lv' := [(0, .ref h), (1, .int u1), (2, .int u2)]) [0, 1, 2] rfl ?_
  unfold f_X5_hasStringFor at hf
  refine r_iload_n C dX5_hasStringFor_0 rfl 1 rfl rfl ?_
  refine r_if_le (y := 0) (tgt := 30) C dX5_hasStringFor_1 rfl rfl (fun c1 => ?_) (fun c1 => ?_)
  · have hf := gd_t c1 hf
    refine r_iload_n C dX5_hasStringFor_30 rfl 1 rfl rfl ?_
    refine r_bipush C dX5_hasStringFor_31 kk_b_9 rfl ?_
    refine r_icmp_eq (tgt := 58) C dX5_hasStringFor_33 rfl rfl (fun c2 => ?_) (fun c2 => ?_)
    · have hf := gd_t c2 hf
      refine r_iconst C dX5_hasStringFor_58 kk_i_1 rfl ?_
      refine r_goto (tgt := 63) C dX5_hasStringFor_59 rfl ?_
      cases hf
      exact r_zret C dX5_hasStringFor_63 nb1 rfl
    · have hf := gd_f c2 hf
      refine r_iload_n C dX5_hasStringFor_36 rfl 2 rfl rfl ?_
      refine r_aload_n C dX5_hasStringFor_37 rfl 0 rfl rfl ?_
      refine r_get C dX5_hasStringFor_38 fw_X5_hasStringFor_X5 0 rfl rfl 0 (by decide) rfl fl_X5_hasStringFor_9 rfl rfl ?_
      refine r_iload_n C dX5_hasStringFor_41 rfl 1 rfl rfl ?_
      refine r_iconst C dX5_hasStringFor_42 kk_i_1 rfl ?_
      refine r_iadd C dX5_hasStringFor_43 rfl ?_
      obtain ⟨g3, hf⟩ := gd_n hf
      refine r_iald C dX5_hasStringFor_44 1 0 rfl rfl g3 rfl ?_
      refine r_isub C dX5_hasStringFor_45 rfl ?_
      refine r_mabs C dX5_hasStringFor_46 wm_X5_hasStringFor_abs_34 wm_X5_hasStringFor_abs_s wm_X5_hasStringFor_i wm_X5_hasStringFor_abs_c (Nat.le_of_ble_eq_true rfl) (Nat.le_of_ble_eq_true rfl) (Nat.zero_le _) (Nat.zero_le _) rfl ?_
      refine r_aload_n C dX5_hasStringFor_49 rfl 0 rfl rfl ?_
      refine r_get C dX5_hasStringFor_50 fw_X5_hasStringFor_X5 0 rfl rfl 2 (by decide) rfl fl_X5_hasStringFor_18 rfl rfl ?_
      refine r_iload_n C dX5_hasStringFor_53 rfl 1 rfl rfl ?_
      obtain ⟨g4, hf⟩ := gd_n hf
      refine r_iald C dX5_hasStringFor_54 2 0 rfl rfl g4 rfl ?_
      refine r_icmp_gt (tgt := 62) C dX5_hasStringFor_55 rfl rfl (fun c5 => ?_) (fun c5 => ?_)
      · have hf := gd_t c5 hf
        refine r_iconst C dX5_hasStringFor_62 kk_i_0 rfl ?_
        cases hf
        exact r_zret C dX5_hasStringFor_63 nb0 rfl
      · have hf := gd_f c5 hf
        refine r_iconst C dX5_hasStringFor_58 kk_i_1 rfl ?_
        refine r_goto (tgt := 63) C dX5_hasStringFor_59 rfl ?_
        cases hf
        exact r_zret C dX5_hasStringFor_63 nb1 rfl
  · have hf := gd_f c1 hf
    refine r_iload_n C dX5_hasStringFor_4 rfl 2 rfl rfl ?_
    refine r_aload_n C dX5_hasStringFor_5 rfl 0 rfl rfl ?_
    refine r_get C dX5_hasStringFor_6 fw_X5_hasStringFor_X5 0 rfl rfl 0 (by decide) rfl fl_X5_hasStringFor_9 rfl rfl ?_
    refine r_iload_n C dX5_hasStringFor_9 rfl 1 rfl rfl ?_
    refine r_iconst C dX5_hasStringFor_10 kk_i_1 rfl ?_
    refine r_isub C dX5_hasStringFor_11 rfl ?_
    obtain ⟨g6, hf⟩ := gd_n hf
    refine r_iald C dX5_hasStringFor_12 1 0 rfl rfl g6 rfl ?_
    refine r_isub C dX5_hasStringFor_13 rfl ?_
    refine r_mabs C dX5_hasStringFor_14 wm_X5_hasStringFor_abs_34 wm_X5_hasStringFor_abs_s wm_X5_hasStringFor_i wm_X5_hasStringFor_abs_c (Nat.le_of_ble_eq_true rfl) (Nat.le_of_ble_eq_true rfl) (Nat.zero_le _) (Nat.zero_le _) rfl ?_
    refine r_aload_n C dX5_hasStringFor_17 rfl 0 rfl rfl ?_
    refine r_get C dX5_hasStringFor_18 fw_X5_hasStringFor_X5 0 rfl rfl 2 (by decide) rfl fl_X5_hasStringFor_18 rfl rfl ?_
    refine r_iload_n C dX5_hasStringFor_21 rfl 1 rfl rfl ?_
    refine r_iconst C dX5_hasStringFor_22 kk_i_1 rfl ?_
    refine r_isub C dX5_hasStringFor_23 rfl ?_
    obtain ⟨g7, hf⟩ := gd_n hf
    refine r_iald C dX5_hasStringFor_24 2 0 rfl rfl g7 rfl ?_
    refine r_icmp_le (tgt := 30) C dX5_hasStringFor_25 rfl rfl (fun c8 => ?_) (fun c8 => ?_)
    · have hf := gd_t c8 hf
      refine r_iload_n C dX5_hasStringFor_30 rfl 1 rfl rfl ?_
      refine r_bipush C dX5_hasStringFor_31 kk_b_9 rfl ?_
      refine r_icmp_eq (tgt := 58) C dX5_hasStringFor_33 rfl rfl (fun c9 => ?_) (fun c9 => ?_)
      · have hf := gd_t c9 hf
        refine r_iconst C dX5_hasStringFor_58 kk_i_1 rfl ?_
        refine r_goto (tgt := 63) C dX5_hasStringFor_59 rfl ?_
        cases hf
        exact r_zret C dX5_hasStringFor_63 nb1 rfl
      · have hf := gd_f c9 hf
        refine r_iload_n C dX5_hasStringFor_36 rfl 2 rfl rfl ?_
        refine r_aload_n C dX5_hasStringFor_37 rfl 0 rfl rfl ?_
        refine r_get C dX5_hasStringFor_38 fw_X5_hasStringFor_X5 0 rfl rfl 0 (by decide) rfl fl_X5_hasStringFor_9 rfl rfl ?_
        refine r_iload_n C dX5_hasStringFor_41 rfl 1 rfl rfl ?_
        refine r_iconst C dX5_hasStringFor_42 kk_i_1 rfl ?_
        refine r_iadd C dX5_hasStringFor_43 rfl ?_
        obtain ⟨g10, hf⟩ := gd_n hf
        refine r_iald C dX5_hasStringFor_44 1 0 rfl rfl g10 rfl ?_
        refine r_isub C dX5_hasStringFor_45 rfl ?_
        refine r_mabs C dX5_hasStringFor_46 wm_X5_hasStringFor_abs_34 wm_X5_hasStringFor_abs_s wm_X5_hasStringFor_i wm_X5_hasStringFor_abs_c (Nat.le_of_ble_eq_true rfl) (Nat.le_of_ble_eq_true rfl) (Nat.zero_le _) (Nat.zero_le _) rfl ?_
        refine r_aload_n C dX5_hasStringFor_49 rfl 0 rfl rfl ?_
        refine r_get C dX5_hasStringFor_50 fw_X5_hasStringFor_X5 0 rfl rfl 2 (by decide) rfl fl_X5_hasStringFor_18 rfl rfl ?_
        refine r_iload_n C dX5_hasStringFor_53 rfl 1 rfl rfl ?_
        obtain ⟨g11, hf⟩ := gd_n hf
        refine r_iald C dX5_hasStringFor_54 2 0 rfl rfl g11 rfl ?_
        refine r_icmp_gt (tgt := 62) C dX5_hasStringFor_55 rfl rfl (fun c12 => ?_) (fun c12 => ?_)
        · have hf := gd_t c12 hf
          refine r_iconst C dX5_hasStringFor_62 kk_i_0 rfl ?_
          cases hf
          exact r_zret C dX5_hasStringFor_63 nb0 rfl
        · have hf := gd_f c12 hf
          refine r_iconst C dX5_hasStringFor_58 kk_i_1 rfl ?_
          refine r_goto (tgt := 63) C dX5_hasStringFor_59 rfl ?_
          cases hf
          exact r_zret C dX5_hasStringFor_63 nb1 rfl
    · have hf := gd_f c8 hf
      refine r_iconst C dX5_hasStringFor_28 kk_i_0 rfl ?_
      cases hf
      exact r_zret C dX5_hasStringFor_29 nb0 rfl
theorem fw_X5_farthest_X5 : ∀ w ∈ u_ws RX5 TX5 7, w ∈ wsX5_farthest := by decide +kernel
theorem fl_X5_farthest_9 : Cond.fieldLink RX5 9 "MittenLine$Row" "yards" "[I" ∈ wsX5_farthest := by decide +kernel
theorem fl_X5_farthest_18 : Cond.fieldLink RX5 18 "MittenLine$Row" "lengths" "[I" ∈ wsX5_farthest := by decide +kernel
theorem wm_X5_farthest_min_93 : Cond.methodLink RX5 93 Lib.Math.min.name ∈ wsX5_farthest := by decide +kernel
theorem wm_X5_farthest_min_s : Cond.static Lib.Math.min.name ∈ wsX5_farthest := by decide +kernel
theorem wm_X5_farthest_i : Cond.initialized "java/lang/Math" ∈ wsX5_farthest := by decide +kernel
theorem wm_X5_farthest_min_c : Cond.code Lib.Math.min.name Lib.Math.min.code 2 (some .int) ∈ wsX5_farthest := by decide +kernel
abbrev rm_X5_farthest : Jvm.Room := { frames := 1, cells := 0, slots := 0, locals := 24 }
def f_X5_farthest_42 (u1 : Int32) (u2 : Int32) (yards : Nat → Int32) (lengths : Nat → Int32) (holding : Int32) (kx102 : Int32 → Option (Int32)) : Nat → Int32 → Int32 → Int32 → Option (Int32)
  | 0, _, _, _ => none
  | n + 1, u3, u4, u5 => if (10 : Int32) ≤ u5 then kx102 u3 else if (u5 - (1 : Int32)) < 0 ∨ 9 ≤ (u5 - (1 : Int32)).toNatClampNeg then none else (f_X5_holdsFast holding u5).bind (fun r7 => if r7 = 0 then f_X5_farthest_42 u1 u2 yards lengths holding kx102 n u3 (u4 + (lengths (u5 - (1 : Int32)).toNatClampNeg)) (u5 + (1 : Int32)) else if u5 < 0 ∨ 10 ≤ u5.toNatClampNeg then none else if u1 < 0 ∨ 10 ≤ u1.toNatClampNeg then none else f_X5_farthest_42 u1 u2 yards lengths holding kx102 n (imin u3 ((u2 * ((yards u5.toNatClampNeg) - (yards u1.toNatClampNeg))) + (u4 + (lengths (u5 - (1 : Int32)).toNatClampNeg)))) (u4 + (lengths (u5 - (1 : Int32)).toNatClampNeg)) (u5 + (1 : Int32)))
set_option maxHeartbeats 4000000 in
set_option maxRecDepth 100000 in
theorem k_X5_farthest_42 (C : Cx p s m args meth c D (tysW cI cZ cG) RX5 cX5_farthest 6 wsX5_farthest (some .int)) (h : Nat) (A : Nat → Nat) (yards : Nat → Int32) (lengths : Nat → Int32) (holding : Int32) (wool : Int32) (day : Int32) (u1 : Int32) (u2 : Int32)  (kx102 : Int32 → Option (Int32)) (res : Int32) (hkx102 : ∀ (u3 : Int32) , kx102 u3 = some res → Wd p l e rm_X5_farthest s m args below meth c D w0 6 0 0 (MQ below (QcI D (tysW cI cZ cG) w0 [(h, oX5 A holding wool day), ((A 0), aI cI 10 yards), ((A 2), aI cI 9 lengths)] res s.heap.size) args s 0 0 (va_A w0 s.heap.size)) [(h, oX5 A holding wool day), ((A 0), aI cI 10 yards), ((A 2), aI cI 9 lengths)] [(0, .ref h), (1, .int u1), (2, .int u2), (3, .int u3)] 102 []) : ∀ (n : Nat) (u3 : Int32) (u4 : Int32) (u5 : Int32), f_X5_farthest_42 u1 u2 yards lengths holding kx102 n u3 u4 u5 = some res → Wd p l e rm_X5_farthest s m args below meth c D w0 6 0 0 (MQ below (QcI D (tysW cI cZ cG) w0 [(h, oX5 A holding wool day), ((A 0), aI cI 10 yards), ((A 2), aI cI 9 lengths)] res s.heap.size) args s 0 0 (va_A w0 s.heap.size)) [(h, oX5 A holding wool day), ((A 0), aI cI 10 yards), ((A 2), aI cI 9 lengths)] [(0, .ref h), (1, .int u1), (2, .int u2), (3, .int u3), (4, .int u4), (5, .int u5)] 42 [] := by
  intro n
  induction n with
  | zero =>
    intro u3 u4 u5 hf
    exact no_none hf
  | succ n ih =>
    intro u3 u4 u5 hf
    unfold f_X5_farthest_42 at hf
    refine r_iload C dX5_farthest_42 5 rfl rfl ?_
    refine r_bipush C dX5_farthest_44 kk_b_10 rfl ?_
    refine r_icmp_ge (tgt := 102) C dX5_farthest_46 rfl rfl (fun c5 => ?_) (fun c5 => ?_)
    · have hf := gd_t c5 hf
      refine r_lv (lv' := [(0, .ref h), (1, .int u1), (2, .int u2), (3, .int u3)]) [0, 1, 2, 3] rfl ?_
      exact hkx102 _ hf
    · have hf := gd_f c5 hf
      refine r_iload C dX5_farthest_49 4 rfl rfl ?_
      refine r_aload_n C dX5_farthest_51 rfl 0 rfl rfl ?_
      refine r_get C dX5_farthest_52 fw_X5_farthest_X5 0 rfl rfl 2 (by decide) rfl fl_X5_farthest_18 rfl rfl ?_
      refine r_iload C dX5_farthest_55 5 rfl rfl ?_
      refine r_iconst C dX5_farthest_57 kk_i_1 rfl ?_
      refine r_isub C dX5_farthest_58 rfl ?_
      obtain ⟨g6, hf⟩ := gd_n hf
      refine r_iald C dX5_farthest_59 2 0 rfl rfl g6 rfl ?_
      refine r_iadd C dX5_farthest_60 rfl ?_
      refine r_istore (lv' := [(4, .int (u4 + (lengths (u5 - (1 : Int32)).toNatClampNeg))), (0, .ref h), (1, .int u1), (2, .int u2), (3, .int u3), (5, .int u5)]) C dX5_farthest_61 (by decide) rfl rfl ?_
      refine r_aload_n C dX5_farthest_63 rfl 1 rfl rfl ?_
      refine r_iload C dX5_farthest_64 5 rfl rfl ?_
      obtain ⟨r7, e7, hf⟩ := gd_b hf
      refine o_I (wn := [(h, oX5 A holding wool day), ((A 0), aI cI 10 yards), ((A 2), aI cI 9 lengths)]) C [0] rfl (x_V C dX5_farthest_66 (c_X5_holdsFast l D cI cZ cG h A holding wool day u5 r7 e7) rfl gX5_farthest_X5_holdsFast hd_X5_holdsFast rfl ⟨Nat.le_of_ble_eq_true rfl, Nat.le_of_ble_eq_true rfl⟩ ⟨rfl, rfl⟩ ⟨Nat.zero_le _, Nat.zero_le _⟩ rfl [0] rfl rfl 0 rfl rfl (Nat.le_of_ble_eq_true rfl) rfl) rfl rfl rfl ?_
      refine r_if_eq (y := 0) (tgt := 96) C dX5_farthest_69 rfl rfl (fun c8 => ?_) (fun c8 => ?_)
      · have hf := gd_t c8 hf
        refine r_iinc (lv' := [(5, .int (u5 + (1 : Int32))), (4, .int (u4 + (lengths (u5 - (1 : Int32)).toNatClampNeg))), (0, .ref h), (1, .int u1), (2, .int u2), (3, .int u3)]) C dX5_farthest_96 5 rfl (ki_1 _) (by decide) rfl rfl ?_
        refine r_goto (tgt := 42) C dX5_farthest_99 rfl ?_
        refine r_lv (lv' := [(0, .ref h), (1, .int u1), (2, .int u2), (3, .int u3), (4, .int (u4 + (lengths (u5 - (1 : Int32)).toNatClampNeg))), (5, .int (u5 + (1 : Int32)))]) [2, 3, 4, 5, 1, 0] rfl ?_
        exact ih _ _ _ hf
      · have hf := gd_f c8 hf
        refine r_iload_n C dX5_farthest_72 rfl 4 rfl rfl ?_
        refine r_iload_n C dX5_farthest_73 rfl 3 rfl rfl ?_
        refine r_aload_n C dX5_farthest_74 rfl 1 rfl rfl ?_
        refine r_get C dX5_farthest_75 fw_X5_farthest_X5 0 rfl rfl 0 (by decide) rfl fl_X5_farthest_9 rfl rfl ?_
        refine r_iload C dX5_farthest_78 5 rfl rfl ?_
        obtain ⟨g9, hf⟩ := gd_n hf
        refine r_iald C dX5_farthest_80 1 0 rfl rfl g9 rfl ?_
        refine r_aload_n C dX5_farthest_81 rfl 1 rfl rfl ?_
        refine r_get C dX5_farthest_82 fw_X5_farthest_X5 0 rfl rfl 0 (by decide) rfl fl_X5_farthest_9 rfl rfl ?_
        refine r_iload_n C dX5_farthest_85 rfl 2 rfl rfl ?_
        obtain ⟨g10, hf⟩ := gd_n hf
        refine r_iald C dX5_farthest_86 1 0 rfl rfl g10 rfl ?_
        refine r_isub C dX5_farthest_87 rfl ?_
        refine r_imul C dX5_farthest_88 rfl ?_
        refine r_iload C dX5_farthest_89 0 rfl rfl ?_
        refine r_iadd C dX5_farthest_91 rfl ?_
        refine r_mmin C dX5_farthest_92 wm_X5_farthest_min_93 wm_X5_farthest_min_s wm_X5_farthest_i wm_X5_farthest_min_c (Nat.le_of_ble_eq_true rfl) (Nat.le_of_ble_eq_true rfl) (Nat.zero_le _) (Nat.zero_le _) rfl ?_
        refine r_istore_n (lv' := [(3, .int (imin u3 ((u2 * ((yards u5.toNatClampNeg) - (yards u1.toNatClampNeg))) + (u4 + (lengths (u5 - (1 : Int32)).toNatClampNeg))))), (4, .int (u4 + (lengths (u5 - (1 : Int32)).toNatClampNeg))), (0, .ref h), (1, .int u1), (2, .int u2), (5, .int u5)]) C dX5_farthest_95 rfl (by decide) rfl rfl ?_
        refine r_iinc (lv' := [(5, .int (u5 + (1 : Int32))), (3, .int (imin u3 ((u2 * ((yards u5.toNatClampNeg) - (yards u1.toNatClampNeg))) + (u4 + (lengths (u5 - (1 : Int32)).toNatClampNeg))))), (4, .int (u4 + (lengths (u5 - (1 : Int32)).toNatClampNeg))), (0, .ref h), (1, .int u1), (2, .int u2)]) C dX5_farthest_96 5 rfl (ki_1 _) (by decide) rfl rfl ?_
        refine r_goto (tgt := 42) C dX5_farthest_99 rfl ?_
        refine r_lv (lv' := [(0, .ref h), (1, .int u1), (2, .int u2), (3, .int (imin u3 ((u2 * ((yards u5.toNatClampNeg) - (yards u1.toNatClampNeg))) + (u4 + (lengths (u5 - (1 : Int32)).toNatClampNeg))))), (4, .int (u4 + (lengths (u5 - (1 : Int32)).toNatClampNeg))), (5, .int (u5 + (1 : Int32)))]) [3, 4, 5, 1, 2, 0] rfl ?_
        exact ih _ _ _ hf
def f_X5_farthest_110 (u1 : Int32) (u2 : Int32) (yards : Nat → Int32) (lengths : Nat → Int32) (holding : Int32) : Nat → Int32 → Int32 → Int32 → Option (Int32)
  | 0, _, _, _ => none
  | n + 1, u3, u4, u5 => if u5 < 0 then some (u3) else if u5 < 0 ∨ 9 ≤ u5.toNatClampNeg then none else (f_X5_holdsFast holding u5).bind (fun r14 => if r14 = 0 then f_X5_farthest_110 u1 u2 yards lengths holding n u3 (u4 + (lengths u5.toNatClampNeg)) (u5 + (-1 : Int32)) else if u5 < 0 ∨ 10 ≤ u5.toNatClampNeg then none else if u1 < 0 ∨ 10 ≤ u1.toNatClampNeg then none else f_X5_farthest_110 u1 u2 yards lengths holding n (imin u3 ((u2 * ((yards u5.toNatClampNeg) - (yards u1.toNatClampNeg))) + (u4 + (lengths u5.toNatClampNeg)))) (u4 + (lengths u5.toNatClampNeg)) (u5 + (-1 : Int32)))
set_option maxHeartbeats 4000000 in
set_option maxRecDepth 100000 in
theorem k_X5_farthest_110 (C : Cx p s m args meth c D (tysW cI cZ cG) RX5 cX5_farthest 6 wsX5_farthest (some .int)) (h : Nat) (A : Nat → Nat) (yards : Nat → Int32) (lengths : Nat → Int32) (holding : Int32) (wool : Int32) (day : Int32) (u1 : Int32) (u2 : Int32)  (res : Int32) : ∀ (n : Nat) (u3 : Int32) (u4 : Int32) (u5 : Int32), f_X5_farthest_110 u1 u2 yards lengths holding n u3 u4 u5 = some res → Wd p l e rm_X5_farthest s m args below meth c D w0 6 0 0 (MQ below (QcI D (tysW cI cZ cG) w0 [(h, oX5 A holding wool day), ((A 0), aI cI 10 yards), ((A 2), aI cI 9 lengths)] res s.heap.size) args s 0 0 (va_A w0 s.heap.size)) [(h, oX5 A holding wool day), ((A 0), aI cI 10 yards), ((A 2), aI cI 9 lengths)] [(0, .ref h), (1, .int u1), (2, .int u2), (3, .int u3), (4, .int u4), (5, .int u5)] 110 [] := by
  intro n
  induction n with
  | zero =>
    intro u3 u4 u5 hf
    exact no_none hf
  | succ n ih =>
    intro u3 u4 u5 hf
    unfold f_X5_farthest_110 at hf
    refine r_iload C dX5_farthest_110 5 rfl rfl ?_
    refine r_if_lt (y := 0) (tgt := 166) C dX5_farthest_112 rfl rfl (fun c12 => ?_) (fun c12 => ?_)
    · have hf := gd_t c12 hf
      refine r_iload_n C dX5_farthest_166 rfl 3 rfl rfl ?_
      cases hf
      exact r_iret C dX5_farthest_167 rfl
    · have hf := gd_f c12 hf
      refine r_iload C dX5_farthest_115 4 rfl rfl ?_
      refine r_aload_n C dX5_farthest_117 rfl 0 rfl rfl ?_
      refine r_get C dX5_farthest_118 fw_X5_farthest_X5 0 rfl rfl 2 (by decide) rfl fl_X5_farthest_18 rfl rfl ?_
      refine r_iload C dX5_farthest_121 5 rfl rfl ?_
      obtain ⟨g13, hf⟩ := gd_n hf
      refine r_iald C dX5_farthest_123 2 0 rfl rfl g13 rfl ?_
      refine r_iadd C dX5_farthest_124 rfl ?_
      refine r_istore (lv' := [(4, .int (u4 + (lengths u5.toNatClampNeg))), (0, .ref h), (1, .int u1), (2, .int u2), (3, .int u3), (5, .int u5)]) C dX5_farthest_125 (by decide) rfl rfl ?_
      refine r_aload_n C dX5_farthest_127 rfl 1 rfl rfl ?_
      refine r_iload C dX5_farthest_128 5 rfl rfl ?_
      obtain ⟨r14, e14, hf⟩ := gd_b hf
      refine o_I (wn := [(h, oX5 A holding wool day), ((A 0), aI cI 10 yards), ((A 2), aI cI 9 lengths)]) C [0] rfl (x_V C dX5_farthest_130 (c_X5_holdsFast l D cI cZ cG h A holding wool day u5 r14 e14) rfl gX5_farthest_X5_holdsFast hd_X5_holdsFast rfl ⟨Nat.le_of_ble_eq_true rfl, Nat.le_of_ble_eq_true rfl⟩ ⟨rfl, rfl⟩ ⟨Nat.zero_le _, Nat.zero_le _⟩ rfl [0] rfl rfl 0 rfl rfl (Nat.le_of_ble_eq_true rfl) rfl) rfl rfl rfl ?_
      refine r_if_eq (y := 0) (tgt := 160) C dX5_farthest_133 rfl rfl (fun c15 => ?_) (fun c15 => ?_)
      · have hf := gd_t c15 hf
        refine r_iinc (lv' := [(5, .int (u5 + (-1 : Int32))), (4, .int (u4 + (lengths u5.toNatClampNeg))), (0, .ref h), (1, .int u1), (2, .int u2), (3, .int u3)]) C dX5_farthest_160 5 rfl (ki_m1 _) (by decide) rfl rfl ?_
        refine r_goto (tgt := 110) C dX5_farthest_163 rfl ?_
        refine r_lv (lv' := [(0, .ref h), (1, .int u1), (2, .int u2), (3, .int u3), (4, .int (u4 + (lengths u5.toNatClampNeg))), (5, .int (u5 + (-1 : Int32)))]) [2, 3, 4, 5, 1, 0] rfl ?_
        exact ih _ _ _ hf
      · have hf := gd_f c15 hf
        refine r_iload_n C dX5_farthest_136 rfl 4 rfl rfl ?_
        refine r_iload_n C dX5_farthest_137 rfl 3 rfl rfl ?_
        refine r_aload_n C dX5_farthest_138 rfl 1 rfl rfl ?_
        refine r_get C dX5_farthest_139 fw_X5_farthest_X5 0 rfl rfl 0 (by decide) rfl fl_X5_farthest_9 rfl rfl ?_
        refine r_iload C dX5_farthest_142 5 rfl rfl ?_
        obtain ⟨g16, hf⟩ := gd_n hf
        refine r_iald C dX5_farthest_144 1 0 rfl rfl g16 rfl ?_
        refine r_aload_n C dX5_farthest_145 rfl 1 rfl rfl ?_
        refine r_get C dX5_farthest_146 fw_X5_farthest_X5 0 rfl rfl 0 (by decide) rfl fl_X5_farthest_9 rfl rfl ?_
        refine r_iload_n C dX5_farthest_149 rfl 2 rfl rfl ?_
        obtain ⟨g17, hf⟩ := gd_n hf
        refine r_iald C dX5_farthest_150 1 0 rfl rfl g17 rfl ?_
        refine r_isub C dX5_farthest_151 rfl ?_
        refine r_imul C dX5_farthest_152 rfl ?_
        refine r_iload C dX5_farthest_153 0 rfl rfl ?_
        refine r_iadd C dX5_farthest_155 rfl ?_
        refine r_mmin C dX5_farthest_156 wm_X5_farthest_min_93 wm_X5_farthest_min_s wm_X5_farthest_i wm_X5_farthest_min_c (Nat.le_of_ble_eq_true rfl) (Nat.le_of_ble_eq_true rfl) (Nat.zero_le _) (Nat.zero_le _) rfl ?_
        refine r_istore_n (lv' := [(3, .int (imin u3 ((u2 * ((yards u5.toNatClampNeg) - (yards u1.toNatClampNeg))) + (u4 + (lengths u5.toNatClampNeg))))), (4, .int (u4 + (lengths u5.toNatClampNeg))), (0, .ref h), (1, .int u1), (2, .int u2), (5, .int u5)]) C dX5_farthest_159 rfl (by decide) rfl rfl ?_
        refine r_iinc (lv' := [(5, .int (u5 + (-1 : Int32))), (3, .int (imin u3 ((u2 * ((yards u5.toNatClampNeg) - (yards u1.toNatClampNeg))) + (u4 + (lengths u5.toNatClampNeg))))), (4, .int (u4 + (lengths u5.toNatClampNeg))), (0, .ref h), (1, .int u1), (2, .int u2)]) C dX5_farthest_160 5 rfl (ki_m1 _) (by decide) rfl rfl ?_
        refine r_goto (tgt := 110) C dX5_farthest_163 rfl ?_
        refine r_lv (lv' := [(0, .ref h), (1, .int u1), (2, .int u2), (3, .int (imin u3 ((u2 * ((yards u5.toNatClampNeg) - (yards u1.toNatClampNeg))) + (u4 + (lengths u5.toNatClampNeg))))), (4, .int (u4 + (lengths u5.toNatClampNeg))), (5, .int (u5 + (-1 : Int32)))]) [3, 4, 5, 1, 2, 0] rfl ?_
        exact ih _ _ _ hf
def f_X5_farthest (yards : Nat → Int32) (lengths : Nat → Int32) (holding : Int32) (u1 : Int32) (u2 : Int32) : Option (Int32) := (f_X5_holdsFast holding u1).bind (fun r1 => if r1 = 0 then if u2 ≤ 0 then if u1 < 0 ∨ 10 ≤ u1.toNatClampNeg then none else f_X5_farthest_42 u1 u2 yards lengths holding (fun u3_11 => f_X5_farthest_110 u1 u2 yards lengths holding 2000 u3_11 (0 : Int32) (u1 - (1 : Int32))) 2000 (yards u1.toNatClampNeg) (0 : Int32) (u1 + (1 : Int32)) else if u1 < 0 ∨ 10 ≤ u1.toNatClampNeg then none else f_X5_farthest_42 u1 u2 yards lengths holding (fun u3_19 => f_X5_farthest_110 u1 u2 yards lengths holding 2000 u3_19 (0 : Int32) (u1 - (1 : Int32))) 2000 ((999 : Int32) - (yards u1.toNatClampNeg)) (0 : Int32) (u1 + (1 : Int32)) else some ((0 : Int32)))
set_option maxHeartbeats 4000000 in
set_option maxRecDepth 100000 in
theorem c_X5_farthest (l : Launch) (D : va_G) (cI cZ cG : ClassId) (h : Nat) (A : Nat → Nat) (yards : Nat → Int32) (lengths : Nat → Int32) (holding : Int32) (wool : Int32) (day : Int32) (u1 : Int32) (u2 : Int32) (res : Int32) (hf : f_X5_farthest yards lengths holding u1 u2 = some res) : CI l D (tysW cI cZ cG) yX5_farthest wsX5_farthest rm_X5_farthest [.ref h, .int u1, .int u2] [(h, oX5 A holding wool day), ((A 0), aI cI 10 yards), ((A 2), aI cI 9 lengths)] res [(h, oX5 A holding wool day), ((A 0), aI cI 10 yards), ((A 2), aI cI 9 lengths)] := by
  refine CG.intro (own := RX5) (by decide +kernel) rfl rfl (Nat.le_of_ble_eq_true rfl) (fun p e s m args below meth c C => ?_)
  refine r_lv (lv' := [(0, .ref h), (1, .int u1), (2, .int u2)]) [0, 1, 2] rfl ?_
  unfold f_X5_farthest at hf
  refine r_aload_n C dX5_farthest_0 rfl 0 rfl rfl ?_
  refine r_iload_n C dX5_farthest_1 rfl 1 rfl rfl ?_
  obtain ⟨r1, e1, hf⟩ := gd_b hf
  refine o_I (wn := [(h, oX5 A holding wool day), ((A 0), aI cI 10 yards), ((A 2), aI cI 9 lengths)]) C [0] rfl (x_V C dX5_farthest_2 (c_X5_holdsFast l D cI cZ cG h A holding wool day u1 r1 e1) rfl gX5_farthest_X5_holdsFast hd_X5_holdsFast rfl ⟨Nat.le_of_ble_eq_true rfl, Nat.le_of_ble_eq_true rfl⟩ ⟨rfl, rfl⟩ ⟨Nat.zero_le _, Nat.zero_le _⟩ rfl [0] rfl rfl 0 rfl rfl (Nat.le_of_ble_eq_true rfl) rfl) rfl rfl rfl ?_
  refine r_if_eq (y := 0) (tgt := 10) C dX5_farthest_5 rfl rfl (fun c2 => ?_) (fun c2 => ?_)
  · have hf := gd_t c2 hf
    refine r_iload_n C dX5_farthest_10 rfl 2 rfl rfl ?_
    refine r_if_le (y := 0) (tgt := 27) C dX5_farthest_11 rfl rfl (fun c3 => ?_) (fun c3 => ?_)
    · have hf := gd_t c3 hf
      refine r_aload_n C dX5_farthest_27 rfl 0 rfl rfl ?_
      refine r_get C dX5_farthest_28 fw_X5_farthest_X5 0 rfl rfl 0 (by decide) rfl fl_X5_farthest_9 rfl rfl ?_
      refine r_iload_n C dX5_farthest_31 rfl 1 rfl rfl ?_
      obtain ⟨g4, hf⟩ := gd_n hf
      refine r_iald C dX5_farthest_32 1 0 rfl rfl g4 rfl ?_
      refine r_istore_n (lv' := [(3, .int (yards u1.toNatClampNeg)), (0, .ref h), (1, .int u1), (2, .int u2)]) C dX5_farthest_33 rfl (by decide) rfl rfl ?_
      refine r_iconst C dX5_farthest_34 kk_i_0 rfl ?_
      refine r_istore (lv' := [(4, .int (0 : Int32)), (3, .int (yards u1.toNatClampNeg)), (0, .ref h), (1, .int u1), (2, .int u2)]) C dX5_farthest_35 (by decide) rfl rfl ?_
      refine r_iload_n C dX5_farthest_37 rfl 3 rfl rfl ?_
      refine r_iconst C dX5_farthest_38 kk_i_1 rfl ?_
      refine r_iadd C dX5_farthest_39 rfl ?_
      refine r_istore (lv' := [(5, .int (u1 + (1 : Int32))), (4, .int (0 : Int32)), (3, .int (yards u1.toNatClampNeg)), (0, .ref h), (1, .int u1), (2, .int u2)]) C dX5_farthest_40 (by decide) rfl rfl ?_
      refine r_lv (lv' := [(0, .ref h), (1, .int u1), (2, .int u2), (3, .int (yards u1.toNatClampNeg)), (4, .int (0 : Int32)), (5, .int (u1 + (1 : Int32)))]) [3, 4, 5, 2, 1, 0] rfl ?_
      refine k_X5_farthest_42 C h A yards lengths holding wool day u1 u2 _ _ ?_ 2000 _ _ _ hf
      · intro u3_11 hf
        refine r_iconst C dX5_farthest_102 kk_i_0 rfl ?_
        refine r_istore (lv' := [(4, .int (0 : Int32)), (0, .ref h), (1, .int u1), (2, .int u2), (3, .int u3_11)]) C dX5_farthest_103 (by decide) rfl rfl ?_
        refine r_iload_n C dX5_farthest_105 rfl 2 rfl rfl ?_
        refine r_iconst C dX5_farthest_106 kk_i_1 rfl ?_
        refine r_isub C dX5_farthest_107 rfl ?_
        refine r_istore (lv' := [(5, .int (u1 - (1 : Int32))), (4, .int (0 : Int32)), (0, .ref h), (1, .int u1), (2, .int u2), (3, .int u3_11)]) C dX5_farthest_108 (by decide) rfl rfl ?_
        refine r_lv (lv' := [(0, .ref h), (1, .int u1), (2, .int u2), (3, .int u3_11), (4, .int (0 : Int32)), (5, .int (u1 - (1 : Int32)))]) [2, 3, 4, 5, 1, 0] rfl ?_
        refine k_X5_farthest_110 C h A yards lengths holding wool day u1 u2 _ 2000 _ _ _ hf
    · have hf := gd_f c3 hf
      refine r_sipush C dX5_farthest_14 kk_s_999 rfl ?_
      refine r_aload_n C dX5_farthest_17 rfl 0 rfl rfl ?_
      refine r_get C dX5_farthest_18 fw_X5_farthest_X5 0 rfl rfl 0 (by decide) rfl fl_X5_farthest_9 rfl rfl ?_
      refine r_iload_n C dX5_farthest_21 rfl 1 rfl rfl ?_
      obtain ⟨g18, hf⟩ := gd_n hf
      refine r_iald C dX5_farthest_22 1 0 rfl rfl g18 rfl ?_
      refine r_isub C dX5_farthest_23 rfl ?_
      refine r_goto (tgt := 33) C dX5_farthest_24 rfl ?_
      refine r_istore_n (lv' := [(3, .int ((999 : Int32) - (yards u1.toNatClampNeg))), (0, .ref h), (1, .int u1), (2, .int u2)]) C dX5_farthest_33 rfl (by decide) rfl rfl ?_
      refine r_iconst C dX5_farthest_34 kk_i_0 rfl ?_
      refine r_istore (lv' := [(4, .int (0 : Int32)), (3, .int ((999 : Int32) - (yards u1.toNatClampNeg))), (0, .ref h), (1, .int u1), (2, .int u2)]) C dX5_farthest_35 (by decide) rfl rfl ?_
      refine r_iload_n C dX5_farthest_37 rfl 3 rfl rfl ?_
      refine r_iconst C dX5_farthest_38 kk_i_1 rfl ?_
      refine r_iadd C dX5_farthest_39 rfl ?_
      refine r_istore (lv' := [(5, .int (u1 + (1 : Int32))), (4, .int (0 : Int32)), (3, .int ((999 : Int32) - (yards u1.toNatClampNeg))), (0, .ref h), (1, .int u1), (2, .int u2)]) C dX5_farthest_40 (by decide) rfl rfl ?_
      refine r_lv (lv' := [(0, .ref h), (1, .int u1), (2, .int u2), (3, .int ((999 : Int32) - (yards u1.toNatClampNeg))), (4, .int (0 : Int32)), (5, .int (u1 + (1 : Int32)))]) [3, 4, 5, 2, 1, 0] rfl ?_
      refine k_X5_farthest_42 C h A yards lengths holding wool day u1 u2 _ _ ?_ 2000 _ _ _ hf
      · intro u3_19 hf
        refine r_iconst C dX5_farthest_102 kk_i_0 rfl ?_
        refine r_istore (lv' := [(4, .int (0 : Int32)), (0, .ref h), (1, .int u1), (2, .int u2), (3, .int u3_19)]) C dX5_farthest_103 (by decide) rfl rfl ?_
        refine r_iload_n C dX5_farthest_105 rfl 2 rfl rfl ?_
        refine r_iconst C dX5_farthest_106 kk_i_1 rfl ?_
        refine r_isub C dX5_farthest_107 rfl ?_
        refine r_istore (lv' := [(5, .int (u1 - (1 : Int32))), (4, .int (0 : Int32)), (0, .ref h), (1, .int u1), (2, .int u2), (3, .int u3_19)]) C dX5_farthest_108 (by decide) rfl rfl ?_
        refine r_lv (lv' := [(0, .ref h), (1, .int u1), (2, .int u2), (3, .int u3_19), (4, .int (0 : Int32)), (5, .int (u1 - (1 : Int32)))]) [2, 3, 4, 5, 1, 0] rfl ?_
        refine k_X5_farthest_110 C h A yards lengths holding wool day u1 u2 _ 2000 _ _ _ hf
  · have hf := gd_f c2 hf
    refine r_iconst C dX5_farthest_8 kk_i_0 rfl ?_
    cases hf
    exact r_iret C dX5_farthest_9 rfl
end
