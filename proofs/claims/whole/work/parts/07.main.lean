section
variable {p : Program} {l : Launch} {e : Env} {s : State} {m : MethodId} {args : Array Value} {below : List Frame} {meth : Method} {c : Code} {D : va_G} {cI cZ cG : ClassId} {w0 : va_W}
theorem fw_X7_child_X7 : ∀ w ∈ u_ws RX7 TX7 9, w ∈ wsX7_child := by decide +kernel
theorem fl_X7_child_10 : Cond.fieldLink RX7 10 "MittenLine" "now" "LMittenLine$Row;" ∈ wsX7_child := by decide +kernel
theorem fw_X7_child_X5 : ∀ w ∈ u_ws RX5 TX5 7, w ∈ wsX7_child := by decide +kernel
theorem fl_X7_child_72 : Cond.fieldLink RX7 72 "MittenLine$Row" "yards" "[I" ∈ wsX7_child := by decide +kernel
abbrev rm_X7_child : Jvm.Room := { frames := 2, cells := 0, slots := 0, locals := 46 }
def f_X7_child (now_yards : Nat → Int32) (now_lengths : Nat → Int32) (now_holding : Int32) (u1 : Int32) (u2 : Int32) (u3 : Int32) : Option (Int32 × (Nat → Int32) × Int32) := (f_X7_isWithin u1 (0 : Int32) (9 : Int32)).bind (fun r1 => if r1 = 0 then some ((-1 : Int32), now_yards, now_holding) else (f_X7_isWithin u2 (0 : Int32) (999 : Int32)).bind (fun r3 => if r3 = 0 then some ((-2 : Int32), now_yards, now_holding) else (f_X7_isWithin u3 (0 : Int32) (1 : Int32)).bind (fun r5 => if r5 = 0 then some ((-2 : Int32), now_yards, now_holding) else (f_X5_hasStringFor now_yards now_lengths u1 u2).bind (fun r7 => if r7 = 0 then some ((-3 : Int32), now_yards, now_holding) else if u1 < 0 ∨ 10 ≤ u1.toNatClampNeg then none else (f_X5_holdsFast now_holding u1).bind (fun r10 => if u3 = (1 : Int32) then if r10 = (1 : Int32) then some ((now_yards u1.toNatClampNeg), (upd now_yards u1.toNatClampNeg u2), now_holding) else (f_X5_turnHold now_holding u1).bind (fun r15 => some ((now_yards u1.toNatClampNeg), (upd now_yards u1.toNatClampNeg u2), r15)) else if r10 = (0 : Int32) then some ((now_yards u1.toNatClampNeg), (upd now_yards u1.toNatClampNeg u2), now_holding) else (f_X5_turnHold now_holding u1).bind (fun r13 => some ((now_yards u1.toNatClampNeg), (upd now_yards u1.toNatClampNeg u2), r13)))))))
set_option maxHeartbeats 4000000 in
set_option maxRecDepth 100000 in
theorem c_X7_child (l : Launch) (D : va_G) (cI cZ cG : ClassId) (h : Nat) (A A_0 : Nat → Nat) (now_yards : Nat → Int32) (now_lengths : Nat → Int32) (now_holding : Int32) (now_wool : Int32) (now_day : Int32) (u1 : Int32) (u2 : Int32) (u3 : Int32) (res : Int32 × (Nat → Int32) × Int32) (hf : f_X7_child now_yards now_lengths now_holding u1 u2 u3 = some res) : CI l D (tysW cI cZ cG) yX7_child wsX7_child rm_X7_child [.ref h, .int u1, .int u2, .int u3] [(h, oX7 A), ((A 0), oX5 A_0 now_holding now_wool now_day), ((A_0 0), aI cI 10 now_yards), ((A_0 2), aI cI 9 now_lengths)] res.1 [(h, oX7 A), ((A 0), oX5 A_0 res.2.2 now_wool now_day), ((A_0 0), aI cI 10 res.2.1), ((A_0 2), aI cI 9 now_lengths)] := by
  refine CG.intro (own := RX7) (by decide +kernel) rfl rfl (Nat.le_of_ble_eq_true rfl) (fun p e s m args below meth c C => ?_)
  refine r_lv (lv' := [(0, .ref h), (1, .int u1), (2, .int u2), (3, .int u3)]) [0, 1, 2, 3] rfl ?_
  unfold f_X7_child at hf
  refine r_iload_n C dX7_child_0 rfl 1 rfl rfl ?_
  refine r_iconst C dX7_child_1 kk_i_0 rfl ?_
  refine r_bipush C dX7_child_2 kk_b_9 rfl ?_
  obtain ⟨r1, e1, hf⟩ := gd_b hf
  refine o_I (wn := [(h, oX7 A), ((A 0), oX5 A_0 now_holding now_wool now_day), ((A_0 0), aI cI 10 now_yards), ((A_0 2), aI cI 9 now_lengths)]) C [] rfl (x_S C dX7_child_4 (c_X7_isWithin l D cI cZ cG u1 (0 : Int32) (9 : Int32) r1 e1) rfl gX7_child_X7_isWithin hs_X7_isWithin rfl ⟨Nat.le_of_ble_eq_true rfl, Nat.le_of_ble_eq_true rfl⟩ ⟨rfl, rfl⟩ ⟨Nat.zero_le _, Nat.zero_le _⟩ rfl [] rfl rfl (Nat.le_of_ble_eq_true rfl) rfl) rfl rfl rfl ?_
  refine r_if_ne (y := 0) (tgt := 12) C dX7_child_7 rfl rfl (fun c2 => ?_) (fun c2 => ?_)
  · have hf := gd_f c2 hf
    refine r_iload_n C dX7_child_12 rfl 2 rfl rfl ?_
    refine r_iconst C dX7_child_13 kk_i_0 rfl ?_
    refine r_sipush C dX7_child_14 kk_s_999 rfl ?_
    obtain ⟨r3, e3, hf⟩ := gd_b hf
    refine o_I (wn := [(h, oX7 A), ((A 0), oX5 A_0 now_holding now_wool now_day), ((A_0 0), aI cI 10 now_yards), ((A_0 2), aI cI 9 now_lengths)]) C [] rfl (x_S C dX7_child_17 (c_X7_isWithin l D cI cZ cG u2 (0 : Int32) (999 : Int32) r3 e3) rfl gX7_child_X7_isWithin hs_X7_isWithin rfl ⟨Nat.le_of_ble_eq_true rfl, Nat.le_of_ble_eq_true rfl⟩ ⟨rfl, rfl⟩ ⟨Nat.zero_le _, Nat.zero_le _⟩ rfl [] rfl rfl (Nat.le_of_ble_eq_true rfl) rfl) rfl rfl rfl ?_
    refine r_if_eq (y := 0) (tgt := 32) C dX7_child_20 rfl rfl (fun c4 => ?_) (fun c4 => ?_)
    · have hf := gd_t c4 hf
      refine r_bipush C dX7_child_32 kk_b_m2 rfl ?_
      cases hf
      exact r_iret C dX7_child_34 rfl
    · have hf := gd_f c4 hf
      refine r_iload_n C dX7_child_23 rfl 3 rfl rfl ?_
      refine r_iconst C dX7_child_24 kk_i_0 rfl ?_
      refine r_iconst C dX7_child_25 kk_i_1 rfl ?_
      obtain ⟨r5, e5, hf⟩ := gd_b hf
      refine o_I (wn := [(h, oX7 A), ((A 0), oX5 A_0 now_holding now_wool now_day), ((A_0 0), aI cI 10 now_yards), ((A_0 2), aI cI 9 now_lengths)]) C [] rfl (x_S C dX7_child_26 (c_X7_isWithin l D cI cZ cG u3 (0 : Int32) (1 : Int32) r5 e5) rfl gX7_child_X7_isWithin hs_X7_isWithin rfl ⟨Nat.le_of_ble_eq_true rfl, Nat.le_of_ble_eq_true rfl⟩ ⟨rfl, rfl⟩ ⟨Nat.zero_le _, Nat.zero_le _⟩ rfl [] rfl rfl (Nat.le_of_ble_eq_true rfl) rfl) rfl rfl rfl ?_
      refine r_if_ne (y := 0) (tgt := 35) C dX7_child_29 rfl rfl (fun c6 => ?_) (fun c6 => ?_)
      · have hf := gd_f c6 hf
        refine r_aload_n C dX7_child_35 rfl 0 rfl rfl ?_
        refine r_get C dX7_child_36 fw_X7_child_X7 0 rfl rfl 0 (by decide) rfl fl_X7_child_10 rfl rfl ?_
        refine r_iload_n C dX7_child_39 rfl 1 rfl rfl ?_
        refine r_iload_n C dX7_child_40 rfl 2 rfl rfl ?_
        obtain ⟨r7, e7, hf⟩ := gd_b hf
        refine o_I (wn := [(h, oX7 A), ((A 0), oX5 A_0 now_holding now_wool now_day), ((A_0 0), aI cI 10 now_yards), ((A_0 2), aI cI 9 now_lengths)]) C [1, 2, 3] rfl (x_V C dX7_child_41 (c_X5_hasStringFor l D cI cZ cG (A 0) A_0 now_yards now_lengths now_holding now_wool now_day u1 u2 r7 e7) rfl gX7_child_X5_hasStringFor hd_X5_hasStringFor rfl ⟨Nat.le_of_ble_eq_true rfl, Nat.le_of_ble_eq_true rfl⟩ ⟨rfl, rfl⟩ ⟨Nat.zero_le _, Nat.zero_le _⟩ rfl [1, 2, 3] rfl rfl 1 rfl rfl (Nat.le_of_ble_eq_true rfl) rfl) rfl rfl rfl ?_
        refine r_if_ne (y := 0) (tgt := 50) C dX7_child_44 rfl rfl (fun c8 => ?_) (fun c8 => ?_)
        · have hf := gd_f c8 hf
          refine r_aload_n C dX7_child_50 rfl 0 rfl rfl ?_
          refine r_get C dX7_child_51 fw_X7_child_X7 0 rfl rfl 0 (by decide) rfl fl_X7_child_10 rfl rfl ?_
          refine r_get C dX7_child_54 fw_X7_child_X5 1 rfl rfl 0 (by decide) rfl fl_X7_child_72 rfl rfl ?_
          refine r_iload_n C dX7_child_57 rfl 1 rfl rfl ?_
          obtain ⟨g9, hf⟩ := gd_n hf
          refine r_iald C dX7_child_58 2 0 rfl rfl g9 rfl ?_
          refine r_istore (lv' := [(4, .int (now_yards u1.toNatClampNeg)), (0, .ref h), (1, .int u1), (2, .int u2), (3, .int u3)]) C dX7_child_59 (by decide) rfl rfl ?_
          refine r_aload_n C dX7_child_61 rfl 1 rfl rfl ?_
          refine r_get C dX7_child_62 fw_X7_child_X7 0 rfl rfl 0 (by decide) rfl fl_X7_child_10 rfl rfl ?_
          refine r_get C dX7_child_65 fw_X7_child_X5 1 rfl rfl 0 (by decide) rfl fl_X7_child_72 rfl rfl ?_
          refine r_iload_n C dX7_child_68 rfl 2 rfl rfl ?_
          refine r_iload_n C dX7_child_69 rfl 3 rfl rfl ?_
          refine r_iast (ws' := [(h, oX7 A), ((A 0), oX5 A_0 now_holding now_wool now_day), ((A_0 0), aI cI 10 (upd now_yards u1.toNatClampNeg u2)), ((A_0 2), aI cI 9 now_lengths)]) C dX7_child_70 2 0 rfl rfl g9 rfl rfl ?_
          refine r_aload_n C dX7_child_71 rfl 1 rfl rfl ?_
          refine r_get C dX7_child_72 fw_X7_child_X7 0 rfl rfl 0 (by decide) rfl fl_X7_child_10 rfl rfl ?_
          refine r_iload_n C dX7_child_75 rfl 2 rfl rfl ?_
          obtain ⟨r10, e10, hf⟩ := gd_b hf
          refine o_I (wn := [(h, oX7 A), ((A 0), oX5 A_0 now_holding now_wool now_day), ((A_0 0), aI cI 10 (upd now_yards u1.toNatClampNeg u2)), ((A_0 2), aI cI 9 now_lengths)]) C [1] rfl (x_V C dX7_child_76 (c_X5_holdsFast l D cI cZ cG (A 0) A_0 now_holding now_wool now_day u1 r10 e10) rfl gX7_child_X5_holdsFast hd_X5_holdsFast rfl ⟨Nat.le_of_ble_eq_true rfl, Nat.le_of_ble_eq_true rfl⟩ ⟨rfl, rfl⟩ ⟨Nat.zero_le _, Nat.zero_le _⟩ rfl [1] rfl rfl 1 rfl rfl (Nat.le_of_ble_eq_true rfl) rfl) rfl rfl rfl ?_
          refine r_iload_n C dX7_child_79 rfl 4 rfl rfl ?_
          refine r_iconst C dX7_child_80 kk_i_1 rfl ?_
          refine r_icmp_ne (tgt := 88) C dX7_child_81 rfl rfl (fun c11 => ?_) (fun c11 => ?_)
          · have hf := gd_f c11 hf
            refine r_iconst C dX7_child_88 kk_i_0 rfl ?_
            refine r_icmp_eq (tgt := 100) C dX7_child_89 rfl rfl (fun c12 => ?_) (fun c12 => ?_)
            · have hf := gd_t c12 hf
              refine r_iload C dX7_child_100 0 rfl rfl ?_
              cases hf
              exact r_iret C dX7_child_102 rfl
            · have hf := gd_f c12 hf
              refine r_aload_n C dX7_child_92 rfl 1 rfl rfl ?_
              refine r_get C dX7_child_93 fw_X7_child_X7 0 rfl rfl 0 (by decide) rfl fl_X7_child_10 rfl rfl ?_
              refine r_iload_n C dX7_child_96 rfl 2 rfl rfl ?_
              obtain ⟨r13, e13, hf⟩ := gd_b hf
              refine o_V (wn := [(h, oX7 A), ((A 0), oX5 A_0 r13 now_wool now_day), ((A_0 0), aI cI 10 (upd now_yards u1.toNatClampNeg u2)), ((A_0 2), aI cI 9 now_lengths)]) C [1] rfl (x_V C dX7_child_97 (c_X5_turnHold l D cI cZ cG (A 0) A_0 now_holding now_wool now_day u1 r13 e13) rfl gX7_child_X5_turnHold hd_X5_turnHold rfl ⟨Nat.le_of_ble_eq_true rfl, Nat.le_of_ble_eq_true rfl⟩ ⟨rfl, rfl⟩ ⟨Nat.zero_le _, Nat.zero_le _⟩ rfl [1] rfl rfl 1 rfl rfl (Nat.le_of_ble_eq_true rfl) rfl) rfl rfl rfl ?_
              refine r_iload C dX7_child_100 0 rfl rfl ?_
              cases hf
              exact r_iret C dX7_child_102 rfl
          · have hf := gd_t c11 hf
            refine r_iconst C dX7_child_84 kk_i_1 rfl ?_
            refine r_goto (tgt := 89) C dX7_child_85 rfl ?_
            refine r_icmp_eq (tgt := 100) C dX7_child_89 rfl rfl (fun c14 => ?_) (fun c14 => ?_)
            · have hf := gd_t c14 hf
              refine r_iload C dX7_child_100 0 rfl rfl ?_
              cases hf
              exact r_iret C dX7_child_102 rfl
            · have hf := gd_f c14 hf
              refine r_aload_n C dX7_child_92 rfl 1 rfl rfl ?_
              refine r_get C dX7_child_93 fw_X7_child_X7 0 rfl rfl 0 (by decide) rfl fl_X7_child_10 rfl rfl ?_
              refine r_iload_n C dX7_child_96 rfl 2 rfl rfl ?_
              obtain ⟨r15, e15, hf⟩ := gd_b hf
              refine o_V (wn := [(h, oX7 A), ((A 0), oX5 A_0 r15 now_wool now_day), ((A_0 0), aI cI 10 (upd now_yards u1.toNatClampNeg u2)), ((A_0 2), aI cI 9 now_lengths)]) C [1] rfl (x_V C dX7_child_97 (c_X5_turnHold l D cI cZ cG (A 0) A_0 now_holding now_wool now_day u1 r15 e15) rfl gX7_child_X5_turnHold hd_X5_turnHold rfl ⟨Nat.le_of_ble_eq_true rfl, Nat.le_of_ble_eq_true rfl⟩ ⟨rfl, rfl⟩ ⟨Nat.zero_le _, Nat.zero_le _⟩ rfl [1] rfl rfl 1 rfl rfl (Nat.le_of_ble_eq_true rfl) rfl) rfl rfl rfl ?_
              refine r_iload C dX7_child_100 0 rfl rfl ?_
              cases hf
              exact r_iret C dX7_child_102 rfl
        · have hf := gd_t c8 hf
          refine r_bipush C dX7_child_47 kk_b_m3 rfl ?_
          cases hf
          exact r_iret C dX7_child_49 rfl
      · have hf := gd_t c6 hf
        refine r_bipush C dX7_child_32 kk_b_m2 rfl ?_
        cases hf
        exact r_iret C dX7_child_34 rfl
  · have hf := gd_t c2 hf
    refine r_iconst C dX7_child_10 kk_i_m1 rfl ?_
    cases hf
    exact r_iret C dX7_child_11 rfl
theorem fw_X7_string_X7 : ∀ w ∈ u_ws RX7 TX7 9, w ∈ wsX7_string := by decide +kernel
theorem fl_X7_string_10 : Cond.fieldLink RX7 10 "MittenLine" "now" "LMittenLine$Row;" ∈ wsX7_string := by decide +kernel
theorem fw_X7_string_X5 : ∀ w ∈ u_ws RX5 TX5 7, w ∈ wsX7_string := by decide +kernel
theorem fl_X7_string_88 : Cond.fieldLink RX7 88 "MittenLine$Row" "lengths" "[I" ∈ wsX7_string := by decide +kernel
abbrev rm_X7_string : Jvm.Room := { frames := 2, cells := 0, slots := 0, locals := 45 }
def f_X7_string (now_yards : Nat → Int32) (now_lengths : Nat → Int32) (u1 : Int32) (u2 : Int32) : Option (Int32 × (Nat → Int32)) := (f_X7_isWithin u1 (0 : Int32) (8 : Int32)).bind (fun r1 => if r1 = 0 then some ((-1 : Int32), now_lengths) else (f_X7_isWithin u2 (1 : Int32) (99 : Int32)).bind (fun r3 => if r3 = 0 then some ((-2 : Int32), now_lengths) else (f_X5_apart now_yards u1).bind (fun r5 => if r5 ≤ u2 then if u1 < 0 ∨ 9 ≤ u1.toNatClampNeg then none else some ((now_lengths u1.toNatClampNeg), (upd now_lengths u1.toNatClampNeg u2)) else some ((-3 : Int32), now_lengths))))
set_option maxHeartbeats 4000000 in
set_option maxRecDepth 100000 in
theorem c_X7_string (l : Launch) (D : va_G) (cI cZ cG : ClassId) (h : Nat) (A A_0 : Nat → Nat) (now_yards : Nat → Int32) (now_lengths : Nat → Int32) (now_holding : Int32) (now_wool : Int32) (now_day : Int32) (u1 : Int32) (u2 : Int32) (res : Int32 × (Nat → Int32)) (hf : f_X7_string now_yards now_lengths u1 u2 = some res) : CI l D (tysW cI cZ cG) yX7_string wsX7_string rm_X7_string [.ref h, .int u1, .int u2] [(h, oX7 A), ((A 0), oX5 A_0 now_holding now_wool now_day), ((A_0 0), aI cI 10 now_yards), ((A_0 2), aI cI 9 now_lengths)] res.1 [(h, oX7 A), ((A 0), oX5 A_0 now_holding now_wool now_day), ((A_0 0), aI cI 10 now_yards), ((A_0 2), aI cI 9 res.2)] := by
  refine CG.intro (own := RX7) (by decide +kernel) rfl rfl (Nat.le_of_ble_eq_true rfl) (fun p e s m args below meth c C => ?_)
  refine r_lv (lv' := [(0, .ref h), (1, .int u1), (2, .int u2)]) [0, 1, 2] rfl ?_
  unfold f_X7_string at hf
  refine r_iload_n C dX7_string_0 rfl 1 rfl rfl ?_
  refine r_iconst C dX7_string_1 kk_i_0 rfl ?_
  refine r_bipush C dX7_string_2 kk_b_8 rfl ?_
  obtain ⟨r1, e1, hf⟩ := gd_b hf
  refine o_I (wn := [(h, oX7 A), ((A 0), oX5 A_0 now_holding now_wool now_day), ((A_0 0), aI cI 10 now_yards), ((A_0 2), aI cI 9 now_lengths)]) C [] rfl (x_S C dX7_string_4 (c_X7_isWithin l D cI cZ cG u1 (0 : Int32) (8 : Int32) r1 e1) rfl gX7_string_X7_isWithin hs_X7_isWithin rfl ⟨Nat.le_of_ble_eq_true rfl, Nat.le_of_ble_eq_true rfl⟩ ⟨rfl, rfl⟩ ⟨Nat.zero_le _, Nat.zero_le _⟩ rfl [] rfl rfl (Nat.le_of_ble_eq_true rfl) rfl) rfl rfl rfl ?_
  refine r_if_ne (y := 0) (tgt := 12) C dX7_string_7 rfl rfl (fun c2 => ?_) (fun c2 => ?_)
  · have hf := gd_f c2 hf
    refine r_iload_n C dX7_string_12 rfl 2 rfl rfl ?_
    refine r_iconst C dX7_string_13 kk_i_1 rfl ?_
    refine r_bipush C dX7_string_14 kk_b_99 rfl ?_
    obtain ⟨r3, e3, hf⟩ := gd_b hf
    refine o_I (wn := [(h, oX7 A), ((A 0), oX5 A_0 now_holding now_wool now_day), ((A_0 0), aI cI 10 now_yards), ((A_0 2), aI cI 9 now_lengths)]) C [] rfl (x_S C dX7_string_16 (c_X7_isWithin l D cI cZ cG u2 (1 : Int32) (99 : Int32) r3 e3) rfl gX7_string_X7_isWithin hs_X7_isWithin rfl ⟨Nat.le_of_ble_eq_true rfl, Nat.le_of_ble_eq_true rfl⟩ ⟨rfl, rfl⟩ ⟨Nat.zero_le _, Nat.zero_le _⟩ rfl [] rfl rfl (Nat.le_of_ble_eq_true rfl) rfl) rfl rfl rfl ?_
    refine r_if_ne (y := 0) (tgt := 25) C dX7_string_19 rfl rfl (fun c4 => ?_) (fun c4 => ?_)
    · have hf := gd_f c4 hf
      refine r_aload_n C dX7_string_25 rfl 0 rfl rfl ?_
      refine r_get C dX7_string_26 fw_X7_string_X7 0 rfl rfl 0 (by decide) rfl fl_X7_string_10 rfl rfl ?_
      refine r_iload_n C dX7_string_29 rfl 1 rfl rfl ?_
      obtain ⟨r5, e5, hf⟩ := gd_b hf
      refine o_I (wn := [(h, oX7 A), ((A 0), oX5 A_0 now_holding now_wool now_day), ((A_0 0), aI cI 10 now_yards), ((A_0 2), aI cI 9 now_lengths)]) C [1, 2] rfl (x_V C dX7_string_30 (c_X5_apart l D cI cZ cG (A 0) A_0 now_yards now_holding now_wool now_day u1 r5 e5) rfl gX7_string_X5_apart hd_X5_apart rfl ⟨Nat.le_of_ble_eq_true rfl, Nat.le_of_ble_eq_true rfl⟩ ⟨rfl, rfl⟩ ⟨Nat.zero_le _, Nat.zero_le _⟩ rfl [1, 2] rfl rfl 1 rfl rfl (Nat.le_of_ble_eq_true rfl) rfl) rfl rfl rfl ?_
      refine r_iload_n C dX7_string_33 rfl 2 rfl rfl ?_
      refine r_icmp_le (tgt := 40) C dX7_string_34 rfl rfl (fun c6 => ?_) (fun c6 => ?_)
      · have hf := gd_t c6 hf
        refine r_aload_n C dX7_string_40 rfl 0 rfl rfl ?_
        refine r_get C dX7_string_41 fw_X7_string_X7 0 rfl rfl 0 (by decide) rfl fl_X7_string_10 rfl rfl ?_
        refine r_get C dX7_string_44 fw_X7_string_X5 1 rfl rfl 2 (by decide) rfl fl_X7_string_88 rfl rfl ?_
        refine r_iload_n C dX7_string_47 rfl 1 rfl rfl ?_
        obtain ⟨g7, hf⟩ := gd_n hf
        refine r_iald C dX7_string_48 3 0 rfl rfl g7 rfl ?_
        refine r_istore_n (lv' := [(3, .int (now_lengths u1.toNatClampNeg)), (0, .ref h), (1, .int u1), (2, .int u2)]) C dX7_string_49 rfl (by decide) rfl rfl ?_
        refine r_aload_n C dX7_string_50 rfl 1 rfl rfl ?_
        refine r_get C dX7_string_51 fw_X7_string_X7 0 rfl rfl 0 (by decide) rfl fl_X7_string_10 rfl rfl ?_
        refine r_get C dX7_string_54 fw_X7_string_X5 1 rfl rfl 2 (by decide) rfl fl_X7_string_88 rfl rfl ?_
        refine r_iload_n C dX7_string_57 rfl 2 rfl rfl ?_
        refine r_iload_n C dX7_string_58 rfl 3 rfl rfl ?_
        refine r_iast (ws' := [(h, oX7 A), ((A 0), oX5 A_0 now_holding now_wool now_day), ((A_0 0), aI cI 10 now_yards), ((A_0 2), aI cI 9 (upd now_lengths u1.toNatClampNeg u2))]) C dX7_string_59 3 0 rfl rfl g7 rfl rfl ?_
        refine r_iload_n C dX7_string_60 rfl 0 rfl rfl ?_
        cases hf
        exact r_iret C dX7_string_61 rfl
      · have hf := gd_f c6 hf
        refine r_bipush C dX7_string_37 kk_b_m3 rfl ?_
        cases hf
        exact r_iret C dX7_string_39 rfl
    · have hf := gd_t c4 hf
      refine r_bipush C dX7_string_22 kk_b_m2 rfl ?_
      cases hf
      exact r_iret C dX7_string_24 rfl
  · have hf := gd_t c2 hf
    refine r_iconst C dX7_string_10 kk_i_m1 rfl ?_
    cases hf
    exact r_iret C dX7_string_11 rfl
theorem fw_X7_ball_X7 : ∀ w ∈ u_ws RX7 TX7 9, w ∈ wsX7_ball := by decide +kernel
theorem fl_X7_ball_10 : Cond.fieldLink RX7 10 "MittenLine" "now" "LMittenLine$Row;" ∈ wsX7_ball := by decide +kernel
theorem fw_X7_ball_X5 : ∀ w ∈ u_ws RX5 TX5 7, w ∈ wsX7_ball := by decide +kernel
theorem fl_X7_ball_91 : Cond.fieldLink RX7 91 "MittenLine$Row" "wool" "I" ∈ wsX7_ball := by decide +kernel
abbrev rm_X7_ball : Jvm.Room := { frames := 1, cells := 0, slots := 0, locals := 22 }
def f_X7_ball (now_wool : Int32) (u1 : Int32) : Option (Int32 × Int32) := (f_X7_isWithin u1 (0 : Int32) (999 : Int32)).bind (fun r1 => if r1 = 0 then some ((-2 : Int32), now_wool) else some (now_wool, u1))
set_option maxHeartbeats 4000000 in
set_option maxRecDepth 100000 in
theorem c_X7_ball (l : Launch) (D : va_G) (cI cZ cG : ClassId) (h : Nat) (A A_0 : Nat → Nat) (now_holding : Int32) (now_wool : Int32) (now_day : Int32) (u1 : Int32) (res : Int32 × Int32) (hf : f_X7_ball now_wool u1 = some res) : CI l D (tysW cI cZ cG) yX7_ball wsX7_ball rm_X7_ball [.ref h, .int u1] [(h, oX7 A), ((A 0), oX5 A_0 now_holding now_wool now_day)] res.1 [(h, oX7 A), ((A 0), oX5 A_0 now_holding res.2 now_day)] := by
  refine CG.intro (own := RX7) (by decide +kernel) rfl rfl (Nat.le_of_ble_eq_true rfl) (fun p e s m args below meth c C => ?_)
  refine r_lv (lv' := [(0, .ref h), (1, .int u1)]) [0, 1] rfl ?_
  unfold f_X7_ball at hf
  refine r_iload_n C dX7_ball_0 rfl 1 rfl rfl ?_
  refine r_iconst C dX7_ball_1 kk_i_0 rfl ?_
  refine r_sipush C dX7_ball_2 kk_s_999 rfl ?_
  obtain ⟨r1, e1, hf⟩ := gd_b hf
  refine o_I (wn := [(h, oX7 A), ((A 0), oX5 A_0 now_holding now_wool now_day)]) C [] rfl (x_S C dX7_ball_5 (c_X7_isWithin l D cI cZ cG u1 (0 : Int32) (999 : Int32) r1 e1) rfl gX7_ball_X7_isWithin hs_X7_isWithin rfl ⟨Nat.le_of_ble_eq_true rfl, Nat.le_of_ble_eq_true rfl⟩ ⟨rfl, rfl⟩ ⟨Nat.zero_le _, Nat.zero_le _⟩ rfl [] rfl rfl (Nat.le_of_ble_eq_true rfl) rfl) rfl rfl rfl ?_
  refine r_if_ne (y := 0) (tgt := 14) C dX7_ball_8 rfl rfl (fun c2 => ?_) (fun c2 => ?_)
  · have hf := gd_f c2 hf
    refine r_aload_n C dX7_ball_14 rfl 0 rfl rfl ?_
    refine r_get C dX7_ball_15 fw_X7_ball_X7 0 rfl rfl 0 (by decide) rfl fl_X7_ball_10 rfl rfl ?_
    refine r_get C dX7_ball_18 fw_X7_ball_X5 1 rfl rfl 5 (by decide) rfl fl_X7_ball_91 rfl rfl ?_
    refine r_istore_n (lv' := [(2, .int now_wool), (0, .ref h), (1, .int u1)]) C dX7_ball_21 rfl (by decide) rfl rfl ?_
    refine r_aload_n C dX7_ball_22 rfl 1 rfl rfl ?_
    refine r_get C dX7_ball_23 fw_X7_ball_X7 0 rfl rfl 0 (by decide) rfl fl_X7_ball_10 rfl rfl ?_
    refine r_iload_n C dX7_ball_26 rfl 2 rfl rfl ?_
    refine r_put (ty := .int) (ws' := [(h, oX7 A), ((A 0), oX5 A_0 now_holding u1 now_day)]) C dX7_ball_27 fw_X7_ball_X5 tyX5 tyX5_ok nmX5 1 rfl rfl 5 (by decide) rfl fl_X7_ball_91 rfl (by decide +kernel) rfl rfl (Nat.le_of_ble_eq_true rfl) rfl rfl ?_
    refine r_iload_n C dX7_ball_30 rfl 0 rfl rfl ?_
    cases hf
    exact r_iret C dX7_ball_31 rfl
  · have hf := gd_t c2 hf
    refine r_bipush C dX7_ball_11 kk_b_m2 rfl ?_
    cases hf
    exact r_iret C dX7_ball_13 rfl
theorem fw_X7_say_X7 : ∀ w ∈ u_ws RX7 TX7 9, w ∈ wsX7_say := by decide +kernel
theorem fl_X7_say_22 : Cond.fieldLink RX7 22 "MittenLine" "pad" "LMittenLine$Pad;" ∈ wsX7_say := by decide +kernel
theorem fw_X7_say_X3 : ∀ w ∈ u_ws RX3 TX3 6, w ∈ wsX7_say := by decide +kernel
theorem fl_X7_say_98 : Cond.fieldLink RX7 98 "MittenLine$Pad" "count" "I" ∈ wsX7_say := by decide +kernel
abbrev rm_X7_say : Jvm.Room := { frames := 1, cells := 0, slots := 0, locals := 22 }
def f_X7_say (pad_signs : Nat → Int32) (pad_count : Int32) (u1 : Int32) : Option (Int32 × (Nat → Int32) × Int32) := (f_X7_isWithin u1 (33 : Int32) (126 : Int32)).bind (fun r1 => if r1 = 0 then some ((-2 : Int32), pad_signs, pad_count) else (f_X3_add pad_signs pad_count u1).bind (fun r3 => if r3.1 = 0 then some ((-4 : Int32), r3.2.1, r3.2.2) else some (r3.2.2, r3.2.1, r3.2.2)))
set_option maxHeartbeats 4000000 in
set_option maxRecDepth 100000 in
theorem c_X7_say (l : Launch) (D : va_G) (cI cZ cG : ClassId) (h : Nat) (A A_2 : Nat → Nat) (pad_signs : Nat → Int32) (pad_count : Int32) (pad_awaited : Int32) (pad_actor : Int32) (pad_kind : Int32) (pad_amount : Int32) (u1 : Int32) (res : Int32 × (Nat → Int32) × Int32) (hf : f_X7_say pad_signs pad_count u1 = some res) : CI l D (tysW cI cZ cG) yX7_say wsX7_say rm_X7_say [.ref h, .int u1] [(h, oX7 A), ((A 2), oX3 A_2 pad_count pad_awaited pad_actor pad_kind pad_amount), ((A_2 0), aI cI 60 pad_signs)] res.1 [(h, oX7 A), ((A 2), oX3 A_2 res.2.2 pad_awaited pad_actor pad_kind pad_amount), ((A_2 0), aI cI 60 res.2.1)] := by
  refine CG.intro (own := RX7) (by decide +kernel) rfl rfl (Nat.le_of_ble_eq_true rfl) (fun p e s m args below meth c C => ?_)
  refine r_lv (lv' := [(0, .ref h), (1, .int u1)]) [0, 1] rfl ?_
  unfold f_X7_say at hf
  refine r_iload_n C dX7_say_0 rfl 1 rfl rfl ?_
  refine r_bipush C dX7_say_1 kk_b_33 rfl ?_
  refine r_bipush C dX7_say_3 kk_b_126 rfl ?_
  obtain ⟨r1, e1, hf⟩ := gd_b hf
  refine o_I (wn := [(h, oX7 A), ((A 2), oX3 A_2 pad_count pad_awaited pad_actor pad_kind pad_amount), ((A_2 0), aI cI 60 pad_signs)]) C [] rfl (x_S C dX7_say_5 (c_X7_isWithin l D cI cZ cG u1 (33 : Int32) (126 : Int32) r1 e1) rfl gX7_say_X7_isWithin hs_X7_isWithin rfl ⟨Nat.le_of_ble_eq_true rfl, Nat.le_of_ble_eq_true rfl⟩ ⟨rfl, rfl⟩ ⟨Nat.zero_le _, Nat.zero_le _⟩ rfl [] rfl rfl (Nat.le_of_ble_eq_true rfl) rfl) rfl rfl rfl ?_
  refine r_if_ne (y := 0) (tgt := 14) C dX7_say_8 rfl rfl (fun c2 => ?_) (fun c2 => ?_)
  · have hf := gd_f c2 hf
    refine r_aload_n C dX7_say_14 rfl 0 rfl rfl ?_
    refine r_get C dX7_say_15 fw_X7_say_X7 0 rfl rfl 2 (by decide) rfl fl_X7_say_22 rfl rfl ?_
    refine r_iload_n C dX7_say_18 rfl 1 rfl rfl ?_
    obtain ⟨r3, e3, hf⟩ := gd_b hf
    refine o_I (wn := [(h, oX7 A), ((A 2), oX3 A_2 r3.2.2 pad_awaited pad_actor pad_kind pad_amount), ((A_2 0), aI cI 60 r3.2.1)]) C [1, 2] rfl (x_V C dX7_say_19 (c_X3_add l D cI cZ cG (A 2) A_2 pad_signs pad_count pad_awaited pad_actor pad_kind pad_amount u1 r3 e3) rfl gX7_say_X3_add hd_X3_add rfl ⟨Nat.le_of_ble_eq_true rfl, Nat.le_of_ble_eq_true rfl⟩ ⟨rfl, rfl⟩ ⟨Nat.zero_le _, Nat.zero_le _⟩ rfl [1, 2] rfl rfl 1 rfl rfl (Nat.le_of_ble_eq_true rfl) rfl) rfl rfl rfl ?_
    refine r_if_eq (y := 0) (tgt := 35) C dX7_say_22 rfl rfl (fun c4 => ?_) (fun c4 => ?_)
    · have hf := gd_t c4 hf
      refine r_bipush C dX7_say_35 kk_b_m4 rfl ?_
      cases hf
      exact r_iret C dX7_say_37 rfl
    · have hf := gd_f c4 hf
      refine r_aload_n C dX7_say_25 rfl 0 rfl rfl ?_
      refine r_get C dX7_say_26 fw_X7_say_X7 0 rfl rfl 2 (by decide) rfl fl_X7_say_22 rfl rfl ?_
      refine r_get C dX7_say_29 fw_X7_say_X3 1 rfl rfl 1 (by decide) rfl fl_X7_say_98 rfl rfl ?_
      refine r_goto (tgt := 37) C dX7_say_32 rfl ?_
      cases hf
      exact r_iret C dX7_say_37 rfl
  · have hf := gd_t c2 hf
    refine r_bipush C dX7_say_11 kk_b_m2 rfl ?_
    cases hf
    exact r_iret C dX7_say_13 rfl
theorem fw_X7_wipe_X7 : ∀ w ∈ u_ws RX7 TX7 9, w ∈ wsX7_wipe := by decide +kernel
theorem fl_X7_wipe_22 : Cond.fieldLink RX7 22 "MittenLine" "pad" "LMittenLine$Pad;" ∈ wsX7_wipe := by decide +kernel
theorem fw_X7_wipe_X3 : ∀ w ∈ u_ws RX3 TX3 6, w ∈ wsX7_wipe := by decide +kernel
theorem fl_X7_wipe_98 : Cond.fieldLink RX7 98 "MittenLine$Pad" "count" "I" ∈ wsX7_wipe := by decide +kernel
abbrev rm_X7_wipe : Jvm.Room := { frames := 1, cells := 0, slots := 0, locals := 20 }
def f_X7_wipe (pad_count : Int32) : Option (Int32 × Int32) := (f_X3_clear pad_count).bind (fun r1 => some (pad_count, r1))
set_option maxHeartbeats 4000000 in
set_option maxRecDepth 100000 in
theorem c_X7_wipe (l : Launch) (D : va_G) (cI cZ cG : ClassId) (h : Nat) (A A_2 : Nat → Nat) (pad_count : Int32) (pad_awaited : Int32) (pad_actor : Int32) (pad_kind : Int32) (pad_amount : Int32) (res : Int32 × Int32) (hf : f_X7_wipe pad_count = some res) : CI l D (tysW cI cZ cG) yX7_wipe wsX7_wipe rm_X7_wipe [.ref h] [(h, oX7 A), ((A 2), oX3 A_2 pad_count pad_awaited pad_actor pad_kind pad_amount)] res.1 [(h, oX7 A), ((A 2), oX3 A_2 res.2 pad_awaited pad_actor pad_kind pad_amount)] := by
  refine CG.intro (own := RX7) (by decide +kernel) rfl rfl (Nat.le_of_ble_eq_true rfl) (fun p e s m args below meth c C => ?_)
  refine r_lv (lv' := [(0, .ref h)]) [0] rfl ?_
  unfold f_X7_wipe at hf
  refine r_aload_n C dX7_wipe_0 rfl 0 rfl rfl ?_
  refine r_get C dX7_wipe_1 fw_X7_wipe_X7 0 rfl rfl 2 (by decide) rfl fl_X7_wipe_22 rfl rfl ?_
  refine r_get C dX7_wipe_4 fw_X7_wipe_X3 1 rfl rfl 1 (by decide) rfl fl_X7_wipe_98 rfl rfl ?_
  refine r_istore_n (lv' := [(1, .int pad_count), (0, .ref h)]) C dX7_wipe_7 rfl (by decide) rfl rfl ?_
  refine r_aload_n C dX7_wipe_8 rfl 1 rfl rfl ?_
  refine r_get C dX7_wipe_9 fw_X7_wipe_X7 0 rfl rfl 2 (by decide) rfl fl_X7_wipe_22 rfl rfl ?_
  obtain ⟨r1, e1, hf⟩ := gd_b hf
  refine o_V (wn := [(h, oX7 A), ((A 2), oX3 A_2 r1 pad_awaited pad_actor pad_kind pad_amount)]) C [1] rfl (x_V C dX7_wipe_12 (c_X3_clear l D cI cZ cG (A 2) A_2 pad_count pad_awaited pad_actor pad_kind pad_amount r1 e1) rfl gX7_wipe_X3_clear hd_X3_clear rfl ⟨Nat.le_of_ble_eq_true rfl, Nat.le_of_ble_eq_true rfl⟩ ⟨rfl, rfl⟩ ⟨Nat.zero_le _, Nat.zero_le _⟩ rfl [1] rfl rfl 1 rfl rfl (Nat.le_of_ble_eq_true rfl) rfl) rfl rfl rfl ?_
  refine r_iload_n C dX7_wipe_15 rfl 0 rfl rfl ?_
  cases hf
  exact r_iret C dX7_wipe_16 rfl
theorem fw_X7_fault_X7 : ∀ w ∈ u_ws RX7 TX7 9, w ∈ wsX7_fault := by decide +kernel
theorem fl_X7_fault_22 : Cond.fieldLink RX7 22 "MittenLine" "pad" "LMittenLine$Pad;" ∈ wsX7_fault := by decide +kernel
abbrev rm_X7_fault : Jvm.Room := { frames := 3, cells := 0, slots := 0, locals := 65 }
def f_X7_fault (pad_signs : Nat → Int32) (pad_count : Int32) : Option (Int32) := (f_X3_faultPlace pad_signs pad_count).bind (fun r1 => some (r1))
set_option maxHeartbeats 4000000 in
set_option maxRecDepth 100000 in
theorem c_X7_fault (l : Launch) (D : va_G) (cI cZ cG : ClassId) (h : Nat) (A A_2 : Nat → Nat) (pad_signs : Nat → Int32) (pad_count : Int32) (pad_awaited : Int32) (pad_actor : Int32) (pad_kind : Int32) (pad_amount : Int32) (res : Int32) (hf : f_X7_fault pad_signs pad_count = some res) : CI l D (tysW cI cZ cG) yX7_fault wsX7_fault rm_X7_fault [.ref h] [(h, oX7 A), ((A 2), oX3 A_2 pad_count pad_awaited pad_actor pad_kind pad_amount), ((A_2 0), aI cI 60 pad_signs)] res [(h, oX7 A), ((A 2), oX3 A_2 pad_count pad_awaited pad_actor pad_kind pad_amount), ((A_2 0), aI cI 60 pad_signs)] := by
  refine CG.intro (own := RX7) (by decide +kernel) rfl rfl (Nat.le_of_ble_eq_true rfl) (fun p e s m args below meth c C => ?_)
  refine r_lv (lv' := [(0, .ref h)]) [0] rfl ?_
  unfold f_X7_fault at hf
  refine r_aload_n C dX7_fault_0 rfl 0 rfl rfl ?_
  refine r_get C dX7_fault_1 fw_X7_fault_X7 0 rfl rfl 2 (by decide) rfl fl_X7_fault_22 rfl rfl ?_
  obtain ⟨r1, e1, hf⟩ := gd_b hf
  refine o_I (wn := [(h, oX7 A), ((A 2), oX3 A_2 pad_count pad_awaited pad_actor pad_kind pad_amount), ((A_2 0), aI cI 60 pad_signs)]) C [1, 2] rfl (x_V C dX7_fault_4 (c_X3_faultPlace l D cI cZ cG (A 2) A_2 pad_signs pad_count pad_awaited pad_actor pad_kind pad_amount r1 e1) rfl gX7_fault_X3_faultPlace hd_X3_faultPlace rfl ⟨Nat.le_of_ble_eq_true rfl, Nat.le_of_ble_eq_true rfl⟩ ⟨rfl, rfl⟩ ⟨Nat.zero_le _, Nat.zero_le _⟩ rfl [1, 2] rfl rfl 1 rfl rfl (Nat.le_of_ble_eq_true rfl) rfl) rfl rfl rfl ?_
  cases hf
  exact r_iret C dX7_fault_7 rfl
theorem fw_X7_runText_X7 : ∀ w ∈ u_ws RX7 TX7 9, w ∈ wsX7_runText := by decide +kernel
theorem fl_X7_runText_22 : Cond.fieldLink RX7 22 "MittenLine" "pad" "LMittenLine$Pad;" ∈ wsX7_runText := by decide +kernel
theorem fl_X7_runText_16 : Cond.fieldLink RX7 16 "MittenLine" "trial" "LMittenLine$Row;" ∈ wsX7_runText := by decide +kernel
theorem fl_X7_runText_10 : Cond.fieldLink RX7 10 "MittenLine" "now" "LMittenLine$Row;" ∈ wsX7_runText := by decide +kernel
theorem fl_X7_runText_29 : Cond.fieldLink RX7 29 "MittenLine" "course" "LMittenLine$Course;" ∈ wsX7_runText := by decide +kernel
theorem fw_X7_runText_X3 : ∀ w ∈ u_ws RX3 TX3 6, w ∈ wsX7_runText := by decide +kernel
theorem fl_X7_runText_98 : Cond.fieldLink RX7 98 "MittenLine$Pad" "count" "I" ∈ wsX7_runText := by decide +kernel
theorem fw_X7_runText_X0 : ∀ w ∈ u_ws RX0 TX0 6, w ∈ wsX7_runText := by decide +kernel
theorem fl_X7_runText_111 : Cond.fieldLink RX7 111 "MittenLine$Course" "badAct" "I" ∈ wsX7_runText := by decide +kernel
theorem fl_X7_runText_154 : Cond.fieldLink RX7 154 "MittenLine$Pad" "kind" "I" ∈ wsX7_runText := by decide +kernel
theorem fl_X7_runText_157 : Cond.fieldLink RX7 157 "MittenLine$Pad" "actor" "I" ∈ wsX7_runText := by decide +kernel
theorem fl_X7_runText_160 : Cond.fieldLink RX7 160 "MittenLine$Pad" "amount" "I" ∈ wsX7_runText := by decide +kernel
abbrev rm_X7_runText : Jvm.Room := { frames := 7, cells := 0, slots := 0, locals := 160 }
def f_X7_runText_42 (pad_signs : Nat → Int32) (pad_count : Int32) (kx114 : (Nat → Int32) → (Nat → Int32) → (Nat → Int32) → (Nat → Int32) → Int32 → Int32 → Int32 → Int32 → Int32 → Int32 → Int32 → Int32 → Int32 → Int32 → Int32 → Int32 → Int32 → Option (Int32 × (Nat → Int32) × (Nat → Int32) × (Nat → Int32) × (Nat → Int32) × Int32 × Int32 × Int32 × Int32 × Int32 × Int32 × Int32 × Int32 × Int32 × Int32 × Int32 × Int32 × Int32)) : Nat → Int32 → (Nat → Int32) → (Nat → Int32) → (Nat → Int32) → (Nat → Int32) → Int32 → Int32 → Int32 → Int32 → Int32 → Int32 → Int32 → Int32 → Int32 → Int32 → Int32 → Int32 → Int32 → Option (Int32 × (Nat → Int32) × (Nat → Int32) × (Nat → Int32) × (Nat → Int32) × Int32 × Int32 × Int32 × Int32 × Int32 × Int32 × Int32 × Int32 × Int32 × Int32 × Int32 × Int32 × Int32)
  | 0, _, _, _, _, _, _, _, _, _, _, _, _, _, _, _, _, _, _ => none
  | n + 1, u1, trial_yards, trial_feels, trial_lengths, trial_plan, trial_holding, trial_wool, trial_day, pad_awaited, pad_actor, pad_kind, pad_amount, course_acts, course_badAct, course_badWhy, course_drawnCount, course_drawAct, course_drawChild => if pad_count ≤ u1 then kx114 trial_yards trial_feels trial_lengths trial_plan trial_holding trial_wool trial_day pad_awaited pad_actor pad_kind pad_amount course_acts course_badAct course_badWhy course_drawnCount course_drawAct course_drawChild else if course_badAct = (-6 : Int32) then (f_X3_endsAct pad_signs pad_count pad_awaited pad_actor pad_kind pad_amount u1).bind (fun r8 => if r8.1 = 0 then f_X7_runText_42 pad_signs pad_count kx114 n (u1 + (1 : Int32)) trial_yards trial_feels trial_lengths trial_plan trial_holding trial_wool trial_day r8.2.1 r8.2.2.1 r8.2.2.2.1 r8.2.2.2.2 course_acts course_badAct course_badWhy course_drawnCount course_drawAct course_drawChild else (f_X0_take course_acts course_badAct course_badWhy course_drawnCount course_drawAct course_drawChild trial_yards trial_feels trial_lengths trial_plan trial_holding trial_wool trial_day r8.2.2.2.1 r8.2.2.1 r8.2.2.2.2).bind (fun r10 => f_X7_runText_42 pad_signs pad_count kx114 n (u1 + (1 : Int32)) r10.2.2.2.2.2.2.1 r10.2.2.2.2.2.2.2.1 r10.2.2.2.2.2.2.2.2.1 r10.2.2.2.2.2.2.2.2.2.1 r10.2.2.2.2.2.2.2.2.2.2.1 r10.2.2.2.2.2.2.2.2.2.2.2.1 r10.2.2.2.2.2.2.2.2.2.2.2.2 r8.2.1 r8.2.2.1 r8.2.2.2.1 r8.2.2.2.2 r10.1 r10.2.1 r10.2.2.1 r10.2.2.2.1 r10.2.2.2.2.1 r10.2.2.2.2.2.1)) else kx114 trial_yards trial_feels trial_lengths trial_plan trial_holding trial_wool trial_day pad_awaited pad_actor pad_kind pad_amount course_acts course_badAct course_badWhy course_drawnCount course_drawAct course_drawChild
set_option maxHeartbeats 4000000 in
set_option maxRecDepth 100000 in
theorem k_X7_runText_42 (C : Cx p s m args meth c D (tysW cI cZ cG) RX7 cX7_runText 2 wsX7_runText (some .int)) (h : Nat) (A A_0 A_1 A_2 A_3 : Nat → Nat) (now_yards : Nat → Int32) (now_feels : Nat → Int32) (now_lengths : Nat → Int32) (now_holding : Int32) (now_wool : Int32) (now_day : Int32) (pad_signs : Nat → Int32) (pad_count : Int32)  (kx114 : (Nat → Int32) → (Nat → Int32) → (Nat → Int32) → (Nat → Int32) → Int32 → Int32 → Int32 → Int32 → Int32 → Int32 → Int32 → Int32 → Int32 → Int32 → Int32 → Int32 → Int32 → Option (Int32 × (Nat → Int32) × (Nat → Int32) × (Nat → Int32) × (Nat → Int32) × Int32 × Int32 × Int32 × Int32 × Int32 × Int32 × Int32 × Int32 × Int32 × Int32 × Int32 × Int32 × Int32)) (res : Int32 × (Nat → Int32) × (Nat → Int32) × (Nat → Int32) × (Nat → Int32) × Int32 × Int32 × Int32 × Int32 × Int32 × Int32 × Int32 × Int32 × Int32 × Int32 × Int32 × Int32 × Int32) (hkx114 : ∀ (trial_yards : Nat → Int32) (trial_feels : Nat → Int32) (trial_lengths : Nat → Int32) (trial_plan : Nat → Int32) (trial_holding : Int32) (trial_wool : Int32) (trial_day : Int32) (pad_awaited : Int32) (pad_actor : Int32) (pad_kind : Int32) (pad_amount : Int32) (course_acts : Int32) (course_badAct : Int32) (course_badWhy : Int32) (course_drawnCount : Int32) (course_drawAct : Int32) (course_drawChild : Int32) , kx114 trial_yards trial_feels trial_lengths trial_plan trial_holding trial_wool trial_day pad_awaited pad_actor pad_kind pad_amount course_acts course_badAct course_badWhy course_drawnCount course_drawAct course_drawChild = some res → Wd p l e rm_X7_runText s m args below meth c D w0 2 0 0 (MQ below (QcI D (tysW cI cZ cG) w0 [(h, oX7 A), ((A 0), oX5 A_0 now_holding now_wool now_day), ((A 1), oX5 A_1 res.2.2.2.2.2.1 res.2.2.2.2.2.2.1 res.2.2.2.2.2.2.2.1), ((A 2), oX3 A_2 pad_count res.2.2.2.2.2.2.2.2.1 res.2.2.2.2.2.2.2.2.2.1 res.2.2.2.2.2.2.2.2.2.2.1 res.2.2.2.2.2.2.2.2.2.2.2.1), ((A 3), oX0 A_3 res.2.2.2.2.2.2.2.2.2.2.2.2.1 res.2.2.2.2.2.2.2.2.2.2.2.2.2.1 res.2.2.2.2.2.2.2.2.2.2.2.2.2.2.1 res.2.2.2.2.2.2.2.2.2.2.2.2.2.2.2.1 res.2.2.2.2.2.2.2.2.2.2.2.2.2.2.2.2.1 res.2.2.2.2.2.2.2.2.2.2.2.2.2.2.2.2.2), ((A_0 0), aI cI 10 now_yards), ((A_0 1), aI cI 10 now_feels), ((A_0 2), aI cI 9 now_lengths), ((A_1 0), aI cI 10 res.2.1), ((A_1 1), aI cI 10 res.2.2.1), ((A_1 2), aI cI 9 res.2.2.2.1), ((A_1 3), aI cI 10 res.2.2.2.2.1), ((A_2 0), aI cI 60 pad_signs)] res.1 s.heap.size) args s 0 0 (va_A w0 s.heap.size)) [(h, oX7 A), ((A 0), oX5 A_0 now_holding now_wool now_day), ((A 1), oX5 A_1 trial_holding trial_wool trial_day), ((A 2), oX3 A_2 pad_count pad_awaited pad_actor pad_kind pad_amount), ((A 3), oX0 A_3 course_acts course_badAct course_badWhy course_drawnCount course_drawAct course_drawChild), ((A_0 0), aI cI 10 now_yards), ((A_0 1), aI cI 10 now_feels), ((A_0 2), aI cI 9 now_lengths), ((A_1 0), aI cI 10 trial_yards), ((A_1 1), aI cI 10 trial_feels), ((A_1 2), aI cI 9 trial_lengths), ((A_1 3), aI cI 10 trial_plan), ((A_2 0), aI cI 60 pad_signs)] [(0, .ref h)] 114 []) : ∀ (n : Nat) (u1 : Int32) (trial_yards : Nat → Int32) (trial_feels : Nat → Int32) (trial_lengths : Nat → Int32) (trial_plan : Nat → Int32) (trial_holding : Int32) (trial_wool : Int32) (trial_day : Int32) (pad_awaited : Int32) (pad_actor : Int32) (pad_kind : Int32) (pad_amount : Int32) (course_acts : Int32) (course_badAct : Int32) (course_badWhy : Int32) (course_drawnCount : Int32) (course_drawAct : Int32) (course_drawChild : Int32), f_X7_runText_42 pad_signs pad_count kx114 n u1 trial_yards trial_feels trial_lengths trial_plan trial_holding trial_wool trial_day pad_awaited pad_actor pad_kind pad_amount course_acts course_badAct course_badWhy course_drawnCount course_drawAct course_drawChild = some res → Wd p l e rm_X7_runText s m args below meth c D w0 2 0 0 (MQ below (QcI D (tysW cI cZ cG) w0 [(h, oX7 A), ((A 0), oX5 A_0 now_holding now_wool now_day), ((A 1), oX5 A_1 res.2.2.2.2.2.1 res.2.2.2.2.2.2.1 res.2.2.2.2.2.2.2.1), ((A 2), oX3 A_2 pad_count res.2.2.2.2.2.2.2.2.1 res.2.2.2.2.2.2.2.2.2.1 res.2.2.2.2.2.2.2.2.2.2.1 res.2.2.2.2.2.2.2.2.2.2.2.1), ((A 3), oX0 A_3 res.2.2.2.2.2.2.2.2.2.2.2.2.1 res.2.2.2.2.2.2.2.2.2.2.2.2.2.1 res.2.2.2.2.2.2.2.2.2.2.2.2.2.2.1 res.2.2.2.2.2.2.2.2.2.2.2.2.2.2.2.1 res.2.2.2.2.2.2.2.2.2.2.2.2.2.2.2.2.1 res.2.2.2.2.2.2.2.2.2.2.2.2.2.2.2.2.2), ((A_0 0), aI cI 10 now_yards), ((A_0 1), aI cI 10 now_feels), ((A_0 2), aI cI 9 now_lengths), ((A_1 0), aI cI 10 res.2.1), ((A_1 1), aI cI 10 res.2.2.1), ((A_1 2), aI cI 9 res.2.2.2.1), ((A_1 3), aI cI 10 res.2.2.2.2.1), ((A_2 0), aI cI 60 pad_signs)] res.1 s.heap.size) args s 0 0 (va_A w0 s.heap.size)) [(h, oX7 A), ((A 0), oX5 A_0 now_holding now_wool now_day), ((A 1), oX5 A_1 trial_holding trial_wool trial_day), ((A 2), oX3 A_2 pad_count pad_awaited pad_actor pad_kind pad_amount), ((A 3), oX0 A_3 course_acts course_badAct course_badWhy course_drawnCount course_drawAct course_drawChild), ((A_0 0), aI cI 10 now_yards), ((A_0 1), aI cI 10 now_feels), ((A_0 2), aI cI 9 now_lengths), ((A_1 0), aI cI 10 trial_yards), ((A_1 1), aI cI 10 trial_feels), ((A_1 2), aI cI 9 trial_lengths), ((A_1 3), aI cI 10 trial_plan), ((A_2 0), aI cI 60 pad_signs)] [(0, .ref h), (1, .int u1)] 42 [] := by
  intro n
  induction n with
  | zero =>
    intro u1 trial_yards trial_feels trial_lengths trial_plan trial_holding trial_wool trial_day pad_awaited pad_actor pad_kind pad_amount course_acts course_badAct course_badWhy course_drawnCount course_drawAct course_drawChild hf
    exact no_none hf
  | succ n ih =>
    intro u1 trial_yards trial_feels trial_lengths trial_plan trial_holding trial_wool trial_day pad_awaited pad_actor pad_kind pad_amount course_acts course_badAct course_badWhy course_drawnCount course_drawAct course_drawChild hf
    unfold f_X7_runText_42 at hf
    refine r_iload_n C dX7_runText_42 rfl 1 rfl rfl ?_
    refine r_aload_n C dX7_runText_43 rfl 0 rfl rfl ?_
    refine r_get C dX7_runText_44 fw_X7_runText_X7 0 rfl rfl 2 (by decide) rfl fl_X7_runText_22 rfl rfl ?_
    refine r_get C dX7_runText_47 fw_X7_runText_X3 3 rfl rfl 1 (by decide) rfl fl_X7_runText_98 rfl rfl ?_
    refine r_icmp_ge (tgt := 114) C dX7_runText_50 rfl rfl (fun c6 => ?_) (fun c6 => ?_)
    · have hf := gd_t c6 hf
      refine r_lv (lv' := [(0, .ref h)]) [0] rfl ?_
      exact hkx114 _ _ _ _ _ _ _ _ _ _ _ _ _ _ _ _ _ hf
    · have hf := gd_f c6 hf
      refine r_aload_n C dX7_runText_53 rfl 0 rfl rfl ?_
      refine r_get C dX7_runText_54 fw_X7_runText_X7 0 rfl rfl 3 (by decide) rfl fl_X7_runText_29 rfl rfl ?_
      refine r_get C dX7_runText_57 fw_X7_runText_X0 4 rfl rfl 1 (by decide) rfl fl_X7_runText_111 rfl rfl ?_
      refine r_bipush C dX7_runText_60 kk_b_m6 rfl ?_
      refine r_icmp_ne (tgt := 114) C dX7_runText_62 rfl rfl (fun c7 => ?_) (fun c7 => ?_)
      · have hf := gd_f c7 hf
        refine r_lv (lv' := [(0, .ref h)]) [0] rfl ?_
        exact hkx114 _ _ _ _ _ _ _ _ _ _ _ _ _ _ _ _ _ hf
      · have hf := gd_t c7 hf
        refine r_aload_n C dX7_runText_65 rfl 0 rfl rfl ?_
        refine r_get C dX7_runText_66 fw_X7_runText_X7 0 rfl rfl 2 (by decide) rfl fl_X7_runText_22 rfl rfl ?_
        refine r_iload_n C dX7_runText_69 rfl 1 rfl rfl ?_
        obtain ⟨r8, e8, hf⟩ := gd_b hf
        refine o_I (wn := [(h, oX7 A), ((A 0), oX5 A_0 now_holding now_wool now_day), ((A 1), oX5 A_1 trial_holding trial_wool trial_day), ((A 2), oX3 A_2 pad_count r8.2.1 r8.2.2.1 r8.2.2.2.1 r8.2.2.2.2), ((A 3), oX0 A_3 course_acts course_badAct course_badWhy course_drawnCount course_drawAct course_drawChild), ((A_0 0), aI cI 10 now_yards), ((A_0 1), aI cI 10 now_feels), ((A_0 2), aI cI 9 now_lengths), ((A_1 0), aI cI 10 trial_yards), ((A_1 1), aI cI 10 trial_feels), ((A_1 2), aI cI 9 trial_lengths), ((A_1 3), aI cI 10 trial_plan), ((A_2 0), aI cI 60 pad_signs)]) C [3, 12] rfl (x_V C dX7_runText_70 (c_X3_endsAct l D cI cZ cG (A 2) A_2 pad_signs pad_count pad_awaited pad_actor pad_kind pad_amount u1 r8 e8) rfl gX7_runText_X3_endsAct hd_X3_endsAct rfl ⟨Nat.le_of_ble_eq_true rfl, Nat.le_of_ble_eq_true rfl⟩ ⟨rfl, rfl⟩ ⟨Nat.zero_le _, Nat.zero_le _⟩ rfl [3, 12] rfl rfl 3 rfl rfl (Nat.le_of_ble_eq_true rfl) rfl) rfl rfl rfl ?_
        refine r_if_eq (y := 0) (tgt := 108) C dX7_runText_73 rfl rfl (fun c9 => ?_) (fun c9 => ?_)
        · have hf := gd_t c9 hf
          refine r_iinc (lv' := [(1, .int (u1 + (1 : Int32))), (0, .ref h)]) C dX7_runText_108 1 rfl (ki_1 _) (by decide) rfl rfl ?_
          refine r_goto (tgt := 42) C dX7_runText_111 rfl ?_
          refine r_lv (lv' := [(0, .ref h), (1, .int (u1 + (1 : Int32)))]) [1, 0] rfl ?_
          exact ih _ _ _ _ _ _ _ _ _ _ _ _ _ _ _ _ _ _ hf
        · have hf := gd_f c9 hf
          refine r_aload_n C dX7_runText_76 rfl 0 rfl rfl ?_
          refine r_get C dX7_runText_77 fw_X7_runText_X7 0 rfl rfl 3 (by decide) rfl fl_X7_runText_29 rfl rfl ?_
          refine r_aload_n C dX7_runText_80 rfl 0 rfl rfl ?_
          refine r_get C dX7_runText_81 fw_X7_runText_X7 0 rfl rfl 1 (by decide) rfl fl_X7_runText_16 rfl rfl ?_
          refine r_aload_n C dX7_runText_84 rfl 0 rfl rfl ?_
          refine r_get C dX7_runText_85 fw_X7_runText_X7 0 rfl rfl 2 (by decide) rfl fl_X7_runText_22 rfl rfl ?_
          refine r_get C dX7_runText_88 fw_X7_runText_X3 3 rfl rfl 4 (by decide) rfl fl_X7_runText_154 rfl rfl ?_
          refine r_aload_n C dX7_runText_91 rfl 0 rfl rfl ?_
          refine r_get C dX7_runText_92 fw_X7_runText_X7 0 rfl rfl 2 (by decide) rfl fl_X7_runText_22 rfl rfl ?_
          refine r_get C dX7_runText_95 fw_X7_runText_X3 3 rfl rfl 3 (by decide) rfl fl_X7_runText_157 rfl rfl ?_
          refine r_aload_n C dX7_runText_98 rfl 0 rfl rfl ?_
          refine r_get C dX7_runText_99 fw_X7_runText_X7 0 rfl rfl 2 (by decide) rfl fl_X7_runText_22 rfl rfl ?_
          refine r_get C dX7_runText_102 fw_X7_runText_X3 3 rfl rfl 5 (by decide) rfl fl_X7_runText_160 rfl rfl ?_
          obtain ⟨r10, e10, hf⟩ := gd_b hf
          refine o_V (wn := [(h, oX7 A), ((A 0), oX5 A_0 now_holding now_wool now_day), ((A 1), oX5 A_1 r10.2.2.2.2.2.2.2.2.2.2.1 r10.2.2.2.2.2.2.2.2.2.2.2.1 r10.2.2.2.2.2.2.2.2.2.2.2.2), ((A 2), oX3 A_2 pad_count r8.2.1 r8.2.2.1 r8.2.2.2.1 r8.2.2.2.2), ((A 3), oX0 A_3 r10.1 r10.2.1 r10.2.2.1 r10.2.2.2.1 r10.2.2.2.2.1 r10.2.2.2.2.2.1), ((A_0 0), aI cI 10 now_yards), ((A_0 1), aI cI 10 now_feels), ((A_0 2), aI cI 9 now_lengths), ((A_1 0), aI cI 10 r10.2.2.2.2.2.2.1), ((A_1 1), aI cI 10 r10.2.2.2.2.2.2.2.1), ((A_1 2), aI cI 9 r10.2.2.2.2.2.2.2.2.1), ((A_1 3), aI cI 10 r10.2.2.2.2.2.2.2.2.2.1), ((A_2 0), aI cI 60 pad_signs)]) C [4, 2, 8, 9, 10, 11] rfl (x_V C dX7_runText_105 (c_X0_take l D cI cZ cG (A 3) (A 1) A_3 A_1 course_acts course_badAct course_badWhy course_drawnCount course_drawAct course_drawChild trial_yards trial_feels trial_lengths trial_plan trial_holding trial_wool trial_day r8.2.2.2.1 r8.2.2.1 r8.2.2.2.2 r10 e10) rfl gX7_runText_X0_take hd_X0_take rfl ⟨Nat.le_of_ble_eq_true rfl, Nat.le_of_ble_eq_true rfl⟩ ⟨rfl, rfl⟩ ⟨Nat.zero_le _, Nat.zero_le _⟩ rfl [4, 2, 8, 9, 10, 11] rfl rfl 4 rfl rfl (Nat.le_of_ble_eq_true rfl) rfl) rfl rfl rfl ?_
          refine r_iinc (lv' := [(1, .int (u1 + (1 : Int32))), (0, .ref h)]) C dX7_runText_108 1 rfl (ki_1 _) (by decide) rfl rfl ?_
          refine r_goto (tgt := 42) C dX7_runText_111 rfl ?_
          refine r_lv (lv' := [(0, .ref h), (1, .int (u1 + (1 : Int32)))]) [1, 0] rfl ?_
          exact ih _ _ _ _ _ _ _ _ _ _ _ _ _ _ _ _ _ _ hf
def f_X7_runText (now_yards : Nat → Int32) (now_feels : Nat → Int32) (now_lengths : Nat → Int32) (now_holding : Int32) (now_wool : Int32) (now_day : Int32) (trial_yards : Nat → Int32) (trial_feels : Nat → Int32) (trial_lengths : Nat → Int32) (trial_plan : Nat → Int32) (trial_holding : Int32) (trial_wool : Int32) (trial_day : Int32) (pad_signs : Nat → Int32) (pad_count : Int32) (pad_awaited : Int32) (pad_actor : Int32) (pad_kind : Int32) (pad_amount : Int32) (course_acts : Int32) (course_badAct : Int32) (course_badWhy : Int32) (course_drawnCount : Int32) (course_drawAct : Int32) (course_drawChild : Int32) : Option (Int32 × (Nat → Int32) × (Nat → Int32) × (Nat → Int32) × (Nat → Int32) × Int32 × Int32 × Int32 × Int32 × Int32 × Int32 × Int32 × Int32 × Int32 × Int32 × Int32 × Int32 × Int32) := (f_X3_faultPlace pad_signs pad_count).bind (fun r1 => if r1 = (-6 : Int32) then (f_X5_copyFrom trial_yards trial_feels trial_lengths trial_holding trial_wool trial_day now_yards now_feels now_lengths now_holding now_wool now_day).bind (fun r3 => (f_X0_begin course_acts course_badAct course_badWhy course_drawnCount course_drawAct course_drawChild).bind (fun r4 => (f_X3_beginActs pad_awaited pad_actor pad_kind pad_amount).bind (fun r5 => f_X7_runText_42 pad_signs pad_count (fun trial_yards_11 trial_feels_12 trial_lengths_13 trial_plan_14 trial_holding_15 trial_wool_16 trial_day_17 pad_awaited_18 pad_actor_19 pad_kind_20 pad_amount_21 course_acts_22 course_badAct_23 course_badWhy_24 course_drawnCount_25 course_drawAct_26 course_drawChild_27 => if course_badAct_23 = (-6 : Int32) then some ((0 : Int32), trial_yards_11, trial_feels_12, trial_lengths_13, trial_plan_14, trial_holding_15, trial_wool_16, trial_day_17, pad_awaited_18, pad_actor_19, pad_kind_20, pad_amount_21, course_acts_22, course_badAct_23, course_badWhy_24, course_drawnCount_25, course_drawAct_26, course_drawChild_27) else some ((-3 : Int32), trial_yards_11, trial_feels_12, trial_lengths_13, trial_plan_14, trial_holding_15, trial_wool_16, trial_day_17, pad_awaited_18, pad_actor_19, pad_kind_20, pad_amount_21, course_acts_22, course_badAct_23, course_badWhy_24, course_drawnCount_25, course_drawAct_26, course_drawChild_27)) 2000 (0 : Int32) r3.1 r3.2.1 r3.2.2.1 trial_plan r3.2.2.2.1 r3.2.2.2.2.1 r3.2.2.2.2.2 r5.1 r5.2.1 r5.2.2.1 r5.2.2.2 r4.1 r4.2.1 r4.2.2.1 r4.2.2.2.1 r4.2.2.2.2.1 r4.2.2.2.2.2))) else some ((-5 : Int32), trial_yards, trial_feels, trial_lengths, trial_plan, trial_holding, trial_wool, trial_day, pad_awaited, pad_actor, pad_kind, pad_amount, course_acts, course_badAct, course_badWhy, course_drawnCount, course_drawAct, course_drawChild))
set_option maxHeartbeats 4000000 in
set_option maxRecDepth 100000 in
theorem c_X7_runText (l : Launch) (D : va_G) (cI cZ cG : ClassId) (h : Nat) (A A_0 A_1 A_2 A_3 : Nat → Nat) (now_yards : Nat → Int32) (now_feels : Nat → Int32) (now_lengths : Nat → Int32) (now_holding : Int32) (now_wool : Int32) (now_day : Int32) (trial_yards : Nat → Int32) (trial_feels : Nat → Int32) (trial_lengths : Nat → Int32) (trial_plan : Nat → Int32) (trial_holding : Int32) (trial_wool : Int32) (trial_day : Int32) (pad_signs : Nat → Int32) (pad_count : Int32) (pad_awaited : Int32) (pad_actor : Int32) (pad_kind : Int32) (pad_amount : Int32) (course_acts : Int32) (course_badAct : Int32) (course_badWhy : Int32) (course_drawnCount : Int32) (course_drawAct : Int32) (course_drawChild : Int32) (res : Int32 × (Nat → Int32) × (Nat → Int32) × (Nat → Int32) × (Nat → Int32) × Int32 × Int32 × Int32 × Int32 × Int32 × Int32 × Int32 × Int32 × Int32 × Int32 × Int32 × Int32 × Int32) (hf : f_X7_runText now_yards now_feels now_lengths now_holding now_wool now_day trial_yards trial_feels trial_lengths trial_plan trial_holding trial_wool trial_day pad_signs pad_count pad_awaited pad_actor pad_kind pad_amount course_acts course_badAct course_badWhy course_drawnCount course_drawAct course_drawChild = some res) : CI l D (tysW cI cZ cG) yX7_runText wsX7_runText rm_X7_runText [.ref h] [(h, oX7 A), ((A 0), oX5 A_0 now_holding now_wool now_day), ((A 1), oX5 A_1 trial_holding trial_wool trial_day), ((A 2), oX3 A_2 pad_count pad_awaited pad_actor pad_kind pad_amount), ((A 3), oX0 A_3 course_acts course_badAct course_badWhy course_drawnCount course_drawAct course_drawChild), ((A_0 0), aI cI 10 now_yards), ((A_0 1), aI cI 10 now_feels), ((A_0 2), aI cI 9 now_lengths), ((A_1 0), aI cI 10 trial_yards), ((A_1 1), aI cI 10 trial_feels), ((A_1 2), aI cI 9 trial_lengths), ((A_1 3), aI cI 10 trial_plan), ((A_2 0), aI cI 60 pad_signs)] res.1 [(h, oX7 A), ((A 0), oX5 A_0 now_holding now_wool now_day), ((A 1), oX5 A_1 res.2.2.2.2.2.1 res.2.2.2.2.2.2.1 res.2.2.2.2.2.2.2.1), ((A 2), oX3 A_2 pad_count res.2.2.2.2.2.2.2.2.1 res.2.2.2.2.2.2.2.2.2.1 res.2.2.2.2.2.2.2.2.2.2.1 res.2.2.2.2.2.2.2.2.2.2.2.1), ((A 3), oX0 A_3 res.2.2.2.2.2.2.2.2.2.2.2.2.1 res.2.2.2.2.2.2.2.2.2.2.2.2.2.1 res.2.2.2.2.2.2.2.2.2.2.2.2.2.2.1 res.2.2.2.2.2.2.2.2.2.2.2.2.2.2.2.1 res.2.2.2.2.2.2.2.2.2.2.2.2.2.2.2.2.1 res.2.2.2.2.2.2.2.2.2.2.2.2.2.2.2.2.2), ((A_0 0), aI cI 10 now_yards), ((A_0 1), aI cI 10 now_feels), ((A_0 2), aI cI 9 now_lengths), ((A_1 0), aI cI 10 res.2.1), ((A_1 1), aI cI 10 res.2.2.1), ((A_1 2), aI cI 9 res.2.2.2.1), ((A_1 3), aI cI 10 res.2.2.2.2.1), ((A_2 0), aI cI 60 pad_signs)] := by
  refine CG.intro (own := RX7) (by decide +kernel) rfl rfl (Nat.le_of_ble_eq_true rfl) (fun p e s m args below meth c C => ?_)
  refine r_lv (lv' := [(0, .ref h)]) [0] rfl ?_
  unfold f_X7_runText at hf
  refine r_aload_n C dX7_runText_0 rfl 0 rfl rfl ?_
  refine r_get C dX7_runText_1 fw_X7_runText_X7 0 rfl rfl 2 (by decide) rfl fl_X7_runText_22 rfl rfl ?_
  obtain ⟨r1, e1, hf⟩ := gd_b hf
  refine o_I (wn := [(h, oX7 A), ((A 0), oX5 A_0 now_holding now_wool now_day), ((A 1), oX5 A_1 trial_holding trial_wool trial_day), ((A 2), oX3 A_2 pad_count pad_awaited pad_actor pad_kind pad_amount), ((A 3), oX0 A_3 course_acts course_badAct course_badWhy course_drawnCount course_drawAct course_drawChild), ((A_0 0), aI cI 10 now_yards), ((A_0 1), aI cI 10 now_feels), ((A_0 2), aI cI 9 now_lengths), ((A_1 0), aI cI 10 trial_yards), ((A_1 1), aI cI 10 trial_feels), ((A_1 2), aI cI 9 trial_lengths), ((A_1 3), aI cI 10 trial_plan), ((A_2 0), aI cI 60 pad_signs)]) C [3, 12] rfl (x_V C dX7_runText_4 (c_X3_faultPlace l D cI cZ cG (A 2) A_2 pad_signs pad_count pad_awaited pad_actor pad_kind pad_amount r1 e1) rfl gX7_runText_X3_faultPlace hd_X3_faultPlace rfl ⟨Nat.le_of_ble_eq_true rfl, Nat.le_of_ble_eq_true rfl⟩ ⟨rfl, rfl⟩ ⟨Nat.zero_le _, Nat.zero_le _⟩ rfl [3, 12] rfl rfl 3 rfl rfl (Nat.le_of_ble_eq_true rfl) rfl) rfl rfl rfl ?_
  refine r_bipush C dX7_runText_7 kk_b_m6 rfl ?_
  refine r_icmp_eq (tgt := 15) C dX7_runText_9 rfl rfl (fun c2 => ?_) (fun c2 => ?_)
  · have hf := gd_t c2 hf
    refine r_aload_n C dX7_runText_15 rfl 0 rfl rfl ?_
    refine r_get C dX7_runText_16 fw_X7_runText_X7 0 rfl rfl 1 (by decide) rfl fl_X7_runText_16 rfl rfl ?_
    refine r_aload_n C dX7_runText_19 rfl 0 rfl rfl ?_
    refine r_get C dX7_runText_20 fw_X7_runText_X7 0 rfl rfl 0 (by decide) rfl fl_X7_runText_10 rfl rfl ?_
    obtain ⟨r3, e3, hf⟩ := gd_b hf
    refine o_V (wn := [(h, oX7 A), ((A 0), oX5 A_0 now_holding now_wool now_day), ((A 1), oX5 A_1 r3.2.2.2.1 r3.2.2.2.2.1 r3.2.2.2.2.2), ((A 2), oX3 A_2 pad_count pad_awaited pad_actor pad_kind pad_amount), ((A 3), oX0 A_3 course_acts course_badAct course_badWhy course_drawnCount course_drawAct course_drawChild), ((A_0 0), aI cI 10 now_yards), ((A_0 1), aI cI 10 now_feels), ((A_0 2), aI cI 9 now_lengths), ((A_1 0), aI cI 10 r3.1), ((A_1 1), aI cI 10 r3.2.1), ((A_1 2), aI cI 9 r3.2.2.1), ((A_1 3), aI cI 10 trial_plan), ((A_2 0), aI cI 60 pad_signs)]) C [2, 1, 8, 9, 10, 5, 6, 7] rfl (x_V C dX7_runText_23 (c_X5_copyFrom l D cI cZ cG (A 1) (A 0) A_1 A_0 trial_yards trial_feels trial_lengths trial_holding trial_wool trial_day now_yards now_feels now_lengths now_holding now_wool now_day r3 e3) rfl gX7_runText_X5_copyFrom hd_X5_copyFrom rfl ⟨Nat.le_of_ble_eq_true rfl, Nat.le_of_ble_eq_true rfl⟩ ⟨rfl, rfl⟩ ⟨Nat.zero_le _, Nat.zero_le _⟩ rfl [2, 1, 8, 9, 10, 5, 6, 7] rfl rfl 2 rfl rfl (Nat.le_of_ble_eq_true rfl) rfl) rfl rfl rfl ?_
    refine r_aload_n C dX7_runText_26 rfl 0 rfl rfl ?_
    refine r_get C dX7_runText_27 fw_X7_runText_X7 0 rfl rfl 3 (by decide) rfl fl_X7_runText_29 rfl rfl ?_
    obtain ⟨r4, e4, hf⟩ := gd_b hf
    refine o_V (wn := [(h, oX7 A), ((A 0), oX5 A_0 now_holding now_wool now_day), ((A 1), oX5 A_1 r3.2.2.2.1 r3.2.2.2.2.1 r3.2.2.2.2.2), ((A 2), oX3 A_2 pad_count pad_awaited pad_actor pad_kind pad_amount), ((A 3), oX0 A_3 r4.1 r4.2.1 r4.2.2.1 r4.2.2.2.1 r4.2.2.2.2.1 r4.2.2.2.2.2), ((A_0 0), aI cI 10 now_yards), ((A_0 1), aI cI 10 now_feels), ((A_0 2), aI cI 9 now_lengths), ((A_1 0), aI cI 10 r3.1), ((A_1 1), aI cI 10 r3.2.1), ((A_1 2), aI cI 9 r3.2.2.1), ((A_1 3), aI cI 10 trial_plan), ((A_2 0), aI cI 60 pad_signs)]) C [4] rfl (x_V C dX7_runText_30 (c_X0_begin l D cI cZ cG (A 3) A_3 course_acts course_badAct course_badWhy course_drawnCount course_drawAct course_drawChild r4 e4) rfl gX7_runText_X0_begin hd_X0_begin rfl ⟨Nat.le_of_ble_eq_true rfl, Nat.le_of_ble_eq_true rfl⟩ ⟨rfl, rfl⟩ ⟨Nat.zero_le _, Nat.zero_le _⟩ rfl [4] rfl rfl 4 rfl rfl (Nat.le_of_ble_eq_true rfl) rfl) rfl rfl rfl ?_
    refine r_aload_n C dX7_runText_33 rfl 0 rfl rfl ?_
    refine r_get C dX7_runText_34 fw_X7_runText_X7 0 rfl rfl 2 (by decide) rfl fl_X7_runText_22 rfl rfl ?_
    obtain ⟨r5, e5, hf⟩ := gd_b hf
    refine o_V (wn := [(h, oX7 A), ((A 0), oX5 A_0 now_holding now_wool now_day), ((A 1), oX5 A_1 r3.2.2.2.1 r3.2.2.2.2.1 r3.2.2.2.2.2), ((A 2), oX3 A_2 pad_count r5.1 r5.2.1 r5.2.2.1 r5.2.2.2), ((A 3), oX0 A_3 r4.1 r4.2.1 r4.2.2.1 r4.2.2.2.1 r4.2.2.2.2.1 r4.2.2.2.2.2), ((A_0 0), aI cI 10 now_yards), ((A_0 1), aI cI 10 now_feels), ((A_0 2), aI cI 9 now_lengths), ((A_1 0), aI cI 10 r3.1), ((A_1 1), aI cI 10 r3.2.1), ((A_1 2), aI cI 9 r3.2.2.1), ((A_1 3), aI cI 10 trial_plan), ((A_2 0), aI cI 60 pad_signs)]) C [3] rfl (x_V C dX7_runText_37 (c_X3_beginActs l D cI cZ cG (A 2) A_2 pad_count pad_awaited pad_actor pad_kind pad_amount r5 e5) rfl gX7_runText_X3_beginActs hd_X3_beginActs rfl ⟨Nat.le_of_ble_eq_true rfl, Nat.le_of_ble_eq_true rfl⟩ ⟨rfl, rfl⟩ ⟨Nat.zero_le _, Nat.zero_le _⟩ rfl [3] rfl rfl 3 rfl rfl (Nat.le_of_ble_eq_true rfl) rfl) rfl rfl rfl ?_
    refine r_iconst C dX7_runText_40 kk_i_0 rfl ?_
    refine r_istore_n (lv' := [(1, .int (0 : Int32)), (0, .ref h)]) C dX7_runText_41 rfl (by decide) rfl rfl ?_
    refine r_lv (lv' := [(0, .ref h), (1, .int (0 : Int32))]) [1, 0] rfl ?_
    refine k_X7_runText_42 C h A A_0 A_1 A_2 A_3 now_yards now_feels now_lengths now_holding now_wool now_day pad_signs pad_count _ _ ?_ 2000 _ _ _ _ _ _ _ _ _ _ _ _ _ _ _ _ _ _ hf
    · intro trial_yards_11 trial_feels_12 trial_lengths_13 trial_plan_14 trial_holding_15 trial_wool_16 trial_day_17 pad_awaited_18 pad_actor_19 pad_kind_20 pad_amount_21 course_acts_22 course_badAct_23 course_badWhy_24 course_drawnCount_25 course_drawAct_26 course_drawChild_27 hf
      refine r_aload_n C dX7_runText_114 rfl 0 rfl rfl ?_
      refine r_get C dX7_runText_115 fw_X7_runText_X7 0 rfl rfl 3 (by decide) rfl fl_X7_runText_29 rfl rfl ?_
      refine r_get C dX7_runText_118 fw_X7_runText_X0 4 rfl rfl 1 (by decide) rfl fl_X7_runText_111 rfl rfl ?_
      refine r_bipush C dX7_runText_121 kk_b_m6 rfl ?_
      refine r_icmp_ne (tgt := 130) C dX7_runText_123 rfl rfl (fun c28 => ?_) (fun c28 => ?_)
      · have hf := gd_f c28 hf
        refine r_bipush C dX7_runText_130 kk_b_m3 rfl ?_
        cases hf
        exact r_iret C dX7_runText_132 rfl
      · have hf := gd_t c28 hf
        refine r_iconst C dX7_runText_126 kk_i_0 rfl ?_
        refine r_goto (tgt := 132) C dX7_runText_127 rfl ?_
        cases hf
        exact r_iret C dX7_runText_132 rfl
  · have hf := gd_f c2 hf
    refine r_bipush C dX7_runText_12 kk_b_m5 rfl ?_
    cases hf
    exact r_iret C dX7_runText_14 rfl
theorem fw_X7_judge_X7 : ∀ w ∈ u_ws RX7 TX7 9, w ∈ wsX7_judge := by decide +kernel
theorem fl_X7_judge_29 : Cond.fieldLink RX7 29 "MittenLine" "course" "LMittenLine$Course;" ∈ wsX7_judge := by decide +kernel
theorem fw_X7_judge_X0 : ∀ w ∈ u_ws RX0 TX0 6, w ∈ wsX7_judge := by decide +kernel
theorem fl_X7_judge_117 : Cond.fieldLink RX7 117 "MittenLine$Course" "drawnCount" "I" ∈ wsX7_judge := by decide +kernel
theorem fl_X7_judge_114 : Cond.fieldLink RX7 114 "MittenLine$Course" "badWhy" "I" ∈ wsX7_judge := by decide +kernel
theorem fl_X7_judge_111 : Cond.fieldLink RX7 111 "MittenLine$Course" "badAct" "I" ∈ wsX7_judge := by decide +kernel
abbrev rm_X7_judge : Jvm.Room := { frames := 8, cells := 0, slots := 0, locals := 181 }
def f_X7_judge (now_yards : Nat → Int32) (now_feels : Nat → Int32) (now_lengths : Nat → Int32) (now_holding : Int32) (now_wool : Int32) (now_day : Int32) (trial_yards : Nat → Int32) (trial_feels : Nat → Int32) (trial_lengths : Nat → Int32) (trial_plan : Nat → Int32) (trial_holding : Int32) (trial_wool : Int32) (trial_day : Int32) (pad_signs : Nat → Int32) (pad_count : Int32) (pad_awaited : Int32) (pad_actor : Int32) (pad_kind : Int32) (pad_amount : Int32) (course_acts : Int32) (course_badAct : Int32) (course_badWhy : Int32) (course_drawnCount : Int32) (course_drawAct : Int32) (course_drawChild : Int32) (u1 : Int32) : Option (Int32 × (Nat → Int32) × (Nat → Int32) × (Nat → Int32) × (Nat → Int32) × Int32 × Int32 × Int32 × Int32 × Int32 × Int32 × Int32 × Int32 × Int32 × Int32 × Int32 × Int32 × Int32) := (f_X7_isWithin u1 (0 : Int32) (2 : Int32)).bind (fun r1 => if r1 = 0 then some ((-2 : Int32), trial_yards, trial_feels, trial_lengths, trial_plan, trial_holding, trial_wool, trial_day, pad_awaited, pad_actor, pad_kind, pad_amount, course_acts, course_badAct, course_badWhy, course_drawnCount, course_drawAct, course_drawChild) else (f_X7_runText now_yards now_feels now_lengths now_holding now_wool now_day trial_yards trial_feels trial_lengths trial_plan trial_holding trial_wool trial_day pad_signs pad_count pad_awaited pad_actor pad_kind pad_amount course_acts course_badAct course_badWhy course_drawnCount course_drawAct course_drawChild).bind (fun r3 => if r3.1 = (-5 : Int32) then some ((-5 : Int32), r3.2.1, r3.2.2.1, r3.2.2.2.1, r3.2.2.2.2.1, r3.2.2.2.2.2.1, r3.2.2.2.2.2.2.1, r3.2.2.2.2.2.2.2.1, r3.2.2.2.2.2.2.2.2.1, r3.2.2.2.2.2.2.2.2.2.1, r3.2.2.2.2.2.2.2.2.2.2.1, r3.2.2.2.2.2.2.2.2.2.2.2.1, r3.2.2.2.2.2.2.2.2.2.2.2.2.1, r3.2.2.2.2.2.2.2.2.2.2.2.2.2.1, r3.2.2.2.2.2.2.2.2.2.2.2.2.2.2.1, r3.2.2.2.2.2.2.2.2.2.2.2.2.2.2.2.1, r3.2.2.2.2.2.2.2.2.2.2.2.2.2.2.2.2.1, r3.2.2.2.2.2.2.2.2.2.2.2.2.2.2.2.2.2) else if u1 = 0 then some (r3.2.2.2.2.2.2.2.2.2.2.2.2.2.1, r3.2.1, r3.2.2.1, r3.2.2.2.1, r3.2.2.2.2.1, r3.2.2.2.2.2.1, r3.2.2.2.2.2.2.1, r3.2.2.2.2.2.2.2.1, r3.2.2.2.2.2.2.2.2.1, r3.2.2.2.2.2.2.2.2.2.1, r3.2.2.2.2.2.2.2.2.2.2.1, r3.2.2.2.2.2.2.2.2.2.2.2.1, r3.2.2.2.2.2.2.2.2.2.2.2.2.1, r3.2.2.2.2.2.2.2.2.2.2.2.2.2.1, r3.2.2.2.2.2.2.2.2.2.2.2.2.2.2.1, r3.2.2.2.2.2.2.2.2.2.2.2.2.2.2.2.1, r3.2.2.2.2.2.2.2.2.2.2.2.2.2.2.2.2.1, r3.2.2.2.2.2.2.2.2.2.2.2.2.2.2.2.2.2) else if u1 = (1 : Int32) then some (r3.2.2.2.2.2.2.2.2.2.2.2.2.2.2.1, r3.2.1, r3.2.2.1, r3.2.2.2.1, r3.2.2.2.2.1, r3.2.2.2.2.2.1, r3.2.2.2.2.2.2.1, r3.2.2.2.2.2.2.2.1, r3.2.2.2.2.2.2.2.2.1, r3.2.2.2.2.2.2.2.2.2.1, r3.2.2.2.2.2.2.2.2.2.2.1, r3.2.2.2.2.2.2.2.2.2.2.2.1, r3.2.2.2.2.2.2.2.2.2.2.2.2.1, r3.2.2.2.2.2.2.2.2.2.2.2.2.2.1, r3.2.2.2.2.2.2.2.2.2.2.2.2.2.2.1, r3.2.2.2.2.2.2.2.2.2.2.2.2.2.2.2.1, r3.2.2.2.2.2.2.2.2.2.2.2.2.2.2.2.2.1, r3.2.2.2.2.2.2.2.2.2.2.2.2.2.2.2.2.2) else if r3.1 = (-3 : Int32) then some ((-3 : Int32), r3.2.1, r3.2.2.1, r3.2.2.2.1, r3.2.2.2.2.1, r3.2.2.2.2.2.1, r3.2.2.2.2.2.2.1, r3.2.2.2.2.2.2.2.1, r3.2.2.2.2.2.2.2.2.1, r3.2.2.2.2.2.2.2.2.2.1, r3.2.2.2.2.2.2.2.2.2.2.1, r3.2.2.2.2.2.2.2.2.2.2.2.1, r3.2.2.2.2.2.2.2.2.2.2.2.2.1, r3.2.2.2.2.2.2.2.2.2.2.2.2.2.1, r3.2.2.2.2.2.2.2.2.2.2.2.2.2.2.1, r3.2.2.2.2.2.2.2.2.2.2.2.2.2.2.2.1, r3.2.2.2.2.2.2.2.2.2.2.2.2.2.2.2.2.1, r3.2.2.2.2.2.2.2.2.2.2.2.2.2.2.2.2.2) else some (r3.2.2.2.2.2.2.2.2.2.2.2.2.2.2.2.1, r3.2.1, r3.2.2.1, r3.2.2.2.1, r3.2.2.2.2.1, r3.2.2.2.2.2.1, r3.2.2.2.2.2.2.1, r3.2.2.2.2.2.2.2.1, r3.2.2.2.2.2.2.2.2.1, r3.2.2.2.2.2.2.2.2.2.1, r3.2.2.2.2.2.2.2.2.2.2.1, r3.2.2.2.2.2.2.2.2.2.2.2.1, r3.2.2.2.2.2.2.2.2.2.2.2.2.1, r3.2.2.2.2.2.2.2.2.2.2.2.2.2.1, r3.2.2.2.2.2.2.2.2.2.2.2.2.2.2.1, r3.2.2.2.2.2.2.2.2.2.2.2.2.2.2.2.1, r3.2.2.2.2.2.2.2.2.2.2.2.2.2.2.2.2.1, r3.2.2.2.2.2.2.2.2.2.2.2.2.2.2.2.2.2)))
set_option maxHeartbeats 4000000 in
set_option maxRecDepth 100000 in
theorem c_X7_judge (l : Launch) (D : va_G) (cI cZ cG : ClassId) (h : Nat) (A A_0 A_1 A_2 A_3 : Nat → Nat) (now_yards : Nat → Int32) (now_feels : Nat → Int32) (now_lengths : Nat → Int32) (now_holding : Int32) (now_wool : Int32) (now_day : Int32) (trial_yards : Nat → Int32) (trial_feels : Nat → Int32) (trial_lengths : Nat → Int32) (trial_plan : Nat → Int32) (trial_holding : Int32) (trial_wool : Int32) (trial_day : Int32) (pad_signs : Nat → Int32) (pad_count : Int32) (pad_awaited : Int32) (pad_actor : Int32) (pad_kind : Int32) (pad_amount : Int32) (course_acts : Int32) (course_badAct : Int32) (course_badWhy : Int32) (course_drawnCount : Int32) (course_drawAct : Int32) (course_drawChild : Int32) (u1 : Int32) (res : Int32 × (Nat → Int32) × (Nat → Int32) × (Nat → Int32) × (Nat → Int32) × Int32 × Int32 × Int32 × Int32 × Int32 × Int32 × Int32 × Int32 × Int32 × Int32 × Int32 × Int32 × Int32) (hf : f_X7_judge now_yards now_feels now_lengths now_holding now_wool now_day trial_yards trial_feels trial_lengths trial_plan trial_holding trial_wool trial_day pad_signs pad_count pad_awaited pad_actor pad_kind pad_amount course_acts course_badAct course_badWhy course_drawnCount course_drawAct course_drawChild u1 = some res) : CI l D (tysW cI cZ cG) yX7_judge wsX7_judge rm_X7_judge [.ref h, .int u1] [(h, oX7 A), ((A 0), oX5 A_0 now_holding now_wool now_day), ((A 1), oX5 A_1 trial_holding trial_wool trial_day), ((A 2), oX3 A_2 pad_count pad_awaited pad_actor pad_kind pad_amount), ((A 3), oX0 A_3 course_acts course_badAct course_badWhy course_drawnCount course_drawAct course_drawChild), ((A_0 0), aI cI 10 now_yards), ((A_0 1), aI cI 10 now_feels), ((A_0 2), aI cI 9 now_lengths), ((A_1 0), aI cI 10 trial_yards), ((A_1 1), aI cI 10 trial_feels), ((A_1 2), aI cI 9 trial_lengths), ((A_1 3), aI cI 10 trial_plan), ((A_2 0), aI cI 60 pad_signs)] res.1 [(h, oX7 A), ((A 0), oX5 A_0 now_holding now_wool now_day), ((A 1), oX5 A_1 res.2.2.2.2.2.1 res.2.2.2.2.2.2.1 res.2.2.2.2.2.2.2.1), ((A 2), oX3 A_2 pad_count res.2.2.2.2.2.2.2.2.1 res.2.2.2.2.2.2.2.2.2.1 res.2.2.2.2.2.2.2.2.2.2.1 res.2.2.2.2.2.2.2.2.2.2.2.1), ((A 3), oX0 A_3 res.2.2.2.2.2.2.2.2.2.2.2.2.1 res.2.2.2.2.2.2.2.2.2.2.2.2.2.1 res.2.2.2.2.2.2.2.2.2.2.2.2.2.2.1 res.2.2.2.2.2.2.2.2.2.2.2.2.2.2.2.1 res.2.2.2.2.2.2.2.2.2.2.2.2.2.2.2.2.1 res.2.2.2.2.2.2.2.2.2.2.2.2.2.2.2.2.2), ((A_0 0), aI cI 10 now_yards), ((A_0 1), aI cI 10 now_feels), ((A_0 2), aI cI 9 now_lengths), ((A_1 0), aI cI 10 res.2.1), ((A_1 1), aI cI 10 res.2.2.1), ((A_1 2), aI cI 9 res.2.2.2.1), ((A_1 3), aI cI 10 res.2.2.2.2.1), ((A_2 0), aI cI 60 pad_signs)] := by
  refine CG.intro (own := RX7) (by decide +kernel) rfl rfl (Nat.le_of_ble_eq_true rfl) (fun p e s m args below meth c C => ?_)
  refine r_lv (lv' := [(0, .ref h), (1, .int u1)]) [0, 1] rfl ?_
  unfold f_X7_judge at hf
  refine r_iload_n C dX7_judge_0 rfl 1 rfl rfl ?_
  refine r_iconst C dX7_judge_1 kk_i_0 rfl ?_
  refine r_iconst C dX7_judge_2 kk_i_2 rfl ?_
  obtain ⟨r1, e1, hf⟩ := gd_b hf
  refine o_I (wn := [(h, oX7 A), ((A 0), oX5 A_0 now_holding now_wool now_day), ((A 1), oX5 A_1 trial_holding trial_wool trial_day), ((A 2), oX3 A_2 pad_count pad_awaited pad_actor pad_kind pad_amount), ((A 3), oX0 A_3 course_acts course_badAct course_badWhy course_drawnCount course_drawAct course_drawChild), ((A_0 0), aI cI 10 now_yards), ((A_0 1), aI cI 10 now_feels), ((A_0 2), aI cI 9 now_lengths), ((A_1 0), aI cI 10 trial_yards), ((A_1 1), aI cI 10 trial_feels), ((A_1 2), aI cI 9 trial_lengths), ((A_1 3), aI cI 10 trial_plan), ((A_2 0), aI cI 60 pad_signs)]) C [] rfl (x_S C dX7_judge_3 (c_X7_isWithin l D cI cZ cG u1 (0 : Int32) (2 : Int32) r1 e1) rfl gX7_judge_X7_isWithin hs_X7_isWithin rfl ⟨Nat.le_of_ble_eq_true rfl, Nat.le_of_ble_eq_true rfl⟩ ⟨rfl, rfl⟩ ⟨Nat.zero_le _, Nat.zero_le _⟩ rfl [] rfl rfl (Nat.le_of_ble_eq_true rfl) rfl) rfl rfl rfl ?_
  refine r_if_ne (y := 0) (tgt := 12) C dX7_judge_6 rfl rfl (fun c2 => ?_) (fun c2 => ?_)
  · have hf := gd_f c2 hf
    refine r_aload_n C dX7_judge_12 rfl 0 rfl rfl ?_
    obtain ⟨r3, e3, hf⟩ := gd_b hf
    refine o_I (wn := [(h, oX7 A), ((A 0), oX5 A_0 now_holding now_wool now_day), ((A 1), oX5 A_1 r3.2.2.2.2.2.1 r3.2.2.2.2.2.2.1 r3.2.2.2.2.2.2.2.1), ((A 2), oX3 A_2 pad_count r3.2.2.2.2.2.2.2.2.1 r3.2.2.2.2.2.2.2.2.2.1 r3.2.2.2.2.2.2.2.2.2.2.1 r3.2.2.2.2.2.2.2.2.2.2.2.1), ((A 3), oX0 A_3 r3.2.2.2.2.2.2.2.2.2.2.2.2.1 r3.2.2.2.2.2.2.2.2.2.2.2.2.2.1 r3.2.2.2.2.2.2.2.2.2.2.2.2.2.2.1 r3.2.2.2.2.2.2.2.2.2.2.2.2.2.2.2.1 r3.2.2.2.2.2.2.2.2.2.2.2.2.2.2.2.2.1 r3.2.2.2.2.2.2.2.2.2.2.2.2.2.2.2.2.2), ((A_0 0), aI cI 10 now_yards), ((A_0 1), aI cI 10 now_feels), ((A_0 2), aI cI 9 now_lengths), ((A_1 0), aI cI 10 r3.2.1), ((A_1 1), aI cI 10 r3.2.2.1), ((A_1 2), aI cI 9 r3.2.2.2.1), ((A_1 3), aI cI 10 r3.2.2.2.2.1), ((A_2 0), aI cI 60 pad_signs)]) C [0, 1, 2, 3, 4, 5, 6, 7, 8, 9, 10, 11, 12] rfl (x_V C dX7_judge_13 (c_X7_runText l D cI cZ cG h A A_0 A_1 A_2 A_3 now_yards now_feels now_lengths now_holding now_wool now_day trial_yards trial_feels trial_lengths trial_plan trial_holding trial_wool trial_day pad_signs pad_count pad_awaited pad_actor pad_kind pad_amount course_acts course_badAct course_badWhy course_drawnCount course_drawAct course_drawChild r3 e3) rfl gX7_judge_X7_runText hd_X7_runText rfl ⟨Nat.le_of_ble_eq_true rfl, Nat.le_of_ble_eq_true rfl⟩ ⟨rfl, rfl⟩ ⟨Nat.zero_le _, Nat.zero_le _⟩ rfl [0, 1, 2, 3, 4, 5, 6, 7, 8, 9, 10, 11, 12] rfl rfl 0 rfl rfl (Nat.le_of_ble_eq_true rfl) rfl) rfl rfl rfl ?_
    refine r_istore_n (lv' := [(2, .int r3.1), (0, .ref h), (1, .int u1)]) C dX7_judge_16 rfl (by decide) rfl rfl ?_
    refine r_iload_n C dX7_judge_17 rfl 0 rfl rfl ?_
    refine r_bipush C dX7_judge_18 kk_b_m5 rfl ?_
    refine r_icmp_ne (tgt := 26) C dX7_judge_20 rfl rfl (fun c4 => ?_) (fun c4 => ?_)
    · have hf := gd_f c4 hf
      refine r_iload_n C dX7_judge_26 rfl 2 rfl rfl ?_
      refine r_if_ne (y := 0) (tgt := 38) C dX7_judge_27 rfl rfl (fun c5 => ?_) (fun c5 => ?_)
      · have hf := gd_f c5 hf
        refine r_iload_n C dX7_judge_38 rfl 2 rfl rfl ?_
        refine r_iconst C dX7_judge_39 kk_i_1 rfl ?_
        refine r_icmp_ne (tgt := 51) C dX7_judge_40 rfl rfl (fun c6 => ?_) (fun c6 => ?_)
        · have hf := gd_f c6 hf
          refine r_iload_n C dX7_judge_51 rfl 0 rfl rfl ?_
          refine r_bipush C dX7_judge_52 kk_b_m3 rfl ?_
          refine r_icmp_ne (tgt := 62) C dX7_judge_54 rfl rfl (fun c7 => ?_) (fun c7 => ?_)
          · have hf := gd_f c7 hf
            refine r_aload_n C dX7_judge_62 rfl 1 rfl rfl ?_
            refine r_get C dX7_judge_63 fw_X7_judge_X7 0 rfl rfl 3 (by decide) rfl fl_X7_judge_29 rfl rfl ?_
            refine r_get C dX7_judge_66 fw_X7_judge_X0 4 rfl rfl 3 (by decide) rfl fl_X7_judge_117 rfl rfl ?_
            cases hf
            exact r_iret C dX7_judge_69 rfl
          · have hf := gd_t c7 hf
            refine r_bipush C dX7_judge_57 kk_b_m3 rfl ?_
            refine r_goto (tgt := 69) C dX7_judge_59 rfl ?_
            cases hf
            exact r_iret C dX7_judge_69 rfl
        · have hf := gd_t c6 hf
          refine r_aload_n C dX7_judge_43 rfl 1 rfl rfl ?_
          refine r_get C dX7_judge_44 fw_X7_judge_X7 0 rfl rfl 3 (by decide) rfl fl_X7_judge_29 rfl rfl ?_
          refine r_get C dX7_judge_47 fw_X7_judge_X0 4 rfl rfl 2 (by decide) rfl fl_X7_judge_114 rfl rfl ?_
          cases hf
          exact r_iret C dX7_judge_50 rfl
      · have hf := gd_t c5 hf
        refine r_aload_n C dX7_judge_30 rfl 1 rfl rfl ?_
        refine r_get C dX7_judge_31 fw_X7_judge_X7 0 rfl rfl 3 (by decide) rfl fl_X7_judge_29 rfl rfl ?_
        refine r_get C dX7_judge_34 fw_X7_judge_X0 4 rfl rfl 1 (by decide) rfl fl_X7_judge_111 rfl rfl ?_
        cases hf
        exact r_iret C dX7_judge_37 rfl
    · have hf := gd_t c4 hf
      refine r_bipush C dX7_judge_23 kk_b_m5 rfl ?_
      cases hf
      exact r_iret C dX7_judge_25 rfl
  · have hf := gd_t c2 hf
    refine r_bipush C dX7_judge_9 kk_b_m2 rfl ?_
    cases hf
    exact r_iret C dX7_judge_11 rfl
theorem fw_X7_behind_X7 : ∀ w ∈ u_ws RX7 TX7 9, w ∈ wsX7_behind := by decide +kernel
theorem fl_X7_behind_16 : Cond.fieldLink RX7 16 "MittenLine" "trial" "LMittenLine$Row;" ∈ wsX7_behind := by decide +kernel
theorem fw_X7_behind_X5 : ∀ w ∈ u_ws RX5 TX5 7, w ∈ wsX7_behind := by decide +kernel
theorem fl_X7_behind_120 : Cond.fieldLink RX7 120 "MittenLine$Row" "feels" "[I" ∈ wsX7_behind := by decide +kernel
theorem fl_X7_behind_72 : Cond.fieldLink RX7 72 "MittenLine$Row" "yards" "[I" ∈ wsX7_behind := by decide +kernel
abbrev rm_X7_behind : Jvm.Room := { frames := 8, cells := 0, slots := 0, locals := 181 }
def f_X7_behind (now_yards : Nat → Int32) (now_feels : Nat → Int32) (now_lengths : Nat → Int32) (now_holding : Int32) (now_wool : Int32) (now_day : Int32) (trial_yards : Nat → Int32) (trial_feels : Nat → Int32) (trial_lengths : Nat → Int32) (trial_plan : Nat → Int32) (trial_holding : Int32) (trial_wool : Int32) (trial_day : Int32) (pad_signs : Nat → Int32) (pad_count : Int32) (pad_awaited : Int32) (pad_actor : Int32) (pad_kind : Int32) (pad_amount : Int32) (course_acts : Int32) (course_badAct : Int32) (course_badWhy : Int32) (course_drawnCount : Int32) (course_drawAct : Int32) (course_drawChild : Int32) (u1 : Int32) (u2 : Int32) : Option (Int32 × (Nat → Int32) × (Nat → Int32) × (Nat → Int32) × (Nat → Int32) × Int32 × Int32 × Int32 × Int32 × Int32 × Int32 × Int32 × Int32 × Int32 × Int32 × Int32 × Int32 × Int32) := (f_X7_isWithin u1 (0 : Int32) (9 : Int32)).bind (fun r1 => if r1 = 0 then some ((-1 : Int32), trial_yards, trial_feels, trial_lengths, trial_plan, trial_holding, trial_wool, trial_day, pad_awaited, pad_actor, pad_kind, pad_amount, course_acts, course_badAct, course_badWhy, course_drawnCount, course_drawAct, course_drawChild) else (f_X7_isWithin u2 (0 : Int32) (2 : Int32)).bind (fun r3 => if r3 = 0 then some ((-2 : Int32), trial_yards, trial_feels, trial_lengths, trial_plan, trial_holding, trial_wool, trial_day, pad_awaited, pad_actor, pad_kind, pad_amount, course_acts, course_badAct, course_badWhy, course_drawnCount, course_drawAct, course_drawChild) else (f_X7_runText now_yards now_feels now_lengths now_holding now_wool now_day trial_yards trial_feels trial_lengths trial_plan trial_holding trial_wool trial_day pad_signs pad_count pad_awaited pad_actor pad_kind pad_amount course_acts course_badAct course_badWhy course_drawnCount course_drawAct course_drawChild).bind (fun r5 => if r5.1 = 0 then if u2 = 0 then if u1 < 0 ∨ 10 ≤ u1.toNatClampNeg then none else some ((r5.2.1 u1.toNatClampNeg), r5.2.1, r5.2.2.1, r5.2.2.2.1, r5.2.2.2.2.1, r5.2.2.2.2.2.1, r5.2.2.2.2.2.2.1, r5.2.2.2.2.2.2.2.1, r5.2.2.2.2.2.2.2.2.1, r5.2.2.2.2.2.2.2.2.2.1, r5.2.2.2.2.2.2.2.2.2.2.1, r5.2.2.2.2.2.2.2.2.2.2.2.1, r5.2.2.2.2.2.2.2.2.2.2.2.2.1, r5.2.2.2.2.2.2.2.2.2.2.2.2.2.1, r5.2.2.2.2.2.2.2.2.2.2.2.2.2.2.1, r5.2.2.2.2.2.2.2.2.2.2.2.2.2.2.2.1, r5.2.2.2.2.2.2.2.2.2.2.2.2.2.2.2.2.1, r5.2.2.2.2.2.2.2.2.2.2.2.2.2.2.2.2.2) else if u2 = (1 : Int32) then if u1 < 0 ∨ 10 ≤ u1.toNatClampNeg then none else some ((r5.2.2.1 u1.toNatClampNeg), r5.2.1, r5.2.2.1, r5.2.2.2.1, r5.2.2.2.2.1, r5.2.2.2.2.2.1, r5.2.2.2.2.2.2.1, r5.2.2.2.2.2.2.2.1, r5.2.2.2.2.2.2.2.2.1, r5.2.2.2.2.2.2.2.2.2.1, r5.2.2.2.2.2.2.2.2.2.2.1, r5.2.2.2.2.2.2.2.2.2.2.2.1, r5.2.2.2.2.2.2.2.2.2.2.2.2.1, r5.2.2.2.2.2.2.2.2.2.2.2.2.2.1, r5.2.2.2.2.2.2.2.2.2.2.2.2.2.2.1, r5.2.2.2.2.2.2.2.2.2.2.2.2.2.2.2.1, r5.2.2.2.2.2.2.2.2.2.2.2.2.2.2.2.2.1, r5.2.2.2.2.2.2.2.2.2.2.2.2.2.2.2.2.2) else (f_X5_holdsFast r5.2.2.2.2.2.1 u1).bind (fun r9 => if r9 = 0 then some ((0 : Int32), r5.2.1, r5.2.2.1, r5.2.2.2.1, r5.2.2.2.2.1, r5.2.2.2.2.2.1, r5.2.2.2.2.2.2.1, r5.2.2.2.2.2.2.2.1, r5.2.2.2.2.2.2.2.2.1, r5.2.2.2.2.2.2.2.2.2.1, r5.2.2.2.2.2.2.2.2.2.2.1, r5.2.2.2.2.2.2.2.2.2.2.2.1, r5.2.2.2.2.2.2.2.2.2.2.2.2.1, r5.2.2.2.2.2.2.2.2.2.2.2.2.2.1, r5.2.2.2.2.2.2.2.2.2.2.2.2.2.2.1, r5.2.2.2.2.2.2.2.2.2.2.2.2.2.2.2.1, r5.2.2.2.2.2.2.2.2.2.2.2.2.2.2.2.2.1, r5.2.2.2.2.2.2.2.2.2.2.2.2.2.2.2.2.2) else some ((1 : Int32), r5.2.1, r5.2.2.1, r5.2.2.2.1, r5.2.2.2.2.1, r5.2.2.2.2.2.1, r5.2.2.2.2.2.2.1, r5.2.2.2.2.2.2.2.1, r5.2.2.2.2.2.2.2.2.1, r5.2.2.2.2.2.2.2.2.2.1, r5.2.2.2.2.2.2.2.2.2.2.1, r5.2.2.2.2.2.2.2.2.2.2.2.1, r5.2.2.2.2.2.2.2.2.2.2.2.2.1, r5.2.2.2.2.2.2.2.2.2.2.2.2.2.1, r5.2.2.2.2.2.2.2.2.2.2.2.2.2.2.1, r5.2.2.2.2.2.2.2.2.2.2.2.2.2.2.2.1, r5.2.2.2.2.2.2.2.2.2.2.2.2.2.2.2.2.1, r5.2.2.2.2.2.2.2.2.2.2.2.2.2.2.2.2.2)) else some (r5.1, r5.2.1, r5.2.2.1, r5.2.2.2.1, r5.2.2.2.2.1, r5.2.2.2.2.2.1, r5.2.2.2.2.2.2.1, r5.2.2.2.2.2.2.2.1, r5.2.2.2.2.2.2.2.2.1, r5.2.2.2.2.2.2.2.2.2.1, r5.2.2.2.2.2.2.2.2.2.2.1, r5.2.2.2.2.2.2.2.2.2.2.2.1, r5.2.2.2.2.2.2.2.2.2.2.2.2.1, r5.2.2.2.2.2.2.2.2.2.2.2.2.2.1, r5.2.2.2.2.2.2.2.2.2.2.2.2.2.2.1, r5.2.2.2.2.2.2.2.2.2.2.2.2.2.2.2.1, r5.2.2.2.2.2.2.2.2.2.2.2.2.2.2.2.2.1, r5.2.2.2.2.2.2.2.2.2.2.2.2.2.2.2.2.2))))
set_option maxHeartbeats 4000000 in
set_option maxRecDepth 100000 in
theorem c_X7_behind (l : Launch) (D : va_G) (cI cZ cG : ClassId) (h : Nat) (A A_0 A_1 A_2 A_3 : Nat → Nat) (now_yards : Nat → Int32) (now_feels : Nat → Int32) (now_lengths : Nat → Int32) (now_holding : Int32) (now_wool : Int32) (now_day : Int32) (trial_yards : Nat → Int32) (trial_feels : Nat → Int32) (trial_lengths : Nat → Int32) (trial_plan : Nat → Int32) (trial_holding : Int32) (trial_wool : Int32) (trial_day : Int32) (pad_signs : Nat → Int32) (pad_count : Int32) (pad_awaited : Int32) (pad_actor : Int32) (pad_kind : Int32) (pad_amount : Int32) (course_acts : Int32) (course_badAct : Int32) (course_badWhy : Int32) (course_drawnCount : Int32) (course_drawAct : Int32) (course_drawChild : Int32) (u1 : Int32) (u2 : Int32) (res : Int32 × (Nat → Int32) × (Nat → Int32) × (Nat → Int32) × (Nat → Int32) × Int32 × Int32 × Int32 × Int32 × Int32 × Int32 × Int32 × Int32 × Int32 × Int32 × Int32 × Int32 × Int32) (hf : f_X7_behind now_yards now_feels now_lengths now_holding now_wool now_day trial_yards trial_feels trial_lengths trial_plan trial_holding trial_wool trial_day pad_signs pad_count pad_awaited pad_actor pad_kind pad_amount course_acts course_badAct course_badWhy course_drawnCount course_drawAct course_drawChild u1 u2 = some res) : CI l D (tysW cI cZ cG) yX7_behind wsX7_behind rm_X7_behind [.ref h, .int u1, .int u2] [(h, oX7 A), ((A 0), oX5 A_0 now_holding now_wool now_day), ((A 1), oX5 A_1 trial_holding trial_wool trial_day), ((A 2), oX3 A_2 pad_count pad_awaited pad_actor pad_kind pad_amount), ((A 3), oX0 A_3 course_acts course_badAct course_badWhy course_drawnCount course_drawAct course_drawChild), ((A_0 0), aI cI 10 now_yards), ((A_0 1), aI cI 10 now_feels), ((A_0 2), aI cI 9 now_lengths), ((A_1 0), aI cI 10 trial_yards), ((A_1 1), aI cI 10 trial_feels), ((A_1 2), aI cI 9 trial_lengths), ((A_1 3), aI cI 10 trial_plan), ((A_2 0), aI cI 60 pad_signs)] res.1 [(h, oX7 A), ((A 0), oX5 A_0 now_holding now_wool now_day), ((A 1), oX5 A_1 res.2.2.2.2.2.1 res.2.2.2.2.2.2.1 res.2.2.2.2.2.2.2.1), ((A 2), oX3 A_2 pad_count res.2.2.2.2.2.2.2.2.1 res.2.2.2.2.2.2.2.2.2.1 res.2.2.2.2.2.2.2.2.2.2.1 res.2.2.2.2.2.2.2.2.2.2.2.1), ((A 3), oX0 A_3 res.2.2.2.2.2.2.2.2.2.2.2.2.1 res.2.2.2.2.2.2.2.2.2.2.2.2.2.1 res.2.2.2.2.2.2.2.2.2.2.2.2.2.2.1 res.2.2.2.2.2.2.2.2.2.2.2.2.2.2.2.1 res.2.2.2.2.2.2.2.2.2.2.2.2.2.2.2.2.1 res.2.2.2.2.2.2.2.2.2.2.2.2.2.2.2.2.2), ((A_0 0), aI cI 10 now_yards), ((A_0 1), aI cI 10 now_feels), ((A_0 2), aI cI 9 now_lengths), ((A_1 0), aI cI 10 res.2.1), ((A_1 1), aI cI 10 res.2.2.1), ((A_1 2), aI cI 9 res.2.2.2.1), ((A_1 3), aI cI 10 res.2.2.2.2.1), ((A_2 0), aI cI 60 pad_signs)] := by
  refine CG.intro (own := RX7) (by decide +kernel) rfl rfl (Nat.le_of_ble_eq_true rfl) (fun p e s m args below meth c C => ?_)
  refine r_lv (lv' := [(0, .ref h), (1, .int u1), (2, .int u2)]) [0, 1, 2] rfl ?_
  unfold f_X7_behind at hf
  refine r_iload_n C dX7_behind_0 rfl 1 rfl rfl ?_
  refine r_iconst C dX7_behind_1 kk_i_0 rfl ?_
  refine r_bipush C dX7_behind_2 kk_b_9 rfl ?_
  obtain ⟨r1, e1, hf⟩ := gd_b hf
  refine o_I (wn := [(h, oX7 A), ((A 0), oX5 A_0 now_holding now_wool now_day), ((A 1), oX5 A_1 trial_holding trial_wool trial_day), ((A 2), oX3 A_2 pad_count pad_awaited pad_actor pad_kind pad_amount), ((A 3), oX0 A_3 course_acts course_badAct course_badWhy course_drawnCount course_drawAct course_drawChild), ((A_0 0), aI cI 10 now_yards), ((A_0 1), aI cI 10 now_feels), ((A_0 2), aI cI 9 now_lengths), ((A_1 0), aI cI 10 trial_yards), ((A_1 1), aI cI 10 trial_feels), ((A_1 2), aI cI 9 trial_lengths), ((A_1 3), aI cI 10 trial_plan), ((A_2 0), aI cI 60 pad_signs)]) C [] rfl (x_S C dX7_behind_4 (c_X7_isWithin l D cI cZ cG u1 (0 : Int32) (9 : Int32) r1 e1) rfl gX7_behind_X7_isWithin hs_X7_isWithin rfl ⟨Nat.le_of_ble_eq_true rfl, Nat.le_of_ble_eq_true rfl⟩ ⟨rfl, rfl⟩ ⟨Nat.zero_le _, Nat.zero_le _⟩ rfl [] rfl rfl (Nat.le_of_ble_eq_true rfl) rfl) rfl rfl rfl ?_
  refine r_if_ne (y := 0) (tgt := 12) C dX7_behind_7 rfl rfl (fun c2 => ?_) (fun c2 => ?_)
  · have hf := gd_f c2 hf
    refine r_iload_n C dX7_behind_12 rfl 2 rfl rfl ?_
    refine r_iconst C dX7_behind_13 kk_i_0 rfl ?_
    refine r_iconst C dX7_behind_14 kk_i_2 rfl ?_
    obtain ⟨r3, e3, hf⟩ := gd_b hf
    refine o_I (wn := [(h, oX7 A), ((A 0), oX5 A_0 now_holding now_wool now_day), ((A 1), oX5 A_1 trial_holding trial_wool trial_day), ((A 2), oX3 A_2 pad_count pad_awaited pad_actor pad_kind pad_amount), ((A 3), oX0 A_3 course_acts course_badAct course_badWhy course_drawnCount course_drawAct course_drawChild), ((A_0 0), aI cI 10 now_yards), ((A_0 1), aI cI 10 now_feels), ((A_0 2), aI cI 9 now_lengths), ((A_1 0), aI cI 10 trial_yards), ((A_1 1), aI cI 10 trial_feels), ((A_1 2), aI cI 9 trial_lengths), ((A_1 3), aI cI 10 trial_plan), ((A_2 0), aI cI 60 pad_signs)]) C [] rfl (x_S C dX7_behind_15 (c_X7_isWithin l D cI cZ cG u2 (0 : Int32) (2 : Int32) r3 e3) rfl gX7_behind_X7_isWithin hs_X7_isWithin rfl ⟨Nat.le_of_ble_eq_true rfl, Nat.le_of_ble_eq_true rfl⟩ ⟨rfl, rfl⟩ ⟨Nat.zero_le _, Nat.zero_le _⟩ rfl [] rfl rfl (Nat.le_of_ble_eq_true rfl) rfl) rfl rfl rfl ?_
    refine r_if_ne (y := 0) (tgt := 24) C dX7_behind_18 rfl rfl (fun c4 => ?_) (fun c4 => ?_)
    · have hf := gd_f c4 hf
      refine r_aload_n C dX7_behind_24 rfl 0 rfl rfl ?_
      obtain ⟨r5, e5, hf⟩ := gd_b hf
      refine o_I (wn := [(h, oX7 A), ((A 0), oX5 A_0 now_holding now_wool now_day), ((A 1), oX5 A_1 r5.2.2.2.2.2.1 r5.2.2.2.2.2.2.1 r5.2.2.2.2.2.2.2.1), ((A 2), oX3 A_2 pad_count r5.2.2.2.2.2.2.2.2.1 r5.2.2.2.2.2.2.2.2.2.1 r5.2.2.2.2.2.2.2.2.2.2.1 r5.2.2.2.2.2.2.2.2.2.2.2.1), ((A 3), oX0 A_3 r5.2.2.2.2.2.2.2.2.2.2.2.2.1 r5.2.2.2.2.2.2.2.2.2.2.2.2.2.1 r5.2.2.2.2.2.2.2.2.2.2.2.2.2.2.1 r5.2.2.2.2.2.2.2.2.2.2.2.2.2.2.2.1 r5.2.2.2.2.2.2.2.2.2.2.2.2.2.2.2.2.1 r5.2.2.2.2.2.2.2.2.2.2.2.2.2.2.2.2.2), ((A_0 0), aI cI 10 now_yards), ((A_0 1), aI cI 10 now_feels), ((A_0 2), aI cI 9 now_lengths), ((A_1 0), aI cI 10 r5.2.1), ((A_1 1), aI cI 10 r5.2.2.1), ((A_1 2), aI cI 9 r5.2.2.2.1), ((A_1 3), aI cI 10 r5.2.2.2.2.1), ((A_2 0), aI cI 60 pad_signs)]) C [0, 1, 2, 3, 4, 5, 6, 7, 8, 9, 10, 11, 12] rfl (x_V C dX7_behind_25 (c_X7_runText l D cI cZ cG h A A_0 A_1 A_2 A_3 now_yards now_feels now_lengths now_holding now_wool now_day trial_yards trial_feels trial_lengths trial_plan trial_holding trial_wool trial_day pad_signs pad_count pad_awaited pad_actor pad_kind pad_amount course_acts course_badAct course_badWhy course_drawnCount course_drawAct course_drawChild r5 e5) rfl gX7_behind_X7_runText hd_X7_runText rfl ⟨Nat.le_of_ble_eq_true rfl, Nat.le_of_ble_eq_true rfl⟩ ⟨rfl, rfl⟩ ⟨Nat.zero_le _, Nat.zero_le _⟩ rfl [0, 1, 2, 3, 4, 5, 6, 7, 8, 9, 10, 11, 12] rfl rfl 0 rfl rfl (Nat.le_of_ble_eq_true rfl) rfl) rfl rfl rfl ?_
      refine r_istore_n (lv' := [(3, .int r5.1), (0, .ref h), (1, .int u1), (2, .int u2)]) C dX7_behind_28 rfl (by decide) rfl rfl ?_
      refine r_iload_n C dX7_behind_29 rfl 0 rfl rfl ?_
      refine r_if_eq (y := 0) (tgt := 35) C dX7_behind_30 rfl rfl (fun c6 => ?_) (fun c6 => ?_)
      · have hf := gd_t c6 hf
        refine r_iload_n C dX7_behind_35 rfl 3 rfl rfl ?_
        refine r_if_ne (y := 0) (tgt := 49) C dX7_behind_36 rfl rfl (fun c7 => ?_) (fun c7 => ?_)
        · have hf := gd_f c7 hf
          refine r_iload_n C dX7_behind_49 rfl 3 rfl rfl ?_
          refine r_iconst C dX7_behind_50 kk_i_1 rfl ?_
          refine r_icmp_ne (tgt := 64) C dX7_behind_51 rfl rfl (fun c8 => ?_) (fun c8 => ?_)
          · have hf := gd_f c8 hf
            refine r_aload_n C dX7_behind_64 rfl 1 rfl rfl ?_
            refine r_get C dX7_behind_65 fw_X7_behind_X7 0 rfl rfl 1 (by decide) rfl fl_X7_behind_16 rfl rfl ?_
            refine r_iload_n C dX7_behind_68 rfl 2 rfl rfl ?_
            obtain ⟨r9, e9, hf⟩ := gd_b hf
            refine o_I (wn := [(h, oX7 A), ((A 0), oX5 A_0 now_holding now_wool now_day), ((A 1), oX5 A_1 r5.2.2.2.2.2.1 r5.2.2.2.2.2.2.1 r5.2.2.2.2.2.2.2.1), ((A 2), oX3 A_2 pad_count r5.2.2.2.2.2.2.2.2.1 r5.2.2.2.2.2.2.2.2.2.1 r5.2.2.2.2.2.2.2.2.2.2.1 r5.2.2.2.2.2.2.2.2.2.2.2.1), ((A 3), oX0 A_3 r5.2.2.2.2.2.2.2.2.2.2.2.2.1 r5.2.2.2.2.2.2.2.2.2.2.2.2.2.1 r5.2.2.2.2.2.2.2.2.2.2.2.2.2.2.1 r5.2.2.2.2.2.2.2.2.2.2.2.2.2.2.2.1 r5.2.2.2.2.2.2.2.2.2.2.2.2.2.2.2.2.1 r5.2.2.2.2.2.2.2.2.2.2.2.2.2.2.2.2.2), ((A_0 0), aI cI 10 now_yards), ((A_0 1), aI cI 10 now_feels), ((A_0 2), aI cI 9 now_lengths), ((A_1 0), aI cI 10 r5.2.1), ((A_1 1), aI cI 10 r5.2.2.1), ((A_1 2), aI cI 9 r5.2.2.2.1), ((A_1 3), aI cI 10 r5.2.2.2.2.1), ((A_2 0), aI cI 60 pad_signs)]) C [2] rfl (x_V C dX7_behind_69 (c_X5_holdsFast l D cI cZ cG (A 1) A_1 r5.2.2.2.2.2.1 r5.2.2.2.2.2.2.1 r5.2.2.2.2.2.2.2.1 u1 r9 e9) rfl gX7_behind_X5_holdsFast hd_X5_holdsFast rfl ⟨Nat.le_of_ble_eq_true rfl, Nat.le_of_ble_eq_true rfl⟩ ⟨rfl, rfl⟩ ⟨Nat.zero_le _, Nat.zero_le _⟩ rfl [2] rfl rfl 2 rfl rfl (Nat.le_of_ble_eq_true rfl) rfl) rfl rfl rfl ?_
            refine r_if_eq (y := 0) (tgt := 79) C dX7_behind_72 rfl rfl (fun c10 => ?_) (fun c10 => ?_)
            · have hf := gd_t c10 hf
              refine r_iconst C dX7_behind_79 kk_i_0 rfl ?_
              cases hf
              exact r_iret C dX7_behind_80 rfl
            · have hf := gd_f c10 hf
              refine r_iconst C dX7_behind_75 kk_i_1 rfl ?_
              refine r_goto (tgt := 80) C dX7_behind_76 rfl ?_
              cases hf
              exact r_iret C dX7_behind_80 rfl
          · have hf := gd_t c8 hf
            refine r_aload_n C dX7_behind_54 rfl 1 rfl rfl ?_
            refine r_get C dX7_behind_55 fw_X7_behind_X7 0 rfl rfl 1 (by decide) rfl fl_X7_behind_16 rfl rfl ?_
            refine r_get C dX7_behind_58 fw_X7_behind_X5 2 rfl rfl 1 (by decide) rfl fl_X7_behind_120 rfl rfl ?_
            refine r_iload_n C dX7_behind_61 rfl 2 rfl rfl ?_
            obtain ⟨g11, hf⟩ := gd_n hf
            refine r_iald C dX7_behind_62 9 0 rfl rfl g11 rfl ?_
            cases hf
            exact r_iret C dX7_behind_63 rfl
        · have hf := gd_t c7 hf
          refine r_aload_n C dX7_behind_39 rfl 1 rfl rfl ?_
          refine r_get C dX7_behind_40 fw_X7_behind_X7 0 rfl rfl 1 (by decide) rfl fl_X7_behind_16 rfl rfl ?_
          refine r_get C dX7_behind_43 fw_X7_behind_X5 2 rfl rfl 0 (by decide) rfl fl_X7_behind_72 rfl rfl ?_
          refine r_iload_n C dX7_behind_46 rfl 2 rfl rfl ?_
          obtain ⟨g12, hf⟩ := gd_n hf
          refine r_iald C dX7_behind_47 8 0 rfl rfl g12 rfl ?_
          cases hf
          exact r_iret C dX7_behind_48 rfl
      · have hf := gd_f c6 hf
        refine r_iload_n C dX7_behind_33 rfl 0 rfl rfl ?_
        cases hf
        exact r_iret C dX7_behind_34 rfl
    · have hf := gd_t c4 hf
      refine r_bipush C dX7_behind_21 kk_b_m2 rfl ?_
      cases hf
      exact r_iret C dX7_behind_23 rfl
  · have hf := gd_t c2 hf
    refine r_iconst C dX7_behind_10 kk_i_m1 rfl ?_
    cases hf
    exact r_iret C dX7_behind_11 rfl
theorem fw_X7_line_X7 : ∀ w ∈ u_ws RX7 TX7 9, w ∈ wsX7_line := by decide +kernel
theorem fl_X7_line_16 : Cond.fieldLink RX7 16 "MittenLine" "trial" "LMittenLine$Row;" ∈ wsX7_line := by decide +kernel
theorem fw_X7_line_X5 : ∀ w ∈ u_ws RX5 TX5 7, w ∈ wsX7_line := by decide +kernel
theorem fl_X7_line_129 : Cond.fieldLink RX7 129 "MittenLine$Row" "day" "I" ∈ wsX7_line := by decide +kernel
theorem fl_X7_line_91 : Cond.fieldLink RX7 91 "MittenLine$Row" "wool" "I" ∈ wsX7_line := by decide +kernel
abbrev rm_X7_line : Jvm.Room := { frames := 8, cells := 0, slots := 0, locals := 181 }
def f_X7_line (now_yards : Nat → Int32) (now_feels : Nat → Int32) (now_lengths : Nat → Int32) (now_holding : Int32) (now_wool : Int32) (now_day : Int32) (trial_yards : Nat → Int32) (trial_feels : Nat → Int32) (trial_lengths : Nat → Int32) (trial_plan : Nat → Int32) (trial_holding : Int32) (trial_wool : Int32) (trial_day : Int32) (pad_signs : Nat → Int32) (pad_count : Int32) (pad_awaited : Int32) (pad_actor : Int32) (pad_kind : Int32) (pad_amount : Int32) (course_acts : Int32) (course_badAct : Int32) (course_badWhy : Int32) (course_drawnCount : Int32) (course_drawAct : Int32) (course_drawChild : Int32) (u1 : Int32) : Option (Int32 × (Nat → Int32) × (Nat → Int32) × (Nat → Int32) × (Nat → Int32) × Int32 × Int32 × Int32 × Int32 × Int32 × Int32 × Int32 × Int32 × Int32 × Int32 × Int32 × Int32 × Int32) := (f_X7_isWithin u1 (0 : Int32) (3 : Int32)).bind (fun r1 => if r1 = 0 then some ((-2 : Int32), trial_yards, trial_feels, trial_lengths, trial_plan, trial_holding, trial_wool, trial_day, pad_awaited, pad_actor, pad_kind, pad_amount, course_acts, course_badAct, course_badWhy, course_drawnCount, course_drawAct, course_drawChild) else (f_X7_runText now_yards now_feels now_lengths now_holding now_wool now_day trial_yards trial_feels trial_lengths trial_plan trial_holding trial_wool trial_day pad_signs pad_count pad_awaited pad_actor pad_kind pad_amount course_acts course_badAct course_badWhy course_drawnCount course_drawAct course_drawChild).bind (fun r3 => if r3.1 = 0 then if u1 = 0 then (f_X5_tautBits r3.2.1 r3.2.2.2.1).bind (fun r9 => some (r9, r3.2.1, r3.2.2.1, r3.2.2.2.1, r3.2.2.2.2.1, r3.2.2.2.2.2.1, r3.2.2.2.2.2.2.1, r3.2.2.2.2.2.2.2.1, r3.2.2.2.2.2.2.2.2.1, r3.2.2.2.2.2.2.2.2.2.1, r3.2.2.2.2.2.2.2.2.2.2.1, r3.2.2.2.2.2.2.2.2.2.2.2.1, r3.2.2.2.2.2.2.2.2.2.2.2.2.1, r3.2.2.2.2.2.2.2.2.2.2.2.2.2.1, r3.2.2.2.2.2.2.2.2.2.2.2.2.2.2.1, r3.2.2.2.2.2.2.2.2.2.2.2.2.2.2.2.1, r3.2.2.2.2.2.2.2.2.2.2.2.2.2.2.2.2.1, r3.2.2.2.2.2.2.2.2.2.2.2.2.2.2.2.2.2)) else if u1 = (1 : Int32) then some (r3.2.2.2.2.2.2.1, r3.2.1, r3.2.2.1, r3.2.2.2.1, r3.2.2.2.2.1, r3.2.2.2.2.2.1, r3.2.2.2.2.2.2.1, r3.2.2.2.2.2.2.2.1, r3.2.2.2.2.2.2.2.2.1, r3.2.2.2.2.2.2.2.2.2.1, r3.2.2.2.2.2.2.2.2.2.2.1, r3.2.2.2.2.2.2.2.2.2.2.2.1, r3.2.2.2.2.2.2.2.2.2.2.2.2.1, r3.2.2.2.2.2.2.2.2.2.2.2.2.2.1, r3.2.2.2.2.2.2.2.2.2.2.2.2.2.2.1, r3.2.2.2.2.2.2.2.2.2.2.2.2.2.2.2.1, r3.2.2.2.2.2.2.2.2.2.2.2.2.2.2.2.2.1, r3.2.2.2.2.2.2.2.2.2.2.2.2.2.2.2.2.2) else if u1 = (2 : Int32) then (f_X5_allLengths r3.2.2.2.1).bind (fun r8 => some (r8, r3.2.1, r3.2.2.1, r3.2.2.2.1, r3.2.2.2.2.1, r3.2.2.2.2.2.1, r3.2.2.2.2.2.2.1, r3.2.2.2.2.2.2.2.1, r3.2.2.2.2.2.2.2.2.1, r3.2.2.2.2.2.2.2.2.2.1, r3.2.2.2.2.2.2.2.2.2.2.1, r3.2.2.2.2.2.2.2.2.2.2.2.1, r3.2.2.2.2.2.2.2.2.2.2.2.2.1, r3.2.2.2.2.2.2.2.2.2.2.2.2.2.1, r3.2.2.2.2.2.2.2.2.2.2.2.2.2.2.1, r3.2.2.2.2.2.2.2.2.2.2.2.2.2.2.2.1, r3.2.2.2.2.2.2.2.2.2.2.2.2.2.2.2.2.1, r3.2.2.2.2.2.2.2.2.2.2.2.2.2.2.2.2.2)) else some (r3.2.2.2.2.2.2.2.1, r3.2.1, r3.2.2.1, r3.2.2.2.1, r3.2.2.2.2.1, r3.2.2.2.2.2.1, r3.2.2.2.2.2.2.1, r3.2.2.2.2.2.2.2.1, r3.2.2.2.2.2.2.2.2.1, r3.2.2.2.2.2.2.2.2.2.1, r3.2.2.2.2.2.2.2.2.2.2.1, r3.2.2.2.2.2.2.2.2.2.2.2.1, r3.2.2.2.2.2.2.2.2.2.2.2.2.1, r3.2.2.2.2.2.2.2.2.2.2.2.2.2.1, r3.2.2.2.2.2.2.2.2.2.2.2.2.2.2.1, r3.2.2.2.2.2.2.2.2.2.2.2.2.2.2.2.1, r3.2.2.2.2.2.2.2.2.2.2.2.2.2.2.2.2.1, r3.2.2.2.2.2.2.2.2.2.2.2.2.2.2.2.2.2) else some (r3.1, r3.2.1, r3.2.2.1, r3.2.2.2.1, r3.2.2.2.2.1, r3.2.2.2.2.2.1, r3.2.2.2.2.2.2.1, r3.2.2.2.2.2.2.2.1, r3.2.2.2.2.2.2.2.2.1, r3.2.2.2.2.2.2.2.2.2.1, r3.2.2.2.2.2.2.2.2.2.2.1, r3.2.2.2.2.2.2.2.2.2.2.2.1, r3.2.2.2.2.2.2.2.2.2.2.2.2.1, r3.2.2.2.2.2.2.2.2.2.2.2.2.2.1, r3.2.2.2.2.2.2.2.2.2.2.2.2.2.2.1, r3.2.2.2.2.2.2.2.2.2.2.2.2.2.2.2.1, r3.2.2.2.2.2.2.2.2.2.2.2.2.2.2.2.2.1, r3.2.2.2.2.2.2.2.2.2.2.2.2.2.2.2.2.2)))
set_option maxHeartbeats 4000000 in
set_option maxRecDepth 100000 in
theorem c_X7_line (l : Launch) (D : va_G) (cI cZ cG : ClassId) (h : Nat) (A A_0 A_1 A_2 A_3 : Nat → Nat) (now_yards : Nat → Int32) (now_feels : Nat → Int32) (now_lengths : Nat → Int32) (now_holding : Int32) (now_wool : Int32) (now_day : Int32) (trial_yards : Nat → Int32) (trial_feels : Nat → Int32) (trial_lengths : Nat → Int32) (trial_plan : Nat → Int32) (trial_holding : Int32) (trial_wool : Int32) (trial_day : Int32) (pad_signs : Nat → Int32) (pad_count : Int32) (pad_awaited : Int32) (pad_actor : Int32) (pad_kind : Int32) (pad_amount : Int32) (course_acts : Int32) (course_badAct : Int32) (course_badWhy : Int32) (course_drawnCount : Int32) (course_drawAct : Int32) (course_drawChild : Int32) (u1 : Int32) (res : Int32 × (Nat → Int32) × (Nat → Int32) × (Nat → Int32) × (Nat → Int32) × Int32 × Int32 × Int32 × Int32 × Int32 × Int32 × Int32 × Int32 × Int32 × Int32 × Int32 × Int32 × Int32) (hf : f_X7_line now_yards now_feels now_lengths now_holding now_wool now_day trial_yards trial_feels trial_lengths trial_plan trial_holding trial_wool trial_day pad_signs pad_count pad_awaited pad_actor pad_kind pad_amount course_acts course_badAct course_badWhy course_drawnCount course_drawAct course_drawChild u1 = some res) : CI l D (tysW cI cZ cG) yX7_line wsX7_line rm_X7_line [.ref h, .int u1] [(h, oX7 A), ((A 0), oX5 A_0 now_holding now_wool now_day), ((A 1), oX5 A_1 trial_holding trial_wool trial_day), ((A 2), oX3 A_2 pad_count pad_awaited pad_actor pad_kind pad_amount), ((A 3), oX0 A_3 course_acts course_badAct course_badWhy course_drawnCount course_drawAct course_drawChild), ((A_0 0), aI cI 10 now_yards), ((A_0 1), aI cI 10 now_feels), ((A_0 2), aI cI 9 now_lengths), ((A_1 0), aI cI 10 trial_yards), ((A_1 1), aI cI 10 trial_feels), ((A_1 2), aI cI 9 trial_lengths), ((A_1 3), aI cI 10 trial_plan), ((A_2 0), aI cI 60 pad_signs)] res.1 [(h, oX7 A), ((A 0), oX5 A_0 now_holding now_wool now_day), ((A 1), oX5 A_1 res.2.2.2.2.2.1 res.2.2.2.2.2.2.1 res.2.2.2.2.2.2.2.1), ((A 2), oX3 A_2 pad_count res.2.2.2.2.2.2.2.2.1 res.2.2.2.2.2.2.2.2.2.1 res.2.2.2.2.2.2.2.2.2.2.1 res.2.2.2.2.2.2.2.2.2.2.2.1), ((A 3), oX0 A_3 res.2.2.2.2.2.2.2.2.2.2.2.2.1 res.2.2.2.2.2.2.2.2.2.2.2.2.2.1 res.2.2.2.2.2.2.2.2.2.2.2.2.2.2.1 res.2.2.2.2.2.2.2.2.2.2.2.2.2.2.2.1 res.2.2.2.2.2.2.2.2.2.2.2.2.2.2.2.2.1 res.2.2.2.2.2.2.2.2.2.2.2.2.2.2.2.2.2), ((A_0 0), aI cI 10 now_yards), ((A_0 1), aI cI 10 now_feels), ((A_0 2), aI cI 9 now_lengths), ((A_1 0), aI cI 10 res.2.1), ((A_1 1), aI cI 10 res.2.2.1), ((A_1 2), aI cI 9 res.2.2.2.1), ((A_1 3), aI cI 10 res.2.2.2.2.1), ((A_2 0), aI cI 60 pad_signs)] := by
  refine CG.intro (own := RX7) (by decide +kernel) rfl rfl (Nat.le_of_ble_eq_true rfl) (fun p e s m args below meth c C => ?_)
  refine r_lv (lv' := [(0, .ref h), (1, .int u1)]) [0, 1] rfl ?_
  unfold f_X7_line at hf
  refine r_iload_n C dX7_line_0 rfl 1 rfl rfl ?_
  refine r_iconst C dX7_line_1 kk_i_0 rfl ?_
  refine r_iconst C dX7_line_2 kk_i_3 rfl ?_
  obtain ⟨r1, e1, hf⟩ := gd_b hf
  refine o_I (wn := [(h, oX7 A), ((A 0), oX5 A_0 now_holding now_wool now_day), ((A 1), oX5 A_1 trial_holding trial_wool trial_day), ((A 2), oX3 A_2 pad_count pad_awaited pad_actor pad_kind pad_amount), ((A 3), oX0 A_3 course_acts course_badAct course_badWhy course_drawnCount course_drawAct course_drawChild), ((A_0 0), aI cI 10 now_yards), ((A_0 1), aI cI 10 now_feels), ((A_0 2), aI cI 9 now_lengths), ((A_1 0), aI cI 10 trial_yards), ((A_1 1), aI cI 10 trial_feels), ((A_1 2), aI cI 9 trial_lengths), ((A_1 3), aI cI 10 trial_plan), ((A_2 0), aI cI 60 pad_signs)]) C [] rfl (x_S C dX7_line_3 (c_X7_isWithin l D cI cZ cG u1 (0 : Int32) (3 : Int32) r1 e1) rfl gX7_line_X7_isWithin hs_X7_isWithin rfl ⟨Nat.le_of_ble_eq_true rfl, Nat.le_of_ble_eq_true rfl⟩ ⟨rfl, rfl⟩ ⟨Nat.zero_le _, Nat.zero_le _⟩ rfl [] rfl rfl (Nat.le_of_ble_eq_true rfl) rfl) rfl rfl rfl ?_
  refine r_if_ne (y := 0) (tgt := 12) C dX7_line_6 rfl rfl (fun c2 => ?_) (fun c2 => ?_)
  · have hf := gd_f c2 hf
    refine r_aload_n C dX7_line_12 rfl 0 rfl rfl ?_
    obtain ⟨r3, e3, hf⟩ := gd_b hf
    refine o_I (wn := [(h, oX7 A), ((A 0), oX5 A_0 now_holding now_wool now_day), ((A 1), oX5 A_1 r3.2.2.2.2.2.1 r3.2.2.2.2.2.2.1 r3.2.2.2.2.2.2.2.1), ((A 2), oX3 A_2 pad_count r3.2.2.2.2.2.2.2.2.1 r3.2.2.2.2.2.2.2.2.2.1 r3.2.2.2.2.2.2.2.2.2.2.1 r3.2.2.2.2.2.2.2.2.2.2.2.1), ((A 3), oX0 A_3 r3.2.2.2.2.2.2.2.2.2.2.2.2.1 r3.2.2.2.2.2.2.2.2.2.2.2.2.2.1 r3.2.2.2.2.2.2.2.2.2.2.2.2.2.2.1 r3.2.2.2.2.2.2.2.2.2.2.2.2.2.2.2.1 r3.2.2.2.2.2.2.2.2.2.2.2.2.2.2.2.2.1 r3.2.2.2.2.2.2.2.2.2.2.2.2.2.2.2.2.2), ((A_0 0), aI cI 10 now_yards), ((A_0 1), aI cI 10 now_feels), ((A_0 2), aI cI 9 now_lengths), ((A_1 0), aI cI 10 r3.2.1), ((A_1 1), aI cI 10 r3.2.2.1), ((A_1 2), aI cI 9 r3.2.2.2.1), ((A_1 3), aI cI 10 r3.2.2.2.2.1), ((A_2 0), aI cI 60 pad_signs)]) C [0, 1, 2, 3, 4, 5, 6, 7, 8, 9, 10, 11, 12] rfl (x_V C dX7_line_13 (c_X7_runText l D cI cZ cG h A A_0 A_1 A_2 A_3 now_yards now_feels now_lengths now_holding now_wool now_day trial_yards trial_feels trial_lengths trial_plan trial_holding trial_wool trial_day pad_signs pad_count pad_awaited pad_actor pad_kind pad_amount course_acts course_badAct course_badWhy course_drawnCount course_drawAct course_drawChild r3 e3) rfl gX7_line_X7_runText hd_X7_runText rfl ⟨Nat.le_of_ble_eq_true rfl, Nat.le_of_ble_eq_true rfl⟩ ⟨rfl, rfl⟩ ⟨Nat.zero_le _, Nat.zero_le _⟩ rfl [0, 1, 2, 3, 4, 5, 6, 7, 8, 9, 10, 11, 12] rfl rfl 0 rfl rfl (Nat.le_of_ble_eq_true rfl) rfl) rfl rfl rfl ?_
    refine r_istore_n (lv' := [(2, .int r3.1), (0, .ref h), (1, .int u1)]) C dX7_line_16 rfl (by decide) rfl rfl ?_
    refine r_iload_n C dX7_line_17 rfl 0 rfl rfl ?_
    refine r_if_eq (y := 0) (tgt := 23) C dX7_line_18 rfl rfl (fun c4 => ?_) (fun c4 => ?_)
    · have hf := gd_t c4 hf
      refine r_iload_n C dX7_line_23 rfl 2 rfl rfl ?_
      refine r_if_ne (y := 0) (tgt := 35) C dX7_line_24 rfl rfl (fun c5 => ?_) (fun c5 => ?_)
      · have hf := gd_f c5 hf
        refine r_iload_n C dX7_line_35 rfl 2 rfl rfl ?_
        refine r_iconst C dX7_line_36 kk_i_1 rfl ?_
        refine r_icmp_ne (tgt := 48) C dX7_line_37 rfl rfl (fun c6 => ?_) (fun c6 => ?_)
        · have hf := gd_f c6 hf
          refine r_iload_n C dX7_line_48 rfl 2 rfl rfl ?_
          refine r_iconst C dX7_line_49 kk_i_2 rfl ?_
          refine r_icmp_ne (tgt := 61) C dX7_line_50 rfl rfl (fun c7 => ?_) (fun c7 => ?_)
          · have hf := gd_f c7 hf
            refine r_aload_n C dX7_line_61 rfl 1 rfl rfl ?_
            refine r_get C dX7_line_62 fw_X7_line_X7 0 rfl rfl 1 (by decide) rfl fl_X7_line_16 rfl rfl ?_
            refine r_get C dX7_line_65 fw_X7_line_X5 2 rfl rfl 6 (by decide) rfl fl_X7_line_129 rfl rfl ?_
            cases hf
            exact r_iret C dX7_line_68 rfl
          · have hf := gd_t c7 hf
            refine r_aload_n C dX7_line_53 rfl 1 rfl rfl ?_
            refine r_get C dX7_line_54 fw_X7_line_X7 0 rfl rfl 1 (by decide) rfl fl_X7_line_16 rfl rfl ?_
            obtain ⟨r8, e8, hf⟩ := gd_b hf
            refine o_I (wn := [(h, oX7 A), ((A 0), oX5 A_0 now_holding now_wool now_day), ((A 1), oX5 A_1 r3.2.2.2.2.2.1 r3.2.2.2.2.2.2.1 r3.2.2.2.2.2.2.2.1), ((A 2), oX3 A_2 pad_count r3.2.2.2.2.2.2.2.2.1 r3.2.2.2.2.2.2.2.2.2.1 r3.2.2.2.2.2.2.2.2.2.2.1 r3.2.2.2.2.2.2.2.2.2.2.2.1), ((A 3), oX0 A_3 r3.2.2.2.2.2.2.2.2.2.2.2.2.1 r3.2.2.2.2.2.2.2.2.2.2.2.2.2.1 r3.2.2.2.2.2.2.2.2.2.2.2.2.2.2.1 r3.2.2.2.2.2.2.2.2.2.2.2.2.2.2.2.1 r3.2.2.2.2.2.2.2.2.2.2.2.2.2.2.2.2.1 r3.2.2.2.2.2.2.2.2.2.2.2.2.2.2.2.2.2), ((A_0 0), aI cI 10 now_yards), ((A_0 1), aI cI 10 now_feels), ((A_0 2), aI cI 9 now_lengths), ((A_1 0), aI cI 10 r3.2.1), ((A_1 1), aI cI 10 r3.2.2.1), ((A_1 2), aI cI 9 r3.2.2.2.1), ((A_1 3), aI cI 10 r3.2.2.2.2.1), ((A_2 0), aI cI 60 pad_signs)]) C [2, 10] rfl (x_V C dX7_line_57 (c_X5_allLengths l D cI cZ cG (A 1) A_1 r3.2.2.2.1 r3.2.2.2.2.2.1 r3.2.2.2.2.2.2.1 r3.2.2.2.2.2.2.2.1 r8 e8) rfl gX7_line_X5_allLengths hd_X5_allLengths rfl ⟨Nat.le_of_ble_eq_true rfl, Nat.le_of_ble_eq_true rfl⟩ ⟨rfl, rfl⟩ ⟨Nat.zero_le _, Nat.zero_le _⟩ rfl [2, 10] rfl rfl 2 rfl rfl (Nat.le_of_ble_eq_true rfl) rfl) rfl rfl rfl ?_
            cases hf
            exact r_iret C dX7_line_60 rfl
        · have hf := gd_t c6 hf
          refine r_aload_n C dX7_line_40 rfl 1 rfl rfl ?_
          refine r_get C dX7_line_41 fw_X7_line_X7 0 rfl rfl 1 (by decide) rfl fl_X7_line_16 rfl rfl ?_
          refine r_get C dX7_line_44 fw_X7_line_X5 2 rfl rfl 5 (by decide) rfl fl_X7_line_91 rfl rfl ?_
          cases hf
          exact r_iret C dX7_line_47 rfl
      · have hf := gd_t c5 hf
        refine r_aload_n C dX7_line_27 rfl 1 rfl rfl ?_
        refine r_get C dX7_line_28 fw_X7_line_X7 0 rfl rfl 1 (by decide) rfl fl_X7_line_16 rfl rfl ?_
        obtain ⟨r9, e9, hf⟩ := gd_b hf
        refine o_I (wn := [(h, oX7 A), ((A 0), oX5 A_0 now_holding now_wool now_day), ((A 1), oX5 A_1 r3.2.2.2.2.2.1 r3.2.2.2.2.2.2.1 r3.2.2.2.2.2.2.2.1), ((A 2), oX3 A_2 pad_count r3.2.2.2.2.2.2.2.2.1 r3.2.2.2.2.2.2.2.2.2.1 r3.2.2.2.2.2.2.2.2.2.2.1 r3.2.2.2.2.2.2.2.2.2.2.2.1), ((A 3), oX0 A_3 r3.2.2.2.2.2.2.2.2.2.2.2.2.1 r3.2.2.2.2.2.2.2.2.2.2.2.2.2.1 r3.2.2.2.2.2.2.2.2.2.2.2.2.2.2.1 r3.2.2.2.2.2.2.2.2.2.2.2.2.2.2.2.1 r3.2.2.2.2.2.2.2.2.2.2.2.2.2.2.2.2.1 r3.2.2.2.2.2.2.2.2.2.2.2.2.2.2.2.2.2), ((A_0 0), aI cI 10 now_yards), ((A_0 1), aI cI 10 now_feels), ((A_0 2), aI cI 9 now_lengths), ((A_1 0), aI cI 10 r3.2.1), ((A_1 1), aI cI 10 r3.2.2.1), ((A_1 2), aI cI 9 r3.2.2.2.1), ((A_1 3), aI cI 10 r3.2.2.2.2.1), ((A_2 0), aI cI 60 pad_signs)]) C [2, 8, 10] rfl (x_V C dX7_line_31 (c_X5_tautBits l D cI cZ cG (A 1) A_1 r3.2.1 r3.2.2.2.1 r3.2.2.2.2.2.1 r3.2.2.2.2.2.2.1 r3.2.2.2.2.2.2.2.1 r9 e9) rfl gX7_line_X5_tautBits hd_X5_tautBits rfl ⟨Nat.le_of_ble_eq_true rfl, Nat.le_of_ble_eq_true rfl⟩ ⟨rfl, rfl⟩ ⟨Nat.zero_le _, Nat.zero_le _⟩ rfl [2, 8, 10] rfl rfl 2 rfl rfl (Nat.le_of_ble_eq_true rfl) rfl) rfl rfl rfl ?_
        cases hf
        exact r_iret C dX7_line_34 rfl
    · have hf := gd_f c4 hf
      refine r_iload_n C dX7_line_21 rfl 0 rfl rfl ?_
      cases hf
      exact r_iret C dX7_line_22 rfl
  · have hf := gd_t c2 hf
    refine r_bipush C dX7_line_9 kk_b_m2 rfl ?_
    cases hf
    exact r_iret C dX7_line_11 rfl
theorem fw_X7_drawn_X7 : ∀ w ∈ u_ws RX7 TX7 9, w ∈ wsX7_drawn := by decide +kernel
theorem fl_X7_drawn_29 : Cond.fieldLink RX7 29 "MittenLine" "course" "LMittenLine$Course;" ∈ wsX7_drawn := by decide +kernel
theorem fw_X7_drawn_X0 : ∀ w ∈ u_ws RX0 TX0 6, w ∈ wsX7_drawn := by decide +kernel
theorem fl_X7_drawn_135 : Cond.fieldLink RX7 135 "MittenLine$Course" "drawChild" "I" ∈ wsX7_drawn := by decide +kernel
theorem fl_X7_drawn_132 : Cond.fieldLink RX7 132 "MittenLine$Course" "drawAct" "I" ∈ wsX7_drawn := by decide +kernel
abbrev rm_X7_drawn : Jvm.Room := { frames := 8, cells := 0, slots := 0, locals := 181 }
def f_X7_drawn (now_yards : Nat → Int32) (now_feels : Nat → Int32) (now_lengths : Nat → Int32) (now_holding : Int32) (now_wool : Int32) (now_day : Int32) (trial_yards : Nat → Int32) (trial_feels : Nat → Int32) (trial_lengths : Nat → Int32) (trial_plan : Nat → Int32) (trial_holding : Int32) (trial_wool : Int32) (trial_day : Int32) (pad_signs : Nat → Int32) (pad_count : Int32) (pad_awaited : Int32) (pad_actor : Int32) (pad_kind : Int32) (pad_amount : Int32) (course_acts : Int32) (course_badAct : Int32) (course_badWhy : Int32) (course_drawnCount : Int32) (course_drawAct : Int32) (course_drawChild : Int32) (u1 : Int32) : Option (Int32 × (Nat → Int32) × (Nat → Int32) × (Nat → Int32) × (Nat → Int32) × Int32 × Int32 × Int32 × Int32 × Int32 × Int32 × Int32 × Int32 × Int32 × Int32 × Int32 × Int32 × Int32) := (f_X7_isWithin u1 (0 : Int32) (1 : Int32)).bind (fun r1 => if r1 = 0 then some ((-2 : Int32), trial_yards, trial_feels, trial_lengths, trial_plan, trial_holding, trial_wool, trial_day, pad_awaited, pad_actor, pad_kind, pad_amount, course_acts, course_badAct, course_badWhy, course_drawnCount, course_drawAct, course_drawChild) else (f_X7_runText now_yards now_feels now_lengths now_holding now_wool now_day trial_yards trial_feels trial_lengths trial_plan trial_holding trial_wool trial_day pad_signs pad_count pad_awaited pad_actor pad_kind pad_amount course_acts course_badAct course_badWhy course_drawnCount course_drawAct course_drawChild).bind (fun r3 => if r3.1 = 0 then if u1 = 0 then some (r3.2.2.2.2.2.2.2.2.2.2.2.2.2.2.2.2.1, r3.2.1, r3.2.2.1, r3.2.2.2.1, r3.2.2.2.2.1, r3.2.2.2.2.2.1, r3.2.2.2.2.2.2.1, r3.2.2.2.2.2.2.2.1, r3.2.2.2.2.2.2.2.2.1, r3.2.2.2.2.2.2.2.2.2.1, r3.2.2.2.2.2.2.2.2.2.2.1, r3.2.2.2.2.2.2.2.2.2.2.2.1, r3.2.2.2.2.2.2.2.2.2.2.2.2.1, r3.2.2.2.2.2.2.2.2.2.2.2.2.2.1, r3.2.2.2.2.2.2.2.2.2.2.2.2.2.2.1, r3.2.2.2.2.2.2.2.2.2.2.2.2.2.2.2.1, r3.2.2.2.2.2.2.2.2.2.2.2.2.2.2.2.2.1, r3.2.2.2.2.2.2.2.2.2.2.2.2.2.2.2.2.2) else some (r3.2.2.2.2.2.2.2.2.2.2.2.2.2.2.2.2.2, r3.2.1, r3.2.2.1, r3.2.2.2.1, r3.2.2.2.2.1, r3.2.2.2.2.2.1, r3.2.2.2.2.2.2.1, r3.2.2.2.2.2.2.2.1, r3.2.2.2.2.2.2.2.2.1, r3.2.2.2.2.2.2.2.2.2.1, r3.2.2.2.2.2.2.2.2.2.2.1, r3.2.2.2.2.2.2.2.2.2.2.2.1, r3.2.2.2.2.2.2.2.2.2.2.2.2.1, r3.2.2.2.2.2.2.2.2.2.2.2.2.2.1, r3.2.2.2.2.2.2.2.2.2.2.2.2.2.2.1, r3.2.2.2.2.2.2.2.2.2.2.2.2.2.2.2.1, r3.2.2.2.2.2.2.2.2.2.2.2.2.2.2.2.2.1, r3.2.2.2.2.2.2.2.2.2.2.2.2.2.2.2.2.2) else some (r3.1, r3.2.1, r3.2.2.1, r3.2.2.2.1, r3.2.2.2.2.1, r3.2.2.2.2.2.1, r3.2.2.2.2.2.2.1, r3.2.2.2.2.2.2.2.1, r3.2.2.2.2.2.2.2.2.1, r3.2.2.2.2.2.2.2.2.2.1, r3.2.2.2.2.2.2.2.2.2.2.1, r3.2.2.2.2.2.2.2.2.2.2.2.1, r3.2.2.2.2.2.2.2.2.2.2.2.2.1, r3.2.2.2.2.2.2.2.2.2.2.2.2.2.1, r3.2.2.2.2.2.2.2.2.2.2.2.2.2.2.1, r3.2.2.2.2.2.2.2.2.2.2.2.2.2.2.2.1, r3.2.2.2.2.2.2.2.2.2.2.2.2.2.2.2.2.1, r3.2.2.2.2.2.2.2.2.2.2.2.2.2.2.2.2.2)))
set_option maxHeartbeats 4000000 in
set_option maxRecDepth 100000 in
theorem c_X7_drawn (l : Launch) (D : va_G) (cI cZ cG : ClassId) (h : Nat) (A A_0 A_1 A_2 A_3 : Nat → Nat) (now_yards : Nat → Int32) (now_feels : Nat → Int32) (now_lengths : Nat → Int32) (now_holding : Int32) (now_wool : Int32) (now_day : Int32) (trial_yards : Nat → Int32) (trial_feels : Nat → Int32) (trial_lengths : Nat → Int32) (trial_plan : Nat → Int32) (trial_holding : Int32) (trial_wool : Int32) (trial_day : Int32) (pad_signs : Nat → Int32) (pad_count : Int32) (pad_awaited : Int32) (pad_actor : Int32) (pad_kind : Int32) (pad_amount : Int32) (course_acts : Int32) (course_badAct : Int32) (course_badWhy : Int32) (course_drawnCount : Int32) (course_drawAct : Int32) (course_drawChild : Int32) (u1 : Int32) (res : Int32 × (Nat → Int32) × (Nat → Int32) × (Nat → Int32) × (Nat → Int32) × Int32 × Int32 × Int32 × Int32 × Int32 × Int32 × Int32 × Int32 × Int32 × Int32 × Int32 × Int32 × Int32) (hf : f_X7_drawn now_yards now_feels now_lengths now_holding now_wool now_day trial_yards trial_feels trial_lengths trial_plan trial_holding trial_wool trial_day pad_signs pad_count pad_awaited pad_actor pad_kind pad_amount course_acts course_badAct course_badWhy course_drawnCount course_drawAct course_drawChild u1 = some res) : CI l D (tysW cI cZ cG) yX7_drawn wsX7_drawn rm_X7_drawn [.ref h, .int u1] [(h, oX7 A), ((A 0), oX5 A_0 now_holding now_wool now_day), ((A 1), oX5 A_1 trial_holding trial_wool trial_day), ((A 2), oX3 A_2 pad_count pad_awaited pad_actor pad_kind pad_amount), ((A 3), oX0 A_3 course_acts course_badAct course_badWhy course_drawnCount course_drawAct course_drawChild), ((A_0 0), aI cI 10 now_yards), ((A_0 1), aI cI 10 now_feels), ((A_0 2), aI cI 9 now_lengths), ((A_1 0), aI cI 10 trial_yards), ((A_1 1), aI cI 10 trial_feels), ((A_1 2), aI cI 9 trial_lengths), ((A_1 3), aI cI 10 trial_plan), ((A_2 0), aI cI 60 pad_signs)] res.1 [(h, oX7 A), ((A 0), oX5 A_0 now_holding now_wool now_day), ((A 1), oX5 A_1 res.2.2.2.2.2.1 res.2.2.2.2.2.2.1 res.2.2.2.2.2.2.2.1), ((A 2), oX3 A_2 pad_count res.2.2.2.2.2.2.2.2.1 res.2.2.2.2.2.2.2.2.2.1 res.2.2.2.2.2.2.2.2.2.2.1 res.2.2.2.2.2.2.2.2.2.2.2.1), ((A 3), oX0 A_3 res.2.2.2.2.2.2.2.2.2.2.2.2.1 res.2.2.2.2.2.2.2.2.2.2.2.2.2.1 res.2.2.2.2.2.2.2.2.2.2.2.2.2.2.1 res.2.2.2.2.2.2.2.2.2.2.2.2.2.2.2.1 res.2.2.2.2.2.2.2.2.2.2.2.2.2.2.2.2.1 res.2.2.2.2.2.2.2.2.2.2.2.2.2.2.2.2.2), ((A_0 0), aI cI 10 now_yards), ((A_0 1), aI cI 10 now_feels), ((A_0 2), aI cI 9 now_lengths), ((A_1 0), aI cI 10 res.2.1), ((A_1 1), aI cI 10 res.2.2.1), ((A_1 2), aI cI 9 res.2.2.2.1), ((A_1 3), aI cI 10 res.2.2.2.2.1), ((A_2 0), aI cI 60 pad_signs)] := by
  refine CG.intro (own := RX7) (by decide +kernel) rfl rfl (Nat.le_of_ble_eq_true rfl) (fun p e s m args below meth c C => ?_)
  refine r_lv (lv' := [(0, .ref h), (1, .int u1)]) [0, 1] rfl ?_
  unfold f_X7_drawn at hf
  refine r_iload_n C dX7_drawn_0 rfl 1 rfl rfl ?_
  refine r_iconst C dX7_drawn_1 kk_i_0 rfl ?_
  refine r_iconst C dX7_drawn_2 kk_i_1 rfl ?_
  obtain ⟨r1, e1, hf⟩ := gd_b hf
  refine o_I (wn := [(h, oX7 A), ((A 0), oX5 A_0 now_holding now_wool now_day), ((A 1), oX5 A_1 trial_holding trial_wool trial_day), ((A 2), oX3 A_2 pad_count pad_awaited pad_actor pad_kind pad_amount), ((A 3), oX0 A_3 course_acts course_badAct course_badWhy course_drawnCount course_drawAct course_drawChild), ((A_0 0), aI cI 10 now_yards), ((A_0 1), aI cI 10 now_feels), ((A_0 2), aI cI 9 now_lengths), ((A_1 0), aI cI 10 trial_yards), ((A_1 1), aI cI 10 trial_feels), ((A_1 2), aI cI 9 trial_lengths), ((A_1 3), aI cI 10 trial_plan), ((A_2 0), aI cI 60 pad_signs)]) C [] rfl (x_S C dX7_drawn_3 (c_X7_isWithin l D cI cZ cG u1 (0 : Int32) (1 : Int32) r1 e1) rfl gX7_drawn_X7_isWithin hs_X7_isWithin rfl ⟨Nat.le_of_ble_eq_true rfl, Nat.le_of_ble_eq_true rfl⟩ ⟨rfl, rfl⟩ ⟨Nat.zero_le _, Nat.zero_le _⟩ rfl [] rfl rfl (Nat.le_of_ble_eq_true rfl) rfl) rfl rfl rfl ?_
  refine r_if_ne (y := 0) (tgt := 12) C dX7_drawn_6 rfl rfl (fun c2 => ?_) (fun c2 => ?_)
  · have hf := gd_f c2 hf
    refine r_aload_n C dX7_drawn_12 rfl 0 rfl rfl ?_
    obtain ⟨r3, e3, hf⟩ := gd_b hf
    refine o_I (wn := [(h, oX7 A), ((A 0), oX5 A_0 now_holding now_wool now_day), ((A 1), oX5 A_1 r3.2.2.2.2.2.1 r3.2.2.2.2.2.2.1 r3.2.2.2.2.2.2.2.1), ((A 2), oX3 A_2 pad_count r3.2.2.2.2.2.2.2.2.1 r3.2.2.2.2.2.2.2.2.2.1 r3.2.2.2.2.2.2.2.2.2.2.1 r3.2.2.2.2.2.2.2.2.2.2.2.1), ((A 3), oX0 A_3 r3.2.2.2.2.2.2.2.2.2.2.2.2.1 r3.2.2.2.2.2.2.2.2.2.2.2.2.2.1 r3.2.2.2.2.2.2.2.2.2.2.2.2.2.2.1 r3.2.2.2.2.2.2.2.2.2.2.2.2.2.2.2.1 r3.2.2.2.2.2.2.2.2.2.2.2.2.2.2.2.2.1 r3.2.2.2.2.2.2.2.2.2.2.2.2.2.2.2.2.2), ((A_0 0), aI cI 10 now_yards), ((A_0 1), aI cI 10 now_feels), ((A_0 2), aI cI 9 now_lengths), ((A_1 0), aI cI 10 r3.2.1), ((A_1 1), aI cI 10 r3.2.2.1), ((A_1 2), aI cI 9 r3.2.2.2.1), ((A_1 3), aI cI 10 r3.2.2.2.2.1), ((A_2 0), aI cI 60 pad_signs)]) C [0, 1, 2, 3, 4, 5, 6, 7, 8, 9, 10, 11, 12] rfl (x_V C dX7_drawn_13 (c_X7_runText l D cI cZ cG h A A_0 A_1 A_2 A_3 now_yards now_feels now_lengths now_holding now_wool now_day trial_yards trial_feels trial_lengths trial_plan trial_holding trial_wool trial_day pad_signs pad_count pad_awaited pad_actor pad_kind pad_amount course_acts course_badAct course_badWhy course_drawnCount course_drawAct course_drawChild r3 e3) rfl gX7_drawn_X7_runText hd_X7_runText rfl ⟨Nat.le_of_ble_eq_true rfl, Nat.le_of_ble_eq_true rfl⟩ ⟨rfl, rfl⟩ ⟨Nat.zero_le _, Nat.zero_le _⟩ rfl [0, 1, 2, 3, 4, 5, 6, 7, 8, 9, 10, 11, 12] rfl rfl 0 rfl rfl (Nat.le_of_ble_eq_true rfl) rfl) rfl rfl rfl ?_
    refine r_istore_n (lv' := [(2, .int r3.1), (0, .ref h), (1, .int u1)]) C dX7_drawn_16 rfl (by decide) rfl rfl ?_
    refine r_iload_n C dX7_drawn_17 rfl 0 rfl rfl ?_
    refine r_if_eq (y := 0) (tgt := 23) C dX7_drawn_18 rfl rfl (fun c4 => ?_) (fun c4 => ?_)
    · have hf := gd_t c4 hf
      refine r_iload_n C dX7_drawn_23 rfl 2 rfl rfl ?_
      refine r_if_ne (y := 0) (tgt := 37) C dX7_drawn_24 rfl rfl (fun c5 => ?_) (fun c5 => ?_)
      · have hf := gd_f c5 hf
        refine r_aload_n C dX7_drawn_37 rfl 1 rfl rfl ?_
        refine r_get C dX7_drawn_38 fw_X7_drawn_X7 0 rfl rfl 3 (by decide) rfl fl_X7_drawn_29 rfl rfl ?_
        refine r_get C dX7_drawn_41 fw_X7_drawn_X0 4 rfl rfl 5 (by decide) rfl fl_X7_drawn_135 rfl rfl ?_
        cases hf
        exact r_iret C dX7_drawn_44 rfl
      · have hf := gd_t c5 hf
        refine r_aload_n C dX7_drawn_27 rfl 1 rfl rfl ?_
        refine r_get C dX7_drawn_28 fw_X7_drawn_X7 0 rfl rfl 3 (by decide) rfl fl_X7_drawn_29 rfl rfl ?_
        refine r_get C dX7_drawn_31 fw_X7_drawn_X0 4 rfl rfl 4 (by decide) rfl fl_X7_drawn_132 rfl rfl ?_
        refine r_goto (tgt := 44) C dX7_drawn_34 rfl ?_
        cases hf
        exact r_iret C dX7_drawn_44 rfl
    · have hf := gd_f c4 hf
      refine r_iload_n C dX7_drawn_21 rfl 0 rfl rfl ?_
      cases hf
      exact r_iret C dX7_drawn_22 rfl
  · have hf := gd_t c2 hf
    refine r_bipush C dX7_drawn_9 kk_b_m2 rfl ?_
    cases hf
    exact r_iret C dX7_drawn_11 rfl
theorem fw_X7_done_X7 : ∀ w ∈ u_ws RX7 TX7 9, w ∈ wsX7_done := by decide +kernel
theorem fl_X7_done_10 : Cond.fieldLink RX7 10 "MittenLine" "now" "LMittenLine$Row;" ∈ wsX7_done := by decide +kernel
theorem fl_X7_done_16 : Cond.fieldLink RX7 16 "MittenLine" "trial" "LMittenLine$Row;" ∈ wsX7_done := by decide +kernel
theorem fl_X7_done_22 : Cond.fieldLink RX7 22 "MittenLine" "pad" "LMittenLine$Pad;" ∈ wsX7_done := by decide +kernel
theorem fl_X7_done_29 : Cond.fieldLink RX7 29 "MittenLine" "course" "LMittenLine$Course;" ∈ wsX7_done := by decide +kernel
theorem fw_X7_done_X0 : ∀ w ∈ u_ws RX0 TX0 6, w ∈ wsX7_done := by decide +kernel
theorem fl_X7_done_142 : Cond.fieldLink RX7 142 "MittenLine$Course" "acts" "I" ∈ wsX7_done := by decide +kernel
abbrev rm_X7_done : Jvm.Room := { frames := 8, cells := 0, slots := 0, locals := 181 }
def f_X7_done (now_yards : Nat → Int32) (now_feels : Nat → Int32) (now_lengths : Nat → Int32) (now_holding : Int32) (now_wool : Int32) (now_day : Int32) (trial_yards : Nat → Int32) (trial_feels : Nat → Int32) (trial_lengths : Nat → Int32) (trial_plan : Nat → Int32) (trial_holding : Int32) (trial_wool : Int32) (trial_day : Int32) (pad_signs : Nat → Int32) (pad_count : Int32) (pad_awaited : Int32) (pad_actor : Int32) (pad_kind : Int32) (pad_amount : Int32) (course_acts : Int32) (course_badAct : Int32) (course_badWhy : Int32) (course_drawnCount : Int32) (course_drawAct : Int32) (course_drawChild : Int32) : Option (Int32 × (Nat → Int32) × (Nat → Int32) × (Nat → Int32) × Int32 × Int32 × Int32 × (Nat → Int32) × (Nat → Int32) × (Nat → Int32) × (Nat → Int32) × Int32 × Int32 × Int32 × Int32 × Int32 × Int32 × Int32 × Int32 × Int32 × Int32 × Int32 × Int32 × Int32 × Int32) := (f_X7_runText now_yards now_feels now_lengths now_holding now_wool now_day trial_yards trial_feels trial_lengths trial_plan trial_holding trial_wool trial_day pad_signs pad_count pad_awaited pad_actor pad_kind pad_amount course_acts course_badAct course_badWhy course_drawnCount course_drawAct course_drawChild).bind (fun r1 => if r1.1 = 0 then (f_X5_copyFrom now_yards now_feels now_lengths now_holding now_wool now_day r1.2.1 r1.2.2.1 r1.2.2.2.1 r1.2.2.2.2.2.1 r1.2.2.2.2.2.2.1 r1.2.2.2.2.2.2.2.1).bind (fun r3 => (f_X3_clear pad_count).bind (fun r4 => some (r1.2.2.2.2.2.2.2.2.2.2.2.2.1, r3.1, r3.2.1, r3.2.2.1, r3.2.2.2.1, r3.2.2.2.2.1, r3.2.2.2.2.2, r1.2.1, r1.2.2.1, r1.2.2.2.1, r1.2.2.2.2.1, r1.2.2.2.2.2.1, r1.2.2.2.2.2.2.1, r1.2.2.2.2.2.2.2.1, r4, r1.2.2.2.2.2.2.2.2.1, r1.2.2.2.2.2.2.2.2.2.1, r1.2.2.2.2.2.2.2.2.2.2.1, r1.2.2.2.2.2.2.2.2.2.2.2.1, r1.2.2.2.2.2.2.2.2.2.2.2.2.1, r1.2.2.2.2.2.2.2.2.2.2.2.2.2.1, r1.2.2.2.2.2.2.2.2.2.2.2.2.2.2.1, r1.2.2.2.2.2.2.2.2.2.2.2.2.2.2.2.1, r1.2.2.2.2.2.2.2.2.2.2.2.2.2.2.2.2.1, r1.2.2.2.2.2.2.2.2.2.2.2.2.2.2.2.2.2))) else some (r1.1, now_yards, now_feels, now_lengths, now_holding, now_wool, now_day, r1.2.1, r1.2.2.1, r1.2.2.2.1, r1.2.2.2.2.1, r1.2.2.2.2.2.1, r1.2.2.2.2.2.2.1, r1.2.2.2.2.2.2.2.1, pad_count, r1.2.2.2.2.2.2.2.2.1, r1.2.2.2.2.2.2.2.2.2.1, r1.2.2.2.2.2.2.2.2.2.2.1, r1.2.2.2.2.2.2.2.2.2.2.2.1, r1.2.2.2.2.2.2.2.2.2.2.2.2.1, r1.2.2.2.2.2.2.2.2.2.2.2.2.2.1, r1.2.2.2.2.2.2.2.2.2.2.2.2.2.2.1, r1.2.2.2.2.2.2.2.2.2.2.2.2.2.2.2.1, r1.2.2.2.2.2.2.2.2.2.2.2.2.2.2.2.2.1, r1.2.2.2.2.2.2.2.2.2.2.2.2.2.2.2.2.2))
set_option maxHeartbeats 4000000 in
set_option maxRecDepth 100000 in
theorem c_X7_done (l : Launch) (D : va_G) (cI cZ cG : ClassId) (h : Nat) (A A_0 A_1 A_2 A_3 : Nat → Nat) (now_yards : Nat → Int32) (now_feels : Nat → Int32) (now_lengths : Nat → Int32) (now_holding : Int32) (now_wool : Int32) (now_day : Int32) (trial_yards : Nat → Int32) (trial_feels : Nat → Int32) (trial_lengths : Nat → Int32) (trial_plan : Nat → Int32) (trial_holding : Int32) (trial_wool : Int32) (trial_day : Int32) (pad_signs : Nat → Int32) (pad_count : Int32) (pad_awaited : Int32) (pad_actor : Int32) (pad_kind : Int32) (pad_amount : Int32) (course_acts : Int32) (course_badAct : Int32) (course_badWhy : Int32) (course_drawnCount : Int32) (course_drawAct : Int32) (course_drawChild : Int32) (res : Int32 × (Nat → Int32) × (Nat → Int32) × (Nat → Int32) × Int32 × Int32 × Int32 × (Nat → Int32) × (Nat → Int32) × (Nat → Int32) × (Nat → Int32) × Int32 × Int32 × Int32 × Int32 × Int32 × Int32 × Int32 × Int32 × Int32 × Int32 × Int32 × Int32 × Int32 × Int32) (hf : f_X7_done now_yards now_feels now_lengths now_holding now_wool now_day trial_yards trial_feels trial_lengths trial_plan trial_holding trial_wool trial_day pad_signs pad_count pad_awaited pad_actor pad_kind pad_amount course_acts course_badAct course_badWhy course_drawnCount course_drawAct course_drawChild = some res) : CI l D (tysW cI cZ cG) yX7_done wsX7_done rm_X7_done [.ref h] [(h, oX7 A), ((A 0), oX5 A_0 now_holding now_wool now_day), ((A 1), oX5 A_1 trial_holding trial_wool trial_day), ((A 2), oX3 A_2 pad_count pad_awaited pad_actor pad_kind pad_amount), ((A 3), oX0 A_3 course_acts course_badAct course_badWhy course_drawnCount course_drawAct course_drawChild), ((A_0 0), aI cI 10 now_yards), ((A_0 1), aI cI 10 now_feels), ((A_0 2), aI cI 9 now_lengths), ((A_1 0), aI cI 10 trial_yards), ((A_1 1), aI cI 10 trial_feels), ((A_1 2), aI cI 9 trial_lengths), ((A_1 3), aI cI 10 trial_plan), ((A_2 0), aI cI 60 pad_signs)] res.1 [(h, oX7 A), ((A 0), oX5 A_0 res.2.2.2.2.1 res.2.2.2.2.2.1 res.2.2.2.2.2.2.1), ((A 1), oX5 A_1 res.2.2.2.2.2.2.2.2.2.2.2.1 res.2.2.2.2.2.2.2.2.2.2.2.2.1 res.2.2.2.2.2.2.2.2.2.2.2.2.2.1), ((A 2), oX3 A_2 res.2.2.2.2.2.2.2.2.2.2.2.2.2.2.1 res.2.2.2.2.2.2.2.2.2.2.2.2.2.2.2.1 res.2.2.2.2.2.2.2.2.2.2.2.2.2.2.2.2.1 res.2.2.2.2.2.2.2.2.2.2.2.2.2.2.2.2.2.1 res.2.2.2.2.2.2.2.2.2.2.2.2.2.2.2.2.2.2.1), ((A 3), oX0 A_3 res.2.2.2.2.2.2.2.2.2.2.2.2.2.2.2.2.2.2.2.1 res.2.2.2.2.2.2.2.2.2.2.2.2.2.2.2.2.2.2.2.2.1 res.2.2.2.2.2.2.2.2.2.2.2.2.2.2.2.2.2.2.2.2.2.1 res.2.2.2.2.2.2.2.2.2.2.2.2.2.2.2.2.2.2.2.2.2.2.1 res.2.2.2.2.2.2.2.2.2.2.2.2.2.2.2.2.2.2.2.2.2.2.2.1 res.2.2.2.2.2.2.2.2.2.2.2.2.2.2.2.2.2.2.2.2.2.2.2.2), ((A_0 0), aI cI 10 res.2.1), ((A_0 1), aI cI 10 res.2.2.1), ((A_0 2), aI cI 9 res.2.2.2.1), ((A_1 0), aI cI 10 res.2.2.2.2.2.2.2.1), ((A_1 1), aI cI 10 res.2.2.2.2.2.2.2.2.1), ((A_1 2), aI cI 9 res.2.2.2.2.2.2.2.2.2.1), ((A_1 3), aI cI 10 res.2.2.2.2.2.2.2.2.2.2.1), ((A_2 0), aI cI 60 pad_signs)] := by
  refine CG.intro (own := RX7) (by decide +kernel) rfl rfl (Nat.le_of_ble_eq_true rfl) (fun p e s m args below meth c C => ?_)
  refine r_lv (lv' := [(0, .ref h)]) [0] rfl ?_
  unfold f_X7_done at hf
  refine r_aload_n C dX7_done_0 rfl 0 rfl rfl ?_
  obtain ⟨r1, e1, hf⟩ := gd_b hf
  refine o_I (wn := [(h, oX7 A), ((A 0), oX5 A_0 now_holding now_wool now_day), ((A 1), oX5 A_1 r1.2.2.2.2.2.1 r1.2.2.2.2.2.2.1 r1.2.2.2.2.2.2.2.1), ((A 2), oX3 A_2 pad_count r1.2.2.2.2.2.2.2.2.1 r1.2.2.2.2.2.2.2.2.2.1 r1.2.2.2.2.2.2.2.2.2.2.1 r1.2.2.2.2.2.2.2.2.2.2.2.1), ((A 3), oX0 A_3 r1.2.2.2.2.2.2.2.2.2.2.2.2.1 r1.2.2.2.2.2.2.2.2.2.2.2.2.2.1 r1.2.2.2.2.2.2.2.2.2.2.2.2.2.2.1 r1.2.2.2.2.2.2.2.2.2.2.2.2.2.2.2.1 r1.2.2.2.2.2.2.2.2.2.2.2.2.2.2.2.2.1 r1.2.2.2.2.2.2.2.2.2.2.2.2.2.2.2.2.2), ((A_0 0), aI cI 10 now_yards), ((A_0 1), aI cI 10 now_feels), ((A_0 2), aI cI 9 now_lengths), ((A_1 0), aI cI 10 r1.2.1), ((A_1 1), aI cI 10 r1.2.2.1), ((A_1 2), aI cI 9 r1.2.2.2.1), ((A_1 3), aI cI 10 r1.2.2.2.2.1), ((A_2 0), aI cI 60 pad_signs)]) C [0, 1, 2, 3, 4, 5, 6, 7, 8, 9, 10, 11, 12] rfl (x_V C dX7_done_1 (c_X7_runText l D cI cZ cG h A A_0 A_1 A_2 A_3 now_yards now_feels now_lengths now_holding now_wool now_day trial_yards trial_feels trial_lengths trial_plan trial_holding trial_wool trial_day pad_signs pad_count pad_awaited pad_actor pad_kind pad_amount course_acts course_badAct course_badWhy course_drawnCount course_drawAct course_drawChild r1 e1) rfl gX7_done_X7_runText hd_X7_runText rfl ⟨Nat.le_of_ble_eq_true rfl, Nat.le_of_ble_eq_true rfl⟩ ⟨rfl, rfl⟩ ⟨Nat.zero_le _, Nat.zero_le _⟩ rfl [0, 1, 2, 3, 4, 5, 6, 7, 8, 9, 10, 11, 12] rfl rfl 0 rfl rfl (Nat.le_of_ble_eq_true rfl) rfl) rfl rfl rfl ?_
  refine r_istore_n (lv' := [(1, .int r1.1), (0, .ref h)]) C dX7_done_4 rfl (by decide) rfl rfl ?_
  refine r_iload_n C dX7_done_5 rfl 0 rfl rfl ?_
  refine r_if_eq (y := 0) (tgt := 11) C dX7_done_6 rfl rfl (fun c2 => ?_) (fun c2 => ?_)
  · have hf := gd_t c2 hf
    refine r_aload_n C dX7_done_11 rfl 1 rfl rfl ?_
    refine r_get C dX7_done_12 fw_X7_done_X7 0 rfl rfl 0 (by decide) rfl fl_X7_done_10 rfl rfl ?_
    refine r_aload_n C dX7_done_15 rfl 1 rfl rfl ?_
    refine r_get C dX7_done_16 fw_X7_done_X7 0 rfl rfl 1 (by decide) rfl fl_X7_done_16 rfl rfl ?_
    obtain ⟨r3, e3, hf⟩ := gd_b hf
    refine o_V (wn := [(h, oX7 A), ((A 0), oX5 A_0 r3.2.2.2.1 r3.2.2.2.2.1 r3.2.2.2.2.2), ((A 1), oX5 A_1 r1.2.2.2.2.2.1 r1.2.2.2.2.2.2.1 r1.2.2.2.2.2.2.2.1), ((A 2), oX3 A_2 pad_count r1.2.2.2.2.2.2.2.2.1 r1.2.2.2.2.2.2.2.2.2.1 r1.2.2.2.2.2.2.2.2.2.2.1 r1.2.2.2.2.2.2.2.2.2.2.2.1), ((A 3), oX0 A_3 r1.2.2.2.2.2.2.2.2.2.2.2.2.1 r1.2.2.2.2.2.2.2.2.2.2.2.2.2.1 r1.2.2.2.2.2.2.2.2.2.2.2.2.2.2.1 r1.2.2.2.2.2.2.2.2.2.2.2.2.2.2.2.1 r1.2.2.2.2.2.2.2.2.2.2.2.2.2.2.2.2.1 r1.2.2.2.2.2.2.2.2.2.2.2.2.2.2.2.2.2), ((A_0 0), aI cI 10 r3.1), ((A_0 1), aI cI 10 r3.2.1), ((A_0 2), aI cI 9 r3.2.2.1), ((A_1 0), aI cI 10 r1.2.1), ((A_1 1), aI cI 10 r1.2.2.1), ((A_1 2), aI cI 9 r1.2.2.2.1), ((A_1 3), aI cI 10 r1.2.2.2.2.1), ((A_2 0), aI cI 60 pad_signs)]) C [1, 2, 5, 6, 7, 8, 9, 10] rfl (x_V C dX7_done_19 (c_X5_copyFrom l D cI cZ cG (A 0) (A 1) A_0 A_1 now_yards now_feels now_lengths now_holding now_wool now_day r1.2.1 r1.2.2.1 r1.2.2.2.1 r1.2.2.2.2.2.1 r1.2.2.2.2.2.2.1 r1.2.2.2.2.2.2.2.1 r3 e3) rfl gX7_done_X5_copyFrom hd_X5_copyFrom rfl ⟨Nat.le_of_ble_eq_true rfl, Nat.le_of_ble_eq_true rfl⟩ ⟨rfl, rfl⟩ ⟨Nat.zero_le _, Nat.zero_le _⟩ rfl [1, 2, 5, 6, 7, 8, 9, 10] rfl rfl 1 rfl rfl (Nat.le_of_ble_eq_true rfl) rfl) rfl rfl rfl ?_
    refine r_aload_n C dX7_done_22 rfl 1 rfl rfl ?_
    refine r_get C dX7_done_23 fw_X7_done_X7 0 rfl rfl 2 (by decide) rfl fl_X7_done_22 rfl rfl ?_
    obtain ⟨r4, e4, hf⟩ := gd_b hf
    refine o_V (wn := [(h, oX7 A), ((A 0), oX5 A_0 r3.2.2.2.1 r3.2.2.2.2.1 r3.2.2.2.2.2), ((A 1), oX5 A_1 r1.2.2.2.2.2.1 r1.2.2.2.2.2.2.1 r1.2.2.2.2.2.2.2.1), ((A 2), oX3 A_2 r4 r1.2.2.2.2.2.2.2.2.1 r1.2.2.2.2.2.2.2.2.2.1 r1.2.2.2.2.2.2.2.2.2.2.1 r1.2.2.2.2.2.2.2.2.2.2.2.1), ((A 3), oX0 A_3 r1.2.2.2.2.2.2.2.2.2.2.2.2.1 r1.2.2.2.2.2.2.2.2.2.2.2.2.2.1 r1.2.2.2.2.2.2.2.2.2.2.2.2.2.2.1 r1.2.2.2.2.2.2.2.2.2.2.2.2.2.2.2.1 r1.2.2.2.2.2.2.2.2.2.2.2.2.2.2.2.2.1 r1.2.2.2.2.2.2.2.2.2.2.2.2.2.2.2.2.2), ((A_0 0), aI cI 10 r3.1), ((A_0 1), aI cI 10 r3.2.1), ((A_0 2), aI cI 9 r3.2.2.1), ((A_1 0), aI cI 10 r1.2.1), ((A_1 1), aI cI 10 r1.2.2.1), ((A_1 2), aI cI 9 r1.2.2.2.1), ((A_1 3), aI cI 10 r1.2.2.2.2.1), ((A_2 0), aI cI 60 pad_signs)]) C [3] rfl (x_V C dX7_done_26 (c_X3_clear l D cI cZ cG (A 2) A_2 pad_count r1.2.2.2.2.2.2.2.2.1 r1.2.2.2.2.2.2.2.2.2.1 r1.2.2.2.2.2.2.2.2.2.2.1 r1.2.2.2.2.2.2.2.2.2.2.2.1 r4 e4) rfl gX7_done_X3_clear hd_X3_clear rfl ⟨Nat.le_of_ble_eq_true rfl, Nat.le_of_ble_eq_true rfl⟩ ⟨rfl, rfl⟩ ⟨Nat.zero_le _, Nat.zero_le _⟩ rfl [3] rfl rfl 3 rfl rfl (Nat.le_of_ble_eq_true rfl) rfl) rfl rfl rfl ?_
    refine r_aload_n C dX7_done_29 rfl 1 rfl rfl ?_
    refine r_get C dX7_done_30 fw_X7_done_X7 0 rfl rfl 3 (by decide) rfl fl_X7_done_29 rfl rfl ?_
    refine r_get C dX7_done_33 fw_X7_done_X0 4 rfl rfl 0 (by decide) rfl fl_X7_done_142 rfl rfl ?_
    cases hf
    exact r_iret C dX7_done_36 rfl
  · have hf := gd_f c2 hf
    refine r_iload_n C dX7_done_9 rfl 0 rfl rfl ?_
    cases hf
    exact r_iret C dX7_done_10 rfl
theorem fw_X7_reach_X7 : ∀ w ∈ u_ws RX7 TX7 9, w ∈ wsX7_reach := by decide +kernel
theorem fl_X7_reach_10 : Cond.fieldLink RX7 10 "MittenLine" "now" "LMittenLine$Row;" ∈ wsX7_reach := by decide +kernel
abbrev rm_X7_reach : Jvm.Room := { frames := 2, cells := 0, slots := 0, locals := 49 }
def f_X7_reach (now_yards : Nat → Int32) (now_lengths : Nat → Int32) (now_holding : Int32) (u1 : Int32) (u2 : Int32) : Option (Int32) := (f_X7_isWithin u1 (0 : Int32) (9 : Int32)).bind (fun r1 => if r1 = 0 then some ((-1 : Int32)) else (f_X7_isWithin u2 (0 : Int32) (1 : Int32)).bind (fun r3 => if r3 = 0 then some ((-2 : Int32)) else if u2 = 0 then (f_X5_farthest now_yards now_lengths now_holding u1 (1 : Int32)).bind (fun r7 => some (r7)) else (f_X5_farthest now_yards now_lengths now_holding u1 (-1 : Int32)).bind (fun r6 => some (r6))))
set_option maxHeartbeats 4000000 in
set_option maxRecDepth 100000 in
theorem c_X7_reach (l : Launch) (D : va_G) (cI cZ cG : ClassId) (h : Nat) (A A_0 : Nat → Nat) (now_yards : Nat → Int32) (now_lengths : Nat → Int32) (now_holding : Int32) (now_wool : Int32) (now_day : Int32) (u1 : Int32) (u2 : Int32) (res : Int32) (hf : f_X7_reach now_yards now_lengths now_holding u1 u2 = some res) : CI l D (tysW cI cZ cG) yX7_reach wsX7_reach rm_X7_reach [.ref h, .int u1, .int u2] [(h, oX7 A), ((A 0), oX5 A_0 now_holding now_wool now_day), ((A_0 0), aI cI 10 now_yards), ((A_0 2), aI cI 9 now_lengths)] res [(h, oX7 A), ((A 0), oX5 A_0 now_holding now_wool now_day), ((A_0 0), aI cI 10 now_yards), ((A_0 2), aI cI 9 now_lengths)] := by
  refine CG.intro (own := RX7) (by decide +kernel) rfl rfl (Nat.le_of_ble_eq_true rfl) (fun p e s m args below meth c C => ?_)
  refine r_lv (lv' := [(0, .ref h), (1, .int u1), (2, .int u2)]) [0, 1, 2] rfl ?_
  unfold f_X7_reach at hf
  refine r_iload_n C dX7_reach_0 rfl 1 rfl rfl ?_
  refine r_iconst C dX7_reach_1 kk_i_0 rfl ?_
  refine r_bipush C dX7_reach_2 kk_b_9 rfl ?_
  obtain ⟨r1, e1, hf⟩ := gd_b hf
  refine o_I (wn := [(h, oX7 A), ((A 0), oX5 A_0 now_holding now_wool now_day), ((A_0 0), aI cI 10 now_yards), ((A_0 2), aI cI 9 now_lengths)]) C [] rfl (x_S C dX7_reach_4 (c_X7_isWithin l D cI cZ cG u1 (0 : Int32) (9 : Int32) r1 e1) rfl gX7_reach_X7_isWithin hs_X7_isWithin rfl ⟨Nat.le_of_ble_eq_true rfl, Nat.le_of_ble_eq_true rfl⟩ ⟨rfl, rfl⟩ ⟨Nat.zero_le _, Nat.zero_le _⟩ rfl [] rfl rfl (Nat.le_of_ble_eq_true rfl) rfl) rfl rfl rfl ?_
  refine r_if_ne (y := 0) (tgt := 12) C dX7_reach_7 rfl rfl (fun c2 => ?_) (fun c2 => ?_)
  · have hf := gd_f c2 hf
    refine r_iload_n C dX7_reach_12 rfl 2 rfl rfl ?_
    refine r_iconst C dX7_reach_13 kk_i_0 rfl ?_
    refine r_iconst C dX7_reach_14 kk_i_1 rfl ?_
    obtain ⟨r3, e3, hf⟩ := gd_b hf
    refine o_I (wn := [(h, oX7 A), ((A 0), oX5 A_0 now_holding now_wool now_day), ((A_0 0), aI cI 10 now_yards), ((A_0 2), aI cI 9 now_lengths)]) C [] rfl (x_S C dX7_reach_15 (c_X7_isWithin l D cI cZ cG u2 (0 : Int32) (1 : Int32) r3 e3) rfl gX7_reach_X7_isWithin hs_X7_isWithin rfl ⟨Nat.le_of_ble_eq_true rfl, Nat.le_of_ble_eq_true rfl⟩ ⟨rfl, rfl⟩ ⟨Nat.zero_le _, Nat.zero_le _⟩ rfl [] rfl rfl (Nat.le_of_ble_eq_true rfl) rfl) rfl rfl rfl ?_
    refine r_if_ne (y := 0) (tgt := 24) C dX7_reach_18 rfl rfl (fun c4 => ?_) (fun c4 => ?_)
    · have hf := gd_f c4 hf
      refine r_aload_n C dX7_reach_24 rfl 0 rfl rfl ?_
      refine r_get C dX7_reach_25 fw_X7_reach_X7 0 rfl rfl 0 (by decide) rfl fl_X7_reach_10 rfl rfl ?_
      refine r_iload_n C dX7_reach_28 rfl 1 rfl rfl ?_
      refine r_iload_n C dX7_reach_29 rfl 2 rfl rfl ?_
      refine r_if_ne (y := 0) (tgt := 37) C dX7_reach_30 rfl rfl (fun c5 => ?_) (fun c5 => ?_)
      · have hf := gd_f c5 hf
        refine r_iconst C dX7_reach_37 kk_i_m1 rfl ?_
        obtain ⟨r6, e6, hf⟩ := gd_b hf
        refine o_I (wn := [(h, oX7 A), ((A 0), oX5 A_0 now_holding now_wool now_day), ((A_0 0), aI cI 10 now_yards), ((A_0 2), aI cI 9 now_lengths)]) C [1, 2, 3] rfl (x_V C dX7_reach_38 (c_X5_farthest l D cI cZ cG (A 0) A_0 now_yards now_lengths now_holding now_wool now_day u1 (-1 : Int32) r6 e6) rfl gX7_reach_X5_farthest hd_X5_farthest rfl ⟨Nat.le_of_ble_eq_true rfl, Nat.le_of_ble_eq_true rfl⟩ ⟨rfl, rfl⟩ ⟨Nat.zero_le _, Nat.zero_le _⟩ rfl [1, 2, 3] rfl rfl 1 rfl rfl (Nat.le_of_ble_eq_true rfl) rfl) rfl rfl rfl ?_
        cases hf
        exact r_iret C dX7_reach_41 rfl
      · have hf := gd_t c5 hf
        refine r_iconst C dX7_reach_33 kk_i_1 rfl ?_
        refine r_goto (tgt := 38) C dX7_reach_34 rfl ?_
        obtain ⟨r7, e7, hf⟩ := gd_b hf
        refine o_I (wn := [(h, oX7 A), ((A 0), oX5 A_0 now_holding now_wool now_day), ((A_0 0), aI cI 10 now_yards), ((A_0 2), aI cI 9 now_lengths)]) C [1, 2, 3] rfl (x_V C dX7_reach_38 (c_X5_farthest l D cI cZ cG (A 0) A_0 now_yards now_lengths now_holding now_wool now_day u1 (1 : Int32) r7 e7) rfl gX7_reach_X5_farthest hd_X5_farthest rfl ⟨Nat.le_of_ble_eq_true rfl, Nat.le_of_ble_eq_true rfl⟩ ⟨rfl, rfl⟩ ⟨Nat.zero_le _, Nat.zero_le _⟩ rfl [1, 2, 3] rfl rfl 1 rfl rfl (Nat.le_of_ble_eq_true rfl) rfl) rfl rfl rfl ?_
        cases hf
        exact r_iret C dX7_reach_41 rfl
    · have hf := gd_t c4 hf
      refine r_bipush C dX7_reach_21 kk_b_m2 rfl ?_
      cases hf
      exact r_iret C dX7_reach_23 rfl
  · have hf := gd_t c2 hf
    refine r_iconst C dX7_reach_10 kk_i_m1 rfl ?_
    cases hf
    exact r_iret C dX7_reach_11 rfl
theorem fw_X7_wind_X7 : ∀ w ∈ u_ws RX7 TX7 9, w ∈ wsX7_wind := by decide +kernel
theorem fl_X7_wind_50 : Cond.fieldLink RX7 50 "MittenLine" "puzzles" "LMittenLine$Puzzles;" ∈ wsX7_wind := by decide +kernel
abbrev rm_X7_wind : Jvm.Room := { frames := 3, cells := 0, slots := 0, locals := 77 }
def f_X7_wind (puzzles_digits : Nat → Int32) (puzzles_sizes : Nat → Int32) (puzzles_times : Nat → Nat → Int32) (u1 : Int32) (u2 : Int32) (u3 : Int32) : Option (Int32 × (Nat → Int32) × (Nat → Int32) × (Nat → Nat → Int32)) := (f_X7_isWithin u2 (1 : Int32) (9 : Int32)).bind (fun r1 => if r1 = 0 then some ((-2 : Int32), puzzles_digits, puzzles_sizes, puzzles_times) else if u1 < 0 then some ((-2 : Int32), puzzles_digits, puzzles_sizes, puzzles_times) else (f_X7_digitCount u1).bind (fun r4 => if r4 ≤ u2 then (f_X7_isWithin u3 (0 : Int32) (1 : Int32)).bind (fun r6 => if r6 = 0 then some ((-2 : Int32), puzzles_digits, puzzles_sizes, puzzles_times) else if u3 = (1 : Int32) then (f_X4_windingTime puzzles_digits puzzles_sizes puzzles_times u1 u2 (1 : Int32)).bind (fun r10 => some (r10.1, r10.2.1, r10.2.2.1, r10.2.2.2)) else (f_X4_windingTime puzzles_digits puzzles_sizes puzzles_times u1 u2 (0 : Int32)).bind (fun r9 => some (r9.1, r9.2.1, r9.2.2.1, r9.2.2.2))) else some ((-2 : Int32), puzzles_digits, puzzles_sizes, puzzles_times)))
set_option maxHeartbeats 4000000 in
set_option maxRecDepth 100000 in
theorem c_X7_wind (l : Launch) (D : va_G) (cI cZ cG : ClassId) (h : Nat) (A A_6 : Nat → Nat) (G : Nat → Nat) (puzzles_digits : Nat → Int32) (puzzles_sizes : Nat → Int32) (puzzles_times : Nat → Nat → Int32) (u1 : Int32) (u2 : Int32) (u3 : Int32) (res : Int32 × (Nat → Int32) × (Nat → Int32) × (Nat → Nat → Int32)) (hf : f_X7_wind puzzles_digits puzzles_sizes puzzles_times u1 u2 u3 = some res) : CI l D (tysW cI cZ cG) yX7_wind wsX7_wind rm_X7_wind [.ref h, .int u1, .int u2, .int u3] ([(h, oX7 A), ((A 6), oX4 A_6), ((A_6 0), aI cI 9 puzzles_digits), ((A_6 3), aI cI 10 puzzles_sizes), ((A_6 4), aG cG G)] ++ gridW G cI puzzles_times) res.1 ([(h, oX7 A), ((A 6), oX4 A_6), ((A_6 0), aI cI 9 res.2.1), ((A_6 3), aI cI 10 res.2.2.1), ((A_6 4), aG cG G)] ++ gridW G cI res.2.2.2) := by
  refine CG.intro (own := RX7) (by decide +kernel) rfl rfl (Nat.le_of_ble_eq_true rfl) (fun p e s m args below meth c C => ?_)
  refine r_lv (lv' := [(0, .ref h), (1, .int u1), (2, .int u2), (3, .int u3)]) [0, 1, 2, 3] rfl ?_
  unfold f_X7_wind at hf
  refine r_iload_n C dX7_wind_0 rfl 2 rfl rfl ?_
  refine r_iconst C dX7_wind_1 kk_i_1 rfl ?_
  refine r_bipush C dX7_wind_2 kk_b_9 rfl ?_
  obtain ⟨r1, e1, hf⟩ := gd_b hf
  refine o_I (wn := ([(h, oX7 A), ((A 6), oX4 A_6), ((A_6 0), aI cI 9 puzzles_digits), ((A_6 3), aI cI 10 puzzles_sizes), ((A_6 4), aG cG G)] ++ gridW G cI puzzles_times)) C [] rfl (x_S C dX7_wind_4 (c_X7_isWithin l D cI cZ cG u2 (1 : Int32) (9 : Int32) r1 e1) rfl gX7_wind_X7_isWithin hs_X7_isWithin rfl ⟨Nat.le_of_ble_eq_true rfl, Nat.le_of_ble_eq_true rfl⟩ ⟨rfl, rfl⟩ ⟨Nat.zero_le _, Nat.zero_le _⟩ rfl [] rfl rfl (Nat.le_of_ble_eq_true rfl) rfl) rfl rfl rfl ?_
  refine r_if_ne (y := 0) (tgt := 13) C dX7_wind_7 rfl rfl (fun c2 => ?_) (fun c2 => ?_)
  · have hf := gd_f c2 hf
    refine r_iload_n C dX7_wind_13 rfl 1 rfl rfl ?_
    refine r_if_lt (y := 0) (tgt := 25) C dX7_wind_14 rfl rfl (fun c3 => ?_) (fun c3 => ?_)
    · have hf := gd_t c3 hf
      refine r_bipush C dX7_wind_25 kk_b_m2 rfl ?_
      cases hf
      exact r_iret C dX7_wind_27 rfl
    · have hf := gd_f c3 hf
      refine r_iload_n C dX7_wind_17 rfl 1 rfl rfl ?_
      obtain ⟨r4, e4, hf⟩ := gd_b hf
      refine o_I (wn := ([(h, oX7 A), ((A 6), oX4 A_6), ((A_6 0), aI cI 9 puzzles_digits), ((A_6 3), aI cI 10 puzzles_sizes), ((A_6 4), aG cG G)] ++ gridW G cI puzzles_times)) C [] rfl (x_S C dX7_wind_18 (c_X7_digitCount l D cI cZ cG u1 r4 e4) rfl gX7_wind_X7_digitCount hs_X7_digitCount rfl ⟨Nat.le_of_ble_eq_true rfl, Nat.le_of_ble_eq_true rfl⟩ ⟨rfl, rfl⟩ ⟨Nat.zero_le _, Nat.zero_le _⟩ rfl [] rfl rfl (Nat.le_of_ble_eq_true rfl) rfl) rfl rfl rfl ?_
      refine r_iload_n C dX7_wind_21 rfl 2 rfl rfl ?_
      refine r_icmp_le (tgt := 28) C dX7_wind_22 rfl rfl (fun c5 => ?_) (fun c5 => ?_)
      · have hf := gd_t c5 hf
        refine r_iload_n C dX7_wind_28 rfl 3 rfl rfl ?_
        refine r_iconst C dX7_wind_29 kk_i_0 rfl ?_
        refine r_iconst C dX7_wind_30 kk_i_1 rfl ?_
        obtain ⟨r6, e6, hf⟩ := gd_b hf
        refine o_I (wn := ([(h, oX7 A), ((A 6), oX4 A_6), ((A_6 0), aI cI 9 puzzles_digits), ((A_6 3), aI cI 10 puzzles_sizes), ((A_6 4), aG cG G)] ++ gridW G cI puzzles_times)) C [] rfl (x_S C dX7_wind_31 (c_X7_isWithin l D cI cZ cG u3 (0 : Int32) (1 : Int32) r6 e6) rfl gX7_wind_X7_isWithin hs_X7_isWithin rfl ⟨Nat.le_of_ble_eq_true rfl, Nat.le_of_ble_eq_true rfl⟩ ⟨rfl, rfl⟩ ⟨Nat.zero_le _, Nat.zero_le _⟩ rfl [] rfl rfl (Nat.le_of_ble_eq_true rfl) rfl) rfl rfl rfl ?_
        refine r_if_ne (y := 0) (tgt := 40) C dX7_wind_34 rfl rfl (fun c7 => ?_) (fun c7 => ?_)
        · have hf := gd_f c7 hf
          refine r_aload_n C dX7_wind_40 rfl 0 rfl rfl ?_
          refine r_get C dX7_wind_41 fw_X7_wind_X7 0 rfl rfl 6 (by decide) rfl fl_X7_wind_50 rfl rfl ?_
          refine r_iload_n C dX7_wind_44 rfl 1 rfl rfl ?_
          refine r_iload_n C dX7_wind_45 rfl 2 rfl rfl ?_
          refine r_iload_n C dX7_wind_46 rfl 3 rfl rfl ?_
          refine r_iconst C dX7_wind_47 kk_i_1 rfl ?_
          refine r_icmp_ne (tgt := 55) C dX7_wind_48 rfl rfl (fun c8 => ?_) (fun c8 => ?_)
          · have hf := gd_f c8 hf
            refine r_iconst C dX7_wind_55 kk_i_0 rfl ?_
            obtain ⟨r9, e9, hf⟩ := gd_b hf
            refine o_I (wn := ([(h, oX7 A), ((A 6), oX4 A_6), ((A_6 0), aI cI 9 r9.2.1), ((A_6 3), aI cI 10 r9.2.2.1), ((A_6 4), aG cG G)] ++ gridW G cI r9.2.2.2)) C [1, 2, 3, 4, 5, 6, 7, 8, 9, 10, 11, 12, 13] rfl (x_V C dX7_wind_56 (c_X4_windingTime l D cI cZ cG (A 6) A_6 G puzzles_digits puzzles_sizes puzzles_times u1 u2 (0 : Int32) r9 e9) rfl gX7_wind_X4_windingTime hd_X4_windingTime rfl ⟨Nat.le_of_ble_eq_true rfl, Nat.le_of_ble_eq_true rfl⟩ ⟨rfl, rfl⟩ ⟨Nat.zero_le _, Nat.zero_le _⟩ rfl [1, 2, 3, 4, 5, 6, 7, 8, 9, 10, 11, 12, 13] rfl rfl 1 rfl rfl (Nat.le_of_ble_eq_true rfl) rfl) rfl rfl rfl ?_
            cases hf
            exact r_iret C dX7_wind_59 rfl
          · have hf := gd_t c8 hf
            refine r_iconst C dX7_wind_51 kk_i_1 rfl ?_
            refine r_goto (tgt := 56) C dX7_wind_52 rfl ?_
            obtain ⟨r10, e10, hf⟩ := gd_b hf
            refine o_I (wn := ([(h, oX7 A), ((A 6), oX4 A_6), ((A_6 0), aI cI 9 r10.2.1), ((A_6 3), aI cI 10 r10.2.2.1), ((A_6 4), aG cG G)] ++ gridW G cI r10.2.2.2)) C [1, 2, 3, 4, 5, 6, 7, 8, 9, 10, 11, 12, 13] rfl (x_V C dX7_wind_56 (c_X4_windingTime l D cI cZ cG (A 6) A_6 G puzzles_digits puzzles_sizes puzzles_times u1 u2 (1 : Int32) r10 e10) rfl gX7_wind_X4_windingTime hd_X4_windingTime rfl ⟨Nat.le_of_ble_eq_true rfl, Nat.le_of_ble_eq_true rfl⟩ ⟨rfl, rfl⟩ ⟨Nat.zero_le _, Nat.zero_le _⟩ rfl [1, 2, 3, 4, 5, 6, 7, 8, 9, 10, 11, 12, 13] rfl rfl 1 rfl rfl (Nat.le_of_ble_eq_true rfl) rfl) rfl rfl rfl ?_
            cases hf
            exact r_iret C dX7_wind_59 rfl
        · have hf := gd_t c7 hf
          refine r_bipush C dX7_wind_37 kk_b_m2 rfl ?_
          cases hf
          exact r_iret C dX7_wind_39 rfl
      · have hf := gd_f c5 hf
        refine r_bipush C dX7_wind_25 kk_b_m2 rfl ?_
        cases hf
        exact r_iret C dX7_wind_27 rfl
  · have hf := gd_t c2 hf
    refine r_bipush C dX7_wind_10 kk_b_m2 rfl ?_
    cases hf
    exact r_iret C dX7_wind_12 rfl
theorem wc_X7_read_178 : Cond.constant RX7 178 (999999999 : Int32) ∈ wsX7_read := by decide +kernel
theorem fw_X7_read_X7 : ∀ w ∈ u_ws RX7 TX7 9, w ∈ wsX7_read := by decide +kernel
theorem fl_X7_read_50 : Cond.fieldLink RX7 50 "MittenLine" "puzzles" "LMittenLine$Puzzles;" ∈ wsX7_read := by decide +kernel
abbrev rm_X7_read : Jvm.Room := { frames := 3, cells := 0, slots := 0, locals := 72 }
def f_X7_read (puzzles_digits : Nat → Int32) (puzzles_words : Nat → Int32) (puzzles_byEnd : Nat → Int32) (u1 : Int32) (u2 : Int32) (u3 : Int32) (u4 : Int32) (u5 : Int32) (u6 : Int32) : Option (Int32 × (Nat → Int32) × (Nat → Int32) × (Nat → Int32)) := (f_X7_isWithin u1 (1 : Int32) (999 : Int32)).bind (fun r1 => if r1 = 0 then some ((-2 : Int32), puzzles_digits, puzzles_words, puzzles_byEnd) else (f_X7_isWithin u2 (1 : Int32) (999 : Int32)).bind (fun r3 => if r3 = 0 then some ((-2 : Int32), puzzles_digits, puzzles_words, puzzles_byEnd) else (f_X7_isWithin u3 (1 : Int32) (999 : Int32)).bind (fun r5 => if r5 = 0 then some ((-2 : Int32), puzzles_digits, puzzles_words, puzzles_byEnd) else (f_X7_isWithin u4 (1 : Int32) (999 : Int32)).bind (fun r7 => if r7 = 0 then some ((-2 : Int32), puzzles_digits, puzzles_words, puzzles_byEnd) else (f_X7_isWithin u5 (0 : Int32) (999999999 : Int32)).bind (fun r9 => if r9 = 0 then some ((-2 : Int32), puzzles_digits, puzzles_words, puzzles_byEnd) else (f_X7_isWithin u6 (0 : Int32) (1 : Int32)).bind (fun r11 => if r11 = 0 then some ((-2 : Int32), puzzles_digits, puzzles_words, puzzles_byEnd) else (f_X4_takeWords puzzles_words u1 u2 u3 u4).bind (fun r13 => (f_X7_digitCount u5).bind (fun r14 => (f_X4_takeDigits puzzles_digits u5 r14).bind (fun r15 => if u6 = 0 then (f_X4_countReadings r15.2 r13 puzzles_byEnd r15.1).bind (fun r18 => some (r18.1, r15.2, r13, r18.2)) else (f_X4_fewestWords r15.2 r13 puzzles_byEnd r15.1).bind (fun r17 => some (r17.1, r15.2, r13, r17.2)))))))))))
set_option maxHeartbeats 4000000 in
set_option maxRecDepth 100000 in
theorem c_X7_read (l : Launch) (D : va_G) (cI cZ cG : ClassId) (h : Nat) (A A_6 : Nat → Nat) (puzzles_digits : Nat → Int32) (puzzles_words : Nat → Int32) (puzzles_byEnd : Nat → Int32) (u1 : Int32) (u2 : Int32) (u3 : Int32) (u4 : Int32) (u5 : Int32) (u6 : Int32) (res : Int32 × (Nat → Int32) × (Nat → Int32) × (Nat → Int32)) (hf : f_X7_read puzzles_digits puzzles_words puzzles_byEnd u1 u2 u3 u4 u5 u6 = some res) : CI l D (tysW cI cZ cG) yX7_read wsX7_read rm_X7_read [.ref h, .int u1, .int u2, .int u3, .int u4, .int u5, .int u6] [(h, oX7 A), ((A 6), oX4 A_6), ((A_6 0), aI cI 9 puzzles_digits), ((A_6 1), aI cI 4 puzzles_words), ((A_6 2), aI cI 10 puzzles_byEnd)] res.1 [(h, oX7 A), ((A 6), oX4 A_6), ((A_6 0), aI cI 9 res.2.1), ((A_6 1), aI cI 4 res.2.2.1), ((A_6 2), aI cI 10 res.2.2.2)] := by
  refine CG.intro (own := RX7) (by decide +kernel) rfl rfl (Nat.le_of_ble_eq_true rfl) (fun p e s m args below meth c C => ?_)
  refine r_lv (lv' := [(0, .ref h), (1, .int u1), (2, .int u2), (3, .int u3), (4, .int u4), (5, .int u5), (6, .int u6)]) [0, 1, 2, 3, 4, 5, 6] rfl ?_
  unfold f_X7_read at hf
  refine r_iload_n C dX7_read_0 rfl 1 rfl rfl ?_
  refine r_iconst C dX7_read_1 kk_i_1 rfl ?_
  refine r_sipush C dX7_read_2 kk_s_999 rfl ?_
  obtain ⟨r1, e1, hf⟩ := gd_b hf
  refine o_I (wn := [(h, oX7 A), ((A 6), oX4 A_6), ((A_6 0), aI cI 9 puzzles_digits), ((A_6 1), aI cI 4 puzzles_words), ((A_6 2), aI cI 10 puzzles_byEnd)]) C [] rfl (x_S C dX7_read_5 (c_X7_isWithin l D cI cZ cG u1 (1 : Int32) (999 : Int32) r1 e1) rfl gX7_read_X7_isWithin hs_X7_isWithin rfl ⟨Nat.le_of_ble_eq_true rfl, Nat.le_of_ble_eq_true rfl⟩ ⟨rfl, rfl⟩ ⟨Nat.zero_le _, Nat.zero_le _⟩ rfl [] rfl rfl (Nat.le_of_ble_eq_true rfl) rfl) rfl rfl rfl ?_
  refine r_if_eq (y := 0) (tgt := 22) C dX7_read_8 rfl rfl (fun c2 => ?_) (fun c2 => ?_)
  · have hf := gd_t c2 hf
    refine r_bipush C dX7_read_22 kk_b_m2 rfl ?_
    cases hf
    exact r_iret C dX7_read_24 rfl
  · have hf := gd_f c2 hf
    refine r_iload_n C dX7_read_11 rfl 2 rfl rfl ?_
    refine r_iconst C dX7_read_12 kk_i_1 rfl ?_
    refine r_sipush C dX7_read_13 kk_s_999 rfl ?_
    obtain ⟨r3, e3, hf⟩ := gd_b hf
    refine o_I (wn := [(h, oX7 A), ((A 6), oX4 A_6), ((A_6 0), aI cI 9 puzzles_digits), ((A_6 1), aI cI 4 puzzles_words), ((A_6 2), aI cI 10 puzzles_byEnd)]) C [] rfl (x_S C dX7_read_16 (c_X7_isWithin l D cI cZ cG u2 (1 : Int32) (999 : Int32) r3 e3) rfl gX7_read_X7_isWithin hs_X7_isWithin rfl ⟨Nat.le_of_ble_eq_true rfl, Nat.le_of_ble_eq_true rfl⟩ ⟨rfl, rfl⟩ ⟨Nat.zero_le _, Nat.zero_le _⟩ rfl [] rfl rfl (Nat.le_of_ble_eq_true rfl) rfl) rfl rfl rfl ?_
    refine r_if_ne (y := 0) (tgt := 25) C dX7_read_19 rfl rfl (fun c4 => ?_) (fun c4 => ?_)
    · have hf := gd_f c4 hf
      refine r_iload_n C dX7_read_25 rfl 3 rfl rfl ?_
      refine r_iconst C dX7_read_26 kk_i_1 rfl ?_
      refine r_sipush C dX7_read_27 kk_s_999 rfl ?_
      obtain ⟨r5, e5, hf⟩ := gd_b hf
      refine o_I (wn := [(h, oX7 A), ((A 6), oX4 A_6), ((A_6 0), aI cI 9 puzzles_digits), ((A_6 1), aI cI 4 puzzles_words), ((A_6 2), aI cI 10 puzzles_byEnd)]) C [] rfl (x_S C dX7_read_30 (c_X7_isWithin l D cI cZ cG u3 (1 : Int32) (999 : Int32) r5 e5) rfl gX7_read_X7_isWithin hs_X7_isWithin rfl ⟨Nat.le_of_ble_eq_true rfl, Nat.le_of_ble_eq_true rfl⟩ ⟨rfl, rfl⟩ ⟨Nat.zero_le _, Nat.zero_le _⟩ rfl [] rfl rfl (Nat.le_of_ble_eq_true rfl) rfl) rfl rfl rfl ?_
      refine r_if_eq (y := 0) (tgt := 48) C dX7_read_33 rfl rfl (fun c6 => ?_) (fun c6 => ?_)
      · have hf := gd_t c6 hf
        refine r_bipush C dX7_read_48 kk_b_m2 rfl ?_
        cases hf
        exact r_iret C dX7_read_50 rfl
      · have hf := gd_f c6 hf
        refine r_iload C dX7_read_36 4 rfl rfl ?_
        refine r_iconst C dX7_read_38 kk_i_1 rfl ?_
        refine r_sipush C dX7_read_39 kk_s_999 rfl ?_
        obtain ⟨r7, e7, hf⟩ := gd_b hf
        refine o_I (wn := [(h, oX7 A), ((A 6), oX4 A_6), ((A_6 0), aI cI 9 puzzles_digits), ((A_6 1), aI cI 4 puzzles_words), ((A_6 2), aI cI 10 puzzles_byEnd)]) C [] rfl (x_S C dX7_read_42 (c_X7_isWithin l D cI cZ cG u4 (1 : Int32) (999 : Int32) r7 e7) rfl gX7_read_X7_isWithin hs_X7_isWithin rfl ⟨Nat.le_of_ble_eq_true rfl, Nat.le_of_ble_eq_true rfl⟩ ⟨rfl, rfl⟩ ⟨Nat.zero_le _, Nat.zero_le _⟩ rfl [] rfl rfl (Nat.le_of_ble_eq_true rfl) rfl) rfl rfl rfl ?_
        refine r_if_ne (y := 0) (tgt := 51) C dX7_read_45 rfl rfl (fun c8 => ?_) (fun c8 => ?_)
        · have hf := gd_f c8 hf
          refine r_iload C dX7_read_51 5 rfl rfl ?_
          refine r_iconst C dX7_read_53 kk_i_0 rfl ?_
          refine r_ldc C dX7_read_54 wc_X7_read_178 rfl ?_
          obtain ⟨r9, e9, hf⟩ := gd_b hf
          refine o_I (wn := [(h, oX7 A), ((A 6), oX4 A_6), ((A_6 0), aI cI 9 puzzles_digits), ((A_6 1), aI cI 4 puzzles_words), ((A_6 2), aI cI 10 puzzles_byEnd)]) C [] rfl (x_S C dX7_read_56 (c_X7_isWithin l D cI cZ cG u5 (0 : Int32) (999999999 : Int32) r9 e9) rfl gX7_read_X7_isWithin hs_X7_isWithin rfl ⟨Nat.le_of_ble_eq_true rfl, Nat.le_of_ble_eq_true rfl⟩ ⟨rfl, rfl⟩ ⟨Nat.zero_le _, Nat.zero_le _⟩ rfl [] rfl rfl (Nat.le_of_ble_eq_true rfl) rfl) rfl rfl rfl ?_
          refine r_if_eq (y := 0) (tgt := 72) C dX7_read_59 rfl rfl (fun c10 => ?_) (fun c10 => ?_)
          · have hf := gd_t c10 hf
            refine r_bipush C dX7_read_72 kk_b_m2 rfl ?_
            cases hf
            exact r_iret C dX7_read_74 rfl
          · have hf := gd_f c10 hf
            refine r_iload C dX7_read_62 6 rfl rfl ?_
            refine r_iconst C dX7_read_64 kk_i_0 rfl ?_
            refine r_iconst C dX7_read_65 kk_i_1 rfl ?_
            obtain ⟨r11, e11, hf⟩ := gd_b hf
            refine o_I (wn := [(h, oX7 A), ((A 6), oX4 A_6), ((A_6 0), aI cI 9 puzzles_digits), ((A_6 1), aI cI 4 puzzles_words), ((A_6 2), aI cI 10 puzzles_byEnd)]) C [] rfl (x_S C dX7_read_66 (c_X7_isWithin l D cI cZ cG u6 (0 : Int32) (1 : Int32) r11 e11) rfl gX7_read_X7_isWithin hs_X7_isWithin rfl ⟨Nat.le_of_ble_eq_true rfl, Nat.le_of_ble_eq_true rfl⟩ ⟨rfl, rfl⟩ ⟨Nat.zero_le _, Nat.zero_le _⟩ rfl [] rfl rfl (Nat.le_of_ble_eq_true rfl) rfl) rfl rfl rfl ?_
            refine r_if_ne (y := 0) (tgt := 75) C dX7_read_69 rfl rfl (fun c12 => ?_) (fun c12 => ?_)
            · have hf := gd_f c12 hf
              refine r_aload_n C dX7_read_75 rfl 0 rfl rfl ?_
              refine r_get C dX7_read_76 fw_X7_read_X7 0 rfl rfl 6 (by decide) rfl fl_X7_read_50 rfl rfl ?_
              refine r_iload_n C dX7_read_79 rfl 1 rfl rfl ?_
              refine r_iload_n C dX7_read_80 rfl 2 rfl rfl ?_
              refine r_iload_n C dX7_read_81 rfl 3 rfl rfl ?_
              refine r_iload C dX7_read_82 4 rfl rfl ?_
              obtain ⟨r13, e13, hf⟩ := gd_b hf
              refine o_V (wn := [(h, oX7 A), ((A 6), oX4 A_6), ((A_6 0), aI cI 9 puzzles_digits), ((A_6 1), aI cI 4 r13), ((A_6 2), aI cI 10 puzzles_byEnd)]) C [1, 3] rfl (x_V C dX7_read_84 (c_X4_takeWords l D cI cZ cG (A 6) A_6 puzzles_words u1 u2 u3 u4 r13 e13) rfl gX7_read_X4_takeWords hd_X4_takeWords rfl ⟨Nat.le_of_ble_eq_true rfl, Nat.le_of_ble_eq_true rfl⟩ ⟨rfl, rfl⟩ ⟨Nat.zero_le _, Nat.zero_le _⟩ rfl [1, 3] rfl rfl 1 rfl rfl (Nat.le_of_ble_eq_true rfl) rfl) rfl rfl rfl ?_
              refine r_aload_n C dX7_read_87 rfl 0 rfl rfl ?_
              refine r_get C dX7_read_88 fw_X7_read_X7 0 rfl rfl 6 (by decide) rfl fl_X7_read_50 rfl rfl ?_
              refine r_iload C dX7_read_91 5 rfl rfl ?_
              refine r_iload C dX7_read_93 5 rfl rfl ?_
              obtain ⟨r14, e14, hf⟩ := gd_b hf
              refine o_I (wn := [(h, oX7 A), ((A 6), oX4 A_6), ((A_6 0), aI cI 9 puzzles_digits), ((A_6 1), aI cI 4 r13), ((A_6 2), aI cI 10 puzzles_byEnd)]) C [] rfl (x_S C dX7_read_95 (c_X7_digitCount l D cI cZ cG u5 r14 e14) rfl gX7_read_X7_digitCount hs_X7_digitCount rfl ⟨Nat.le_of_ble_eq_true rfl, Nat.le_of_ble_eq_true rfl⟩ ⟨rfl, rfl⟩ ⟨Nat.zero_le _, Nat.zero_le _⟩ rfl [] rfl rfl (Nat.le_of_ble_eq_true rfl) rfl) rfl rfl rfl ?_
              obtain ⟨r15, e15, hf⟩ := gd_b hf
              refine o_I (wn := [(h, oX7 A), ((A 6), oX4 A_6), ((A_6 0), aI cI 9 r15.2), ((A_6 1), aI cI 4 r13), ((A_6 2), aI cI 10 puzzles_byEnd)]) C [1, 2] rfl (x_V C dX7_read_98 (c_X4_takeDigits l D cI cZ cG (A 6) A_6 puzzles_digits u5 r14 r15 e15) rfl gX7_read_X4_takeDigits hd_X4_takeDigits rfl ⟨Nat.le_of_ble_eq_true rfl, Nat.le_of_ble_eq_true rfl⟩ ⟨rfl, rfl⟩ ⟨Nat.zero_le _, Nat.zero_le _⟩ rfl [1, 2] rfl rfl 1 rfl rfl (Nat.le_of_ble_eq_true rfl) rfl) rfl rfl rfl ?_
              refine r_istore (lv' := [(7, .int r15.1), (0, .ref h), (1, .int u1), (2, .int u2), (3, .int u3), (4, .int u4), (5, .int u5), (6, .int u6)]) C dX7_read_101 (by decide) rfl rfl ?_
              refine r_iload C dX7_read_103 7 rfl rfl ?_
              refine r_if_ne (y := 0) (tgt := 120) C dX7_read_105 rfl rfl (fun c16 => ?_) (fun c16 => ?_)
              · have hf := gd_f c16 hf
                refine r_aload_n C dX7_read_120 rfl 1 rfl rfl ?_
                refine r_get C dX7_read_121 fw_X7_read_X7 0 rfl rfl 6 (by decide) rfl fl_X7_read_50 rfl rfl ?_
                refine r_iload C dX7_read_124 0 rfl rfl ?_
                obtain ⟨r17, e17, hf⟩ := gd_b hf
                refine o_I (wn := [(h, oX7 A), ((A 6), oX4 A_6), ((A_6 0), aI cI 9 r15.2), ((A_6 1), aI cI 4 r13), ((A_6 2), aI cI 10 r17.2)]) C [1, 2, 3, 4] rfl (x_V C dX7_read_126 (c_X4_fewestWords l D cI cZ cG (A 6) A_6 r15.2 r13 puzzles_byEnd r15.1 r17 e17) rfl gX7_read_X4_fewestWords hd_X4_fewestWords rfl ⟨Nat.le_of_ble_eq_true rfl, Nat.le_of_ble_eq_true rfl⟩ ⟨rfl, rfl⟩ ⟨Nat.zero_le _, Nat.zero_le _⟩ rfl [1, 2, 3, 4] rfl rfl 1 rfl rfl (Nat.le_of_ble_eq_true rfl) rfl) rfl rfl rfl ?_
                cases hf
                exact r_iret C dX7_read_129 rfl
              · have hf := gd_t c16 hf
                refine r_aload_n C dX7_read_108 rfl 1 rfl rfl ?_
                refine r_get C dX7_read_109 fw_X7_read_X7 0 rfl rfl 6 (by decide) rfl fl_X7_read_50 rfl rfl ?_
                refine r_iload C dX7_read_112 0 rfl rfl ?_
                obtain ⟨r18, e18, hf⟩ := gd_b hf
                refine o_I (wn := [(h, oX7 A), ((A 6), oX4 A_6), ((A_6 0), aI cI 9 r15.2), ((A_6 1), aI cI 4 r13), ((A_6 2), aI cI 10 r18.2)]) C [1, 2, 3, 4] rfl (x_V C dX7_read_114 (c_X4_countReadings l D cI cZ cG (A 6) A_6 r15.2 r13 puzzles_byEnd r15.1 r18 e18) rfl gX7_read_X4_countReadings hd_X4_countReadings rfl ⟨Nat.le_of_ble_eq_true rfl, Nat.le_of_ble_eq_true rfl⟩ ⟨rfl, rfl⟩ ⟨Nat.zero_le _, Nat.zero_le _⟩ rfl [1, 2, 3, 4] rfl rfl 1 rfl rfl (Nat.le_of_ble_eq_true rfl) rfl) rfl rfl rfl ?_
                refine r_goto (tgt := 129) C dX7_read_117 rfl ?_
                cases hf
                exact r_iret C dX7_read_129 rfl
            · have hf := gd_t c12 hf
              refine r_bipush C dX7_read_72 kk_b_m2 rfl ?_
              cases hf
              exact r_iret C dX7_read_74 rfl
        · have hf := gd_t c8 hf
          refine r_bipush C dX7_read_48 kk_b_m2 rfl ?_
          cases hf
          exact r_iret C dX7_read_50 rfl
    · have hf := gd_t c4 hf
      refine r_bipush C dX7_read_22 kk_b_m2 rfl ?_
      cases hf
      exact r_iret C dX7_read_24 rfl
theorem fw_X7_felt_X7 : ∀ w ∈ u_ws RX7 TX7 9, w ∈ wsX7_felt := by decide +kernel
theorem fl_X7_felt_36 : Cond.fieldLink RX7 36 "MittenLine" "sights" "LMittenLine$Sights;" ∈ wsX7_felt := by decide +kernel
theorem fw_X7_felt_X6 : ∀ w ∈ u_ws RX6 TX6 3, w ∈ wsX7_felt := by decide +kernel
theorem fl_X7_felt_194 : Cond.fieldLink RX7 194 "MittenLine$Sights" "count" "I" ∈ wsX7_felt := by decide +kernel
abbrev rm_X7_felt : Jvm.Room := { frames := 1, cells := 0, slots := 0, locals := 22 }
def f_X7_felt (sights_who : Nat → Int32) (sights_much : Nat → Int32) (sights_count : Int32) (u1 : Int32) (u2 : Int32) : Option (Int32 × (Nat → Int32) × (Nat → Int32) × Int32) := (f_X7_isWithin u1 (0 : Int32) (9 : Int32)).bind (fun r1 => if r1 = 0 then some ((-1 : Int32), sights_who, sights_much, sights_count) else (f_X7_isWithin u2 (0 : Int32) (9 : Int32)).bind (fun r3 => if r3 = 0 then some ((-2 : Int32), sights_who, sights_much, sights_count) else (f_X6_add sights_who sights_much sights_count u1 u2).bind (fun r5 => if r5.1 = 0 then some ((-4 : Int32), r5.2.1, r5.2.2.1, r5.2.2.2) else some (r5.2.2.2, r5.2.1, r5.2.2.1, r5.2.2.2))))
set_option maxHeartbeats 4000000 in
set_option maxRecDepth 100000 in
theorem c_X7_felt (l : Launch) (D : va_G) (cI cZ cG : ClassId) (h : Nat) (A A_4 : Nat → Nat) (sights_who : Nat → Int32) (sights_much : Nat → Int32) (sights_count : Int32) (u1 : Int32) (u2 : Int32) (res : Int32 × (Nat → Int32) × (Nat → Int32) × Int32) (hf : f_X7_felt sights_who sights_much sights_count u1 u2 = some res) : CI l D (tysW cI cZ cG) yX7_felt wsX7_felt rm_X7_felt [.ref h, .int u1, .int u2] [(h, oX7 A), ((A 4), oX6 A_4 sights_count), ((A_4 0), aI cI 8 sights_who), ((A_4 1), aI cI 8 sights_much)] res.1 [(h, oX7 A), ((A 4), oX6 A_4 res.2.2.2), ((A_4 0), aI cI 8 res.2.1), ((A_4 1), aI cI 8 res.2.2.1)] := by
  refine CG.intro (own := RX7) (by decide +kernel) rfl rfl (Nat.le_of_ble_eq_true rfl) (fun p e s m args below meth c C => ?_)
  refine r_lv (lv' := [(0, .ref h), (1, .int u1), (2, .int u2)]) [0, 1, 2] rfl ?_
  unfold f_X7_felt at hf
  refine r_iload_n C dX7_felt_0 rfl 1 rfl rfl ?_
  refine r_iconst C dX7_felt_1 kk_i_0 rfl ?_
  refine r_bipush C dX7_felt_2 kk_b_9 rfl ?_
  obtain ⟨r1, e1, hf⟩ := gd_b hf
  refine o_I (wn := [(h, oX7 A), ((A 4), oX6 A_4 sights_count), ((A_4 0), aI cI 8 sights_who), ((A_4 1), aI cI 8 sights_much)]) C [] rfl (x_S C dX7_felt_4 (c_X7_isWithin l D cI cZ cG u1 (0 : Int32) (9 : Int32) r1 e1) rfl gX7_felt_X7_isWithin hs_X7_isWithin rfl ⟨Nat.le_of_ble_eq_true rfl, Nat.le_of_ble_eq_true rfl⟩ ⟨rfl, rfl⟩ ⟨Nat.zero_le _, Nat.zero_le _⟩ rfl [] rfl rfl (Nat.le_of_ble_eq_true rfl) rfl) rfl rfl rfl ?_
  refine r_if_ne (y := 0) (tgt := 12) C dX7_felt_7 rfl rfl (fun c2 => ?_) (fun c2 => ?_)
  · have hf := gd_f c2 hf
    refine r_iload_n C dX7_felt_12 rfl 2 rfl rfl ?_
    refine r_iconst C dX7_felt_13 kk_i_0 rfl ?_
    refine r_bipush C dX7_felt_14 kk_b_9 rfl ?_
    obtain ⟨r3, e3, hf⟩ := gd_b hf
    refine o_I (wn := [(h, oX7 A), ((A 4), oX6 A_4 sights_count), ((A_4 0), aI cI 8 sights_who), ((A_4 1), aI cI 8 sights_much)]) C [] rfl (x_S C dX7_felt_16 (c_X7_isWithin l D cI cZ cG u2 (0 : Int32) (9 : Int32) r3 e3) rfl gX7_felt_X7_isWithin hs_X7_isWithin rfl ⟨Nat.le_of_ble_eq_true rfl, Nat.le_of_ble_eq_true rfl⟩ ⟨rfl, rfl⟩ ⟨Nat.zero_le _, Nat.zero_le _⟩ rfl [] rfl rfl (Nat.le_of_ble_eq_true rfl) rfl) rfl rfl rfl ?_
    refine r_if_ne (y := 0) (tgt := 25) C dX7_felt_19 rfl rfl (fun c4 => ?_) (fun c4 => ?_)
    · have hf := gd_f c4 hf
      refine r_aload_n C dX7_felt_25 rfl 0 rfl rfl ?_
      refine r_get C dX7_felt_26 fw_X7_felt_X7 0 rfl rfl 4 (by decide) rfl fl_X7_felt_36 rfl rfl ?_
      refine r_iload_n C dX7_felt_29 rfl 1 rfl rfl ?_
      refine r_iload_n C dX7_felt_30 rfl 2 rfl rfl ?_
      obtain ⟨r5, e5, hf⟩ := gd_b hf
      refine o_I (wn := [(h, oX7 A), ((A 4), oX6 A_4 r5.2.2.2), ((A_4 0), aI cI 8 r5.2.1), ((A_4 1), aI cI 8 r5.2.2.1)]) C [1, 2, 3] rfl (x_V C dX7_felt_31 (c_X6_add l D cI cZ cG (A 4) A_4 sights_who sights_much sights_count u1 u2 r5 e5) rfl gX7_felt_X6_add hd_X6_add rfl ⟨Nat.le_of_ble_eq_true rfl, Nat.le_of_ble_eq_true rfl⟩ ⟨rfl, rfl⟩ ⟨Nat.zero_le _, Nat.zero_le _⟩ rfl [1, 2, 3] rfl rfl 1 rfl rfl (Nat.le_of_ble_eq_true rfl) rfl) rfl rfl rfl ?_
      refine r_if_eq (y := 0) (tgt := 47) C dX7_felt_34 rfl rfl (fun c6 => ?_) (fun c6 => ?_)
      · have hf := gd_t c6 hf
        refine r_bipush C dX7_felt_47 kk_b_m4 rfl ?_
        cases hf
        exact r_iret C dX7_felt_49 rfl
      · have hf := gd_f c6 hf
        refine r_aload_n C dX7_felt_37 rfl 0 rfl rfl ?_
        refine r_get C dX7_felt_38 fw_X7_felt_X7 0 rfl rfl 4 (by decide) rfl fl_X7_felt_36 rfl rfl ?_
        refine r_get C dX7_felt_41 fw_X7_felt_X6 1 rfl rfl 2 (by decide) rfl fl_X7_felt_194 rfl rfl ?_
        refine r_goto (tgt := 49) C dX7_felt_44 rfl ?_
        cases hf
        exact r_iret C dX7_felt_49 rfl
    · have hf := gd_t c4 hf
      refine r_bipush C dX7_felt_22 kk_b_m2 rfl ?_
      cases hf
      exact r_iret C dX7_felt_24 rfl
  · have hf := gd_t c2 hf
    refine r_iconst C dX7_felt_10 kk_i_m1 rfl ?_
    cases hf
    exact r_iret C dX7_felt_11 rfl
theorem fw_X7_forget_X7 : ∀ w ∈ u_ws RX7 TX7 9, w ∈ wsX7_forget := by decide +kernel
theorem fl_X7_forget_36 : Cond.fieldLink RX7 36 "MittenLine" "sights" "LMittenLine$Sights;" ∈ wsX7_forget := by decide +kernel
theorem fw_X7_forget_X6 : ∀ w ∈ u_ws RX6 TX6 3, w ∈ wsX7_forget := by decide +kernel
theorem fl_X7_forget_194 : Cond.fieldLink RX7 194 "MittenLine$Sights" "count" "I" ∈ wsX7_forget := by decide +kernel
abbrev rm_X7_forget : Jvm.Room := { frames := 1, cells := 0, slots := 0, locals := 20 }
def f_X7_forget (sights_count : Int32) : Option (Int32 × Int32) := (f_X6_clear sights_count).bind (fun r1 => some (sights_count, r1))
set_option maxHeartbeats 4000000 in
set_option maxRecDepth 100000 in
theorem c_X7_forget (l : Launch) (D : va_G) (cI cZ cG : ClassId) (h : Nat) (A A_4 : Nat → Nat) (sights_count : Int32) (res : Int32 × Int32) (hf : f_X7_forget sights_count = some res) : CI l D (tysW cI cZ cG) yX7_forget wsX7_forget rm_X7_forget [.ref h] [(h, oX7 A), ((A 4), oX6 A_4 sights_count)] res.1 [(h, oX7 A), ((A 4), oX6 A_4 res.2)] := by
  refine CG.intro (own := RX7) (by decide +kernel) rfl rfl (Nat.le_of_ble_eq_true rfl) (fun p e s m args below meth c C => ?_)
  refine r_lv (lv' := [(0, .ref h)]) [0] rfl ?_
  unfold f_X7_forget at hf
  refine r_aload_n C dX7_forget_0 rfl 0 rfl rfl ?_
  refine r_get C dX7_forget_1 fw_X7_forget_X7 0 rfl rfl 4 (by decide) rfl fl_X7_forget_36 rfl rfl ?_
  refine r_get C dX7_forget_4 fw_X7_forget_X6 1 rfl rfl 2 (by decide) rfl fl_X7_forget_194 rfl rfl ?_
  refine r_istore_n (lv' := [(1, .int sights_count), (0, .ref h)]) C dX7_forget_7 rfl (by decide) rfl rfl ?_
  refine r_aload_n C dX7_forget_8 rfl 1 rfl rfl ?_
  refine r_get C dX7_forget_9 fw_X7_forget_X7 0 rfl rfl 4 (by decide) rfl fl_X7_forget_36 rfl rfl ?_
  obtain ⟨r1, e1, hf⟩ := gd_b hf
  refine o_V (wn := [(h, oX7 A), ((A 4), oX6 A_4 r1)]) C [1] rfl (x_V C dX7_forget_12 (c_X6_clear l D cI cZ cG (A 4) A_4 sights_count r1 e1) rfl gX7_forget_X6_clear hd_X6_clear rfl ⟨Nat.le_of_ble_eq_true rfl, Nat.le_of_ble_eq_true rfl⟩ ⟨rfl, rfl⟩ ⟨Nat.zero_le _, Nat.zero_le _⟩ rfl [1] rfl rfl 1 rfl rfl (Nat.le_of_ble_eq_true rfl) rfl) rfl rfl rfl ?_
  refine r_iload_n C dX7_forget_15 rfl 0 rfl rfl ?_
  cases hf
  exact r_iret C dX7_forget_16 rfl
theorem fw_X7_fits_X7 : ∀ w ∈ u_ws RX7 TX7 9, w ∈ wsX7_fits := by decide +kernel
theorem fl_X7_fits_43 : Cond.fieldLink RX7 43 "MittenLine" "guess" "LMittenLine$Guess;" ∈ wsX7_fits := by decide +kernel
theorem fl_X7_fits_36 : Cond.fieldLink RX7 36 "MittenLine" "sights" "LMittenLine$Sights;" ∈ wsX7_fits := by decide +kernel
abbrev rm_X7_fits : Jvm.Room := { frames := 4, cells := 0, slots := 0, locals := 92 }
def f_X7_fits (sights_who : Nat → Int32) (sights_much : Nat → Int32) (sights_count : Int32) (u1 : Int32) : Option (Int32) := if (-1 : Int32) ≤ u1 then if u1 = (-1 : Int32) then (f_X1_countFitting sights_who sights_much sights_count).bind (fun r4 => some (r4)) else (f_X1_fitting sights_who sights_much sights_count u1).bind (fun r3 => some (r3)) else some ((-6 : Int32))
set_option maxHeartbeats 4000000 in
set_option maxRecDepth 100000 in
theorem c_X7_fits (l : Launch) (D : va_G) (cI cZ cG : ClassId) (h : Nat) (A A_4 A_5 : Nat → Nat) (sights_who : Nat → Int32) (sights_much : Nat → Int32) (sights_count : Int32) (guess_askedChild : Int32) (guess_mostLeft : Int32) (u1 : Int32) (res : Int32) (hf : f_X7_fits sights_who sights_much sights_count u1 = some res) : CI l D (tysW cI cZ cG) yX7_fits wsX7_fits rm_X7_fits [.ref h, .int u1] [(h, oX7 A), ((A 4), oX6 A_4 sights_count), ((A 5), oX1 A_5 guess_askedChild guess_mostLeft), ((A_4 0), aI cI 8 sights_who), ((A_4 1), aI cI 8 sights_much)] res [(h, oX7 A), ((A 4), oX6 A_4 sights_count), ((A 5), oX1 A_5 guess_askedChild guess_mostLeft), ((A_4 0), aI cI 8 sights_who), ((A_4 1), aI cI 8 sights_much)] := by
  refine CG.intro (own := RX7) (by decide +kernel) rfl rfl (Nat.le_of_ble_eq_true rfl) (fun p e s m args below meth c C => ?_)
  refine r_lv (lv' := [(0, .ref h), (1, .int u1)]) [0, 1] rfl ?_
  unfold f_X7_fits at hf
  refine r_iload_n C dX7_fits_0 rfl 1 rfl rfl ?_
  refine r_iconst C dX7_fits_1 kk_i_m1 rfl ?_
  refine r_icmp_ge (tgt := 8) C dX7_fits_2 rfl rfl (fun c1 => ?_) (fun c1 => ?_)
  · have hf := gd_t c1 hf
    refine r_iload_n C dX7_fits_8 rfl 1 rfl rfl ?_
    refine r_iconst C dX7_fits_9 kk_i_m1 rfl ?_
    refine r_icmp_ne (tgt := 27) C dX7_fits_10 rfl rfl (fun c2 => ?_) (fun c2 => ?_)
    · have hf := gd_f c2 hf
      refine r_aload_n C dX7_fits_27 rfl 0 rfl rfl ?_
      refine r_get C dX7_fits_28 fw_X7_fits_X7 0 rfl rfl 5 (by decide) rfl fl_X7_fits_43 rfl rfl ?_
      refine r_aload_n C dX7_fits_31 rfl 0 rfl rfl ?_
      refine r_get C dX7_fits_32 fw_X7_fits_X7 0 rfl rfl 4 (by decide) rfl fl_X7_fits_36 rfl rfl ?_
      refine r_iload_n C dX7_fits_35 rfl 1 rfl rfl ?_
      obtain ⟨r3, e3, hf⟩ := gd_b hf
      refine o_I (wn := [(h, oX7 A), ((A 4), oX6 A_4 sights_count), ((A 5), oX1 A_5 guess_askedChild guess_mostLeft), ((A_4 0), aI cI 8 sights_who), ((A_4 1), aI cI 8 sights_much)]) C [1, 3, 4] rfl (x_V C dX7_fits_36 (c_X1_fitting l D cI cZ cG (A 5) (A 4) A_4 sights_who sights_much sights_count u1 r3 e3) rfl gX7_fits_X1_fitting hd_X1_fitting rfl ⟨Nat.le_of_ble_eq_true rfl, Nat.le_of_ble_eq_true rfl⟩ ⟨rfl, rfl⟩ ⟨Nat.zero_le _, Nat.zero_le _⟩ rfl [1, 3, 4] rfl rfl 2 rfl rfl (Nat.le_of_ble_eq_true rfl) rfl) rfl rfl rfl ?_
      cases hf
      exact r_iret C dX7_fits_39 rfl
    · have hf := gd_t c2 hf
      refine r_aload_n C dX7_fits_13 rfl 0 rfl rfl ?_
      refine r_get C dX7_fits_14 fw_X7_fits_X7 0 rfl rfl 5 (by decide) rfl fl_X7_fits_43 rfl rfl ?_
      refine r_aload_n C dX7_fits_17 rfl 0 rfl rfl ?_
      refine r_get C dX7_fits_18 fw_X7_fits_X7 0 rfl rfl 4 (by decide) rfl fl_X7_fits_36 rfl rfl ?_
      obtain ⟨r4, e4, hf⟩ := gd_b hf
      refine o_I (wn := [(h, oX7 A), ((A 4), oX6 A_4 sights_count), ((A 5), oX1 A_5 guess_askedChild guess_mostLeft), ((A_4 0), aI cI 8 sights_who), ((A_4 1), aI cI 8 sights_much)]) C [1, 3, 4] rfl (x_V C dX7_fits_21 (c_X1_countFitting l D cI cZ cG (A 5) (A 4) A_4 sights_who sights_much sights_count r4 e4) rfl gX7_fits_X1_countFitting hd_X1_countFitting rfl ⟨Nat.le_of_ble_eq_true rfl, Nat.le_of_ble_eq_true rfl⟩ ⟨rfl, rfl⟩ ⟨Nat.zero_le _, Nat.zero_le _⟩ rfl [1, 3, 4] rfl rfl 2 rfl rfl (Nat.le_of_ble_eq_true rfl) rfl) rfl rfl rfl ?_
      refine r_goto (tgt := 39) C dX7_fits_24 rfl ?_
      cases hf
      exact r_iret C dX7_fits_39 rfl
  · have hf := gd_f c1 hf
    refine r_bipush C dX7_fits_5 kk_b_m6 rfl ?_
    cases hf
    exact r_iret C dX7_fits_7 rfl
theorem fw_X7_ask_X7 : ∀ w ∈ u_ws RX7 TX7 9, w ∈ wsX7_ask := by decide +kernel
theorem fl_X7_ask_43 : Cond.fieldLink RX7 43 "MittenLine" "guess" "LMittenLine$Guess;" ∈ wsX7_ask := by decide +kernel
theorem fl_X7_ask_36 : Cond.fieldLink RX7 36 "MittenLine" "sights" "LMittenLine$Sights;" ∈ wsX7_ask := by decide +kernel
theorem fw_X7_ask_X1 : ∀ w ∈ u_ws RX1 TX1 3, w ∈ wsX7_ask := by decide +kernel
theorem fl_X7_ask_211 : Cond.fieldLink RX7 211 "MittenLine$Guess" "mostLeft" "I" ∈ wsX7_ask := by decide +kernel
theorem fl_X7_ask_208 : Cond.fieldLink RX7 208 "MittenLine$Guess" "askedChild" "I" ∈ wsX7_ask := by decide +kernel
abbrev rm_X7_ask : Jvm.Room := { frames := 5, cells := 0, slots := 0, locals := 116 }
def f_X7_ask (sights_who : Nat → Int32) (sights_much : Nat → Int32) (sights_count : Int32) (guess_tally : Nat → Int32) (guess_askedChild : Int32) (guess_mostLeft : Int32) (u1 : Int32) : Option (Int32 × (Nat → Int32) × Int32 × Int32) := (f_X7_isWithin u1 (0 : Int32) (1 : Int32)).bind (fun r1 => if r1 = 0 then some ((-2 : Int32), guess_tally, guess_askedChild, guess_mostLeft) else (f_X1_countFitting sights_who sights_much sights_count).bind (fun r3 => if r3 = 0 then some ((-6 : Int32), guess_tally, guess_askedChild, guess_mostLeft) else (f_X1_chooseChild guess_tally guess_askedChild guess_mostLeft sights_who sights_much sights_count).bind (fun r5 => if u1 = 0 then some (r5.2.1, r5.1, r5.2.1, r5.2.2) else some (r5.2.2, r5.1, r5.2.1, r5.2.2))))
set_option maxHeartbeats 4000000 in
set_option maxRecDepth 100000 in
theorem c_X7_ask (l : Launch) (D : va_G) (cI cZ cG : ClassId) (h : Nat) (A A_4 A_5 : Nat → Nat) (sights_who : Nat → Int32) (sights_much : Nat → Int32) (sights_count : Int32) (guess_tally : Nat → Int32) (guess_askedChild : Int32) (guess_mostLeft : Int32) (u1 : Int32) (res : Int32 × (Nat → Int32) × Int32 × Int32) (hf : f_X7_ask sights_who sights_much sights_count guess_tally guess_askedChild guess_mostLeft u1 = some res) : CI l D (tysW cI cZ cG) yX7_ask wsX7_ask rm_X7_ask [.ref h, .int u1] [(h, oX7 A), ((A 4), oX6 A_4 sights_count), ((A 5), oX1 A_5 guess_askedChild guess_mostLeft), ((A_4 0), aI cI 8 sights_who), ((A_4 1), aI cI 8 sights_much), ((A_5 0), aI cI 10 guess_tally)] res.1 [(h, oX7 A), ((A 4), oX6 A_4 sights_count), ((A 5), oX1 A_5 res.2.2.1 res.2.2.2), ((A_4 0), aI cI 8 sights_who), ((A_4 1), aI cI 8 sights_much), ((A_5 0), aI cI 10 res.2.1)] := by
  refine CG.intro (own := RX7) (by decide +kernel) rfl rfl (Nat.le_of_ble_eq_true rfl) (fun p e s m args below meth c C => ?_)
  refine r_lv (lv' := [(0, .ref h), (1, .int u1)]) [0, 1] rfl ?_
  unfold f_X7_ask at hf
  refine r_iload_n C dX7_ask_0 rfl 1 rfl rfl ?_
  refine r_iconst C dX7_ask_1 kk_i_0 rfl ?_
  refine r_iconst C dX7_ask_2 kk_i_1 rfl ?_
  obtain ⟨r1, e1, hf⟩ := gd_b hf
  refine o_I (wn := [(h, oX7 A), ((A 4), oX6 A_4 sights_count), ((A 5), oX1 A_5 guess_askedChild guess_mostLeft), ((A_4 0), aI cI 8 sights_who), ((A_4 1), aI cI 8 sights_much), ((A_5 0), aI cI 10 guess_tally)]) C [] rfl (x_S C dX7_ask_3 (c_X7_isWithin l D cI cZ cG u1 (0 : Int32) (1 : Int32) r1 e1) rfl gX7_ask_X7_isWithin hs_X7_isWithin rfl ⟨Nat.le_of_ble_eq_true rfl, Nat.le_of_ble_eq_true rfl⟩ ⟨rfl, rfl⟩ ⟨Nat.zero_le _, Nat.zero_le _⟩ rfl [] rfl rfl (Nat.le_of_ble_eq_true rfl) rfl) rfl rfl rfl ?_
  refine r_if_ne (y := 0) (tgt := 12) C dX7_ask_6 rfl rfl (fun c2 => ?_) (fun c2 => ?_)
  · have hf := gd_f c2 hf
    refine r_aload_n C dX7_ask_12 rfl 0 rfl rfl ?_
    refine r_get C dX7_ask_13 fw_X7_ask_X7 0 rfl rfl 5 (by decide) rfl fl_X7_ask_43 rfl rfl ?_
    refine r_aload_n C dX7_ask_16 rfl 0 rfl rfl ?_
    refine r_get C dX7_ask_17 fw_X7_ask_X7 0 rfl rfl 4 (by decide) rfl fl_X7_ask_36 rfl rfl ?_
    obtain ⟨r3, e3, hf⟩ := gd_b hf
    refine o_I (wn := [(h, oX7 A), ((A 4), oX6 A_4 sights_count), ((A 5), oX1 A_5 guess_askedChild guess_mostLeft), ((A_4 0), aI cI 8 sights_who), ((A_4 1), aI cI 8 sights_much), ((A_5 0), aI cI 10 guess_tally)]) C [1, 3, 4] rfl (x_V C dX7_ask_20 (c_X1_countFitting l D cI cZ cG (A 5) (A 4) A_4 sights_who sights_much sights_count r3 e3) rfl gX7_ask_X1_countFitting hd_X1_countFitting rfl ⟨Nat.le_of_ble_eq_true rfl, Nat.le_of_ble_eq_true rfl⟩ ⟨rfl, rfl⟩ ⟨Nat.zero_le _, Nat.zero_le _⟩ rfl [1, 3, 4] rfl rfl 2 rfl rfl (Nat.le_of_ble_eq_true rfl) rfl) rfl rfl rfl ?_
    refine r_if_ne (y := 0) (tgt := 29) C dX7_ask_23 rfl rfl (fun c4 => ?_) (fun c4 => ?_)
    · have hf := gd_f c4 hf
      refine r_aload_n C dX7_ask_29 rfl 0 rfl rfl ?_
      refine r_get C dX7_ask_30 fw_X7_ask_X7 0 rfl rfl 5 (by decide) rfl fl_X7_ask_43 rfl rfl ?_
      refine r_aload_n C dX7_ask_33 rfl 0 rfl rfl ?_
      refine r_get C dX7_ask_34 fw_X7_ask_X7 0 rfl rfl 4 (by decide) rfl fl_X7_ask_36 rfl rfl ?_
      obtain ⟨r5, e5, hf⟩ := gd_b hf
      refine o_V (wn := [(h, oX7 A), ((A 4), oX6 A_4 sights_count), ((A 5), oX1 A_5 r5.2.1 r5.2.2), ((A_4 0), aI cI 8 sights_who), ((A_4 1), aI cI 8 sights_much), ((A_5 0), aI cI 10 r5.1)]) C [2, 1, 5, 3, 4] rfl (x_V C dX7_ask_37 (c_X1_chooseChild l D cI cZ cG (A 5) (A 4) A_5 A_4 guess_tally guess_askedChild guess_mostLeft sights_who sights_much sights_count r5 e5) rfl gX7_ask_X1_chooseChild hd_X1_chooseChild rfl ⟨Nat.le_of_ble_eq_true rfl, Nat.le_of_ble_eq_true rfl⟩ ⟨rfl, rfl⟩ ⟨Nat.zero_le _, Nat.zero_le _⟩ rfl [2, 1, 5, 3, 4] rfl rfl 2 rfl rfl (Nat.le_of_ble_eq_true rfl) rfl) rfl rfl rfl ?_
      refine r_iload_n C dX7_ask_40 rfl 1 rfl rfl ?_
      refine r_if_ne (y := 0) (tgt := 54) C dX7_ask_41 rfl rfl (fun c6 => ?_) (fun c6 => ?_)
      · have hf := gd_f c6 hf
        refine r_aload_n C dX7_ask_54 rfl 0 rfl rfl ?_
        refine r_get C dX7_ask_55 fw_X7_ask_X7 0 rfl rfl 5 (by decide) rfl fl_X7_ask_43 rfl rfl ?_
        refine r_get C dX7_ask_58 fw_X7_ask_X1 2 rfl rfl 2 (by decide) rfl fl_X7_ask_211 rfl rfl ?_
        cases hf
        exact r_iret C dX7_ask_61 rfl
      · have hf := gd_t c6 hf
        refine r_aload_n C dX7_ask_44 rfl 0 rfl rfl ?_
        refine r_get C dX7_ask_45 fw_X7_ask_X7 0 rfl rfl 5 (by decide) rfl fl_X7_ask_43 rfl rfl ?_
        refine r_get C dX7_ask_48 fw_X7_ask_X1 2 rfl rfl 1 (by decide) rfl fl_X7_ask_208 rfl rfl ?_
        refine r_goto (tgt := 61) C dX7_ask_51 rfl ?_
        cases hf
        exact r_iret C dX7_ask_61 rfl
    · have hf := gd_t c4 hf
      refine r_bipush C dX7_ask_26 kk_b_m6 rfl ?_
      cases hf
      exact r_iret C dX7_ask_28 rfl
  · have hf := gd_t c2 hf
    refine r_bipush C dX7_ask_9 kk_b_m2 rfl ?_
    cases hf
    exact r_iret C dX7_ask_11 rfl
theorem fw_X7_pull_X7 : ∀ w ∈ u_ws RX7 TX7 9, w ∈ wsX7_pull := by decide +kernel
theorem fl_X7_pull_50 : Cond.fieldLink RX7 50 "MittenLine" "puzzles" "LMittenLine$Puzzles;" ∈ wsX7_pull := by decide +kernel
abbrev rm_X7_pull : Jvm.Room := { frames := 1, cells := 0, slots := 0, locals := 25 }
def f_X7_pull (puzzles_winning : Nat → Int32) (u1 : Int32) (u2 : Int32) (u3 : Int32) (u4 : Int32) : Option (Int32 × (Nat → Int32)) := (f_X7_isWithin u1 (0 : Int32) (99 : Int32)).bind (fun r1 => if r1 = 0 then some ((-2 : Int32), puzzles_winning) else (f_X7_isWithin u2 (1 : Int32) (9 : Int32)).bind (fun r3 => if r3 = 0 then some ((-2 : Int32), puzzles_winning) else (f_X7_isWithin u3 (0 : Int32) (9 : Int32)).bind (fun r5 => if r5 = 0 then some ((-2 : Int32), puzzles_winning) else (f_X7_isWithin u4 (0 : Int32) (1 : Int32)).bind (fun r7 => if r7 = 0 then some ((-2 : Int32), puzzles_winning) else (f_X4_winningPulls puzzles_winning u1 u2).bind (fun r9 => if u4 = 0 then if (r9.1 &&& (((1 : Int32) <<< (u3 &&& 31)) ^^^ (-1 : Int32))) = 0 then some ((0 : Int32), r9.2) else some ((1 : Int32), r9.2) else (f_X7_leastBit (r9.1 &&& (((1 : Int32) <<< (u3 &&& 31)) ^^^ (-1 : Int32)))).bind (fun r11 => some (r11, r9.2)))))))
set_option maxHeartbeats 4000000 in
set_option maxRecDepth 100000 in
theorem c_X7_pull (l : Launch) (D : va_G) (cI cZ cG : ClassId) (h : Nat) (A A_6 : Nat → Nat) (puzzles_winning : Nat → Int32) (u1 : Int32) (u2 : Int32) (u3 : Int32) (u4 : Int32) (res : Int32 × (Nat → Int32)) (hf : f_X7_pull puzzles_winning u1 u2 u3 u4 = some res) : CI l D (tysW cI cZ cG) yX7_pull wsX7_pull rm_X7_pull [.ref h, .int u1, .int u2, .int u3, .int u4] [(h, oX7 A), ((A 6), oX4 A_6), ((A_6 5), aI cI 100 puzzles_winning)] res.1 [(h, oX7 A), ((A 6), oX4 A_6), ((A_6 5), aI cI 100 res.2)] := by
  refine CG.intro (own := RX7) (by decide +kernel) rfl rfl (Nat.le_of_ble_eq_true rfl) (fun p e s m args below meth c C => ?_)
  refine r_lv (lv' := [(0, .ref h), (1, .int u1), (2, .int u2), (3, .int u3), (4, .int u4)]) [0, 1, 2, 3, 4] rfl ?_
  unfold f_X7_pull at hf
  refine r_iload_n C dX7_pull_0 rfl 1 rfl rfl ?_
  refine r_iconst C dX7_pull_1 kk_i_0 rfl ?_
  refine r_bipush C dX7_pull_2 kk_b_99 rfl ?_
  obtain ⟨r1, e1, hf⟩ := gd_b hf
  refine o_I (wn := [(h, oX7 A), ((A 6), oX4 A_6), ((A_6 5), aI cI 100 puzzles_winning)]) C [] rfl (x_S C dX7_pull_4 (c_X7_isWithin l D cI cZ cG u1 (0 : Int32) (99 : Int32) r1 e1) rfl gX7_pull_X7_isWithin hs_X7_isWithin rfl ⟨Nat.le_of_ble_eq_true rfl, Nat.le_of_ble_eq_true rfl⟩ ⟨rfl, rfl⟩ ⟨Nat.zero_le _, Nat.zero_le _⟩ rfl [] rfl rfl (Nat.le_of_ble_eq_true rfl) rfl) rfl rfl rfl ?_
  refine r_if_eq (y := 0) (tgt := 20) C dX7_pull_7 rfl rfl (fun c2 => ?_) (fun c2 => ?_)
  · have hf := gd_t c2 hf
    refine r_bipush C dX7_pull_20 kk_b_m2 rfl ?_
    cases hf
    exact r_iret C dX7_pull_22 rfl
  · have hf := gd_f c2 hf
    refine r_iload_n C dX7_pull_10 rfl 2 rfl rfl ?_
    refine r_iconst C dX7_pull_11 kk_i_1 rfl ?_
    refine r_bipush C dX7_pull_12 kk_b_9 rfl ?_
    obtain ⟨r3, e3, hf⟩ := gd_b hf
    refine o_I (wn := [(h, oX7 A), ((A 6), oX4 A_6), ((A_6 5), aI cI 100 puzzles_winning)]) C [] rfl (x_S C dX7_pull_14 (c_X7_isWithin l D cI cZ cG u2 (1 : Int32) (9 : Int32) r3 e3) rfl gX7_pull_X7_isWithin hs_X7_isWithin rfl ⟨Nat.le_of_ble_eq_true rfl, Nat.le_of_ble_eq_true rfl⟩ ⟨rfl, rfl⟩ ⟨Nat.zero_le _, Nat.zero_le _⟩ rfl [] rfl rfl (Nat.le_of_ble_eq_true rfl) rfl) rfl rfl rfl ?_
    refine r_if_ne (y := 0) (tgt := 23) C dX7_pull_17 rfl rfl (fun c4 => ?_) (fun c4 => ?_)
    · have hf := gd_f c4 hf
      refine r_iload_n C dX7_pull_23 rfl 3 rfl rfl ?_
      refine r_iconst C dX7_pull_24 kk_i_0 rfl ?_
      refine r_bipush C dX7_pull_25 kk_b_9 rfl ?_
      obtain ⟨r5, e5, hf⟩ := gd_b hf
      refine o_I (wn := [(h, oX7 A), ((A 6), oX4 A_6), ((A_6 5), aI cI 100 puzzles_winning)]) C [] rfl (x_S C dX7_pull_27 (c_X7_isWithin l D cI cZ cG u3 (0 : Int32) (9 : Int32) r5 e5) rfl gX7_pull_X7_isWithin hs_X7_isWithin rfl ⟨Nat.le_of_ble_eq_true rfl, Nat.le_of_ble_eq_true rfl⟩ ⟨rfl, rfl⟩ ⟨Nat.zero_le _, Nat.zero_le _⟩ rfl [] rfl rfl (Nat.le_of_ble_eq_true rfl) rfl) rfl rfl rfl ?_
      refine r_if_eq (y := 0) (tgt := 43) C dX7_pull_30 rfl rfl (fun c6 => ?_) (fun c6 => ?_)
      · have hf := gd_t c6 hf
        refine r_bipush C dX7_pull_43 kk_b_m2 rfl ?_
        cases hf
        exact r_iret C dX7_pull_45 rfl
      · have hf := gd_f c6 hf
        refine r_iload C dX7_pull_33 4 rfl rfl ?_
        refine r_iconst C dX7_pull_35 kk_i_0 rfl ?_
        refine r_iconst C dX7_pull_36 kk_i_1 rfl ?_
        obtain ⟨r7, e7, hf⟩ := gd_b hf
        refine o_I (wn := [(h, oX7 A), ((A 6), oX4 A_6), ((A_6 5), aI cI 100 puzzles_winning)]) C [] rfl (x_S C dX7_pull_37 (c_X7_isWithin l D cI cZ cG u4 (0 : Int32) (1 : Int32) r7 e7) rfl gX7_pull_X7_isWithin hs_X7_isWithin rfl ⟨Nat.le_of_ble_eq_true rfl, Nat.le_of_ble_eq_true rfl⟩ ⟨rfl, rfl⟩ ⟨Nat.zero_le _, Nat.zero_le _⟩ rfl [] rfl rfl (Nat.le_of_ble_eq_true rfl) rfl) rfl rfl rfl ?_
        refine r_if_ne (y := 0) (tgt := 46) C dX7_pull_40 rfl rfl (fun c8 => ?_) (fun c8 => ?_)
        · have hf := gd_f c8 hf
          refine r_aload_n C dX7_pull_46 rfl 0 rfl rfl ?_
          refine r_get C dX7_pull_47 fw_X7_pull_X7 0 rfl rfl 6 (by decide) rfl fl_X7_pull_50 rfl rfl ?_
          refine r_iload_n C dX7_pull_50 rfl 1 rfl rfl ?_
          refine r_iload_n C dX7_pull_51 rfl 2 rfl rfl ?_
          obtain ⟨r9, e9, hf⟩ := gd_b hf
          refine o_I (wn := [(h, oX7 A), ((A 6), oX4 A_6), ((A_6 5), aI cI 100 r9.2)]) C [1, 2] rfl (x_V C dX7_pull_52 (c_X4_winningPulls l D cI cZ cG (A 6) A_6 puzzles_winning u1 u2 r9 e9) rfl gX7_pull_X4_winningPulls hd_X4_winningPulls rfl ⟨Nat.le_of_ble_eq_true rfl, Nat.le_of_ble_eq_true rfl⟩ ⟨rfl, rfl⟩ ⟨Nat.zero_le _, Nat.zero_le _⟩ rfl [1, 2] rfl rfl 1 rfl rfl (Nat.le_of_ble_eq_true rfl) rfl) rfl rfl rfl ?_
          refine r_iconst C dX7_pull_55 kk_i_1 rfl ?_
          refine r_iload_n C dX7_pull_56 rfl 3 rfl rfl ?_
          refine r_ishl C dX7_pull_57 rfl ?_
          refine r_iconst C dX7_pull_58 kk_i_m1 rfl ?_
          refine r_ixor C dX7_pull_59 rfl ?_
          refine r_iand C dX7_pull_60 rfl ?_
          refine r_istore (lv' := [(5, .int (r9.1 &&& (((1 : Int32) <<< (u3 &&& 31)) ^^^ (-1 : Int32)))), (0, .ref h), (1, .int u1), (2, .int u2), (3, .int u3), (4, .int u4)]) C dX7_pull_61 (by decide) rfl rfl ?_
          refine r_iload C dX7_pull_63 5 rfl rfl ?_
          refine r_if_ne (y := 0) (tgt := 79) C dX7_pull_65 rfl rfl (fun c10 => ?_) (fun c10 => ?_)
          · have hf := gd_f c10 hf
            refine r_iload C dX7_pull_79 0 rfl rfl ?_
            obtain ⟨r11, e11, hf⟩ := gd_b hf
            refine o_I (wn := [(h, oX7 A), ((A 6), oX4 A_6), ((A_6 5), aI cI 100 r9.2)]) C [] rfl (x_S C dX7_pull_81 (c_X7_leastBit l D cI cZ cG (r9.1 &&& (((1 : Int32) <<< (u3 &&& 31)) ^^^ (-1 : Int32))) r11 e11) rfl gX7_pull_X7_leastBit hs_X7_leastBit rfl ⟨Nat.le_of_ble_eq_true rfl, Nat.le_of_ble_eq_true rfl⟩ ⟨rfl, rfl⟩ ⟨Nat.zero_le _, Nat.zero_le _⟩ rfl [] rfl rfl (Nat.le_of_ble_eq_true rfl) rfl) rfl rfl rfl ?_
            cases hf
            exact r_iret C dX7_pull_84 rfl
          · have hf := gd_t c10 hf
            refine r_iload C dX7_pull_68 0 rfl rfl ?_
            refine r_if_eq (y := 0) (tgt := 77) C dX7_pull_70 rfl rfl (fun c12 => ?_) (fun c12 => ?_)
            · have hf := gd_t c12 hf
              refine r_iconst C dX7_pull_77 kk_i_0 rfl ?_
              cases hf
              exact r_iret C dX7_pull_78 rfl
            · have hf := gd_f c12 hf
              refine r_iconst C dX7_pull_73 kk_i_1 rfl ?_
              refine r_goto (tgt := 78) C dX7_pull_74 rfl ?_
              cases hf
              exact r_iret C dX7_pull_78 rfl
        · have hf := gd_t c8 hf
          refine r_bipush C dX7_pull_43 kk_b_m2 rfl ?_
          cases hf
          exact r_iret C dX7_pull_45 rfl
    · have hf := gd_t c4 hf
      refine r_bipush C dX7_pull_20 kk_b_m2 rfl ?_
      cases hf
      exact r_iret C dX7_pull_22 rfl
theorem wc_X7_passed_220 : Cond.constantLong RX7 220 (-1000000000000000002 : Int64) ∈ wsX7_passed := by decide +kernel
theorem wc_X7_passed_228 : Cond.constantLong RX7 228 (5 : Int64) ∈ wsX7_passed := by decide +kernel
theorem wc_X7_passed_234 : Cond.constantLong RX7 234 (2 : Int64) ∈ wsX7_passed := by decide +kernel
theorem wc_X7_passed_222 : Cond.constantLong RX7 222 (10 : Int64) ∈ wsX7_passed := by decide +kernel
abbrev rm_X7_passed : Jvm.Room := { frames := 2, cells := 0, slots := 0, locals := 56 }
def f_X7_passed (u1 : Int32) (u2 : Int32) (u3 : Int32) (u4 : Int32) : Option (Int64) := (f_X7_isWithin u1 (0 : Int32) (16 : Int32)).bind (fun r1 => if r1 = 0 then some ((-1000000000000000002 : Int64)) else (f_X7_isWithin u2 (0 : Int32) (10 : Int32)).bind (fun r3 => if r3 = 0 then some ((-1000000000000000002 : Int64)) else (f_X7_isWithin u3 (0 : Int32) (1 : Int32)).bind (fun r5 => if r5 = 0 then some ((-1000000000000000002 : Int64)) else (f_X7_isWithin u4 (0 : Int32) (1 : Int32)).bind (fun r7 => if r7 = 0 then some ((-1000000000000000002 : Int64)) else if u3 = (1 : Int32) then (f_X7_lowestTerm (u1.toInt64 * u2.toInt64) (10 : Int64) u4).bind (fun r13 => some (r13)) else (f_X7_power (5 : Int64) u1).bind (fun r10 => (f_X7_power ((5 : Int32) - u2).toInt64 u1).bind (fun r11 => (f_X7_lowestTerm (r10 + r11) ((2 : Int64) * r10) u4).bind (fun r12 => some (r12))))))))
set_option maxHeartbeats 4000000 in
set_option maxRecDepth 100000 in
theorem c_X7_passed (l : Launch) (D : va_G) (cI cZ cG : ClassId) (h : Nat) (u1 : Int32) (u2 : Int32) (u3 : Int32) (u4 : Int32) (res : Int64) (hf : f_X7_passed u1 u2 u3 u4 = some res) : CL l D (tysW cI cZ cG) yX7_passed wsX7_passed rm_X7_passed [.ref h, .int u1, .int u2, .int u3, .int u4] [] res [] := by
  refine CG.intro (own := RX7) (by decide +kernel) rfl rfl (Nat.le_of_ble_eq_true rfl) (fun p e s m args below meth c C => ?_)
  refine r_lv (lv' := [(0, .ref h), (1, .int u1), (2, .int u2), (3, .int u3), (4, .int u4)]) [0, 1, 2, 3, 4] rfl ?_
  unfold f_X7_passed at hf
  refine r_iload_n C dX7_passed_0 rfl 1 rfl rfl ?_
  refine r_iconst C dX7_passed_1 kk_i_0 rfl ?_
  refine r_bipush C dX7_passed_2 kk_b_16 rfl ?_
  obtain ⟨r1, e1, hf⟩ := gd_b hf
  refine o_I (wn := []) C [] rfl (x_S C dX7_passed_4 (c_X7_isWithin l D cI cZ cG u1 (0 : Int32) (16 : Int32) r1 e1) rfl gX7_passed_X7_isWithin hs_X7_isWithin rfl ⟨Nat.le_of_ble_eq_true rfl, Nat.le_of_ble_eq_true rfl⟩ ⟨rfl, rfl⟩ ⟨Nat.zero_le _, Nat.zero_le _⟩ rfl [] rfl rfl (Nat.le_of_ble_eq_true rfl) rfl) rfl rfl rfl ?_
  refine r_if_eq (y := 0) (tgt := 20) C dX7_passed_7 rfl rfl (fun c2 => ?_) (fun c2 => ?_)
  · have hf := gd_t c2 hf
    refine r_ldc2 C dX7_passed_20 wc_X7_passed_220 rfl ?_
    cases hf
    exact r_lret C dX7_passed_23 rfl
  · have hf := gd_f c2 hf
    refine r_iload_n C dX7_passed_10 rfl 2 rfl rfl ?_
    refine r_iconst C dX7_passed_11 kk_i_0 rfl ?_
    refine r_bipush C dX7_passed_12 kk_b_10 rfl ?_
    obtain ⟨r3, e3, hf⟩ := gd_b hf
    refine o_I (wn := []) C [] rfl (x_S C dX7_passed_14 (c_X7_isWithin l D cI cZ cG u2 (0 : Int32) (10 : Int32) r3 e3) rfl gX7_passed_X7_isWithin hs_X7_isWithin rfl ⟨Nat.le_of_ble_eq_true rfl, Nat.le_of_ble_eq_true rfl⟩ ⟨rfl, rfl⟩ ⟨Nat.zero_le _, Nat.zero_le _⟩ rfl [] rfl rfl (Nat.le_of_ble_eq_true rfl) rfl) rfl rfl rfl ?_
    refine r_if_ne (y := 0) (tgt := 24) C dX7_passed_17 rfl rfl (fun c4 => ?_) (fun c4 => ?_)
    · have hf := gd_f c4 hf
      refine r_iload_n C dX7_passed_24 rfl 3 rfl rfl ?_
      refine r_iconst C dX7_passed_25 kk_i_0 rfl ?_
      refine r_iconst C dX7_passed_26 kk_i_1 rfl ?_
      obtain ⟨r5, e5, hf⟩ := gd_b hf
      refine o_I (wn := []) C [] rfl (x_S C dX7_passed_27 (c_X7_isWithin l D cI cZ cG u3 (0 : Int32) (1 : Int32) r5 e5) rfl gX7_passed_X7_isWithin hs_X7_isWithin rfl ⟨Nat.le_of_ble_eq_true rfl, Nat.le_of_ble_eq_true rfl⟩ ⟨rfl, rfl⟩ ⟨Nat.zero_le _, Nat.zero_le _⟩ rfl [] rfl rfl (Nat.le_of_ble_eq_true rfl) rfl) rfl rfl rfl ?_
      refine r_if_eq (y := 0) (tgt := 43) C dX7_passed_30 rfl rfl (fun c6 => ?_) (fun c6 => ?_)
      · have hf := gd_t c6 hf
        refine r_ldc2 C dX7_passed_43 wc_X7_passed_220 rfl ?_
        cases hf
        exact r_lret C dX7_passed_46 rfl
      · have hf := gd_f c6 hf
        refine r_iload C dX7_passed_33 4 rfl rfl ?_
        refine r_iconst C dX7_passed_35 kk_i_0 rfl ?_
        refine r_iconst C dX7_passed_36 kk_i_1 rfl ?_
        obtain ⟨r7, e7, hf⟩ := gd_b hf
        refine o_I (wn := []) C [] rfl (x_S C dX7_passed_37 (c_X7_isWithin l D cI cZ cG u4 (0 : Int32) (1 : Int32) r7 e7) rfl gX7_passed_X7_isWithin hs_X7_isWithin rfl ⟨Nat.le_of_ble_eq_true rfl, Nat.le_of_ble_eq_true rfl⟩ ⟨rfl, rfl⟩ ⟨Nat.zero_le _, Nat.zero_le _⟩ rfl [] rfl rfl (Nat.le_of_ble_eq_true rfl) rfl) rfl rfl rfl ?_
        refine r_if_ne (y := 0) (tgt := 47) C dX7_passed_40 rfl rfl (fun c8 => ?_) (fun c8 => ?_)
        · have hf := gd_f c8 hf
          refine r_iload_n C dX7_passed_47 rfl 3 rfl rfl ?_
          refine r_iconst C dX7_passed_48 kk_i_1 rfl ?_
          refine r_icmp_ne (tgt := 66) C dX7_passed_49 rfl rfl (fun c9 => ?_) (fun c9 => ?_)
          · have hf := gd_f c9 hf
            refine r_ldc2 C dX7_passed_66 wc_X7_passed_228 rfl ?_
            refine r_iload_n C dX7_passed_69 rfl 1 rfl rfl ?_
            obtain ⟨r10, e10, hf⟩ := gd_b hf
            refine o_L (wn := []) C [] rfl (x_S C dX7_passed_70 (c_X7_power l D cI cZ cG (5 : Int64) u1 r10 e10) rfl gX7_passed_X7_power hs_X7_power rfl ⟨Nat.le_of_ble_eq_true rfl, Nat.le_of_ble_eq_true rfl⟩ ⟨rfl, rfl⟩ ⟨Nat.zero_le _, Nat.zero_le _⟩ rfl [] rfl rfl (Nat.le_of_ble_eq_true rfl) rfl) rfl rfl rfl ?_
            refine r_lstore (lv' := [(5, .long r10), (0, .ref h), (1, .int u1), (2, .int u2), (3, .int u3), (4, .int u4)]) C dX7_passed_73 (by decide) rfl rfl ?_
            refine r_lload C dX7_passed_75 0 rfl rfl ?_
            refine r_iconst C dX7_passed_77 kk_i_5 rfl ?_
            refine r_iload_n C dX7_passed_78 rfl 3 rfl rfl ?_
            refine r_isub C dX7_passed_79 rfl ?_
            refine r_i2l C dX7_passed_80 rfl ?_
            refine r_iload_n C dX7_passed_81 rfl 2 rfl rfl ?_
            obtain ⟨r11, e11, hf⟩ := gd_b hf
            refine o_L (wn := []) C [] rfl (x_S C dX7_passed_82 (c_X7_power l D cI cZ cG ((5 : Int32) - u2).toInt64 u1 r11 e11) rfl gX7_passed_X7_power hs_X7_power rfl ⟨Nat.le_of_ble_eq_true rfl, Nat.le_of_ble_eq_true rfl⟩ ⟨rfl, rfl⟩ ⟨Nat.zero_le _, Nat.zero_le _⟩ rfl [] rfl rfl (Nat.le_of_ble_eq_true rfl) rfl) rfl rfl rfl ?_
            refine r_ladd C dX7_passed_85 rfl ?_
            refine r_ldc2 C dX7_passed_86 wc_X7_passed_234 rfl ?_
            refine r_lload C dX7_passed_89 0 rfl rfl ?_
            refine r_lmul C dX7_passed_91 rfl ?_
            refine r_iload C dX7_passed_92 5 rfl rfl ?_
            obtain ⟨r12, e12, hf⟩ := gd_b hf
            refine o_L (wn := []) C [] rfl (x_S C dX7_passed_94 (c_X7_lowestTerm l D cI cZ cG (r10 + r11) ((2 : Int64) * r10) u4 r12 e12) rfl gX7_passed_X7_lowestTerm hs_X7_lowestTerm rfl ⟨Nat.le_of_ble_eq_true rfl, Nat.le_of_ble_eq_true rfl⟩ ⟨rfl, rfl⟩ ⟨Nat.zero_le _, Nat.zero_le _⟩ rfl [] rfl rfl (Nat.le_of_ble_eq_true rfl) rfl) rfl rfl rfl ?_
            cases hf
            exact r_lret C dX7_passed_97 rfl
          · have hf := gd_t c9 hf
            refine r_iload_n C dX7_passed_52 rfl 1 rfl rfl ?_
            refine r_i2l C dX7_passed_53 rfl ?_
            refine r_iload_n C dX7_passed_54 rfl 2 rfl rfl ?_
            refine r_i2l C dX7_passed_55 rfl ?_
            refine r_lmul C dX7_passed_56 rfl ?_
            refine r_ldc2 C dX7_passed_57 wc_X7_passed_222 rfl ?_
            refine r_iload C dX7_passed_60 4 rfl rfl ?_
            obtain ⟨r13, e13, hf⟩ := gd_b hf
            refine o_L (wn := []) C [] rfl (x_S C dX7_passed_62 (c_X7_lowestTerm l D cI cZ cG (u1.toInt64 * u2.toInt64) (10 : Int64) u4 r13 e13) rfl gX7_passed_X7_lowestTerm hs_X7_lowestTerm rfl ⟨Nat.le_of_ble_eq_true rfl, Nat.le_of_ble_eq_true rfl⟩ ⟨rfl, rfl⟩ ⟨Nat.zero_le _, Nat.zero_le _⟩ rfl [] rfl rfl (Nat.le_of_ble_eq_true rfl) rfl) rfl rfl rfl ?_
            cases hf
            exact r_lret C dX7_passed_65 rfl
        · have hf := gd_t c8 hf
          refine r_ldc2 C dX7_passed_43 wc_X7_passed_220 rfl ?_
          cases hf
          exact r_lret C dX7_passed_46 rfl
    · have hf := gd_t c4 hf
      refine r_ldc2 C dX7_passed_20 wc_X7_passed_220 rfl ?_
      cases hf
      exact r_lret C dX7_passed_23 rfl
theorem fw_X7_runYear_X7 : ∀ w ∈ u_ws RX7 TX7 9, w ∈ wsX7_runYear := by decide +kernel
theorem fl_X7_runYear_16 : Cond.fieldLink RX7 16 "MittenLine" "trial" "LMittenLine$Row;" ∈ wsX7_runYear := by decide +kernel
theorem fl_X7_runYear_10 : Cond.fieldLink RX7 10 "MittenLine" "now" "LMittenLine$Row;" ∈ wsX7_runYear := by decide +kernel
theorem wc_X7_runYear_239 : Cond.constant RX7 239 (65537 : Int32) ∈ wsX7_runYear := by decide +kernel
abbrev rm_X7_runYear : Jvm.Room := { frames := 6, cells := 0, slots := 0, locals := 134 }
def f_X7_runYear_19 (u2 : Int32) : Nat → Int32 → Int32 → Int32 → (Nat → Int32) → (Nat → Int32) → (Nat → Int32) → (Nat → Int32) → Int32 → Int32 → Int32 → Option (Int32 × (Nat → Int32) × (Nat → Int32) × (Nat → Int32) × (Nat → Int32) × Int32 × Int32 × Int32)
  | 0, _, _, _, _, _, _, _, _, _, _ => none
  | n + 1, u3, u4, u5, trial_yards, trial_feels, trial_lengths, trial_plan, trial_holding, trial_wool, trial_day => if u2 ≤ u5 then some (u3, trial_yards, trial_feels, trial_lengths, trial_plan, trial_holding, trial_wool, trial_day) else (f_X7_kindByDraw ((((((75 : Int32) * u4) + (74 : Int32)) - (((75 : Int32) * u4) + (74 : Int32)) / (65537 : Int32) * (65537 : Int32)) / (10 : Int32)) - (((((75 : Int32) * u4) + (74 : Int32)) - (((75 : Int32) * u4) + (74 : Int32)) / (65537 : Int32) * (65537 : Int32)) / (10 : Int32)) / (8 : Int32) * (8 : Int32))).bind (fun r3 => (f_X5_whyNot trial_yards trial_lengths trial_plan trial_holding trial_wool trial_day r3 (((((75 : Int32) * u4) + (74 : Int32)) - (((75 : Int32) * u4) + (74 : Int32)) / (65537 : Int32) * (65537 : Int32)) - ((((75 : Int32) * u4) + (74 : Int32)) - (((75 : Int32) * u4) + (74 : Int32)) / (65537 : Int32) * (65537 : Int32)) / (10 : Int32) * (10 : Int32)) ((1 : Int32) + ((((((75 : Int32) * u4) + (74 : Int32)) - (((75 : Int32) * u4) + (74 : Int32)) / (65537 : Int32) * (65537 : Int32)) / (80 : Int32)) - (((((75 : Int32) * u4) + (74 : Int32)) - (((75 : Int32) * u4) + (74 : Int32)) / (65537 : Int32) * (65537 : Int32)) / (80 : Int32)) / (9 : Int32) * (9 : Int32)))).bind (fun r4 => if r4.1 = 0 then (f_X5_act trial_yards trial_feels trial_lengths r4.2 trial_holding trial_wool trial_day r3 (((((75 : Int32) * u4) + (74 : Int32)) - (((75 : Int32) * u4) + (74 : Int32)) / (65537 : Int32) * (65537 : Int32)) - ((((75 : Int32) * u4) + (74 : Int32)) - (((75 : Int32) * u4) + (74 : Int32)) / (65537 : Int32) * (65537 : Int32)) / (10 : Int32) * (10 : Int32)) ((1 : Int32) + ((((((75 : Int32) * u4) + (74 : Int32)) - (((75 : Int32) * u4) + (74 : Int32)) / (65537 : Int32) * (65537 : Int32)) / (80 : Int32)) - (((((75 : Int32) * u4) + (74 : Int32)) - (((75 : Int32) * u4) + (74 : Int32)) / (65537 : Int32) * (65537 : Int32)) / (80 : Int32)) / (9 : Int32) * (9 : Int32)))).bind (fun r6 => (f_J6_bitCount_0f7a4 r6.1).bind (fun r7 => f_X7_runYear_19 u2 n (u3 + r7) ((((75 : Int32) * u4) + (74 : Int32)) - (((75 : Int32) * u4) + (74 : Int32)) / (65537 : Int32) * (65537 : Int32)) (u5 + (1 : Int32)) r6.2.1 r6.2.2.1 r6.2.2.2.1 r6.2.2.2.2.1 r6.2.2.2.2.2.1 r6.2.2.2.2.2.2.1 r6.2.2.2.2.2.2.2)) else f_X7_runYear_19 u2 n u3 ((((75 : Int32) * u4) + (74 : Int32)) - (((75 : Int32) * u4) + (74 : Int32)) / (65537 : Int32) * (65537 : Int32)) (u5 + (1 : Int32)) trial_yards trial_feels trial_lengths r4.2 trial_holding trial_wool trial_day))
set_option maxHeartbeats 4000000 in
set_option maxRecDepth 100000 in
theorem k_X7_runYear_19 (C : Cx p s m args meth c D (tysW cI cZ cG) RX7 cX7_runYear 9 wsX7_runYear (some .int)) (h : Nat) (A A_0 A_1 : Nat → Nat) (now_yards : Nat → Int32) (now_feels : Nat → Int32) (now_lengths : Nat → Int32) (now_holding : Int32) (now_wool : Int32) (now_day : Int32) (u2 : Int32)  (res : Int32 × (Nat → Int32) × (Nat → Int32) × (Nat → Int32) × (Nat → Int32) × Int32 × Int32 × Int32) : ∀ (n : Nat) (u3 : Int32) (u4 : Int32) (u5 : Int32) (trial_yards : Nat → Int32) (trial_feels : Nat → Int32) (trial_lengths : Nat → Int32) (trial_plan : Nat → Int32) (trial_holding : Int32) (trial_wool : Int32) (trial_day : Int32), f_X7_runYear_19 u2 n u3 u4 u5 trial_yards trial_feels trial_lengths trial_plan trial_holding trial_wool trial_day = some res → Wd p l e rm_X7_runYear s m args below meth c D w0 9 0 0 (MQ below (QcI D (tysW cI cZ cG) w0 [(h, oX7 A), ((A 0), oX5 A_0 now_holding now_wool now_day), ((A 1), oX5 A_1 res.2.2.2.2.2.1 res.2.2.2.2.2.2.1 res.2.2.2.2.2.2.2), ((A_0 0), aI cI 10 now_yards), ((A_0 1), aI cI 10 now_feels), ((A_0 2), aI cI 9 now_lengths), ((A_1 0), aI cI 10 res.2.1), ((A_1 1), aI cI 10 res.2.2.1), ((A_1 2), aI cI 9 res.2.2.2.1), ((A_1 3), aI cI 10 res.2.2.2.2.1)] res.1 s.heap.size) args s 0 0 (va_A w0 s.heap.size)) [(h, oX7 A), ((A 0), oX5 A_0 now_holding now_wool now_day), ((A 1), oX5 A_1 trial_holding trial_wool trial_day), ((A_0 0), aI cI 10 now_yards), ((A_0 1), aI cI 10 now_feels), ((A_0 2), aI cI 9 now_lengths), ((A_1 0), aI cI 10 trial_yards), ((A_1 1), aI cI 10 trial_feels), ((A_1 2), aI cI 9 trial_lengths), ((A_1 3), aI cI 10 trial_plan)] [(0, .ref h), (2, .int u2), (3, .int u3), (4, .int u4), (5, .int u5)] 19 [] := by
  intro n
  induction n with
  | zero =>
    intro u3 u4 u5 trial_yards trial_feels trial_lengths trial_plan trial_holding trial_wool trial_day hf
    exact no_none hf
  | succ n ih =>
    intro u3 u4 u5 trial_yards trial_feels trial_lengths trial_plan trial_holding trial_wool trial_day hf
    unfold f_X7_runYear_19 at hf
    refine r_iload C dX7_runYear_19 4 rfl rfl ?_
    refine r_iload_n C dX7_runYear_21 rfl 1 rfl rfl ?_
    refine r_icmp_ge (tgt := 111) C dX7_runYear_22 rfl rfl (fun c2 => ?_) (fun c2 => ?_)
    · have hf := gd_t c2 hf
      refine r_iload_n C dX7_runYear_111 rfl 2 rfl rfl ?_
      cases hf
      exact r_iret C dX7_runYear_112 rfl
    · have hf := gd_f c2 hf
      refine r_bipush C dX7_runYear_25 kk_b_75 rfl ?_
      refine r_iload C dX7_runYear_27 3 rfl rfl ?_
      refine r_imul C dX7_runYear_29 rfl ?_
      refine r_bipush C dX7_runYear_30 kk_b_74 rfl ?_
      refine r_iadd C dX7_runYear_32 rfl ?_
      refine r_ldc C dX7_runYear_33 wc_X7_runYear_239 rfl ?_
      refine r_irem C dX7_runYear_35 (by decide) rfl ?_
      refine r_istore (lv' := [(4, .int ((((75 : Int32) * u4) + (74 : Int32)) - (((75 : Int32) * u4) + (74 : Int32)) / (65537 : Int32) * (65537 : Int32))), (0, .ref h), (2, .int u2), (3, .int u3), (5, .int u5)]) C dX7_runYear_36 (by decide) rfl rfl ?_
      refine r_iload C dX7_runYear_38 0 rfl rfl ?_
      refine r_bipush C dX7_runYear_40 kk_b_10 rfl ?_
      refine r_irem C dX7_runYear_42 (by decide) rfl ?_
      refine r_istore (lv' := [(6, .int (((((75 : Int32) * u4) + (74 : Int32)) - (((75 : Int32) * u4) + (74 : Int32)) / (65537 : Int32) * (65537 : Int32)) - ((((75 : Int32) * u4) + (74 : Int32)) - (((75 : Int32) * u4) + (74 : Int32)) / (65537 : Int32) * (65537 : Int32)) / (10 : Int32) * (10 : Int32))), (4, .int ((((75 : Int32) * u4) + (74 : Int32)) - (((75 : Int32) * u4) + (74 : Int32)) / (65537 : Int32) * (65537 : Int32))), (0, .ref h), (2, .int u2), (3, .int u3), (5, .int u5)]) C dX7_runYear_43 (by decide) rfl rfl ?_
      refine r_iload C dX7_runYear_45 1 rfl rfl ?_
      refine r_bipush C dX7_runYear_47 kk_b_10 rfl ?_
      refine r_idiv C dX7_runYear_49 (by decide) rfl ?_
      refine r_bipush C dX7_runYear_50 kk_b_8 rfl ?_
      refine r_irem C dX7_runYear_52 (by decide) rfl ?_
      obtain ⟨r3, e3, hf⟩ := gd_b hf
      refine o_I (wn := [(h, oX7 A), ((A 0), oX5 A_0 now_holding now_wool now_day), ((A 1), oX5 A_1 trial_holding trial_wool trial_day), ((A_0 0), aI cI 10 now_yards), ((A_0 1), aI cI 10 now_feels), ((A_0 2), aI cI 9 now_lengths), ((A_1 0), aI cI 10 trial_yards), ((A_1 1), aI cI 10 trial_feels), ((A_1 2), aI cI 9 trial_lengths), ((A_1 3), aI cI 10 trial_plan)]) C [] rfl (x_S C dX7_runYear_53 (c_X7_kindByDraw l D cI cZ cG ((((((75 : Int32) * u4) + (74 : Int32)) - (((75 : Int32) * u4) + (74 : Int32)) / (65537 : Int32) * (65537 : Int32)) / (10 : Int32)) - (((((75 : Int32) * u4) + (74 : Int32)) - (((75 : Int32) * u4) + (74 : Int32)) / (65537 : Int32) * (65537 : Int32)) / (10 : Int32)) / (8 : Int32) * (8 : Int32)) r3 e3) rfl gX7_runYear_X7_kindByDraw hs_X7_kindByDraw rfl ⟨Nat.le_of_ble_eq_true rfl, Nat.le_of_ble_eq_true rfl⟩ ⟨rfl, rfl⟩ ⟨Nat.zero_le _, Nat.zero_le _⟩ rfl [] rfl rfl (Nat.le_of_ble_eq_true rfl) rfl) rfl rfl rfl ?_
      refine r_istore (lv' := [(7, .int r3), (6, .int (((((75 : Int32) * u4) + (74 : Int32)) - (((75 : Int32) * u4) + (74 : Int32)) / (65537 : Int32) * (65537 : Int32)) - ((((75 : Int32) * u4) + (74 : Int32)) - (((75 : Int32) * u4) + (74 : Int32)) / (65537 : Int32) * (65537 : Int32)) / (10 : Int32) * (10 : Int32))), (4, .int ((((75 : Int32) * u4) + (74 : Int32)) - (((75 : Int32) * u4) + (74 : Int32)) / (65537 : Int32) * (65537 : Int32))), (0, .ref h), (2, .int u2), (3, .int u3), (5, .int u5)]) C dX7_runYear_56 (by decide) rfl rfl ?_
      refine r_iconst C dX7_runYear_58 kk_i_1 rfl ?_
      refine r_iload C dX7_runYear_59 2 rfl rfl ?_
      refine r_bipush C dX7_runYear_61 kk_b_80 rfl ?_
      refine r_idiv C dX7_runYear_63 (by decide) rfl ?_
      refine r_bipush C dX7_runYear_64 kk_b_9 rfl ?_
      refine r_irem C dX7_runYear_66 (by decide) rfl ?_
      refine r_iadd C dX7_runYear_67 rfl ?_
      refine r_istore (lv' := [(8, .int ((1 : Int32) + ((((((75 : Int32) * u4) + (74 : Int32)) - (((75 : Int32) * u4) + (74 : Int32)) / (65537 : Int32) * (65537 : Int32)) / (80 : Int32)) - (((((75 : Int32) * u4) + (74 : Int32)) - (((75 : Int32) * u4) + (74 : Int32)) / (65537 : Int32) * (65537 : Int32)) / (80 : Int32)) / (9 : Int32) * (9 : Int32)))), (7, .int r3), (6, .int (((((75 : Int32) * u4) + (74 : Int32)) - (((75 : Int32) * u4) + (74 : Int32)) / (65537 : Int32) * (65537 : Int32)) - ((((75 : Int32) * u4) + (74 : Int32)) - (((75 : Int32) * u4) + (74 : Int32)) / (65537 : Int32) * (65537 : Int32)) / (10 : Int32) * (10 : Int32))), (4, .int ((((75 : Int32) * u4) + (74 : Int32)) - (((75 : Int32) * u4) + (74 : Int32)) / (65537 : Int32) * (65537 : Int32))), (0, .ref h), (2, .int u2), (3, .int u3), (5, .int u5)]) C dX7_runYear_68 (by decide) rfl rfl ?_
      refine r_aload_n C dX7_runYear_70 rfl 4 rfl rfl ?_
      refine r_get C dX7_runYear_71 fw_X7_runYear_X7 0 rfl rfl 1 (by decide) rfl fl_X7_runYear_16 rfl rfl ?_
      refine r_iload C dX7_runYear_74 1 rfl rfl ?_
      refine r_iload C dX7_runYear_76 2 rfl rfl ?_
      refine r_iload C dX7_runYear_78 0 rfl rfl ?_
      obtain ⟨r4, e4, hf⟩ := gd_b hf
      refine o_I (wn := [(h, oX7 A), ((A 0), oX5 A_0 now_holding now_wool now_day), ((A 1), oX5 A_1 trial_holding trial_wool trial_day), ((A_0 0), aI cI 10 now_yards), ((A_0 1), aI cI 10 now_feels), ((A_0 2), aI cI 9 now_lengths), ((A_1 0), aI cI 10 trial_yards), ((A_1 1), aI cI 10 trial_feels), ((A_1 2), aI cI 9 trial_lengths), ((A_1 3), aI cI 10 r4.2)]) C [2, 6, 8, 9] rfl (x_V C dX7_runYear_80 (c_X5_whyNot l D cI cZ cG (A 1) A_1 trial_yards trial_lengths trial_plan trial_holding trial_wool trial_day r3 (((((75 : Int32) * u4) + (74 : Int32)) - (((75 : Int32) * u4) + (74 : Int32)) / (65537 : Int32) * (65537 : Int32)) - ((((75 : Int32) * u4) + (74 : Int32)) - (((75 : Int32) * u4) + (74 : Int32)) / (65537 : Int32) * (65537 : Int32)) / (10 : Int32) * (10 : Int32)) ((1 : Int32) + ((((((75 : Int32) * u4) + (74 : Int32)) - (((75 : Int32) * u4) + (74 : Int32)) / (65537 : Int32) * (65537 : Int32)) / (80 : Int32)) - (((((75 : Int32) * u4) + (74 : Int32)) - (((75 : Int32) * u4) + (74 : Int32)) / (65537 : Int32) * (65537 : Int32)) / (80 : Int32)) / (9 : Int32) * (9 : Int32))) r4 e4) rfl gX7_runYear_X5_whyNot hd_X5_whyNot rfl ⟨Nat.le_of_ble_eq_true rfl, Nat.le_of_ble_eq_true rfl⟩ ⟨rfl, rfl⟩ ⟨Nat.zero_le _, Nat.zero_le _⟩ rfl [2, 6, 8, 9] rfl rfl 2 rfl rfl (Nat.le_of_ble_eq_true rfl) rfl) rfl rfl rfl ?_
      refine r_if_ne (y := 0) (tgt := 105) C dX7_runYear_83 rfl rfl (fun c5 => ?_) (fun c5 => ?_)
      · have hf := gd_f c5 hf
        refine r_iinc (lv' := [(5, .int (u5 + (1 : Int32))), (8, .int ((1 : Int32) + ((((((75 : Int32) * u4) + (74 : Int32)) - (((75 : Int32) * u4) + (74 : Int32)) / (65537 : Int32) * (65537 : Int32)) / (80 : Int32)) - (((((75 : Int32) * u4) + (74 : Int32)) - (((75 : Int32) * u4) + (74 : Int32)) / (65537 : Int32) * (65537 : Int32)) / (80 : Int32)) / (9 : Int32) * (9 : Int32)))), (7, .int r3), (6, .int (((((75 : Int32) * u4) + (74 : Int32)) - (((75 : Int32) * u4) + (74 : Int32)) / (65537 : Int32) * (65537 : Int32)) - ((((75 : Int32) * u4) + (74 : Int32)) - (((75 : Int32) * u4) + (74 : Int32)) / (65537 : Int32) * (65537 : Int32)) / (10 : Int32) * (10 : Int32))), (4, .int ((((75 : Int32) * u4) + (74 : Int32)) - (((75 : Int32) * u4) + (74 : Int32)) / (65537 : Int32) * (65537 : Int32))), (0, .ref h), (2, .int u2), (3, .int u3)]) C dX7_runYear_105 7 rfl (ki_1 _) (by decide) rfl rfl ?_
        refine r_goto (tgt := 19) C dX7_runYear_108 rfl ?_
        refine r_lv (lv' := [(0, .ref h), (2, .int u2), (3, .int u3), (4, .int ((((75 : Int32) * u4) + (74 : Int32)) - (((75 : Int32) * u4) + (74 : Int32)) / (65537 : Int32) * (65537 : Int32))), (5, .int (u5 + (1 : Int32)))]) [5, 6, 7, 4, 0] rfl ?_
        exact ih _ _ _ _ _ _ _ _ _ _ hf
      · have hf := gd_t c5 hf
        refine r_iload_n C dX7_runYear_86 rfl 6 rfl rfl ?_
        refine r_aload_n C dX7_runYear_87 rfl 4 rfl rfl ?_
        refine r_get C dX7_runYear_88 fw_X7_runYear_X7 0 rfl rfl 1 (by decide) rfl fl_X7_runYear_16 rfl rfl ?_
        refine r_iload C dX7_runYear_91 1 rfl rfl ?_
        refine r_iload C dX7_runYear_93 2 rfl rfl ?_
        refine r_iload C dX7_runYear_95 0 rfl rfl ?_
        obtain ⟨r6, e6, hf⟩ := gd_b hf
        refine o_I (wn := [(h, oX7 A), ((A 0), oX5 A_0 now_holding now_wool now_day), ((A 1), oX5 A_1 r6.2.2.2.2.2.1 r6.2.2.2.2.2.2.1 r6.2.2.2.2.2.2.2), ((A_0 0), aI cI 10 now_yards), ((A_0 1), aI cI 10 now_feels), ((A_0 2), aI cI 9 now_lengths), ((A_1 0), aI cI 10 r6.2.1), ((A_1 1), aI cI 10 r6.2.2.1), ((A_1 2), aI cI 9 r6.2.2.2.1), ((A_1 3), aI cI 10 r6.2.2.2.2.1)]) C [2, 6, 7, 8, 9] rfl (x_V C dX7_runYear_97 (c_X5_act l D cI cZ cG (A 1) A_1 trial_yards trial_feels trial_lengths r4.2 trial_holding trial_wool trial_day r3 (((((75 : Int32) * u4) + (74 : Int32)) - (((75 : Int32) * u4) + (74 : Int32)) / (65537 : Int32) * (65537 : Int32)) - ((((75 : Int32) * u4) + (74 : Int32)) - (((75 : Int32) * u4) + (74 : Int32)) / (65537 : Int32) * (65537 : Int32)) / (10 : Int32) * (10 : Int32)) ((1 : Int32) + ((((((75 : Int32) * u4) + (74 : Int32)) - (((75 : Int32) * u4) + (74 : Int32)) / (65537 : Int32) * (65537 : Int32)) / (80 : Int32)) - (((((75 : Int32) * u4) + (74 : Int32)) - (((75 : Int32) * u4) + (74 : Int32)) / (65537 : Int32) * (65537 : Int32)) / (80 : Int32)) / (9 : Int32) * (9 : Int32))) r6 e6) rfl gX7_runYear_X5_act hd_X5_act rfl ⟨Nat.le_of_ble_eq_true rfl, Nat.le_of_ble_eq_true rfl⟩ ⟨rfl, rfl⟩ ⟨Nat.zero_le _, Nat.zero_le _⟩ rfl [2, 6, 7, 8, 9] rfl rfl 2 rfl rfl (Nat.le_of_ble_eq_true rfl) rfl) rfl rfl rfl ?_
        obtain ⟨r7, e7, hf⟩ := gd_b hf
        refine o_I (wn := [(h, oX7 A), ((A 0), oX5 A_0 now_holding now_wool now_day), ((A 1), oX5 A_1 r6.2.2.2.2.2.1 r6.2.2.2.2.2.2.1 r6.2.2.2.2.2.2.2), ((A_0 0), aI cI 10 now_yards), ((A_0 1), aI cI 10 now_feels), ((A_0 2), aI cI 9 now_lengths), ((A_1 0), aI cI 10 r6.2.1), ((A_1 1), aI cI 10 r6.2.2.1), ((A_1 2), aI cI 9 r6.2.2.2.1), ((A_1 3), aI cI 10 r6.2.2.2.2.1)]) C [] rfl (x_S C dX7_runYear_100 (c_J6_bitCount_0f7a4 l D cI cZ cG r6.1 r7 e7) rfl gX7_runYear_J6_bitCount_0f7a4 hs_J6_bitCount_0f7a4 rfl ⟨Nat.le_of_ble_eq_true rfl, Nat.le_of_ble_eq_true rfl⟩ ⟨rfl, rfl⟩ ⟨Nat.zero_le _, Nat.zero_le _⟩ rfl [] rfl rfl (Nat.le_of_ble_eq_true rfl) rfl) rfl rfl rfl ?_
        refine r_iadd C dX7_runYear_103 rfl ?_
        refine r_istore_n (lv' := [(3, .int (u3 + r7)), (8, .int ((1 : Int32) + ((((((75 : Int32) * u4) + (74 : Int32)) - (((75 : Int32) * u4) + (74 : Int32)) / (65537 : Int32) * (65537 : Int32)) / (80 : Int32)) - (((((75 : Int32) * u4) + (74 : Int32)) - (((75 : Int32) * u4) + (74 : Int32)) / (65537 : Int32) * (65537 : Int32)) / (80 : Int32)) / (9 : Int32) * (9 : Int32)))), (7, .int r3), (6, .int (((((75 : Int32) * u4) + (74 : Int32)) - (((75 : Int32) * u4) + (74 : Int32)) / (65537 : Int32) * (65537 : Int32)) - ((((75 : Int32) * u4) + (74 : Int32)) - (((75 : Int32) * u4) + (74 : Int32)) / (65537 : Int32) * (65537 : Int32)) / (10 : Int32) * (10 : Int32))), (4, .int ((((75 : Int32) * u4) + (74 : Int32)) - (((75 : Int32) * u4) + (74 : Int32)) / (65537 : Int32) * (65537 : Int32))), (0, .ref h), (2, .int u2), (5, .int u5)]) C dX7_runYear_104 rfl (by decide) rfl rfl ?_
        refine r_iinc (lv' := [(5, .int (u5 + (1 : Int32))), (3, .int (u3 + r7)), (8, .int ((1 : Int32) + ((((((75 : Int32) * u4) + (74 : Int32)) - (((75 : Int32) * u4) + (74 : Int32)) / (65537 : Int32) * (65537 : Int32)) / (80 : Int32)) - (((((75 : Int32) * u4) + (74 : Int32)) - (((75 : Int32) * u4) + (74 : Int32)) / (65537 : Int32) * (65537 : Int32)) / (80 : Int32)) / (9 : Int32) * (9 : Int32)))), (7, .int r3), (6, .int (((((75 : Int32) * u4) + (74 : Int32)) - (((75 : Int32) * u4) + (74 : Int32)) / (65537 : Int32) * (65537 : Int32)) - ((((75 : Int32) * u4) + (74 : Int32)) - (((75 : Int32) * u4) + (74 : Int32)) / (65537 : Int32) * (65537 : Int32)) / (10 : Int32) * (10 : Int32))), (4, .int ((((75 : Int32) * u4) + (74 : Int32)) - (((75 : Int32) * u4) + (74 : Int32)) / (65537 : Int32) * (65537 : Int32))), (0, .ref h), (2, .int u2)]) C dX7_runYear_105 7 rfl (ki_1 _) (by decide) rfl rfl ?_
        refine r_goto (tgt := 19) C dX7_runYear_108 rfl ?_
        refine r_lv (lv' := [(0, .ref h), (2, .int u2), (3, .int (u3 + r7)), (4, .int ((((75 : Int32) * u4) + (74 : Int32)) - (((75 : Int32) * u4) + (74 : Int32)) / (65537 : Int32) * (65537 : Int32))), (5, .int (u5 + (1 : Int32)))]) [6, 7, 1, 5, 0] rfl ?_
        exact ih _ _ _ _ _ _ _ _ _ _ hf
def f_X7_runYear (now_yards : Nat → Int32) (now_feels : Nat → Int32) (now_lengths : Nat → Int32) (now_holding : Int32) (now_wool : Int32) (now_day : Int32) (trial_yards : Nat → Int32) (trial_feels : Nat → Int32) (trial_lengths : Nat → Int32) (trial_plan : Nat → Int32) (trial_holding : Int32) (trial_wool : Int32) (trial_day : Int32) (u1 : Int32) (u2 : Int32) : Option (Int32 × (Nat → Int32) × (Nat → Int32) × (Nat → Int32) × (Nat → Int32) × Int32 × Int32 × Int32) := (f_X5_copyFrom trial_yards trial_feels trial_lengths trial_holding trial_wool trial_day now_yards now_feels now_lengths now_holding now_wool now_day).bind (fun r1 => f_X7_runYear_19 u2 2000 (0 : Int32) u1 (0 : Int32) r1.1 r1.2.1 r1.2.2.1 trial_plan r1.2.2.2.1 r1.2.2.2.2.1 r1.2.2.2.2.2)
set_option maxHeartbeats 4000000 in
set_option maxRecDepth 100000 in
theorem c_X7_runYear (l : Launch) (D : va_G) (cI cZ cG : ClassId) (h : Nat) (A A_0 A_1 : Nat → Nat) (now_yards : Nat → Int32) (now_feels : Nat → Int32) (now_lengths : Nat → Int32) (now_holding : Int32) (now_wool : Int32) (now_day : Int32) (trial_yards : Nat → Int32) (trial_feels : Nat → Int32) (trial_lengths : Nat → Int32) (trial_plan : Nat → Int32) (trial_holding : Int32) (trial_wool : Int32) (trial_day : Int32) (u1 : Int32) (u2 : Int32) (res : Int32 × (Nat → Int32) × (Nat → Int32) × (Nat → Int32) × (Nat → Int32) × Int32 × Int32 × Int32) (hf : f_X7_runYear now_yards now_feels now_lengths now_holding now_wool now_day trial_yards trial_feels trial_lengths trial_plan trial_holding trial_wool trial_day u1 u2 = some res) : CI l D (tysW cI cZ cG) yX7_runYear wsX7_runYear rm_X7_runYear [.ref h, .int u1, .int u2] [(h, oX7 A), ((A 0), oX5 A_0 now_holding now_wool now_day), ((A 1), oX5 A_1 trial_holding trial_wool trial_day), ((A_0 0), aI cI 10 now_yards), ((A_0 1), aI cI 10 now_feels), ((A_0 2), aI cI 9 now_lengths), ((A_1 0), aI cI 10 trial_yards), ((A_1 1), aI cI 10 trial_feels), ((A_1 2), aI cI 9 trial_lengths), ((A_1 3), aI cI 10 trial_plan)] res.1 [(h, oX7 A), ((A 0), oX5 A_0 now_holding now_wool now_day), ((A 1), oX5 A_1 res.2.2.2.2.2.1 res.2.2.2.2.2.2.1 res.2.2.2.2.2.2.2), ((A_0 0), aI cI 10 now_yards), ((A_0 1), aI cI 10 now_feels), ((A_0 2), aI cI 9 now_lengths), ((A_1 0), aI cI 10 res.2.1), ((A_1 1), aI cI 10 res.2.2.1), ((A_1 2), aI cI 9 res.2.2.2.1), ((A_1 3), aI cI 10 res.2.2.2.2.1)] := by
  refine CG.intro (own := RX7) (by decide +kernel) rfl rfl (Nat.le_of_ble_eq_true rfl) (fun p e s m args below meth c C => ?_)
  refine r_lv (lv' := [(0, .ref h), (1, .int u1), (2, .int u2)]) [0, 1, 2] rfl ?_
  unfold f_X7_runYear at hf
  refine r_aload_n C dX7_runYear_0 rfl 0 rfl rfl ?_
  refine r_get C dX7_runYear_1 fw_X7_runYear_X7 0 rfl rfl 1 (by decide) rfl fl_X7_runYear_16 rfl rfl ?_
  refine r_aload_n C dX7_runYear_4 rfl 0 rfl rfl ?_
  refine r_get C dX7_runYear_5 fw_X7_runYear_X7 0 rfl rfl 0 (by decide) rfl fl_X7_runYear_10 rfl rfl ?_
  obtain ⟨r1, e1, hf⟩ := gd_b hf
  refine o_V (wn := [(h, oX7 A), ((A 0), oX5 A_0 now_holding now_wool now_day), ((A 1), oX5 A_1 r1.2.2.2.1 r1.2.2.2.2.1 r1.2.2.2.2.2), ((A_0 0), aI cI 10 now_yards), ((A_0 1), aI cI 10 now_feels), ((A_0 2), aI cI 9 now_lengths), ((A_1 0), aI cI 10 r1.1), ((A_1 1), aI cI 10 r1.2.1), ((A_1 2), aI cI 9 r1.2.2.1), ((A_1 3), aI cI 10 trial_plan)]) C [2, 1, 6, 7, 8, 3, 4, 5] rfl (x_V C dX7_runYear_8 (c_X5_copyFrom l D cI cZ cG (A 1) (A 0) A_1 A_0 trial_yards trial_feels trial_lengths trial_holding trial_wool trial_day now_yards now_feels now_lengths now_holding now_wool now_day r1 e1) rfl gX7_runYear_X5_copyFrom hd_X5_copyFrom rfl ⟨Nat.le_of_ble_eq_true rfl, Nat.le_of_ble_eq_true rfl⟩ ⟨rfl, rfl⟩ ⟨Nat.zero_le _, Nat.zero_le _⟩ rfl [2, 1, 6, 7, 8, 3, 4, 5] rfl rfl 2 rfl rfl (Nat.le_of_ble_eq_true rfl) rfl) rfl rfl rfl ?_
  refine r_iconst C dX7_runYear_11 kk_i_0 rfl ?_
  refine r_istore_n (lv' := [(3, .int (0 : Int32)), (0, .ref h), (1, .int u1), (2, .int u2)]) C dX7_runYear_12 rfl (by decide) rfl rfl ?_
  refine r_iload_n C dX7_runYear_13 rfl 2 rfl rfl ?_
  refine r_istore (lv' := [(4, .int u1), (3, .int (0 : Int32)), (0, .ref h), (1, .int u1), (2, .int u2)]) C dX7_runYear_14 (by decide) rfl rfl ?_
  refine r_iconst C dX7_runYear_16 kk_i_0 rfl ?_
  refine r_istore (lv' := [(5, .int (0 : Int32)), (4, .int u1), (3, .int (0 : Int32)), (0, .ref h), (1, .int u1), (2, .int u2)]) C dX7_runYear_17 (by decide) rfl rfl ?_
  refine r_lv (lv' := [(0, .ref h), (2, .int u2), (3, .int (0 : Int32)), (4, .int u1), (5, .int (0 : Int32))]) [3, 5, 2, 1, 0] rfl ?_
  refine k_X7_runYear_19 C h A A_0 A_1 now_yards now_feels now_lengths now_holding now_wool now_day u2 _ 2000 _ _ _ _ _ _ _ _ _ _ hf
theorem fw_X7_year_X7 : ∀ w ∈ u_ws RX7 TX7 9, w ∈ wsX7_year := by decide +kernel
theorem fl_X7_year_16 : Cond.fieldLink RX7 16 "MittenLine" "trial" "LMittenLine$Row;" ∈ wsX7_year := by decide +kernel
theorem fw_X7_year_X5 : ∀ w ∈ u_ws RX5 TX5 7, w ∈ wsX7_year := by decide +kernel
theorem fl_X7_year_91 : Cond.fieldLink RX7 91 "MittenLine$Row" "wool" "I" ∈ wsX7_year := by decide +kernel
theorem fl_X7_year_72 : Cond.fieldLink RX7 72 "MittenLine$Row" "yards" "[I" ∈ wsX7_year := by decide +kernel
abbrev rm_X7_year : Jvm.Room := { frames := 7, cells := 0, slots := 0, locals := 162 }
def f_X7_year (now_yards : Nat → Int32) (now_feels : Nat → Int32) (now_lengths : Nat → Int32) (now_holding : Int32) (now_wool : Int32) (now_day : Int32) (trial_yards : Nat → Int32) (trial_feels : Nat → Int32) (trial_lengths : Nat → Int32) (trial_plan : Nat → Int32) (trial_holding : Int32) (trial_wool : Int32) (trial_day : Int32) (u1 : Int32) (u2 : Int32) (u3 : Int32) : Option (Int32 × (Nat → Int32) × (Nat → Int32) × (Nat → Int32) × (Nat → Int32) × Int32 × Int32 × Int32) := (f_X7_isWithin u1 (0 : Int32) (9999 : Int32)).bind (fun r1 => if r1 = 0 then some ((-2 : Int32), trial_yards, trial_feels, trial_lengths, trial_plan, trial_holding, trial_wool, trial_day) else (f_X7_isWithin u2 (1 : Int32) (99 : Int32)).bind (fun r3 => if r3 = 0 then some ((-2 : Int32), trial_yards, trial_feels, trial_lengths, trial_plan, trial_holding, trial_wool, trial_day) else (f_X7_isWithin u3 (0 : Int32) (2 : Int32)).bind (fun r5 => if r5 = 0 then some ((-2 : Int32), trial_yards, trial_feels, trial_lengths, trial_plan, trial_holding, trial_wool, trial_day) else (f_X7_runYear now_yards now_feels now_lengths now_holding now_wool now_day trial_yards trial_feels trial_lengths trial_plan trial_holding trial_wool trial_day u1 u2).bind (fun r7 => if u3 = 0 then some ((r7.2.1 (0 : Int32).toNatClampNeg), r7.2.1, r7.2.2.1, r7.2.2.2.1, r7.2.2.2.2.1, r7.2.2.2.2.2.1, r7.2.2.2.2.2.2.1, r7.2.2.2.2.2.2.2) else if u3 = (1 : Int32) then some (r7.1, r7.2.1, r7.2.2.1, r7.2.2.2.1, r7.2.2.2.2.1, r7.2.2.2.2.2.1, r7.2.2.2.2.2.2.1, r7.2.2.2.2.2.2.2) else some (r7.2.2.2.2.2.2.1, r7.2.1, r7.2.2.1, r7.2.2.2.1, r7.2.2.2.2.1, r7.2.2.2.2.2.1, r7.2.2.2.2.2.2.1, r7.2.2.2.2.2.2.2)))))
set_option maxHeartbeats 4000000 in
set_option maxRecDepth 100000 in
theorem c_X7_year (l : Launch) (D : va_G) (cI cZ cG : ClassId) (h : Nat) (A A_0 A_1 : Nat → Nat) (now_yards : Nat → Int32) (now_feels : Nat → Int32) (now_lengths : Nat → Int32) (now_holding : Int32) (now_wool : Int32) (now_day : Int32) (trial_yards : Nat → Int32) (trial_feels : Nat → Int32) (trial_lengths : Nat → Int32) (trial_plan : Nat → Int32) (trial_holding : Int32) (trial_wool : Int32) (trial_day : Int32) (u1 : Int32) (u2 : Int32) (u3 : Int32) (res : Int32 × (Nat → Int32) × (Nat → Int32) × (Nat → Int32) × (Nat → Int32) × Int32 × Int32 × Int32) (hf : f_X7_year now_yards now_feels now_lengths now_holding now_wool now_day trial_yards trial_feels trial_lengths trial_plan trial_holding trial_wool trial_day u1 u2 u3 = some res) : CI l D (tysW cI cZ cG) yX7_year wsX7_year rm_X7_year [.ref h, .int u1, .int u2, .int u3] [(h, oX7 A), ((A 0), oX5 A_0 now_holding now_wool now_day), ((A 1), oX5 A_1 trial_holding trial_wool trial_day), ((A_0 0), aI cI 10 now_yards), ((A_0 1), aI cI 10 now_feels), ((A_0 2), aI cI 9 now_lengths), ((A_1 0), aI cI 10 trial_yards), ((A_1 1), aI cI 10 trial_feels), ((A_1 2), aI cI 9 trial_lengths), ((A_1 3), aI cI 10 trial_plan)] res.1 [(h, oX7 A), ((A 0), oX5 A_0 now_holding now_wool now_day), ((A 1), oX5 A_1 res.2.2.2.2.2.1 res.2.2.2.2.2.2.1 res.2.2.2.2.2.2.2), ((A_0 0), aI cI 10 now_yards), ((A_0 1), aI cI 10 now_feels), ((A_0 2), aI cI 9 now_lengths), ((A_1 0), aI cI 10 res.2.1), ((A_1 1), aI cI 10 res.2.2.1), ((A_1 2), aI cI 9 res.2.2.2.1), ((A_1 3), aI cI 10 res.2.2.2.2.1)] := by
  refine CG.intro (own := RX7) (by decide +kernel) rfl rfl (Nat.le_of_ble_eq_true rfl) (fun p e s m args below meth c C => ?_)
  refine r_lv (lv' := [(0, .ref h), (1, .int u1), (2, .int u2), (3, .int u3)]) [0, 1, 2, 3] rfl ?_
  unfold f_X7_year at hf
  refine r_iload_n C dX7_year_0 rfl 1 rfl rfl ?_
  refine r_iconst C dX7_year_1 kk_i_0 rfl ?_
  refine r_sipush C dX7_year_2 kk_s_9999 rfl ?_
  obtain ⟨r1, e1, hf⟩ := gd_b hf
  refine o_I (wn := [(h, oX7 A), ((A 0), oX5 A_0 now_holding now_wool now_day), ((A 1), oX5 A_1 trial_holding trial_wool trial_day), ((A_0 0), aI cI 10 now_yards), ((A_0 1), aI cI 10 now_feels), ((A_0 2), aI cI 9 now_lengths), ((A_1 0), aI cI 10 trial_yards), ((A_1 1), aI cI 10 trial_feels), ((A_1 2), aI cI 9 trial_lengths), ((A_1 3), aI cI 10 trial_plan)]) C [] rfl (x_S C dX7_year_5 (c_X7_isWithin l D cI cZ cG u1 (0 : Int32) (9999 : Int32) r1 e1) rfl gX7_year_X7_isWithin hs_X7_isWithin rfl ⟨Nat.le_of_ble_eq_true rfl, Nat.le_of_ble_eq_true rfl⟩ ⟨rfl, rfl⟩ ⟨Nat.zero_le _, Nat.zero_le _⟩ rfl [] rfl rfl (Nat.le_of_ble_eq_true rfl) rfl) rfl rfl rfl ?_
  refine r_if_eq (y := 0) (tgt := 21) C dX7_year_8 rfl rfl (fun c2 => ?_) (fun c2 => ?_)
  · have hf := gd_t c2 hf
    refine r_bipush C dX7_year_21 kk_b_m2 rfl ?_
    cases hf
    exact r_iret C dX7_year_23 rfl
  · have hf := gd_f c2 hf
    refine r_iload_n C dX7_year_11 rfl 2 rfl rfl ?_
    refine r_iconst C dX7_year_12 kk_i_1 rfl ?_
    refine r_bipush C dX7_year_13 kk_b_99 rfl ?_
    obtain ⟨r3, e3, hf⟩ := gd_b hf
    refine o_I (wn := [(h, oX7 A), ((A 0), oX5 A_0 now_holding now_wool now_day), ((A 1), oX5 A_1 trial_holding trial_wool trial_day), ((A_0 0), aI cI 10 now_yards), ((A_0 1), aI cI 10 now_feels), ((A_0 2), aI cI 9 now_lengths), ((A_1 0), aI cI 10 trial_yards), ((A_1 1), aI cI 10 trial_feels), ((A_1 2), aI cI 9 trial_lengths), ((A_1 3), aI cI 10 trial_plan)]) C [] rfl (x_S C dX7_year_15 (c_X7_isWithin l D cI cZ cG u2 (1 : Int32) (99 : Int32) r3 e3) rfl gX7_year_X7_isWithin hs_X7_isWithin rfl ⟨Nat.le_of_ble_eq_true rfl, Nat.le_of_ble_eq_true rfl⟩ ⟨rfl, rfl⟩ ⟨Nat.zero_le _, Nat.zero_le _⟩ rfl [] rfl rfl (Nat.le_of_ble_eq_true rfl) rfl) rfl rfl rfl ?_
    refine r_if_ne (y := 0) (tgt := 24) C dX7_year_18 rfl rfl (fun c4 => ?_) (fun c4 => ?_)
    · have hf := gd_f c4 hf
      refine r_iload_n C dX7_year_24 rfl 3 rfl rfl ?_
      refine r_iconst C dX7_year_25 kk_i_0 rfl ?_
      refine r_iconst C dX7_year_26 kk_i_2 rfl ?_
      obtain ⟨r5, e5, hf⟩ := gd_b hf
      refine o_I (wn := [(h, oX7 A), ((A 0), oX5 A_0 now_holding now_wool now_day), ((A 1), oX5 A_1 trial_holding trial_wool trial_day), ((A_0 0), aI cI 10 now_yards), ((A_0 1), aI cI 10 now_feels), ((A_0 2), aI cI 9 now_lengths), ((A_1 0), aI cI 10 trial_yards), ((A_1 1), aI cI 10 trial_feels), ((A_1 2), aI cI 9 trial_lengths), ((A_1 3), aI cI 10 trial_plan)]) C [] rfl (x_S C dX7_year_27 (c_X7_isWithin l D cI cZ cG u3 (0 : Int32) (2 : Int32) r5 e5) rfl gX7_year_X7_isWithin hs_X7_isWithin rfl ⟨Nat.le_of_ble_eq_true rfl, Nat.le_of_ble_eq_true rfl⟩ ⟨rfl, rfl⟩ ⟨Nat.zero_le _, Nat.zero_le _⟩ rfl [] rfl rfl (Nat.le_of_ble_eq_true rfl) rfl) rfl rfl rfl ?_
      refine r_if_ne (y := 0) (tgt := 36) C dX7_year_30 rfl rfl (fun c6 => ?_) (fun c6 => ?_)
      · have hf := gd_f c6 hf
        refine r_aload_n C dX7_year_36 rfl 0 rfl rfl ?_
        refine r_iload_n C dX7_year_37 rfl 1 rfl rfl ?_
        refine r_iload_n C dX7_year_38 rfl 2 rfl rfl ?_
        obtain ⟨r7, e7, hf⟩ := gd_b hf
        refine o_I (wn := [(h, oX7 A), ((A 0), oX5 A_0 now_holding now_wool now_day), ((A 1), oX5 A_1 r7.2.2.2.2.2.1 r7.2.2.2.2.2.2.1 r7.2.2.2.2.2.2.2), ((A_0 0), aI cI 10 now_yards), ((A_0 1), aI cI 10 now_feels), ((A_0 2), aI cI 9 now_lengths), ((A_1 0), aI cI 10 r7.2.1), ((A_1 1), aI cI 10 r7.2.2.1), ((A_1 2), aI cI 9 r7.2.2.2.1), ((A_1 3), aI cI 10 r7.2.2.2.2.1)]) C [0, 1, 2, 3, 4, 5, 6, 7, 8, 9] rfl (x_V C dX7_year_39 (c_X7_runYear l D cI cZ cG h A A_0 A_1 now_yards now_feels now_lengths now_holding now_wool now_day trial_yards trial_feels trial_lengths trial_plan trial_holding trial_wool trial_day u1 u2 r7 e7) rfl gX7_year_X7_runYear hd_X7_runYear rfl ⟨Nat.le_of_ble_eq_true rfl, Nat.le_of_ble_eq_true rfl⟩ ⟨rfl, rfl⟩ ⟨Nat.zero_le _, Nat.zero_le _⟩ rfl [0, 1, 2, 3, 4, 5, 6, 7, 8, 9] rfl rfl 0 rfl rfl (Nat.le_of_ble_eq_true rfl) rfl) rfl rfl rfl ?_
        refine r_istore (lv' := [(4, .int r7.1), (0, .ref h), (1, .int u1), (2, .int u2), (3, .int u3)]) C dX7_year_42 (by decide) rfl rfl ?_
        refine r_iload_n C dX7_year_44 rfl 4 rfl rfl ?_
        refine r_if_ne (y := 0) (tgt := 58) C dX7_year_45 rfl rfl (fun c8 => ?_) (fun c8 => ?_)
        · have hf := gd_f c8 hf
          refine r_iload_n C dX7_year_58 rfl 4 rfl rfl ?_
          refine r_iconst C dX7_year_59 kk_i_1 rfl ?_
          refine r_icmp_ne (tgt := 68) C dX7_year_60 rfl rfl (fun c9 => ?_) (fun c9 => ?_)
          · have hf := gd_f c9 hf
            refine r_aload_n C dX7_year_68 rfl 1 rfl rfl ?_
            refine r_get C dX7_year_69 fw_X7_year_X7 0 rfl rfl 1 (by decide) rfl fl_X7_year_16 rfl rfl ?_
            refine r_get C dX7_year_72 fw_X7_year_X5 2 rfl rfl 5 (by decide) rfl fl_X7_year_91 rfl rfl ?_
            cases hf
            exact r_iret C dX7_year_75 rfl
          · have hf := gd_t c9 hf
            refine r_iload C dX7_year_63 0 rfl rfl ?_
            refine r_goto (tgt := 75) C dX7_year_65 rfl ?_
            cases hf
            exact r_iret C dX7_year_75 rfl
        · have hf := gd_t c8 hf
          refine r_aload_n C dX7_year_48 rfl 1 rfl rfl ?_
          refine r_get C dX7_year_49 fw_X7_year_X7 0 rfl rfl 1 (by decide) rfl fl_X7_year_16 rfl rfl ?_
          refine r_get C dX7_year_52 fw_X7_year_X5 2 rfl rfl 0 (by decide) rfl fl_X7_year_72 rfl rfl ?_
          refine r_iconst C dX7_year_55 kk_i_0 rfl ?_
          refine r_iald C dX7_year_56 6 0 rfl rfl (by decide) rfl ?_
          cases hf
          exact r_iret C dX7_year_57 rfl
      · have hf := gd_t c6 hf
        refine r_bipush C dX7_year_33 kk_b_m2 rfl ?_
        cases hf
        exact r_iret C dX7_year_35 rfl
    · have hf := gd_t c4 hf
      refine r_bipush C dX7_year_21 kk_b_m2 rfl ?_
      cases hf
      exact r_iret C dX7_year_23 rfl
theorem fw_X7_imageAt_0_X7 : ∀ w ∈ u_ws RX7 TX7 9, w ∈ wsX7_imageAt := by decide +kernel
theorem fl_X7_imageAt_0_61 : Cond.fieldLink RX7 61 "MittenLine" "image1" "LMittenLine$Image;" ∈ wsX7_imageAt := by decide +kernel
theorem fl_X7_imageAt_0_57 : Cond.fieldLink RX7 57 "MittenLine" "image0" "LMittenLine$Image;" ∈ wsX7_imageAt := by decide +kernel
abbrev rm_X7_imageAt_0 : Jvm.Room := { frames := 0, cells := 0, slots := 0, locals := 0 }
def f_X7_imageAt_0 (u1 : Int32) : Option (Unit) := if u1 = 0 then some () else none
set_option maxHeartbeats 4000000 in
set_option maxRecDepth 100000 in
theorem c_X7_imageAt_0 (l : Launch) (D : va_G) (cI cZ cG : ClassId) (h : Nat) (A : Nat → Nat) (u1 : Int32) (res : Unit) (hf : f_X7_imageAt_0 u1 = some res) : CR l D (tysW cI cZ cG) yX7_imageAt wsX7_imageAt rm_X7_imageAt_0 [.ref h, .int u1] [(h, oX7 A)] (A 7) [(h, oX7 A)] := by
  refine CG.intro (own := RX7) (by decide +kernel) rfl rfl (Nat.le_of_ble_eq_true rfl) (fun p e s m args below meth c C => ?_)
  refine r_lv (lv' := [(0, .ref h), (1, .int u1)]) [0, 1] rfl ?_
  unfold f_X7_imageAt_0 at hf
  refine r_iload_n C dX7_imageAt_0 rfl 1 rfl rfl ?_
  refine r_if_ne (y := 0) (tgt := 11) C dX7_imageAt_1 rfl rfl (fun c1 => ?_) (fun c1 => ?_)
  · have hf := gd_f c1 hf
    refine r_aload_n C dX7_imageAt_11 rfl 0 rfl rfl ?_
    refine r_get C dX7_imageAt_12 fw_X7_imageAt_0_X7 0 rfl rfl 8 (by decide) rfl fl_X7_imageAt_0_61 rfl rfl ?_
    exact no_none hf
  · have hf := gd_t c1 hf
    refine r_aload_n C dX7_imageAt_4 rfl 0 rfl rfl ?_
    refine r_get C dX7_imageAt_5 fw_X7_imageAt_0_X7 0 rfl rfl 7 (by decide) rfl fl_X7_imageAt_0_57 rfl rfl ?_
    refine r_goto (tgt := 15) C dX7_imageAt_8 rfl ?_
    cases hf
    exact r_aret C dX7_imageAt_15 rfl
theorem fw_X7_imageAt_1_X7 : ∀ w ∈ u_ws RX7 TX7 9, w ∈ wsX7_imageAt := by decide +kernel
theorem fl_X7_imageAt_1_61 : Cond.fieldLink RX7 61 "MittenLine" "image1" "LMittenLine$Image;" ∈ wsX7_imageAt := by decide +kernel
theorem fl_X7_imageAt_1_57 : Cond.fieldLink RX7 57 "MittenLine" "image0" "LMittenLine$Image;" ∈ wsX7_imageAt := by decide +kernel
abbrev rm_X7_imageAt_1 : Jvm.Room := { frames := 0, cells := 0, slots := 0, locals := 0 }
def f_X7_imageAt_1 (u1 : Int32) : Option (Unit) := if u1 = 0 then none else some ()
set_option maxHeartbeats 4000000 in
set_option maxRecDepth 100000 in
theorem c_X7_imageAt_1 (l : Launch) (D : va_G) (cI cZ cG : ClassId) (h : Nat) (A : Nat → Nat) (u1 : Int32) (res : Unit) (hf : f_X7_imageAt_1 u1 = some res) : CR l D (tysW cI cZ cG) yX7_imageAt wsX7_imageAt rm_X7_imageAt_1 [.ref h, .int u1] [(h, oX7 A)] (A 8) [(h, oX7 A)] := by
  refine CG.intro (own := RX7) (by decide +kernel) rfl rfl (Nat.le_of_ble_eq_true rfl) (fun p e s m args below meth c C => ?_)
  refine r_lv (lv' := [(0, .ref h), (1, .int u1)]) [0, 1] rfl ?_
  unfold f_X7_imageAt_1 at hf
  refine r_iload_n C dX7_imageAt_0 rfl 1 rfl rfl ?_
  refine r_if_ne (y := 0) (tgt := 11) C dX7_imageAt_1 rfl rfl (fun c1 => ?_) (fun c1 => ?_)
  · have hf := gd_f c1 hf
    refine r_aload_n C dX7_imageAt_11 rfl 0 rfl rfl ?_
    refine r_get C dX7_imageAt_12 fw_X7_imageAt_1_X7 0 rfl rfl 8 (by decide) rfl fl_X7_imageAt_1_61 rfl rfl ?_
    cases hf
    exact r_aret C dX7_imageAt_15 rfl
  · have hf := gd_t c1 hf
    refine r_aload_n C dX7_imageAt_4 rfl 0 rfl rfl ?_
    refine r_get C dX7_imageAt_5 fw_X7_imageAt_1_X7 0 rfl rfl 7 (by decide) rfl fl_X7_imageAt_1_57 rfl rfl ?_
    refine r_goto (tgt := 15) C dX7_imageAt_8 rfl ?_
    exact no_none hf
theorem fw_X7_image_0_X7 : ∀ w ∈ u_ws RX7 TX7 9, w ∈ wsX7_image := by decide +kernel
theorem fl_X7_image_0_10 : Cond.fieldLink RX7 10 "MittenLine" "now" "LMittenLine$Row;" ∈ wsX7_image := by decide +kernel
theorem fl_X7_image_0_36 : Cond.fieldLink RX7 36 "MittenLine" "sights" "LMittenLine$Sights;" ∈ wsX7_image := by decide +kernel
abbrev rm_X7_image_0 : Jvm.Room := { frames := 2, cells := 0, slots := 0, locals := 44 }
def f_X7_image_0 (now_yards : Nat → Int32) (now_feels : Nat → Int32) (now_lengths : Nat → Int32) (now_holding : Int32) (now_wool : Int32) (now_day : Int32) (sights_who : Nat → Int32) (sights_much : Nat → Int32) (sights_count : Int32) (image0_isKept : Int32) (image0_row_yards : Nat → Int32) (image0_row_feels : Nat → Int32) (image0_row_lengths : Nat → Int32) (image0_row_holding : Int32) (image0_row_wool : Int32) (image0_row_day : Int32) (image0_sights_who : Nat → Int32) (image0_sights_much : Nat → Int32) (image0_sights_count : Int32) (u1 : Int32) : Option (Int32 × Int32 × (Nat → Int32) × (Nat → Int32) × (Nat → Int32) × Int32 × Int32 × Int32 × (Nat → Int32) × (Nat → Int32) × Int32) := (f_X7_isWithin u1 (0 : Int32) (1 : Int32)).bind (fun r1 => if r1 = 0 then some ((-2 : Int32), image0_isKept, image0_row_yards, image0_row_feels, image0_row_lengths, image0_row_holding, image0_row_wool, image0_row_day, image0_sights_who, image0_sights_much, image0_sights_count) else (f_X7_imageAt_0 u1).bind (fun r3 => (f_X2_keep image0_isKept image0_row_yards image0_row_feels image0_row_lengths image0_row_holding image0_row_wool image0_row_day image0_sights_who image0_sights_much image0_sights_count now_yards now_feels now_lengths now_holding now_wool now_day sights_who sights_much sights_count).bind (fun r4 => some ((1 : Int32), r4.1, r4.2.1, r4.2.2.1, r4.2.2.2.1, r4.2.2.2.2.1, r4.2.2.2.2.2.1, r4.2.2.2.2.2.2.1, r4.2.2.2.2.2.2.2.1, r4.2.2.2.2.2.2.2.2.1, r4.2.2.2.2.2.2.2.2.2))))
set_option maxHeartbeats 4000000 in
set_option maxRecDepth 100000 in
theorem c_X7_image_0 (l : Launch) (D : va_G) (cI cZ cG : ClassId) (h : Nat) (A A_0 A_4 A_7 A_7_0 A_7_1 : Nat → Nat) (now_yards : Nat → Int32) (now_feels : Nat → Int32) (now_lengths : Nat → Int32) (now_holding : Int32) (now_wool : Int32) (now_day : Int32) (sights_who : Nat → Int32) (sights_much : Nat → Int32) (sights_count : Int32) (image0_isKept : Int32) (image0_row_yards : Nat → Int32) (image0_row_feels : Nat → Int32) (image0_row_lengths : Nat → Int32) (image0_row_holding : Int32) (image0_row_wool : Int32) (image0_row_day : Int32) (image0_sights_who : Nat → Int32) (image0_sights_much : Nat → Int32) (image0_sights_count : Int32) (u1 : Int32) (res : Int32 × Int32 × (Nat → Int32) × (Nat → Int32) × (Nat → Int32) × Int32 × Int32 × Int32 × (Nat → Int32) × (Nat → Int32) × Int32) (hf : f_X7_image_0 now_yards now_feels now_lengths now_holding now_wool now_day sights_who sights_much sights_count image0_isKept image0_row_yards image0_row_feels image0_row_lengths image0_row_holding image0_row_wool image0_row_day image0_sights_who image0_sights_much image0_sights_count u1 = some res) : CI l D (tysW cI cZ cG) yX7_image wsX7_image rm_X7_image_0 [.ref h, .int u1] [(h, oX7 A), ((A 0), oX5 A_0 now_holding now_wool now_day), ((A 4), oX6 A_4 sights_count), ((A 7), oX2 A_7 image0_isKept), ((A_7 0), oX5 A_7_0 image0_row_holding image0_row_wool image0_row_day), ((A_7 1), oX6 A_7_1 image0_sights_count), ((A_0 0), aI cI 10 now_yards), ((A_0 1), aI cI 10 now_feels), ((A_0 2), aI cI 9 now_lengths), ((A_4 0), aI cI 8 sights_who), ((A_4 1), aI cI 8 sights_much), ((A_7_0 0), aI cI 10 image0_row_yards), ((A_7_0 1), aI cI 10 image0_row_feels), ((A_7_0 2), aI cI 9 image0_row_lengths), ((A_7_1 0), aI cI 8 image0_sights_who), ((A_7_1 1), aI cI 8 image0_sights_much)] res.1 [(h, oX7 A), ((A 0), oX5 A_0 now_holding now_wool now_day), ((A 4), oX6 A_4 sights_count), ((A 7), oX2 A_7 res.2.1), ((A_7 0), oX5 A_7_0 res.2.2.2.2.2.1 res.2.2.2.2.2.2.1 res.2.2.2.2.2.2.2.1), ((A_7 1), oX6 A_7_1 res.2.2.2.2.2.2.2.2.2.2), ((A_0 0), aI cI 10 now_yards), ((A_0 1), aI cI 10 now_feels), ((A_0 2), aI cI 9 now_lengths), ((A_4 0), aI cI 8 sights_who), ((A_4 1), aI cI 8 sights_much), ((A_7_0 0), aI cI 10 res.2.2.1), ((A_7_0 1), aI cI 10 res.2.2.2.1), ((A_7_0 2), aI cI 9 res.2.2.2.2.1), ((A_7_1 0), aI cI 8 res.2.2.2.2.2.2.2.2.1), ((A_7_1 1), aI cI 8 res.2.2.2.2.2.2.2.2.2.1)] := by
  refine CG.intro (own := RX7) (by decide +kernel) rfl rfl (Nat.le_of_ble_eq_true rfl) (fun p e s m args below meth c C => ?_)
  refine r_lv (lv' := [(0, .ref h), (1, .int u1)]) [0, 1] rfl ?_
  unfold f_X7_image_0 at hf
  refine r_iload_n C dX7_image_0 rfl 1 rfl rfl ?_
  refine r_iconst C dX7_image_1 kk_i_0 rfl ?_
  refine r_iconst C dX7_image_2 kk_i_1 rfl ?_
  obtain ⟨r1, e1, hf⟩ := gd_b hf
  refine o_I (wn := [(h, oX7 A), ((A 0), oX5 A_0 now_holding now_wool now_day), ((A 4), oX6 A_4 sights_count), ((A 7), oX2 A_7 image0_isKept), ((A_7 0), oX5 A_7_0 image0_row_holding image0_row_wool image0_row_day), ((A_7 1), oX6 A_7_1 image0_sights_count), ((A_0 0), aI cI 10 now_yards), ((A_0 1), aI cI 10 now_feels), ((A_0 2), aI cI 9 now_lengths), ((A_4 0), aI cI 8 sights_who), ((A_4 1), aI cI 8 sights_much), ((A_7_0 0), aI cI 10 image0_row_yards), ((A_7_0 1), aI cI 10 image0_row_feels), ((A_7_0 2), aI cI 9 image0_row_lengths), ((A_7_1 0), aI cI 8 image0_sights_who), ((A_7_1 1), aI cI 8 image0_sights_much)]) C [] rfl (x_S C dX7_image_3 (c_X7_isWithin l D cI cZ cG u1 (0 : Int32) (1 : Int32) r1 e1) rfl gX7_image_X7_isWithin hs_X7_isWithin rfl ⟨Nat.le_of_ble_eq_true rfl, Nat.le_of_ble_eq_true rfl⟩ ⟨rfl, rfl⟩ ⟨Nat.zero_le _, Nat.zero_le _⟩ rfl [] rfl rfl (Nat.le_of_ble_eq_true rfl) rfl) rfl rfl rfl ?_
  refine r_if_ne (y := 0) (tgt := 12) C dX7_image_6 rfl rfl (fun c2 => ?_) (fun c2 => ?_)
  · have hf := gd_f c2 hf
    refine r_aload_n C dX7_image_12 rfl 0 rfl rfl ?_
    refine r_iload_n C dX7_image_13 rfl 1 rfl rfl ?_
    obtain ⟨r3, e3, hf⟩ := gd_b hf
    refine o_R (wn := [(h, oX7 A), ((A 0), oX5 A_0 now_holding now_wool now_day), ((A 4), oX6 A_4 sights_count), ((A 7), oX2 A_7 image0_isKept), ((A_7 0), oX5 A_7_0 image0_row_holding image0_row_wool image0_row_day), ((A_7 1), oX6 A_7_1 image0_sights_count), ((A_0 0), aI cI 10 now_yards), ((A_0 1), aI cI 10 now_feels), ((A_0 2), aI cI 9 now_lengths), ((A_4 0), aI cI 8 sights_who), ((A_4 1), aI cI 8 sights_much), ((A_7_0 0), aI cI 10 image0_row_yards), ((A_7_0 1), aI cI 10 image0_row_feels), ((A_7_0 2), aI cI 9 image0_row_lengths), ((A_7_1 0), aI cI 8 image0_sights_who), ((A_7_1 1), aI cI 8 image0_sights_much)]) C [0] rfl (x_V C dX7_image_14 (c_X7_imageAt_0 l D cI cZ cG h A u1 r3 e3) rfl gX7_image_X7_imageAt hd_X7_imageAt rfl ⟨Nat.le_of_ble_eq_true rfl, Nat.le_of_ble_eq_true rfl⟩ ⟨rfl, rfl⟩ ⟨Nat.zero_le _, Nat.zero_le _⟩ rfl [0] rfl rfl 0 rfl rfl (Nat.le_of_ble_eq_true rfl) rfl) rfl rfl rfl ?_
    refine r_aload_n C dX7_image_17 rfl 0 rfl rfl ?_
    refine r_get C dX7_image_18 fw_X7_image_0_X7 0 rfl rfl 0 (by decide) rfl fl_X7_image_0_10 rfl rfl ?_
    refine r_aload_n C dX7_image_21 rfl 0 rfl rfl ?_
    refine r_get C dX7_image_22 fw_X7_image_0_X7 0 rfl rfl 4 (by decide) rfl fl_X7_image_0_36 rfl rfl ?_
    obtain ⟨r4, e4, hf⟩ := gd_b hf
    refine o_V (wn := [(h, oX7 A), ((A 0), oX5 A_0 now_holding now_wool now_day), ((A 4), oX6 A_4 sights_count), ((A 7), oX2 A_7 r4.1), ((A_7 0), oX5 A_7_0 r4.2.2.2.2.1 r4.2.2.2.2.2.1 r4.2.2.2.2.2.2.1), ((A_7 1), oX6 A_7_1 r4.2.2.2.2.2.2.2.2.2), ((A_0 0), aI cI 10 now_yards), ((A_0 1), aI cI 10 now_feels), ((A_0 2), aI cI 9 now_lengths), ((A_4 0), aI cI 8 sights_who), ((A_4 1), aI cI 8 sights_much), ((A_7_0 0), aI cI 10 r4.2.1), ((A_7_0 1), aI cI 10 r4.2.2.1), ((A_7_0 2), aI cI 9 r4.2.2.2.1), ((A_7_1 0), aI cI 8 r4.2.2.2.2.2.2.2.1), ((A_7_1 1), aI cI 8 r4.2.2.2.2.2.2.2.2.1)]) C [3, 4, 5, 1, 2, 11, 12, 13, 14, 15, 6, 7, 8, 9, 10] rfl (x_V C dX7_image_25 (c_X2_keep l D cI cZ cG (A 7) (A 0) (A 4) A_7 A_7_0 A_7_1 A_0 A_4 image0_isKept image0_row_yards image0_row_feels image0_row_lengths image0_row_holding image0_row_wool image0_row_day image0_sights_who image0_sights_much image0_sights_count now_yards now_feels now_lengths now_holding now_wool now_day sights_who sights_much sights_count r4 e4) rfl gX7_image_X2_keep hd_X2_keep rfl ⟨Nat.le_of_ble_eq_true rfl, Nat.le_of_ble_eq_true rfl⟩ ⟨rfl, rfl⟩ ⟨Nat.zero_le _, Nat.zero_le _⟩ rfl [3, 4, 5, 1, 2, 11, 12, 13, 14, 15, 6, 7, 8, 9, 10] rfl rfl 3 rfl rfl (Nat.le_of_ble_eq_true rfl) rfl) rfl rfl rfl ?_
    refine r_iconst C dX7_image_28 kk_i_1 rfl ?_
    cases hf
    exact r_iret C dX7_image_29 rfl
  · have hf := gd_t c2 hf
    refine r_bipush C dX7_image_9 kk_b_m2 rfl ?_
    cases hf
    exact r_iret C dX7_image_11 rfl
theorem fw_X7_image_1_X7 : ∀ w ∈ u_ws RX7 TX7 9, w ∈ wsX7_image := by decide +kernel
theorem fl_X7_image_1_10 : Cond.fieldLink RX7 10 "MittenLine" "now" "LMittenLine$Row;" ∈ wsX7_image := by decide +kernel
theorem fl_X7_image_1_36 : Cond.fieldLink RX7 36 "MittenLine" "sights" "LMittenLine$Sights;" ∈ wsX7_image := by decide +kernel
abbrev rm_X7_image_1 : Jvm.Room := { frames := 2, cells := 0, slots := 0, locals := 44 }
def f_X7_image_1 (now_yards : Nat → Int32) (now_feels : Nat → Int32) (now_lengths : Nat → Int32) (now_holding : Int32) (now_wool : Int32) (now_day : Int32) (sights_who : Nat → Int32) (sights_much : Nat → Int32) (sights_count : Int32) (image1_isKept : Int32) (image1_row_yards : Nat → Int32) (image1_row_feels : Nat → Int32) (image1_row_lengths : Nat → Int32) (image1_row_holding : Int32) (image1_row_wool : Int32) (image1_row_day : Int32) (image1_sights_who : Nat → Int32) (image1_sights_much : Nat → Int32) (image1_sights_count : Int32) (u1 : Int32) : Option (Int32 × Int32 × (Nat → Int32) × (Nat → Int32) × (Nat → Int32) × Int32 × Int32 × Int32 × (Nat → Int32) × (Nat → Int32) × Int32) := (f_X7_isWithin u1 (0 : Int32) (1 : Int32)).bind (fun r1 => if r1 = 0 then some ((-2 : Int32), image1_isKept, image1_row_yards, image1_row_feels, image1_row_lengths, image1_row_holding, image1_row_wool, image1_row_day, image1_sights_who, image1_sights_much, image1_sights_count) else (f_X7_imageAt_1 u1).bind (fun r3 => (f_X2_keep image1_isKept image1_row_yards image1_row_feels image1_row_lengths image1_row_holding image1_row_wool image1_row_day image1_sights_who image1_sights_much image1_sights_count now_yards now_feels now_lengths now_holding now_wool now_day sights_who sights_much sights_count).bind (fun r4 => some ((1 : Int32), r4.1, r4.2.1, r4.2.2.1, r4.2.2.2.1, r4.2.2.2.2.1, r4.2.2.2.2.2.1, r4.2.2.2.2.2.2.1, r4.2.2.2.2.2.2.2.1, r4.2.2.2.2.2.2.2.2.1, r4.2.2.2.2.2.2.2.2.2))))
set_option maxHeartbeats 4000000 in
set_option maxRecDepth 100000 in
theorem c_X7_image_1 (l : Launch) (D : va_G) (cI cZ cG : ClassId) (h : Nat) (A A_0 A_4 A_8 A_8_0 A_8_1 : Nat → Nat) (now_yards : Nat → Int32) (now_feels : Nat → Int32) (now_lengths : Nat → Int32) (now_holding : Int32) (now_wool : Int32) (now_day : Int32) (sights_who : Nat → Int32) (sights_much : Nat → Int32) (sights_count : Int32) (image1_isKept : Int32) (image1_row_yards : Nat → Int32) (image1_row_feels : Nat → Int32) (image1_row_lengths : Nat → Int32) (image1_row_holding : Int32) (image1_row_wool : Int32) (image1_row_day : Int32) (image1_sights_who : Nat → Int32) (image1_sights_much : Nat → Int32) (image1_sights_count : Int32) (u1 : Int32) (res : Int32 × Int32 × (Nat → Int32) × (Nat → Int32) × (Nat → Int32) × Int32 × Int32 × Int32 × (Nat → Int32) × (Nat → Int32) × Int32) (hf : f_X7_image_1 now_yards now_feels now_lengths now_holding now_wool now_day sights_who sights_much sights_count image1_isKept image1_row_yards image1_row_feels image1_row_lengths image1_row_holding image1_row_wool image1_row_day image1_sights_who image1_sights_much image1_sights_count u1 = some res) : CI l D (tysW cI cZ cG) yX7_image wsX7_image rm_X7_image_1 [.ref h, .int u1] [(h, oX7 A), ((A 0), oX5 A_0 now_holding now_wool now_day), ((A 4), oX6 A_4 sights_count), ((A 8), oX2 A_8 image1_isKept), ((A_8 0), oX5 A_8_0 image1_row_holding image1_row_wool image1_row_day), ((A_8 1), oX6 A_8_1 image1_sights_count), ((A_0 0), aI cI 10 now_yards), ((A_0 1), aI cI 10 now_feels), ((A_0 2), aI cI 9 now_lengths), ((A_4 0), aI cI 8 sights_who), ((A_4 1), aI cI 8 sights_much), ((A_8_0 0), aI cI 10 image1_row_yards), ((A_8_0 1), aI cI 10 image1_row_feels), ((A_8_0 2), aI cI 9 image1_row_lengths), ((A_8_1 0), aI cI 8 image1_sights_who), ((A_8_1 1), aI cI 8 image1_sights_much)] res.1 [(h, oX7 A), ((A 0), oX5 A_0 now_holding now_wool now_day), ((A 4), oX6 A_4 sights_count), ((A 8), oX2 A_8 res.2.1), ((A_8 0), oX5 A_8_0 res.2.2.2.2.2.1 res.2.2.2.2.2.2.1 res.2.2.2.2.2.2.2.1), ((A_8 1), oX6 A_8_1 res.2.2.2.2.2.2.2.2.2.2), ((A_0 0), aI cI 10 now_yards), ((A_0 1), aI cI 10 now_feels), ((A_0 2), aI cI 9 now_lengths), ((A_4 0), aI cI 8 sights_who), ((A_4 1), aI cI 8 sights_much), ((A_8_0 0), aI cI 10 res.2.2.1), ((A_8_0 1), aI cI 10 res.2.2.2.1), ((A_8_0 2), aI cI 9 res.2.2.2.2.1), ((A_8_1 0), aI cI 8 res.2.2.2.2.2.2.2.2.1), ((A_8_1 1), aI cI 8 res.2.2.2.2.2.2.2.2.2.1)] := by
  refine CG.intro (own := RX7) (by decide +kernel) rfl rfl (Nat.le_of_ble_eq_true rfl) (fun p e s m args below meth c C => ?_)
  refine r_lv (lv' := [(0, .ref h), (1, .int u1)]) [0, 1] rfl ?_
  unfold f_X7_image_1 at hf
  refine r_iload_n C dX7_image_0 rfl 1 rfl rfl ?_
  refine r_iconst C dX7_image_1 kk_i_0 rfl ?_
  refine r_iconst C dX7_image_2 kk_i_1 rfl ?_
  obtain ⟨r1, e1, hf⟩ := gd_b hf
  refine o_I (wn := [(h, oX7 A), ((A 0), oX5 A_0 now_holding now_wool now_day), ((A 4), oX6 A_4 sights_count), ((A 8), oX2 A_8 image1_isKept), ((A_8 0), oX5 A_8_0 image1_row_holding image1_row_wool image1_row_day), ((A_8 1), oX6 A_8_1 image1_sights_count), ((A_0 0), aI cI 10 now_yards), ((A_0 1), aI cI 10 now_feels), ((A_0 2), aI cI 9 now_lengths), ((A_4 0), aI cI 8 sights_who), ((A_4 1), aI cI 8 sights_much), ((A_8_0 0), aI cI 10 image1_row_yards), ((A_8_0 1), aI cI 10 image1_row_feels), ((A_8_0 2), aI cI 9 image1_row_lengths), ((A_8_1 0), aI cI 8 image1_sights_who), ((A_8_1 1), aI cI 8 image1_sights_much)]) C [] rfl (x_S C dX7_image_3 (c_X7_isWithin l D cI cZ cG u1 (0 : Int32) (1 : Int32) r1 e1) rfl gX7_image_X7_isWithin hs_X7_isWithin rfl ⟨Nat.le_of_ble_eq_true rfl, Nat.le_of_ble_eq_true rfl⟩ ⟨rfl, rfl⟩ ⟨Nat.zero_le _, Nat.zero_le _⟩ rfl [] rfl rfl (Nat.le_of_ble_eq_true rfl) rfl) rfl rfl rfl ?_
  refine r_if_ne (y := 0) (tgt := 12) C dX7_image_6 rfl rfl (fun c2 => ?_) (fun c2 => ?_)
  · have hf := gd_f c2 hf
    refine r_aload_n C dX7_image_12 rfl 0 rfl rfl ?_
    refine r_iload_n C dX7_image_13 rfl 1 rfl rfl ?_
    obtain ⟨r3, e3, hf⟩ := gd_b hf
    refine o_R (wn := [(h, oX7 A), ((A 0), oX5 A_0 now_holding now_wool now_day), ((A 4), oX6 A_4 sights_count), ((A 8), oX2 A_8 image1_isKept), ((A_8 0), oX5 A_8_0 image1_row_holding image1_row_wool image1_row_day), ((A_8 1), oX6 A_8_1 image1_sights_count), ((A_0 0), aI cI 10 now_yards), ((A_0 1), aI cI 10 now_feels), ((A_0 2), aI cI 9 now_lengths), ((A_4 0), aI cI 8 sights_who), ((A_4 1), aI cI 8 sights_much), ((A_8_0 0), aI cI 10 image1_row_yards), ((A_8_0 1), aI cI 10 image1_row_feels), ((A_8_0 2), aI cI 9 image1_row_lengths), ((A_8_1 0), aI cI 8 image1_sights_who), ((A_8_1 1), aI cI 8 image1_sights_much)]) C [0] rfl (x_V C dX7_image_14 (c_X7_imageAt_1 l D cI cZ cG h A u1 r3 e3) rfl gX7_image_X7_imageAt hd_X7_imageAt rfl ⟨Nat.le_of_ble_eq_true rfl, Nat.le_of_ble_eq_true rfl⟩ ⟨rfl, rfl⟩ ⟨Nat.zero_le _, Nat.zero_le _⟩ rfl [0] rfl rfl 0 rfl rfl (Nat.le_of_ble_eq_true rfl) rfl) rfl rfl rfl ?_
    refine r_aload_n C dX7_image_17 rfl 0 rfl rfl ?_
    refine r_get C dX7_image_18 fw_X7_image_1_X7 0 rfl rfl 0 (by decide) rfl fl_X7_image_1_10 rfl rfl ?_
    refine r_aload_n C dX7_image_21 rfl 0 rfl rfl ?_
    refine r_get C dX7_image_22 fw_X7_image_1_X7 0 rfl rfl 4 (by decide) rfl fl_X7_image_1_36 rfl rfl ?_
    obtain ⟨r4, e4, hf⟩ := gd_b hf
    refine o_V (wn := [(h, oX7 A), ((A 0), oX5 A_0 now_holding now_wool now_day), ((A 4), oX6 A_4 sights_count), ((A 8), oX2 A_8 r4.1), ((A_8 0), oX5 A_8_0 r4.2.2.2.2.1 r4.2.2.2.2.2.1 r4.2.2.2.2.2.2.1), ((A_8 1), oX6 A_8_1 r4.2.2.2.2.2.2.2.2.2), ((A_0 0), aI cI 10 now_yards), ((A_0 1), aI cI 10 now_feels), ((A_0 2), aI cI 9 now_lengths), ((A_4 0), aI cI 8 sights_who), ((A_4 1), aI cI 8 sights_much), ((A_8_0 0), aI cI 10 r4.2.1), ((A_8_0 1), aI cI 10 r4.2.2.1), ((A_8_0 2), aI cI 9 r4.2.2.2.1), ((A_8_1 0), aI cI 8 r4.2.2.2.2.2.2.2.1), ((A_8_1 1), aI cI 8 r4.2.2.2.2.2.2.2.2.1)]) C [3, 4, 5, 1, 2, 11, 12, 13, 14, 15, 6, 7, 8, 9, 10] rfl (x_V C dX7_image_25 (c_X2_keep l D cI cZ cG (A 8) (A 0) (A 4) A_8 A_8_0 A_8_1 A_0 A_4 image1_isKept image1_row_yards image1_row_feels image1_row_lengths image1_row_holding image1_row_wool image1_row_day image1_sights_who image1_sights_much image1_sights_count now_yards now_feels now_lengths now_holding now_wool now_day sights_who sights_much sights_count r4 e4) rfl gX7_image_X2_keep hd_X2_keep rfl ⟨Nat.le_of_ble_eq_true rfl, Nat.le_of_ble_eq_true rfl⟩ ⟨rfl, rfl⟩ ⟨Nat.zero_le _, Nat.zero_le _⟩ rfl [3, 4, 5, 1, 2, 11, 12, 13, 14, 15, 6, 7, 8, 9, 10] rfl rfl 3 rfl rfl (Nat.le_of_ble_eq_true rfl) rfl) rfl rfl rfl ?_
    refine r_iconst C dX7_image_28 kk_i_1 rfl ?_
    cases hf
    exact r_iret C dX7_image_29 rfl
  · have hf := gd_t c2 hf
    refine r_bipush C dX7_image_9 kk_b_m2 rfl ?_
    cases hf
    exact r_iret C dX7_image_11 rfl
theorem fw_X7_restore_0_X2 : ∀ w ∈ u_ws RX2 TX2 3, w ∈ wsX7_restore := by decide +kernel
theorem fl_X7_restore_0_263 : Cond.fieldLink RX7 263 "MittenLine$Image" "isKept" "Z" ∈ wsX7_restore := by decide +kernel
theorem fw_X7_restore_0_X7 : ∀ w ∈ u_ws RX7 TX7 9, w ∈ wsX7_restore := by decide +kernel
theorem fl_X7_restore_0_10 : Cond.fieldLink RX7 10 "MittenLine" "now" "LMittenLine$Row;" ∈ wsX7_restore := by decide +kernel
theorem fl_X7_restore_0_36 : Cond.fieldLink RX7 36 "MittenLine" "sights" "LMittenLine$Sights;" ∈ wsX7_restore := by decide +kernel
abbrev rm_X7_restore_0 : Jvm.Room := { frames := 2, cells := 0, slots := 0, locals := 44 }
def f_X7_restore_0 (now_yards : Nat → Int32) (now_feels : Nat → Int32) (now_lengths : Nat → Int32) (now_holding : Int32) (now_wool : Int32) (now_day : Int32) (sights_who : Nat → Int32) (sights_much : Nat → Int32) (sights_count : Int32) (image0_isKept : Int32) (image0_row_yards : Nat → Int32) (image0_row_feels : Nat → Int32) (image0_row_lengths : Nat → Int32) (image0_row_holding : Int32) (image0_row_wool : Int32) (image0_row_day : Int32) (image0_sights_who : Nat → Int32) (image0_sights_much : Nat → Int32) (image0_sights_count : Int32) (u1 : Int32) : Option (Int32 × (Nat → Int32) × (Nat → Int32) × (Nat → Int32) × Int32 × Int32 × Int32 × (Nat → Int32) × (Nat → Int32) × Int32) := (f_X7_isWithin u1 (0 : Int32) (1 : Int32)).bind (fun r1 => if r1 = 0 then some ((-2 : Int32), now_yards, now_feels, now_lengths, now_holding, now_wool, now_day, sights_who, sights_much, sights_count) else (f_X7_imageAt_0 u1).bind (fun r3 => if image0_isKept = 0 then some ((-3 : Int32), now_yards, now_feels, now_lengths, now_holding, now_wool, now_day, sights_who, sights_much, sights_count) else (f_X2_giveBack image0_row_yards image0_row_feels image0_row_lengths image0_row_holding image0_row_wool image0_row_day image0_sights_who image0_sights_much image0_sights_count now_yards now_feels now_lengths now_holding now_wool now_day sights_who sights_much sights_count).bind (fun r5 => some ((1 : Int32), r5.1, r5.2.1, r5.2.2.1, r5.2.2.2.1, r5.2.2.2.2.1, r5.2.2.2.2.2.1, r5.2.2.2.2.2.2.1, r5.2.2.2.2.2.2.2.1, r5.2.2.2.2.2.2.2.2))))
set_option maxHeartbeats 4000000 in
set_option maxRecDepth 100000 in
theorem c_X7_restore_0 (l : Launch) (D : va_G) (cI cZ cG : ClassId) (h : Nat) (A A_0 A_4 A_7 A_7_0 A_7_1 : Nat → Nat) (now_yards : Nat → Int32) (now_feels : Nat → Int32) (now_lengths : Nat → Int32) (now_holding : Int32) (now_wool : Int32) (now_day : Int32) (sights_who : Nat → Int32) (sights_much : Nat → Int32) (sights_count : Int32) (image0_isKept : Int32) (image0_row_yards : Nat → Int32) (image0_row_feels : Nat → Int32) (image0_row_lengths : Nat → Int32) (image0_row_holding : Int32) (image0_row_wool : Int32) (image0_row_day : Int32) (image0_sights_who : Nat → Int32) (image0_sights_much : Nat → Int32) (image0_sights_count : Int32) (u1 : Int32) (res : Int32 × (Nat → Int32) × (Nat → Int32) × (Nat → Int32) × Int32 × Int32 × Int32 × (Nat → Int32) × (Nat → Int32) × Int32) (hf : f_X7_restore_0 now_yards now_feels now_lengths now_holding now_wool now_day sights_who sights_much sights_count image0_isKept image0_row_yards image0_row_feels image0_row_lengths image0_row_holding image0_row_wool image0_row_day image0_sights_who image0_sights_much image0_sights_count u1 = some res) : CI l D (tysW cI cZ cG) yX7_restore wsX7_restore rm_X7_restore_0 [.ref h, .int u1] [(h, oX7 A), ((A 0), oX5 A_0 now_holding now_wool now_day), ((A 4), oX6 A_4 sights_count), ((A 7), oX2 A_7 image0_isKept), ((A_7 0), oX5 A_7_0 image0_row_holding image0_row_wool image0_row_day), ((A_7 1), oX6 A_7_1 image0_sights_count), ((A_0 0), aI cI 10 now_yards), ((A_0 1), aI cI 10 now_feels), ((A_0 2), aI cI 9 now_lengths), ((A_4 0), aI cI 8 sights_who), ((A_4 1), aI cI 8 sights_much), ((A_7_0 0), aI cI 10 image0_row_yards), ((A_7_0 1), aI cI 10 image0_row_feels), ((A_7_0 2), aI cI 9 image0_row_lengths), ((A_7_1 0), aI cI 8 image0_sights_who), ((A_7_1 1), aI cI 8 image0_sights_much)] res.1 [(h, oX7 A), ((A 0), oX5 A_0 res.2.2.2.2.1 res.2.2.2.2.2.1 res.2.2.2.2.2.2.1), ((A 4), oX6 A_4 res.2.2.2.2.2.2.2.2.2), ((A 7), oX2 A_7 image0_isKept), ((A_7 0), oX5 A_7_0 image0_row_holding image0_row_wool image0_row_day), ((A_7 1), oX6 A_7_1 image0_sights_count), ((A_0 0), aI cI 10 res.2.1), ((A_0 1), aI cI 10 res.2.2.1), ((A_0 2), aI cI 9 res.2.2.2.1), ((A_4 0), aI cI 8 res.2.2.2.2.2.2.2.1), ((A_4 1), aI cI 8 res.2.2.2.2.2.2.2.2.1), ((A_7_0 0), aI cI 10 image0_row_yards), ((A_7_0 1), aI cI 10 image0_row_feels), ((A_7_0 2), aI cI 9 image0_row_lengths), ((A_7_1 0), aI cI 8 image0_sights_who), ((A_7_1 1), aI cI 8 image0_sights_much)] := by
  refine CG.intro (own := RX7) (by decide +kernel) rfl rfl (Nat.le_of_ble_eq_true rfl) (fun p e s m args below meth c C => ?_)
  refine r_lv (lv' := [(0, .ref h), (1, .int u1)]) [0, 1] rfl ?_
  unfold f_X7_restore_0 at hf
  refine r_iload_n C dX7_restore_0 rfl 1 rfl rfl ?_
  refine r_iconst C dX7_restore_1 kk_i_0 rfl ?_
  refine r_iconst C dX7_restore_2 kk_i_1 rfl ?_
  obtain ⟨r1, e1, hf⟩ := gd_b hf
  refine o_I (wn := [(h, oX7 A), ((A 0), oX5 A_0 now_holding now_wool now_day), ((A 4), oX6 A_4 sights_count), ((A 7), oX2 A_7 image0_isKept), ((A_7 0), oX5 A_7_0 image0_row_holding image0_row_wool image0_row_day), ((A_7 1), oX6 A_7_1 image0_sights_count), ((A_0 0), aI cI 10 now_yards), ((A_0 1), aI cI 10 now_feels), ((A_0 2), aI cI 9 now_lengths), ((A_4 0), aI cI 8 sights_who), ((A_4 1), aI cI 8 sights_much), ((A_7_0 0), aI cI 10 image0_row_yards), ((A_7_0 1), aI cI 10 image0_row_feels), ((A_7_0 2), aI cI 9 image0_row_lengths), ((A_7_1 0), aI cI 8 image0_sights_who), ((A_7_1 1), aI cI 8 image0_sights_much)]) C [] rfl (x_S C dX7_restore_3 (c_X7_isWithin l D cI cZ cG u1 (0 : Int32) (1 : Int32) r1 e1) rfl gX7_restore_X7_isWithin hs_X7_isWithin rfl ⟨Nat.le_of_ble_eq_true rfl, Nat.le_of_ble_eq_true rfl⟩ ⟨rfl, rfl⟩ ⟨Nat.zero_le _, Nat.zero_le _⟩ rfl [] rfl rfl (Nat.le_of_ble_eq_true rfl) rfl) rfl rfl rfl ?_
  refine r_if_ne (y := 0) (tgt := 12) C dX7_restore_6 rfl rfl (fun c2 => ?_) (fun c2 => ?_)
  · have hf := gd_f c2 hf
    refine r_aload_n C dX7_restore_12 rfl 0 rfl rfl ?_
    refine r_iload_n C dX7_restore_13 rfl 1 rfl rfl ?_
    obtain ⟨r3, e3, hf⟩ := gd_b hf
    refine o_R (wn := [(h, oX7 A), ((A 0), oX5 A_0 now_holding now_wool now_day), ((A 4), oX6 A_4 sights_count), ((A 7), oX2 A_7 image0_isKept), ((A_7 0), oX5 A_7_0 image0_row_holding image0_row_wool image0_row_day), ((A_7 1), oX6 A_7_1 image0_sights_count), ((A_0 0), aI cI 10 now_yards), ((A_0 1), aI cI 10 now_feels), ((A_0 2), aI cI 9 now_lengths), ((A_4 0), aI cI 8 sights_who), ((A_4 1), aI cI 8 sights_much), ((A_7_0 0), aI cI 10 image0_row_yards), ((A_7_0 1), aI cI 10 image0_row_feels), ((A_7_0 2), aI cI 9 image0_row_lengths), ((A_7_1 0), aI cI 8 image0_sights_who), ((A_7_1 1), aI cI 8 image0_sights_much)]) C [0] rfl (x_V C dX7_restore_14 (c_X7_imageAt_0 l D cI cZ cG h A u1 r3 e3) rfl gX7_restore_X7_imageAt hd_X7_imageAt rfl ⟨Nat.le_of_ble_eq_true rfl, Nat.le_of_ble_eq_true rfl⟩ ⟨rfl, rfl⟩ ⟨Nat.zero_le _, Nat.zero_le _⟩ rfl [0] rfl rfl 0 rfl rfl (Nat.le_of_ble_eq_true rfl) rfl) rfl rfl rfl ?_
    refine r_astore_n (lv' := [(2, .ref (A 7)), (0, .ref h), (1, .int u1)]) C dX7_restore_17 rfl (by decide) rfl rfl ?_
    refine r_aload_n C dX7_restore_18 rfl 0 rfl rfl ?_
    refine r_get C dX7_restore_19 fw_X7_restore_0_X2 3 rfl rfl 2 (by decide) rfl fl_X7_restore_0_263 rfl rfl ?_
    refine r_if_ne (y := 0) (tgt := 28) C dX7_restore_22 rfl rfl (fun c4 => ?_) (fun c4 => ?_)
    · have hf := gd_f c4 hf
      refine r_aload_n C dX7_restore_28 rfl 0 rfl rfl ?_
      refine r_aload_n C dX7_restore_29 rfl 1 rfl rfl ?_
      refine r_get C dX7_restore_30 fw_X7_restore_0_X7 0 rfl rfl 0 (by decide) rfl fl_X7_restore_0_10 rfl rfl ?_
      refine r_aload_n C dX7_restore_33 rfl 1 rfl rfl ?_
      refine r_get C dX7_restore_34 fw_X7_restore_0_X7 0 rfl rfl 4 (by decide) rfl fl_X7_restore_0_36 rfl rfl ?_
      obtain ⟨r5, e5, hf⟩ := gd_b hf
      refine o_V (wn := [(h, oX7 A), ((A 0), oX5 A_0 r5.2.2.2.1 r5.2.2.2.2.1 r5.2.2.2.2.2.1), ((A 4), oX6 A_4 r5.2.2.2.2.2.2.2.2), ((A 7), oX2 A_7 image0_isKept), ((A_7 0), oX5 A_7_0 image0_row_holding image0_row_wool image0_row_day), ((A_7 1), oX6 A_7_1 image0_sights_count), ((A_0 0), aI cI 10 r5.1), ((A_0 1), aI cI 10 r5.2.1), ((A_0 2), aI cI 9 r5.2.2.1), ((A_4 0), aI cI 8 r5.2.2.2.2.2.2.1), ((A_4 1), aI cI 8 r5.2.2.2.2.2.2.2.1), ((A_7_0 0), aI cI 10 image0_row_yards), ((A_7_0 1), aI cI 10 image0_row_feels), ((A_7_0 2), aI cI 9 image0_row_lengths), ((A_7_1 0), aI cI 8 image0_sights_who), ((A_7_1 1), aI cI 8 image0_sights_much)]) C [3, 4, 5, 1, 2, 11, 12, 13, 14, 15, 6, 7, 8, 9, 10] rfl (x_V C dX7_restore_37 (c_X2_giveBack l D cI cZ cG (A 7) (A 0) (A 4) A_7 A_7_0 A_7_1 A_0 A_4 image0_isKept image0_row_yards image0_row_feels image0_row_lengths image0_row_holding image0_row_wool image0_row_day image0_sights_who image0_sights_much image0_sights_count now_yards now_feels now_lengths now_holding now_wool now_day sights_who sights_much sights_count r5 e5) rfl gX7_restore_X2_giveBack hd_X2_giveBack rfl ⟨Nat.le_of_ble_eq_true rfl, Nat.le_of_ble_eq_true rfl⟩ ⟨rfl, rfl⟩ ⟨Nat.zero_le _, Nat.zero_le _⟩ rfl [3, 4, 5, 1, 2, 11, 12, 13, 14, 15, 6, 7, 8, 9, 10] rfl rfl 3 rfl rfl (Nat.le_of_ble_eq_true rfl) rfl) rfl rfl rfl ?_
      refine r_iconst C dX7_restore_40 kk_i_1 rfl ?_
      cases hf
      exact r_iret C dX7_restore_41 rfl
    · have hf := gd_t c4 hf
      refine r_bipush C dX7_restore_25 kk_b_m3 rfl ?_
      cases hf
      exact r_iret C dX7_restore_27 rfl
  · have hf := gd_t c2 hf
    refine r_bipush C dX7_restore_9 kk_b_m2 rfl ?_
    cases hf
    exact r_iret C dX7_restore_11 rfl
theorem fw_X7_restore_1_X2 : ∀ w ∈ u_ws RX2 TX2 3, w ∈ wsX7_restore := by decide +kernel
theorem fl_X7_restore_1_263 : Cond.fieldLink RX7 263 "MittenLine$Image" "isKept" "Z" ∈ wsX7_restore := by decide +kernel
theorem fw_X7_restore_1_X7 : ∀ w ∈ u_ws RX7 TX7 9, w ∈ wsX7_restore := by decide +kernel
theorem fl_X7_restore_1_10 : Cond.fieldLink RX7 10 "MittenLine" "now" "LMittenLine$Row;" ∈ wsX7_restore := by decide +kernel
theorem fl_X7_restore_1_36 : Cond.fieldLink RX7 36 "MittenLine" "sights" "LMittenLine$Sights;" ∈ wsX7_restore := by decide +kernel
abbrev rm_X7_restore_1 : Jvm.Room := { frames := 2, cells := 0, slots := 0, locals := 44 }
def f_X7_restore_1 (now_yards : Nat → Int32) (now_feels : Nat → Int32) (now_lengths : Nat → Int32) (now_holding : Int32) (now_wool : Int32) (now_day : Int32) (sights_who : Nat → Int32) (sights_much : Nat → Int32) (sights_count : Int32) (image1_isKept : Int32) (image1_row_yards : Nat → Int32) (image1_row_feels : Nat → Int32) (image1_row_lengths : Nat → Int32) (image1_row_holding : Int32) (image1_row_wool : Int32) (image1_row_day : Int32) (image1_sights_who : Nat → Int32) (image1_sights_much : Nat → Int32) (image1_sights_count : Int32) (u1 : Int32) : Option (Int32 × (Nat → Int32) × (Nat → Int32) × (Nat → Int32) × Int32 × Int32 × Int32 × (Nat → Int32) × (Nat → Int32) × Int32) := (f_X7_isWithin u1 (0 : Int32) (1 : Int32)).bind (fun r1 => if r1 = 0 then some ((-2 : Int32), now_yards, now_feels, now_lengths, now_holding, now_wool, now_day, sights_who, sights_much, sights_count) else (f_X7_imageAt_1 u1).bind (fun r3 => if image1_isKept = 0 then some ((-3 : Int32), now_yards, now_feels, now_lengths, now_holding, now_wool, now_day, sights_who, sights_much, sights_count) else (f_X2_giveBack image1_row_yards image1_row_feels image1_row_lengths image1_row_holding image1_row_wool image1_row_day image1_sights_who image1_sights_much image1_sights_count now_yards now_feels now_lengths now_holding now_wool now_day sights_who sights_much sights_count).bind (fun r5 => some ((1 : Int32), r5.1, r5.2.1, r5.2.2.1, r5.2.2.2.1, r5.2.2.2.2.1, r5.2.2.2.2.2.1, r5.2.2.2.2.2.2.1, r5.2.2.2.2.2.2.2.1, r5.2.2.2.2.2.2.2.2))))
set_option maxHeartbeats 4000000 in
set_option maxRecDepth 100000 in
theorem c_X7_restore_1 (l : Launch) (D : va_G) (cI cZ cG : ClassId) (h : Nat) (A A_0 A_4 A_8 A_8_0 A_8_1 : Nat → Nat) (now_yards : Nat → Int32) (now_feels : Nat → Int32) (now_lengths : Nat → Int32) (now_holding : Int32) (now_wool : Int32) (now_day : Int32) (sights_who : Nat → Int32) (sights_much : Nat → Int32) (sights_count : Int32) (image1_isKept : Int32) (image1_row_yards : Nat → Int32) (image1_row_feels : Nat → Int32) (image1_row_lengths : Nat → Int32) (image1_row_holding : Int32) (image1_row_wool : Int32) (image1_row_day : Int32) (image1_sights_who : Nat → Int32) (image1_sights_much : Nat → Int32) (image1_sights_count : Int32) (u1 : Int32) (res : Int32 × (Nat → Int32) × (Nat → Int32) × (Nat → Int32) × Int32 × Int32 × Int32 × (Nat → Int32) × (Nat → Int32) × Int32) (hf : f_X7_restore_1 now_yards now_feels now_lengths now_holding now_wool now_day sights_who sights_much sights_count image1_isKept image1_row_yards image1_row_feels image1_row_lengths image1_row_holding image1_row_wool image1_row_day image1_sights_who image1_sights_much image1_sights_count u1 = some res) : CI l D (tysW cI cZ cG) yX7_restore wsX7_restore rm_X7_restore_1 [.ref h, .int u1] [(h, oX7 A), ((A 0), oX5 A_0 now_holding now_wool now_day), ((A 4), oX6 A_4 sights_count), ((A 8), oX2 A_8 image1_isKept), ((A_8 0), oX5 A_8_0 image1_row_holding image1_row_wool image1_row_day), ((A_8 1), oX6 A_8_1 image1_sights_count), ((A_0 0), aI cI 10 now_yards), ((A_0 1), aI cI 10 now_feels), ((A_0 2), aI cI 9 now_lengths), ((A_4 0), aI cI 8 sights_who), ((A_4 1), aI cI 8 sights_much), ((A_8_0 0), aI cI 10 image1_row_yards), ((A_8_0 1), aI cI 10 image1_row_feels), ((A_8_0 2), aI cI 9 image1_row_lengths), ((A_8_1 0), aI cI 8 image1_sights_who), ((A_8_1 1), aI cI 8 image1_sights_much)] res.1 [(h, oX7 A), ((A 0), oX5 A_0 res.2.2.2.2.1 res.2.2.2.2.2.1 res.2.2.2.2.2.2.1), ((A 4), oX6 A_4 res.2.2.2.2.2.2.2.2.2), ((A 8), oX2 A_8 image1_isKept), ((A_8 0), oX5 A_8_0 image1_row_holding image1_row_wool image1_row_day), ((A_8 1), oX6 A_8_1 image1_sights_count), ((A_0 0), aI cI 10 res.2.1), ((A_0 1), aI cI 10 res.2.2.1), ((A_0 2), aI cI 9 res.2.2.2.1), ((A_4 0), aI cI 8 res.2.2.2.2.2.2.2.1), ((A_4 1), aI cI 8 res.2.2.2.2.2.2.2.2.1), ((A_8_0 0), aI cI 10 image1_row_yards), ((A_8_0 1), aI cI 10 image1_row_feels), ((A_8_0 2), aI cI 9 image1_row_lengths), ((A_8_1 0), aI cI 8 image1_sights_who), ((A_8_1 1), aI cI 8 image1_sights_much)] := by
  refine CG.intro (own := RX7) (by decide +kernel) rfl rfl (Nat.le_of_ble_eq_true rfl) (fun p e s m args below meth c C => ?_)
  refine r_lv (lv' := [(0, .ref h), (1, .int u1)]) [0, 1] rfl ?_
  unfold f_X7_restore_1 at hf
  refine r_iload_n C dX7_restore_0 rfl 1 rfl rfl ?_
  refine r_iconst C dX7_restore_1 kk_i_0 rfl ?_
  refine r_iconst C dX7_restore_2 kk_i_1 rfl ?_
  obtain ⟨r1, e1, hf⟩ := gd_b hf
  refine o_I (wn := [(h, oX7 A), ((A 0), oX5 A_0 now_holding now_wool now_day), ((A 4), oX6 A_4 sights_count), ((A 8), oX2 A_8 image1_isKept), ((A_8 0), oX5 A_8_0 image1_row_holding image1_row_wool image1_row_day), ((A_8 1), oX6 A_8_1 image1_sights_count), ((A_0 0), aI cI 10 now_yards), ((A_0 1), aI cI 10 now_feels), ((A_0 2), aI cI 9 now_lengths), ((A_4 0), aI cI 8 sights_who), ((A_4 1), aI cI 8 sights_much), ((A_8_0 0), aI cI 10 image1_row_yards), ((A_8_0 1), aI cI 10 image1_row_feels), ((A_8_0 2), aI cI 9 image1_row_lengths), ((A_8_1 0), aI cI 8 image1_sights_who), ((A_8_1 1), aI cI 8 image1_sights_much)]) C [] rfl (x_S C dX7_restore_3 (c_X7_isWithin l D cI cZ cG u1 (0 : Int32) (1 : Int32) r1 e1) rfl gX7_restore_X7_isWithin hs_X7_isWithin rfl ⟨Nat.le_of_ble_eq_true rfl, Nat.le_of_ble_eq_true rfl⟩ ⟨rfl, rfl⟩ ⟨Nat.zero_le _, Nat.zero_le _⟩ rfl [] rfl rfl (Nat.le_of_ble_eq_true rfl) rfl) rfl rfl rfl ?_
  refine r_if_ne (y := 0) (tgt := 12) C dX7_restore_6 rfl rfl (fun c2 => ?_) (fun c2 => ?_)
  · have hf := gd_f c2 hf
    refine r_aload_n C dX7_restore_12 rfl 0 rfl rfl ?_
    refine r_iload_n C dX7_restore_13 rfl 1 rfl rfl ?_
    obtain ⟨r3, e3, hf⟩ := gd_b hf
    refine o_R (wn := [(h, oX7 A), ((A 0), oX5 A_0 now_holding now_wool now_day), ((A 4), oX6 A_4 sights_count), ((A 8), oX2 A_8 image1_isKept), ((A_8 0), oX5 A_8_0 image1_row_holding image1_row_wool image1_row_day), ((A_8 1), oX6 A_8_1 image1_sights_count), ((A_0 0), aI cI 10 now_yards), ((A_0 1), aI cI 10 now_feels), ((A_0 2), aI cI 9 now_lengths), ((A_4 0), aI cI 8 sights_who), ((A_4 1), aI cI 8 sights_much), ((A_8_0 0), aI cI 10 image1_row_yards), ((A_8_0 1), aI cI 10 image1_row_feels), ((A_8_0 2), aI cI 9 image1_row_lengths), ((A_8_1 0), aI cI 8 image1_sights_who), ((A_8_1 1), aI cI 8 image1_sights_much)]) C [0] rfl (x_V C dX7_restore_14 (c_X7_imageAt_1 l D cI cZ cG h A u1 r3 e3) rfl gX7_restore_X7_imageAt hd_X7_imageAt rfl ⟨Nat.le_of_ble_eq_true rfl, Nat.le_of_ble_eq_true rfl⟩ ⟨rfl, rfl⟩ ⟨Nat.zero_le _, Nat.zero_le _⟩ rfl [0] rfl rfl 0 rfl rfl (Nat.le_of_ble_eq_true rfl) rfl) rfl rfl rfl ?_
    refine r_astore_n (lv' := [(2, .ref (A 8)), (0, .ref h), (1, .int u1)]) C dX7_restore_17 rfl (by decide) rfl rfl ?_
    refine r_aload_n C dX7_restore_18 rfl 0 rfl rfl ?_
    refine r_get C dX7_restore_19 fw_X7_restore_1_X2 3 rfl rfl 2 (by decide) rfl fl_X7_restore_1_263 rfl rfl ?_
    refine r_if_ne (y := 0) (tgt := 28) C dX7_restore_22 rfl rfl (fun c4 => ?_) (fun c4 => ?_)
    · have hf := gd_f c4 hf
      refine r_aload_n C dX7_restore_28 rfl 0 rfl rfl ?_
      refine r_aload_n C dX7_restore_29 rfl 1 rfl rfl ?_
      refine r_get C dX7_restore_30 fw_X7_restore_1_X7 0 rfl rfl 0 (by decide) rfl fl_X7_restore_1_10 rfl rfl ?_
      refine r_aload_n C dX7_restore_33 rfl 1 rfl rfl ?_
      refine r_get C dX7_restore_34 fw_X7_restore_1_X7 0 rfl rfl 4 (by decide) rfl fl_X7_restore_1_36 rfl rfl ?_
      obtain ⟨r5, e5, hf⟩ := gd_b hf
      refine o_V (wn := [(h, oX7 A), ((A 0), oX5 A_0 r5.2.2.2.1 r5.2.2.2.2.1 r5.2.2.2.2.2.1), ((A 4), oX6 A_4 r5.2.2.2.2.2.2.2.2), ((A 8), oX2 A_8 image1_isKept), ((A_8 0), oX5 A_8_0 image1_row_holding image1_row_wool image1_row_day), ((A_8 1), oX6 A_8_1 image1_sights_count), ((A_0 0), aI cI 10 r5.1), ((A_0 1), aI cI 10 r5.2.1), ((A_0 2), aI cI 9 r5.2.2.1), ((A_4 0), aI cI 8 r5.2.2.2.2.2.2.1), ((A_4 1), aI cI 8 r5.2.2.2.2.2.2.2.1), ((A_8_0 0), aI cI 10 image1_row_yards), ((A_8_0 1), aI cI 10 image1_row_feels), ((A_8_0 2), aI cI 9 image1_row_lengths), ((A_8_1 0), aI cI 8 image1_sights_who), ((A_8_1 1), aI cI 8 image1_sights_much)]) C [3, 4, 5, 1, 2, 11, 12, 13, 14, 15, 6, 7, 8, 9, 10] rfl (x_V C dX7_restore_37 (c_X2_giveBack l D cI cZ cG (A 8) (A 0) (A 4) A_8 A_8_0 A_8_1 A_0 A_4 image1_isKept image1_row_yards image1_row_feels image1_row_lengths image1_row_holding image1_row_wool image1_row_day image1_sights_who image1_sights_much image1_sights_count now_yards now_feels now_lengths now_holding now_wool now_day sights_who sights_much sights_count r5 e5) rfl gX7_restore_X2_giveBack hd_X2_giveBack rfl ⟨Nat.le_of_ble_eq_true rfl, Nat.le_of_ble_eq_true rfl⟩ ⟨rfl, rfl⟩ ⟨Nat.zero_le _, Nat.zero_le _⟩ rfl [3, 4, 5, 1, 2, 11, 12, 13, 14, 15, 6, 7, 8, 9, 10] rfl rfl 3 rfl rfl (Nat.le_of_ble_eq_true rfl) rfl) rfl rfl rfl ?_
      refine r_iconst C dX7_restore_40 kk_i_1 rfl ?_
      cases hf
      exact r_iret C dX7_restore_41 rfl
    · have hf := gd_t c4 hf
      refine r_bipush C dX7_restore_25 kk_b_m3 rfl ?_
      cases hf
      exact r_iret C dX7_restore_27 rfl
  · have hf := gd_t c2 hf
    refine r_bipush C dX7_restore_9 kk_b_m2 rfl ?_
    cases hf
    exact r_iret C dX7_restore_11 rfl
theorem fw_X7_toldOfOne_X7 : ∀ w ∈ u_ws RX7 TX7 9, w ∈ wsX7_toldOfOne := by decide +kernel
theorem fl_X7_toldOfOne_10 : Cond.fieldLink RX7 10 "MittenLine" "now" "LMittenLine$Row;" ∈ wsX7_toldOfOne := by decide +kernel
theorem fw_X7_toldOfOne_X5 : ∀ w ∈ u_ws RX5 TX5 7, w ∈ wsX7_toldOfOne := by decide +kernel
theorem fl_X7_toldOfOne_88 : Cond.fieldLink RX7 88 "MittenLine$Row" "lengths" "[I" ∈ wsX7_toldOfOne := by decide +kernel
theorem fl_X7_toldOfOne_120 : Cond.fieldLink RX7 120 "MittenLine$Row" "feels" "[I" ∈ wsX7_toldOfOne := by decide +kernel
theorem fl_X7_toldOfOne_72 : Cond.fieldLink RX7 72 "MittenLine$Row" "yards" "[I" ∈ wsX7_toldOfOne := by decide +kernel
abbrev rm_X7_toldOfOne : Jvm.Room := { frames := 1, cells := 0, slots := 0, locals := 22 }
def f_X7_toldOfOne (now_yards : Nat → Int32) (now_feels : Nat → Int32) (now_lengths : Nat → Int32) (u1 : Int32) : Option (Int32) := (f_X7_isWithin u1 (10 : Int32) (19 : Int32)).bind (fun r1 => if r1 = 0 then (f_X7_isWithin u1 (20 : Int32) (29 : Int32)).bind (fun r3 => if r3 = 0 then (f_X7_isWithin u1 (30 : Int32) (38 : Int32)).bind (fun r5 => if r5 = 0 then some ((-2 : Int32)) else if (u1 - (30 : Int32)) < 0 ∨ 9 ≤ (u1 - (30 : Int32)).toNatClampNeg then none else some ((now_lengths (u1 - (30 : Int32)).toNatClampNeg))) else if (u1 - (20 : Int32)) < 0 ∨ 10 ≤ (u1 - (20 : Int32)).toNatClampNeg then none else some ((now_feels (u1 - (20 : Int32)).toNatClampNeg))) else if (u1 - (10 : Int32)) < 0 ∨ 10 ≤ (u1 - (10 : Int32)).toNatClampNeg then none else some ((now_yards (u1 - (10 : Int32)).toNatClampNeg)))
set_option maxHeartbeats 4000000 in
set_option maxRecDepth 100000 in
theorem c_X7_toldOfOne (l : Launch) (D : va_G) (cI cZ cG : ClassId) (h : Nat) (A A_0 : Nat → Nat) (now_yards : Nat → Int32) (now_feels : Nat → Int32) (now_lengths : Nat → Int32) (now_holding : Int32) (now_wool : Int32) (now_day : Int32) (u1 : Int32) (res : Int32) (hf : f_X7_toldOfOne now_yards now_feels now_lengths u1 = some res) : CI l D (tysW cI cZ cG) yX7_toldOfOne wsX7_toldOfOne rm_X7_toldOfOne [.ref h, .int u1] [(h, oX7 A), ((A 0), oX5 A_0 now_holding now_wool now_day), ((A_0 0), aI cI 10 now_yards), ((A_0 1), aI cI 10 now_feels), ((A_0 2), aI cI 9 now_lengths)] res [(h, oX7 A), ((A 0), oX5 A_0 now_holding now_wool now_day), ((A_0 0), aI cI 10 now_yards), ((A_0 1), aI cI 10 now_feels), ((A_0 2), aI cI 9 now_lengths)] := by
  refine CG.intro (own := RX7) (by decide +kernel) rfl rfl (Nat.le_of_ble_eq_true rfl) (fun p e s m args below meth c C => ?_)
  refine r_lv (lv' := [(0, .ref h), (1, .int u1)]) [0, 1] rfl ?_
  unfold f_X7_toldOfOne at hf
  refine r_iload_n C dX7_toldOfOne_0 rfl 1 rfl rfl ?_
  refine r_bipush C dX7_toldOfOne_1 kk_b_10 rfl ?_
  refine r_bipush C dX7_toldOfOne_3 kk_b_19 rfl ?_
  obtain ⟨r1, e1, hf⟩ := gd_b hf
  refine o_I (wn := [(h, oX7 A), ((A 0), oX5 A_0 now_holding now_wool now_day), ((A_0 0), aI cI 10 now_yards), ((A_0 1), aI cI 10 now_feels), ((A_0 2), aI cI 9 now_lengths)]) C [] rfl (x_S C dX7_toldOfOne_5 (c_X7_isWithin l D cI cZ cG u1 (10 : Int32) (19 : Int32) r1 e1) rfl gX7_toldOfOne_X7_isWithin hs_X7_isWithin rfl ⟨Nat.le_of_ble_eq_true rfl, Nat.le_of_ble_eq_true rfl⟩ ⟨rfl, rfl⟩ ⟨Nat.zero_le _, Nat.zero_le _⟩ rfl [] rfl rfl (Nat.le_of_ble_eq_true rfl) rfl) rfl rfl rfl ?_
  refine r_if_eq (y := 0) (tgt := 24) C dX7_toldOfOne_8 rfl rfl (fun c2 => ?_) (fun c2 => ?_)
  · have hf := gd_t c2 hf
    refine r_iload_n C dX7_toldOfOne_24 rfl 1 rfl rfl ?_
    refine r_bipush C dX7_toldOfOne_25 kk_b_20 rfl ?_
    refine r_bipush C dX7_toldOfOne_27 kk_b_29 rfl ?_
    obtain ⟨r3, e3, hf⟩ := gd_b hf
    refine o_I (wn := [(h, oX7 A), ((A 0), oX5 A_0 now_holding now_wool now_day), ((A_0 0), aI cI 10 now_yards), ((A_0 1), aI cI 10 now_feels), ((A_0 2), aI cI 9 now_lengths)]) C [] rfl (x_S C dX7_toldOfOne_29 (c_X7_isWithin l D cI cZ cG u1 (20 : Int32) (29 : Int32) r3 e3) rfl gX7_toldOfOne_X7_isWithin hs_X7_isWithin rfl ⟨Nat.le_of_ble_eq_true rfl, Nat.le_of_ble_eq_true rfl⟩ ⟨rfl, rfl⟩ ⟨Nat.zero_le _, Nat.zero_le _⟩ rfl [] rfl rfl (Nat.le_of_ble_eq_true rfl) rfl) rfl rfl rfl ?_
    refine r_if_eq (y := 0) (tgt := 48) C dX7_toldOfOne_32 rfl rfl (fun c4 => ?_) (fun c4 => ?_)
    · have hf := gd_t c4 hf
      refine r_iload_n C dX7_toldOfOne_48 rfl 1 rfl rfl ?_
      refine r_bipush C dX7_toldOfOne_49 kk_b_30 rfl ?_
      refine r_bipush C dX7_toldOfOne_51 kk_b_38 rfl ?_
      obtain ⟨r5, e5, hf⟩ := gd_b hf
      refine o_I (wn := [(h, oX7 A), ((A 0), oX5 A_0 now_holding now_wool now_day), ((A_0 0), aI cI 10 now_yards), ((A_0 1), aI cI 10 now_feels), ((A_0 2), aI cI 9 now_lengths)]) C [] rfl (x_S C dX7_toldOfOne_53 (c_X7_isWithin l D cI cZ cG u1 (30 : Int32) (38 : Int32) r5 e5) rfl gX7_toldOfOne_X7_isWithin hs_X7_isWithin rfl ⟨Nat.le_of_ble_eq_true rfl, Nat.le_of_ble_eq_true rfl⟩ ⟨rfl, rfl⟩ ⟨Nat.zero_le _, Nat.zero_le _⟩ rfl [] rfl rfl (Nat.le_of_ble_eq_true rfl) rfl) rfl rfl rfl ?_
      refine r_if_eq (y := 0) (tgt := 72) C dX7_toldOfOne_56 rfl rfl (fun c6 => ?_) (fun c6 => ?_)
      · have hf := gd_t c6 hf
        refine r_bipush C dX7_toldOfOne_72 kk_b_m2 rfl ?_
        cases hf
        exact r_iret C dX7_toldOfOne_74 rfl
      · have hf := gd_f c6 hf
        refine r_aload_n C dX7_toldOfOne_59 rfl 0 rfl rfl ?_
        refine r_get C dX7_toldOfOne_60 fw_X7_toldOfOne_X7 0 rfl rfl 0 (by decide) rfl fl_X7_toldOfOne_10 rfl rfl ?_
        refine r_get C dX7_toldOfOne_63 fw_X7_toldOfOne_X5 1 rfl rfl 2 (by decide) rfl fl_X7_toldOfOne_88 rfl rfl ?_
        refine r_iload_n C dX7_toldOfOne_66 rfl 1 rfl rfl ?_
        refine r_bipush C dX7_toldOfOne_67 kk_b_30 rfl ?_
        refine r_isub C dX7_toldOfOne_69 rfl ?_
        obtain ⟨g7, hf⟩ := gd_n hf
        refine r_iald C dX7_toldOfOne_70 4 0 rfl rfl g7 rfl ?_
        cases hf
        exact r_iret C dX7_toldOfOne_71 rfl
    · have hf := gd_f c4 hf
      refine r_aload_n C dX7_toldOfOne_35 rfl 0 rfl rfl ?_
      refine r_get C dX7_toldOfOne_36 fw_X7_toldOfOne_X7 0 rfl rfl 0 (by decide) rfl fl_X7_toldOfOne_10 rfl rfl ?_
      refine r_get C dX7_toldOfOne_39 fw_X7_toldOfOne_X5 1 rfl rfl 1 (by decide) rfl fl_X7_toldOfOne_120 rfl rfl ?_
      refine r_iload_n C dX7_toldOfOne_42 rfl 1 rfl rfl ?_
      refine r_bipush C dX7_toldOfOne_43 kk_b_20 rfl ?_
      refine r_isub C dX7_toldOfOne_45 rfl ?_
      obtain ⟨g8, hf⟩ := gd_n hf
      refine r_iald C dX7_toldOfOne_46 3 0 rfl rfl g8 rfl ?_
      cases hf
      exact r_iret C dX7_toldOfOne_47 rfl
  · have hf := gd_f c2 hf
    refine r_aload_n C dX7_toldOfOne_11 rfl 0 rfl rfl ?_
    refine r_get C dX7_toldOfOne_12 fw_X7_toldOfOne_X7 0 rfl rfl 0 (by decide) rfl fl_X7_toldOfOne_10 rfl rfl ?_
    refine r_get C dX7_toldOfOne_15 fw_X7_toldOfOne_X5 1 rfl rfl 0 (by decide) rfl fl_X7_toldOfOne_72 rfl rfl ?_
    refine r_iload_n C dX7_toldOfOne_18 rfl 1 rfl rfl ?_
    refine r_bipush C dX7_toldOfOne_19 kk_b_10 rfl ?_
    refine r_isub C dX7_toldOfOne_21 rfl ?_
    obtain ⟨g9, hf⟩ := gd_n hf
    refine r_iald C dX7_toldOfOne_22 2 0 rfl rfl g9 rfl ?_
    cases hf
    exact r_iret C dX7_toldOfOne_23 rfl
theorem fw_X7_told_X7 : ∀ w ∈ u_ws RX7 TX7 9, w ∈ wsX7_told := by decide +kernel
theorem fl_X7_told_22 : Cond.fieldLink RX7 22 "MittenLine" "pad" "LMittenLine$Pad;" ∈ wsX7_told := by decide +kernel
theorem fw_X7_told_X3 : ∀ w ∈ u_ws RX3 TX3 6, w ∈ wsX7_told := by decide +kernel
theorem fl_X7_told_98 : Cond.fieldLink RX7 98 "MittenLine$Pad" "count" "I" ∈ wsX7_told := by decide +kernel
theorem fl_X7_told_10 : Cond.fieldLink RX7 10 "MittenLine" "now" "LMittenLine$Row;" ∈ wsX7_told := by decide +kernel
theorem fw_X7_told_X5 : ∀ w ∈ u_ws RX5 TX5 7, w ∈ wsX7_told := by decide +kernel
theorem fl_X7_told_270 : Cond.fieldLink RX7 270 "MittenLine$Row" "holding" "I" ∈ wsX7_told := by decide +kernel
theorem fl_X7_told_91 : Cond.fieldLink RX7 91 "MittenLine$Row" "wool" "I" ∈ wsX7_told := by decide +kernel
theorem fl_X7_told_129 : Cond.fieldLink RX7 129 "MittenLine$Row" "day" "I" ∈ wsX7_told := by decide +kernel
theorem fl_X7_told_36 : Cond.fieldLink RX7 36 "MittenLine" "sights" "LMittenLine$Sights;" ∈ wsX7_told := by decide +kernel
theorem fw_X7_told_X6 : ∀ w ∈ u_ws RX6 TX6 3, w ∈ wsX7_told := by decide +kernel
theorem fl_X7_told_194 : Cond.fieldLink RX7 194 "MittenLine$Sights" "count" "I" ∈ wsX7_told := by decide +kernel
abbrev rm_X7_told : Jvm.Room := { frames := 2, cells := 0, slots := 0, locals := 43 }
def f_X7_told (now_yards : Nat → Int32) (now_feels : Nat → Int32) (now_lengths : Nat → Int32) (now_holding : Int32) (now_wool : Int32) (now_day : Int32) (pad_count : Int32) (sights_count : Int32) (u1 : Int32) : Option (Int32) := if u1 = (0 : Int32) then some (pad_count) else if u1 = (1 : Int32) then some (now_holding) else if u1 = (2 : Int32) then some (now_wool) else if u1 = (3 : Int32) then some (now_day) else if u1 = (4 : Int32) then some (sights_count) else (f_X7_toldOfOne now_yards now_feels now_lengths u1).bind (fun r6 => some (r6))
set_option maxHeartbeats 4000000 in
set_option maxRecDepth 100000 in
theorem c_X7_told (l : Launch) (D : va_G) (cI cZ cG : ClassId) (h : Nat) (A A_0 A_2 A_4 : Nat → Nat) (now_yards : Nat → Int32) (now_feels : Nat → Int32) (now_lengths : Nat → Int32) (now_holding : Int32) (now_wool : Int32) (now_day : Int32) (pad_count : Int32) (pad_awaited : Int32) (pad_actor : Int32) (pad_kind : Int32) (pad_amount : Int32) (sights_count : Int32) (u1 : Int32) (res : Int32) (hf : f_X7_told now_yards now_feels now_lengths now_holding now_wool now_day pad_count sights_count u1 = some res) : CI l D (tysW cI cZ cG) yX7_told wsX7_told rm_X7_told [.ref h, .int u1] [(h, oX7 A), ((A 0), oX5 A_0 now_holding now_wool now_day), ((A 2), oX3 A_2 pad_count pad_awaited pad_actor pad_kind pad_amount), ((A 4), oX6 A_4 sights_count), ((A_0 0), aI cI 10 now_yards), ((A_0 1), aI cI 10 now_feels), ((A_0 2), aI cI 9 now_lengths)] res [(h, oX7 A), ((A 0), oX5 A_0 now_holding now_wool now_day), ((A 2), oX3 A_2 pad_count pad_awaited pad_actor pad_kind pad_amount), ((A 4), oX6 A_4 sights_count), ((A_0 0), aI cI 10 now_yards), ((A_0 1), aI cI 10 now_feels), ((A_0 2), aI cI 9 now_lengths)] := by
  refine CG.intro (own := RX7) (by decide +kernel) rfl rfl (Nat.le_of_ble_eq_true rfl) (fun p e s m args below meth c C => ?_)
  refine r_lv (lv' := [(0, .ref h), (1, .int u1)]) [0, 1] rfl ?_
  unfold f_X7_told at hf
  refine r_iload_n C dX7_told_0 rfl 1 rfl rfl ?_
  by_cases c1 : u1 = (0 : Int32)
  · have hf := gd_t c1 hf
    refine r_tabIn (tgt := 36) C dX7_told_1 c1 (by decide) (by decide) rfl rfl ?_
    refine r_aload_n C dX7_told_36 rfl 0 rfl rfl ?_
    refine r_get C dX7_told_37 fw_X7_told_X7 0 rfl rfl 2 (by decide) rfl fl_X7_told_22 rfl rfl ?_
    refine r_get C dX7_told_40 fw_X7_told_X3 2 rfl rfl 1 (by decide) rfl fl_X7_told_98 rfl rfl ?_
    cases hf
    exact r_iret C dX7_told_43 rfl
  have hf := gd_f c1 hf
  by_cases c2 : u1 = (1 : Int32)
  · have hf := gd_t c2 hf
    refine r_tabIn (tgt := 44) C dX7_told_1 c2 (by decide) (by decide) rfl rfl ?_
    refine r_aload_n C dX7_told_44 rfl 0 rfl rfl ?_
    refine r_get C dX7_told_45 fw_X7_told_X7 0 rfl rfl 0 (by decide) rfl fl_X7_told_10 rfl rfl ?_
    refine r_get C dX7_told_48 fw_X7_told_X5 1 rfl rfl 4 (by decide) rfl fl_X7_told_270 rfl rfl ?_
    cases hf
    exact r_iret C dX7_told_51 rfl
  have hf := gd_f c2 hf
  by_cases c3 : u1 = (2 : Int32)
  · have hf := gd_t c3 hf
    refine r_tabIn (tgt := 52) C dX7_told_1 c3 (by decide) (by decide) rfl rfl ?_
    refine r_aload_n C dX7_told_52 rfl 0 rfl rfl ?_
    refine r_get C dX7_told_53 fw_X7_told_X7 0 rfl rfl 0 (by decide) rfl fl_X7_told_10 rfl rfl ?_
    refine r_get C dX7_told_56 fw_X7_told_X5 1 rfl rfl 5 (by decide) rfl fl_X7_told_91 rfl rfl ?_
    cases hf
    exact r_iret C dX7_told_59 rfl
  have hf := gd_f c3 hf
  by_cases c4 : u1 = (3 : Int32)
  · have hf := gd_t c4 hf
    refine r_tabIn (tgt := 60) C dX7_told_1 c4 (by decide) (by decide) rfl rfl ?_
    refine r_aload_n C dX7_told_60 rfl 0 rfl rfl ?_
    refine r_get C dX7_told_61 fw_X7_told_X7 0 rfl rfl 0 (by decide) rfl fl_X7_told_10 rfl rfl ?_
    refine r_get C dX7_told_64 fw_X7_told_X5 1 rfl rfl 6 (by decide) rfl fl_X7_told_129 rfl rfl ?_
    cases hf
    exact r_iret C dX7_told_67 rfl
  have hf := gd_f c4 hf
  by_cases c5 : u1 = (4 : Int32)
  · have hf := gd_t c5 hf
    refine r_tabIn (tgt := 68) C dX7_told_1 c5 (by decide) (by decide) rfl rfl ?_
    refine r_aload_n C dX7_told_68 rfl 0 rfl rfl ?_
    refine r_get C dX7_told_69 fw_X7_told_X7 0 rfl rfl 4 (by decide) rfl fl_X7_told_36 rfl rfl ?_
    refine r_get C dX7_told_72 fw_X7_told_X6 3 rfl rfl 2 (by decide) rfl fl_X7_told_194 rfl rfl ?_
    cases hf
    exact r_iret C dX7_told_75 rfl
  have hf := gd_f c5 hf
  refine r_tabOut (tgt := 76) C dX7_told_1 (by have e0 := lv_neT (a := 0) c1 rfl; have e1 := lv_neT (a := 1) c2 rfl; have e2 := lv_neT (a := 2) c3 rfl; have e3 := lv_neT (a := 3) c4 rfl; have e4 := lv_neT (a := 4) c5 rfl; omega) rfl ?_
  refine r_aload_n C dX7_told_76 rfl 0 rfl rfl ?_
  refine r_iload_n C dX7_told_77 rfl 1 rfl rfl ?_
  obtain ⟨r6, e6, hf⟩ := gd_b hf
  refine o_I (wn := [(h, oX7 A), ((A 0), oX5 A_0 now_holding now_wool now_day), ((A 2), oX3 A_2 pad_count pad_awaited pad_actor pad_kind pad_amount), ((A 4), oX6 A_4 sights_count), ((A_0 0), aI cI 10 now_yards), ((A_0 1), aI cI 10 now_feels), ((A_0 2), aI cI 9 now_lengths)]) C [0, 1, 4, 5, 6] rfl (x_V C dX7_told_78 (c_X7_toldOfOne l D cI cZ cG h A A_0 now_yards now_feels now_lengths now_holding now_wool now_day u1 r6 e6) rfl gX7_told_X7_toldOfOne hd_X7_toldOfOne rfl ⟨Nat.le_of_ble_eq_true rfl, Nat.le_of_ble_eq_true rfl⟩ ⟨rfl, rfl⟩ ⟨Nat.zero_le _, Nat.zero_le _⟩ rfl [0, 1, 4, 5, 6] rfl rfl 0 rfl rfl (Nat.le_of_ble_eq_true rfl) rfl) rfl rfl rfl ?_
  cases hf
  exact r_iret C dX7_told_81 rfl
end
