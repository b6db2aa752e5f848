/-! the law's entry -/
theorem d_ex {s : State} {args : Array Value} (hw : ∀ w ∈ lw_tbl, w.before args s = true) : ∃ D : va_G, ∀ (c : Nat) (q : vw_C), vwCl[c]? = some q → u_Kn s q.1 q.2.1 q.2.2 (D.1 c) (D.2 c) := by
  have h : ∀ c : Nat, ∃ (cC : ClassId) (iS : Nat → Nat), ∀ q : vw_C, vwCl[c]? = some q → u_Kn s q.1 q.2.1 q.2.2 cC iS := by
    intro c
    match c with
    | 0 =>
      obtain ⟨cC, iS, k⟩ := u_known (N := 6) hw wl_u0 (hw _ wl_in0)
      exact ⟨cC, iS, fun q hq => by rw [← Option.some.inj (show some (RX0, TX0, 6) = some q from hq)]; exact k⟩
    | 1 =>
      obtain ⟨cC, iS, k⟩ := u_known (N := 3) hw wl_u1 (hw _ wl_in1)
      exact ⟨cC, iS, fun q hq => by rw [← Option.some.inj (show some (RX1, TX1, 3) = some q from hq)]; exact k⟩
    | 2 =>
      obtain ⟨cC, iS, k⟩ := u_known (N := 3) hw wl_u2 (hw _ wl_in2)
      exact ⟨cC, iS, fun q hq => by rw [← Option.some.inj (show some (RX2, TX2, 3) = some q from hq)]; exact k⟩
    | 3 =>
      obtain ⟨cC, iS, k⟩ := u_known (N := 6) hw wl_u3 (hw _ wl_in3)
      exact ⟨cC, iS, fun q hq => by rw [← Option.some.inj (show some (RX3, TX3, 6) = some q from hq)]; exact k⟩
    | 4 =>
      obtain ⟨cC, iS, k⟩ := u_known (N := 6) hw wl_u4 (hw _ wl_in4)
      exact ⟨cC, iS, fun q hq => by rw [← Option.some.inj (show some (RX4, TX4, 6) = some q from hq)]; exact k⟩
    | 5 =>
      obtain ⟨cC, iS, k⟩ := u_known (N := 7) hw wl_u5 (hw _ wl_in5)
      exact ⟨cC, iS, fun q hq => by rw [← Option.some.inj (show some (RX5, TX5, 7) = some q from hq)]; exact k⟩
    | 6 =>
      obtain ⟨cC, iS, k⟩ := u_known (N := 3) hw wl_u6 (hw _ wl_in6)
      exact ⟨cC, iS, fun q hq => by rw [← Option.some.inj (show some (RX6, TX6, 3) = some q from hq)]; exact k⟩
    | 7 =>
      obtain ⟨cC, iS, k⟩ := u_known (N := 9) hw wl_u7 (hw _ wl_in7)
      exact ⟨cC, iS, fun q hq => by rw [← Option.some.inj (show some (RX7, TX7, 9) = some q from hq)]; exact k⟩
    | 8 =>
      obtain ⟨cC, iS, k⟩ := u_known (N := 37) hw wl_u8 (hw _ wl_in8)
      exact ⟨cC, iS, fun q hq => by rw [← Option.some.inj (show some (RX8, TX8, 37) = some q from hq)]; exact k⟩
    | n + 9 => exact ⟨0, fun _ => 0, fun q hq => by have hq' : (none : Option vw_C) = some q := hq; cases hq'⟩
  exact ⟨(fun c => Classical.choose (h c), fun c => Classical.choose (Classical.choose_spec (h c))), fun c q hq => Classical.choose_spec (Classical.choose_spec (h c)) q hq⟩
theorem arrT {s : State} {c : ClassId} {k : Class} {comp : ClassId} {ty : FieldType} (h1 : s.vm.classes[c]? = some k) (h2 : k.kind = .array comp ty) : ArrOfT s c ty := fun n z => ⟨fun q h => (by cases h), k, h1, comp, h2⟩
theorem k_ex {s : State} {args : Array Value} (hw : ∀ w ∈ lw_tbl, w.before args s = true) : ∃ (D : va_G) (cI cZ cG : ClassId), va_K D vwCl (tysW cI cZ cG) s := by
  obtain ⟨D, hD⟩ := d_ex hw
  obtain ⟨cI, kI, pI, i1, i2, i3⟩ := Cond.arrayClass_spec (hw _ wl_aI)
  obtain ⟨cZ, kZ, pZ, z1, z2, z3⟩ := Cond.arrayClass_spec (hw _ wl_aZ)
  obtain ⟨pG, cG, kG, g0, g1, g2, g3⟩ := Cond.arrayOver_specA (hw _ wl_aG)
  refine ⟨D, cI, cZ, cG, hD, fun k q hq => ?_⟩
  match k with
  | 0 =>
    rw [← Option.some.inj (show some (cI, FieldType.int) = some q from hq)]
    exact ⟨arrT i2 i3, i1⟩
  | 1 =>
    rw [← Option.some.inj (show some (cZ, FieldType.boolean) = some q from hq)]
    exact ⟨arrT z2 z3, z1⟩
  | 2 =>
    rw [← Option.some.inj (show some (cG, FieldType.array .int) = some q from hq)]
    exact ⟨arrT g1 g2, g3⟩
  | n + 3 =>
    have hq' : (none : Option (ClassId × FieldType)) = some q := hq
    cases hq'
theorem nx_ex {s : State} {args : Array Value} (hw : ∀ w ∈ lw_tbl, w.before args s = true) : NX s := by
  refine ⟨List.forall_mem_cons.mpr ⟨va_Nw.of rfl (hw _ wl_n0), List.forall_mem_cons.mpr ⟨va_Nw.of rfl (hw _ wl_n1), List.forall_mem_cons.mpr ⟨va_Nw.of rfl (hw _ wl_n2), List.forall_mem_cons.mpr ⟨va_Nw.of rfl (hw _ wl_n3), List.forall_mem_cons.mpr ⟨va_Nw.of rfl (hw _ wl_n4), List.forall_mem_cons.mpr ⟨va_Nw.of rfl (hw _ wl_n5), fun _ h => absurd h List.not_mem_nil⟩⟩⟩⟩⟩⟩, ?_⟩
  have h := hw _ wl_aG
  unfold va_AOA
  unfold Cond.before Cond.holds at h ⊢
  simp only [Cond.value] at h ⊢
  exact h
theorem wl_hi7 : yX7_init.cls ≠ "java/lang/invoke/MethodHandle" ∧ yX7_init.cls ≠ "java/lang/invoke/VarHandle" ∧ (parseMethodDescriptor yX7_init.desc).map (fun d => d.parameters.length) = some 0 := by decide +kernel
theorem wl_hi8 : yX8_init.cls ≠ "java/lang/invoke/MethodHandle" ∧ yX8_init.cls ≠ "java/lang/invoke/VarHandle" ∧ (parseMethodDescriptor yX8_init.desc).map (fun d => d.parameters.length) = some 0 := by decide +kernel
set_option maxHeartbeats 4000000 in
set_option maxRecDepth 100000 in
theorem whole_start {p : Program} {e : Env} {s : State} {m : MethodId} {below : List Frame} {meth : Method} {c : Code} (l : Launch) (hflags : l.flags = flags0) {b L : Nat} {xs : Nat → Int32} (hL : L ≤ 448) (C0 : lw_At p s m meth c b L xs) : W p l e room_1 s m #[Value.ref b] below meth c s.heap [] 0 0 (lw_Z below #[Value.ref b] s) (entryFrame m ([Value.ref b] : List Value).toArray 4) := by
  obtain ⟨h1, h2, h3, h4, h5, hw, hX, hbl, hlk, -⟩ := C0
  obtain ⟨D, cI, cZ, cG, hK⟩ := k_ex hw
  obtain ⟨rr, e7, e8, hI⟩ := inv_init
  have C : Cx p s m #[Value.ref b] meth c D (tysW cI cZ cG) RL cL_law 4 wsL_law (some .boolean) := ⟨h1, h2, h4, h5, hw, hK, h3, hlk, nx_ex hw⟩
  have body : Wd p l e room_1 s m #[Value.ref b] below meth c D [] 4 0 0 (lw_Z below #[Value.ref b] s) [] (lv_args 0 [.ref b]) 0 [] := by
    refine r_lv (lv' := [(0, .ref b)]) [0] rfl ?_
    refine r_new (cs' := 1) (sl' := 9) (ws' := fun hx => [(hx, .inr (7, [.null, .null, .null, .null, .null, .null, .null, .null, .null]))]) C [.null, .null, .null, .null, .null, .null, .null, .null, .null] dL_law_0 wl_u7 tyX7 tyX7_ok wl_cl7 wl_in7 wl_ni7 rfl (fun j hj => by rcases (show j = 0 ∨ j = 1 ∨ j = 2 ∨ j = 3 ∨ j = 4 ∨ j = 5 ∨ j = 6 ∨ j = 7 ∨ j = 8 by omega) with rfl | rfl | rfl | rfl | rfl | rfl | rfl | rfl | rfl <;> rfl) rfl rfl (Nat.le_of_ble_eq_true rfl) (Nat.le_of_ble_eq_true rfl) (fun _ => rfl) rfl (fun hx => ?_)
    refine r_dup C dL_law_3 rfl rfl ?_
    refine o_E (cs' := 53) (sl' := 570) (wr := []) (wn := fun u => ([(hx, oX7 (u 0)), ((((u 0)) 0), oX5 (u 1) 0 rr.2.2 0), (((u 1)) 0, aI cI 10 rr.1), (((u 1)) 1, aI cI 10 zA), (((u 1)) 2, aI cI 9 rr.2.1), (((u 1)) 3, aI cI 10 zA), ((((u 0)) 1), oX5 (u 2) 0 rr.2.2 0), (((u 2)) 0, aI cI 10 rr.1), (((u 2)) 1, aI cI 10 zA), (((u 2)) 2, aI cI 9 rr.2.1), (((u 2)) 3, aI cI 10 zA), ((((u 0)) 2), oX3 (u 3) 0 0 0 0 0), (((u 3)) 0, aI cI 60 zA), ((((u 0)) 3), oX0 (u 4) 0 0 0 0 0 0), ((((u 0)) 4), oX6 (u 5) 0), (((u 5)) 0, aI cI 8 zA), (((u 5)) 1, aI cI 8 zA), ((((u 0)) 5), oX1 (u 6) 0 0), (((u 6)) 0, aI cI 10 zA), ((((u 0)) 6), oX4 (u 7)), (((u 7)) 0, aI cI 9 zA), (((u 7)) 1, aI cI 4 zA), (((u 7)) 2, aI cI 10 zA), (((u 7)) 3, aI cI 10 zA), (((u 7)) 4, aG cG (u 8)), (((u 7)) 5, aI cI 100 zA), ((((u 0)) 7), oX2 (u 9) 0), ((((u 9)) 0), oX5 (u 10) 0 rr.2.2 0), (((u 10)) 0, aI cI 10 rr.1), (((u 10)) 1, aI cI 10 zA), (((u 10)) 2, aI cI 9 rr.2.1), (((u 10)) 3, aI cI 10 zA), ((((u 9)) 1), oX6 (u 11) 0), (((u 11)) 0, aI cI 8 zA), (((u 11)) 1, aI cI 8 zA), ((((u 0)) 8), oX2 (u 12) 0), ((((u 12)) 0), oX5 (u 13) 0 rr.2.2 0), (((u 13)) 0, aI cI 10 rr.1), (((u 13)) 1, aI cI 10 zA), (((u 13)) 2, aI cI 9 rr.2.1), (((u 13)) 3, aI cI 10 zA), ((((u 12)) 1), oX6 (u 14) 0), (((u 14)) 0, aI cI 8 zA), (((u 14)) 1, aI cI 8 zA)] ++ gridW ((u 8)) cI (fun _ => zA))) C [0] [] rfl rfl rfl (by decide) (x_I C dL_law_4 (c_X7_init l D cI cZ cG hx rr e7) gL_law_X7_init wl_ni7 wl_ml7 wl_im7 rfl wl_hi7 rfl ⟨(Nat.le_of_ble_eq_true rfl), (Nat.le_of_ble_eq_true rfl)⟩ ⟨rfl, rfl⟩ ⟨(Nat.le_of_ble_eq_true rfl), (Nat.le_of_ble_eq_true rfl)⟩ [0] rfl rfl (Nat.le_of_ble_eq_true rfl)) rfl rfl (fun _ => rfl) rfl (fun u => ?_)
    refine r_astore_n (lv' := [(1, .ref hx), (0, .ref b)]) C dL_law_7 rfl (by decide) rfl rfl ?_
    refine r_new (cs' := 54) (sl' := 607) (ws' := fun hm => ([(hx, oX7 (u 0)), ((((u 0)) 0), oX5 (u 1) 0 rr.2.2 0), (((u 1)) 0, aI cI 10 rr.1), (((u 1)) 1, aI cI 10 zA), (((u 1)) 2, aI cI 9 rr.2.1), (((u 1)) 3, aI cI 10 zA), ((((u 0)) 1), oX5 (u 2) 0 rr.2.2 0), (((u 2)) 0, aI cI 10 rr.1), (((u 2)) 1, aI cI 10 zA), (((u 2)) 2, aI cI 9 rr.2.1), (((u 2)) 3, aI cI 10 zA), ((((u 0)) 2), oX3 (u 3) 0 0 0 0 0), (((u 3)) 0, aI cI 60 zA), ((((u 0)) 3), oX0 (u 4) 0 0 0 0 0 0), ((((u 0)) 4), oX6 (u 5) 0), (((u 5)) 0, aI cI 8 zA), (((u 5)) 1, aI cI 8 zA), ((((u 0)) 5), oX1 (u 6) 0 0), (((u 6)) 0, aI cI 10 zA), ((((u 0)) 6), oX4 (u 7)), (((u 7)) 0, aI cI 9 zA), (((u 7)) 1, aI cI 4 zA), (((u 7)) 2, aI cI 10 zA), (((u 7)) 3, aI cI 10 zA), (((u 7)) 4, aG cG (u 8)), (((u 7)) 5, aI cI 100 zA), ((((u 0)) 7), oX2 (u 9) 0), ((((u 9)) 0), oX5 (u 10) 0 rr.2.2 0), (((u 10)) 0, aI cI 10 rr.1), (((u 10)) 1, aI cI 10 zA), (((u 10)) 2, aI cI 9 rr.2.1), (((u 10)) 3, aI cI 10 zA), ((((u 9)) 1), oX6 (u 11) 0), (((u 11)) 0, aI cI 8 zA), (((u 11)) 1, aI cI 8 zA), ((((u 0)) 8), oX2 (u 12) 0), ((((u 12)) 0), oX5 (u 13) 0 rr.2.2 0), (((u 13)) 0, aI cI 10 rr.1), (((u 13)) 1, aI cI 10 zA), (((u 13)) 2, aI cI 9 rr.2.1), (((u 13)) 3, aI cI 10 zA), ((((u 12)) 1), oX6 (u 14) 0), (((u 14)) 0, aI cI 8 zA), (((u 14)) 1, aI cI 8 zA)] ++ gridW ((u 8)) cI (fun _ => zA)) ++ [(hm, .inr (8, [.null, .null, .null, .int 0, .int 0, .int 0, .null, .null, .int 0, .null, .int 0, .null, .null, .null, .int 0, .null, .int 0, .int 0, .int 0, .null, .int 0, .int 0, .int 0, .int 0, .null, .null, .null, .null, .null, .null, .null, .null, .null, .null, .null, .int 0, .int 0]))]) C [.null, .null, .null, .int 0, .int 0, .int 0, .null, .null, .int 0, .null, .int 0, .null, .null, .null, .int 0, .null, .int 0, .int 0, .int 0, .null, .int 0, .int 0, .int 0, .int 0, .null, .null, .null, .null, .null, .null, .null, .null, .null, .null, .null, .int 0, .int 0] dL_law_8 wl_u8 tyX8 tyX8_ok wl_cl8 wl_in8 wl_ni8 rfl (fun j hj => by rcases (show j = 0 ∨ j = 1 ∨ j = 2 ∨ j = 3 ∨ j = 4 ∨ j = 5 ∨ j = 6 ∨ j = 7 ∨ j = 8 ∨ j = 9 ∨ j = 10 ∨ j = 11 ∨ j = 12 ∨ j = 13 ∨ j = 14 ∨ j = 15 ∨ j = 16 ∨ j = 17 ∨ j = 18 ∨ j = 19 ∨ j = 20 ∨ j = 21 ∨ j = 22 ∨ j = 23 ∨ j = 24 ∨ j = 25 ∨ j = 26 ∨ j = 27 ∨ j = 28 ∨ j = 29 ∨ j = 30 ∨ j = 31 ∨ j = 32 ∨ j = 33 ∨ j = 34 ∨ j = 35 ∨ j = 36 by omega) with rfl | rfl | rfl | rfl | rfl | rfl | rfl | rfl | rfl | rfl | rfl | rfl | rfl | rfl | rfl | rfl | rfl | rfl | rfl | rfl | rfl | rfl | rfl | rfl | rfl | rfl | rfl | rfl | rfl | rfl | rfl | rfl | rfl | rfl | rfl | rfl | rfl <;> rfl) rfl rfl (Nat.le_of_ble_eq_true rfl) (Nat.le_of_ble_eq_true rfl) (fun _ => rfl) rfl (fun hm => ?_)
    refine r_dup C dL_law_11 rfl rfl ?_
    refine o_E (cs' := 76) (sl' := 2308) (wr := ([(hx, oX7 (u 0)), ((((u 0)) 0), oX5 (u 1) 0 rr.2.2 0), (((u 1)) 0, aI cI 10 rr.1), (((u 1)) 1, aI cI 10 zA), (((u 1)) 2, aI cI 9 rr.2.1), (((u 1)) 3, aI cI 10 zA), ((((u 0)) 1), oX5 (u 2) 0 rr.2.2 0), (((u 2)) 0, aI cI 10 rr.1), (((u 2)) 1, aI cI 10 zA), (((u 2)) 2, aI cI 9 rr.2.1), (((u 2)) 3, aI cI 10 zA), ((((u 0)) 2), oX3 (u 3) 0 0 0 0 0), (((u 3)) 0, aI cI 60 zA), ((((u 0)) 3), oX0 (u 4) 0 0 0 0 0 0), ((((u 0)) 4), oX6 (u 5) 0), (((u 5)) 0, aI cI 8 zA), (((u 5)) 1, aI cI 8 zA), ((((u 0)) 5), oX1 (u 6) 0 0), (((u 6)) 0, aI cI 10 zA), ((((u 0)) 6), oX4 (u 7)), (((u 7)) 0, aI cI 9 zA), (((u 7)) 1, aI cI 4 zA), (((u 7)) 2, aI cI 10 zA), (((u 7)) 3, aI cI 10 zA), (((u 7)) 4, aG cG (u 8)), (((u 7)) 5, aI cI 100 zA), ((((u 0)) 7), oX2 (u 9) 0), ((((u 9)) 0), oX5 (u 10) 0 rr.2.2 0), (((u 10)) 0, aI cI 10 rr.1), (((u 10)) 1, aI cI 10 zA), (((u 10)) 2, aI cI 9 rr.2.1), (((u 10)) 3, aI cI 10 zA), ((((u 9)) 1), oX6 (u 11) 0), (((u 11)) 0, aI cI 8 zA), (((u 11)) 1, aI cI 8 zA), ((((u 0)) 8), oX2 (u 12) 0), ((((u 12)) 0), oX5 (u 13) 0 rr.2.2 0), (((u 13)) 0, aI cI 10 rr.1), (((u 13)) 1, aI cI 10 zA), (((u 13)) 2, aI cI 9 rr.2.1), (((u 13)) 3, aI cI 10 zA), ((((u 12)) 1), oX6 (u 14) 0), (((u 14)) 0, aI cI 8 zA), (((u 14)) 1, aI cI 8 zA)] ++ gridW ((u 8)) cI (fun _ => zA))) (wn := fun v => ([(hx, oX7 (u 0)), ((((u 0)) 0), oX5 (u 1) 0 rr.2.2 0), (((u 1)) 0, aI cI 10 rr.1), (((u 1)) 1, aI cI 10 zA), (((u 1)) 2, aI cI 9 rr.2.1), (((u 1)) 3, aI cI 10 zA), ((((u 0)) 1), oX5 (u 2) 0 rr.2.2 0), (((u 2)) 0, aI cI 10 rr.1), (((u 2)) 1, aI cI 10 zA), (((u 2)) 2, aI cI 9 rr.2.1), (((u 2)) 3, aI cI 10 zA), ((((u 0)) 2), oX3 (u 3) 0 0 0 0 0), (((u 3)) 0, aI cI 60 zA), ((((u 0)) 3), oX0 (u 4) 0 0 0 0 0 0), ((((u 0)) 4), oX6 (u 5) 0), (((u 5)) 0, aI cI 8 zA), (((u 5)) 1, aI cI 8 zA), ((((u 0)) 5), oX1 (u 6) 0 0), (((u 6)) 0, aI cI 10 zA), ((((u 0)) 6), oX4 (u 7)), (((u 7)) 0, aI cI 9 zA), (((u 7)) 1, aI cI 4 zA), (((u 7)) 2, aI cI 10 zA), (((u 7)) 3, aI cI 10 zA), (((u 7)) 4, aG cG (u 8)), (((u 7)) 5, aI cI 100 zA), ((((u 0)) 7), oX2 (u 9) 0), ((((u 9)) 0), oX5 (u 10) 0 rr.2.2 0), (((u 10)) 0, aI cI 10 rr.1), (((u 10)) 1, aI cI 10 zA), (((u 10)) 2, aI cI 9 rr.2.1), (((u 10)) 3, aI cI 10 zA), ((((u 9)) 1), oX6 (u 11) 0), (((u 11)) 0, aI cI 8 zA), (((u 11)) 1, aI cI 8 zA), ((((u 0)) 8), oX2 (u 12) 0), ((((u 12)) 0), oX5 (u 13) 0 rr.2.2 0), (((u 13)) 0, aI cI 10 rr.1), (((u 13)) 1, aI cI 10 zA), (((u 13)) 2, aI cI 9 rr.2.1), (((u 13)) 3, aI cI 10 zA), ((((u 12)) 1), oX6 (u 14) 0), (((u 14)) 0, aI cI 8 zA), (((u 14)) 1, aI cI 8 zA)] ++ gridW ((u 8)) cI (fun _ => zA)) ++ [(hm, oX8 (v 0) 0 rr.2.2 0 0 0 0 0 0 0 0 0 0 0 0 0), (((v 0)) 0, aI cI 10 rr.1), (((v 0)) 1, aI cI 10 zA), (((v 0)) 2, aI cI 9 rr.2.1), (((v 0)) 6, aI cI 8 zA), (((v 0)) 7, aI cI 8 zA), (((v 0)) 9, aI cI 60 zA), (((v 0)) 11, aI cI 60 zA), (((v 0)) 12, aI cI 60 zA), (((v 0)) 13, aI cI 60 zA), (((v 0)) 15, aI cI 10 zA), (((v 0)) 19, aI cI 32 zA), (((v 0)) 24, aI cI 9 zA), (((v 0)) 25, aI cI 100 zA), (((v 0)) 26, aI cI 100 zA), (((v 0)) 27, aI cI 4 zA), (((v 0)) 28, aI cI 9 zA), (((v 0)) 29, aI cI 10 zA), (((v 0)) 30, aI cI 10 zA), (((v 0)) 31, aI cI 10 zA), (((v 0)) 32, aI cZ 1000 zA), (((v 0)) 33, aI cI 120 zA), (((v 0)) 34, aI cZ 2 zA)]) C [53] [0, 1, 2, 3, 4, 5, 6, 7, 8, 9, 10, 11, 12, 13, 14, 15, 16, 17, 18, 19, 20, 21, 22, 23, 24, 25, 26, 27, 28, 29, 30, 31, 32, 33, 34, 35, 36, 37, 38, 39, 40, 41, 42, 43, 44, 45, 46, 47, 48, 49, 50, 51, 52] rfl rfl rfl (by decide) (x_I C dL_law_12 (c_X8_init l D cI cZ cG hm rr e8) gL_law_X8_init wl_ni8 wl_ml8 wl_im8 rfl wl_hi8 rfl ⟨(Nat.le_of_ble_eq_true rfl), (Nat.le_of_ble_eq_true rfl)⟩ ⟨rfl, rfl⟩ ⟨(Nat.le_of_ble_eq_true rfl), (Nat.le_of_ble_eq_true rfl)⟩ [53] rfl rfl (Nat.le_of_ble_eq_true rfl)) rfl rfl (fun _ => rfl) rfl (fun v => ?_)
    refine r_astore_n (lv' := [(2, .ref hm), (1, .ref hx), (0, .ref b)]) C dL_law_15 rfl (by decide) rfl rfl ?_
    refine r_iconst C dL_law_16 kk_i_0 rfl ?_
    refine r_istore_n (lv' := [(3, .int (nI 0)), (2, .ref hm), (1, .ref hx), (0, .ref b)]) C dL_law_17 rfl (by decide) rfl rfl ?_
    refine r_lv (lv' := [(0, .ref b), (1, .ref hx), (2, .ref hm), (3, .int (nI 0))]) [3, 2, 1, 0] rfl ?_
    exact r_perm [0, 1, 2, 3, 4, 5, 6, 7, 8, 9, 10, 11, 12, 13, 14, 15, 16, 17, 18, 19, 20, 21, 22, 23, 24, 25, 26, 27, 28, 29, 30, 31, 32, 33, 34, 35, 36, 37, 38, 39, 40, 41, 42, 43, 53, 54, 55, 56, 57, 58, 59, 60, 61, 62, 63, 64, 65, 66, 67, 68, 69, 70, 71, 72, 73, 74, 75, 44, 45, 46, 47, 48, 49, 50, 51, 52] rfl rfl (law_loop (hx := 0) hL C hX hbl (L + 1) 0 (by omega) (by omega) hx hm (u 0) (u 1) (u 2) (u 3) (u 4) (u 5) (u 6) (u 7) (u 9) (u 10) (u 11) (u 12) (u 13) (u 14) (v 0) (u 8) rr.1 zA rr.2.1 zA rr.1 zA rr.2.1 zA zA zA zA zA zA zA zA zA zA rr.1 zA rr.2.1 zA zA zA rr.1 zA rr.2.1 zA zA zA zA zA zA zA zA zA zA zA zA zA zA zA zA zA zA zA 0 rr.2.2 0 0 rr.2.2 0 0 0 0 0 0 0 0 0 0 0 0 0 0 0 0 0 rr.2.2 0 0 0 0 rr.2.2 0 0 0 0 0 0 0 0 0 0 0 0 (fun _ => zA) hI)
  have hl := lv_entry [.ref b] (n := 4) (Nat.le_of_ble_eq_true rfl)
  rw [lg_entry_eq]
  exact body s.heap [] _ (fun k q hq => absurd hq (by simp)) ⟨fun i j x y hx => absurd hx (by simp), fun k q hq => absurd hq (by simp)⟩ va_S.rf hl
