/-! images -/
theorem RowOK.zr {Y F L : Nat → Int32} {hd wl dy : Int32} (h : RowOK Y F L hd wl dy) : Zr 10 Y ∧ Zr 10 F ∧ Zr 9 L := by
  obtain ⟨y, f, l, h, w, d, rfl, rfl, rfl, rfl, rfl, rfl, b1, b2, b3, b4, b5, b6, b7, b8, b9, b10⟩ := h
  refine ⟨fun i hi => ?_, fun i hi => ?_, fun i hi => ?_⟩
  · show nI (y i) = 0
    rw [(b8 i hi).1]; rfl
  · show nI (f i) = 0
    rw [(b8 i hi).2]; rfl
  · show nI (l i) = 0
    rw [b9 i hi]; rfl
theorem SightOK.segd {W M W2 M2 : Nat → Int32} {sn sn2 : Int32} (h : SightOK W M sn) (h2 : SightOK W2 M2 sn2) : SightOK (seg 0 8 W W2) (seg 0 8 M M2) sn := by
  obtain ⟨w, m, n, rfl, rfl, rfl, b1, b2, b3⟩ := h
  obtain ⟨w', m', n', rfl, rfl, rfl, b1', b2', b3'⟩ := h2
  refine ⟨fun i => if 0 ≤ i ∧ i < 8 then w i else w' i, fun i => if 0 ≤ i ∧ i < 8 then m i else m' i, n, ?_, ?_, rfl, b1, fun i => ?_, fun i => ?_⟩
  · funext i
    show (if 0 ≤ i ∧ i < 8 then nI (w i) else nI (w' i)) = nI (if 0 ≤ i ∧ i < 8 then w i else w' i)
    by_cases c : 0 ≤ i ∧ i < 8
    · rw [if_pos c, if_pos c]
    · rw [if_neg c, if_neg c]
  · funext i
    show (if 0 ≤ i ∧ i < 8 then nI (m i) else nI (m' i)) = nI (if 0 ≤ i ∧ i < 8 then m i else m' i)
    by_cases c : 0 ≤ i ∧ i < 8
    · rw [if_pos c, if_pos c]
    · rw [if_neg c, if_neg c]
  · show (if 0 ≤ i ∧ i < 8 then w i else w' i) ≤ 9
    by_cases c : 0 ≤ i ∧ i < 8
    · rw [if_pos c]; exact b2 i
    · rw [if_neg c]; exact b2' i
  · show (if 0 ≤ i ∧ i < 8 then m i else m' i) ≤ 9
    by_cases c : 0 ≤ i ∧ i < 8
    · rw [if_pos c]; exact b3 i
    · rw [if_neg c]; exact b3' i
theorem seg_congr {n : Nat} {s s' d : Nat → Int32} (h : ∀ i, i < n → s i = s' i) : seg 0 n s d = seg 0 n s' d := by
  funext i
  unfold seg
  by_cases c : 0 ≤ i ∧ i < n
  · rw [if_pos c, if_pos c, h i c.2]
  · rw [if_neg c, if_neg c]
theorem imgW_out {o : Nat} {Y F L W M : Nat → Int32} {hd wl dy sn : Int32} {kept : Nat → Int32} {j : Nat} (h : j < o ∨ o + 49 ≤ j) : imgW o Y F L W M hd wl dy sn kept j = kept j := by
  unfold imgW putR upd
  repeat' split
  all_goals first | omega | rfl
theorem imgW_ok (o : Nat) (Y F L W M : Nat → Int32) (hd wl dy sn : Int32) (kept : Nat → Int32) : imgW o Y F L W M hd wl dy sn kept o = hd ∧ imgW o Y F L W M hd wl dy sn kept (o + 1) = wl ∧ imgW o Y F L W M hd wl dy sn kept (o + 2) = dy ∧ imgW o Y F L W M hd wl dy sn kept (o + 3) = sn ∧ (∀ i, i < 10 → imgW o Y F L W M hd wl dy sn kept (o + 4 + i) = Y i) ∧ (∀ i, i < 10 → imgW o Y F L W M hd wl dy sn kept (o + 14 + i) = F i) ∧ (∀ i, i < 9 → imgW o Y F L W M hd wl dy sn kept (o + 24 + i) = L i) ∧ (∀ i, i < 8 → imgW o Y F L W M hd wl dy sn kept (o + 33 + i) = W i) ∧ (∀ i, i < 8 → imgW o Y F L W M hd wl dy sn kept (o + 41 + i) = M i) := by
  refine ⟨?_, ?_, ?_, ?_, fun i hi => ?_, fun i hi => ?_, fun i hi => ?_, fun i hi => ?_, fun i hi => ?_⟩
  all_goals
    unfold imgW putR upd
    repeat' split
    all_goals first | omega | rfl | (congr 1; omega)
theorem ImgOK.other {o k o2 k2 : Nat} {iY iF iL : Nat → Int32} {ih iw id : Int32} {iW iM : Nat → Int32} {sn ik : Int32} {kept isKept : Nat → Int32} (h : ImgOK o k iY iF iL ih iw id iW iM sn ik kept isKept) {Y F L W M : Nat → Int32} {hd wl dy s2 : Int32} (ho : o + 49 ≤ o2 ∨ o2 + 49 ≤ o) (hk : k ≠ k2) (x : Int32) : ImgOK o k iY iF iL ih iw id iW iM sn ik (imgW o2 Y F L W M hd wl dy s2 kept) (upd isKept k2 x) := by
  obtain ⟨h1, h2, h3, h4, h5⟩ := h
  refine ⟨h1, h2, by rw [upd_at, if_neg hk]; exact h3, h4, fun e => ?_⟩
  obtain ⟨a1, a2, a3, a4, a5, a6, a7, a8, a9⟩ := h5 e
  refine ⟨?_, ?_, ?_, ?_, fun i hi => ?_, fun i hi => ?_, fun i hi => ?_, fun i hi => ?_, fun i hi => ?_⟩
  · rw [imgW_out (by omega)]; exact a1
  · rw [imgW_out (by omega)]; exact a2
  · rw [imgW_out (by omega)]; exact a3
  · rw [imgW_out (by omega)]; exact a4
  · rw [imgW_out (by omega)]; exact a5 i hi
  · rw [imgW_out (by omega)]; exact a6 i hi
  · rw [imgW_out (by omega)]; exact a7 i hi
  · rw [imgW_out (by omega)]; exact a8 i hi
  · rw [imgW_out (by omega)]; exact a9 i hi
theorem ImgOK.kept {o k : Nat} {iY iF iL : Nat → Int32} {ih iw id : Int32} {iW iM : Nat → Int32} {sn ik : Int32} {kept isKept : Nat → Int32} (h : ImgOK o k iY iF iL ih iw id iW iM sn ik kept isKept) {Y F L W M : Nat → Int32} {hd wl dy s2 : Int32} (hR : RowOK Y F L hd wl dy) (hS : SightOK W M s2) : ImgOK o k Y F L hd wl dy (seg 0 8 W iW) (seg 0 8 M iM) s2 1 (imgW o Y F L W M hd wl dy s2 kept) (upd isKept k (vp_nar .boolean (1 : Int32))) := by
  obtain ⟨h1, h2, h3, h4, h5⟩ := h
  refine ⟨hR, hS.segd h2, ?_, Or.inr rfl, fun _ => ?_⟩
  · rw [upd_at, if_pos rfl]; rfl
  · obtain ⟨a1, a2, a3, a4, a5, a6, a7, a8, a9⟩ := imgW_ok o Y F L W M hd wl dy s2 kept
    exact ⟨a1, a2, a3, a4, a5, a6, a7, fun i hi => by rw [a8 i hi, seg_in hi], fun i hi => by rw [a9 i hi, seg_in hi]⟩
theorem sim_image_0 {Y F L P W M tY tF tL iY0 iF0 iL0 iW0 iM0 iY1 iF1 iL1 iW1 iM1 kept isKept : Nat → Int32} {hd wl dy pn sn ih0 iw0 id0 in0 ik0 ih1 iw1 id1 in1 ik1 : Int32} (hI : Inv Y F L P W M tY tF tL iY0 iF0 iL0 iW0 iM0 iY1 iF1 iL1 iW1 iM1 kept isKept hd wl dy pn sn ih0 iw0 id0 in0 ik0 ih1 iw1 id1 in1 ik1) (b_keptAt : Int32) (b_isWriting : Int32) (u1 : Int32) (hu : ¬ u1 = 1) : ∃ (res : Int32) (ik0' : Int32) (iY0' : Nat → Int32) (iF0' : Nat → Int32) (iL0' : Nat → Int32) (ih0' : Int32) (iw0' : Int32) (id0' : Int32) (iW0' : Nat → Int32) (iM0' : Nat → Int32) (in0' : Int32) (kept' : Nat → Int32) (isKept' : Nat → Int32) (b_keptAt' : Int32) (b_isWriting' : Int32), f_X7_image_0 Y F L hd wl dy W M sn ik0 iY0 iF0 iL0 ih0 iw0 id0 iW0 iM0 in0 u1 = some (res, ik0', iY0', iF0', iL0', ih0', iw0', id0', iW0', iM0', in0') ∧ f_X8_image Y F L hd wl dy W M sn kept isKept b_keptAt b_isWriting u1 = some (res, Y, F, L, hd, wl, dy, W, M, sn, kept', isKept', b_keptAt', b_isWriting') ∧ Inv Y F L P W M tY tF tL iY0' iF0' iL0' iW0' iM0' iY1 iF1 iL1 iW1 iM1 kept' isKept' hd wl dy pn sn ih0' iw0' id0' in0' ik0' ih1 iw1 id1 in1 ik1 := by
  obtain ⟨hR, hZ, hP, hS, h0, h1⟩ := id hI
  unfold f_X7_image_0 f_X8_image
  simp only [isW, in_0_1, Option.bind_some]
  by_cases c : (0 : Int32) ≤ u1 ∧ u1 ≤ 1
  · simp only [w1 c]
    obtain ⟨t, -, ht, rfl⟩ := rg (a := 0) (b := 1) (by decide) (by decide) c
    have e : t = 0 := by
      rcases (show t = 0 ∨ t = 1 by omega) with e | e
      · exact e
      · subst e; exact absurd rfl hu
    subst e
    have z1 := hR.zr
    have z2 := h0.1.zr
    rw [show (60 : Int32) * nI 0 = nI 0 by decide, passAllW (o := 0) (by decide)]
    unfold f_X7_imageAt_0 f_X2_keep
    rw [if_pos (show nI 0 = (0 : Int32) from rfl)]
    simp only [copyRow, copySights, Option.bind_some, seg_all z1.1 z2.1, seg_all z1.2.1 z2.2.1, seg_all z1.2.2 z2.2.2]
    rw [gI (show 0 < 2 by decide) (by decide), cl (show 0 < 2 ^ 31 by decide)]
    exact ⟨1, 1, Y, F, L, hd, wl, dy, _, _, sn, _, _, _, _, rfl, rfl, ⟨hR, hZ, hP, hS, h0.kept hR hS, h1.other (Or.inr (by decide)) (by decide) _⟩⟩
  · simp only [w0 c]
    exact ⟨-2, _, _, _, _, _, _, _, _, _, _, _, _, _, _, rfl, rfl, hI⟩
theorem sim_image_1 {Y F L P W M tY tF tL iY0 iF0 iL0 iW0 iM0 iY1 iF1 iL1 iW1 iM1 kept isKept : Nat → Int32} {hd wl dy pn sn ih0 iw0 id0 in0 ik0 ih1 iw1 id1 in1 ik1 : Int32} (hI : Inv Y F L P W M tY tF tL iY0 iF0 iL0 iW0 iM0 iY1 iF1 iL1 iW1 iM1 kept isKept hd wl dy pn sn ih0 iw0 id0 in0 ik0 ih1 iw1 id1 in1 ik1) (b_keptAt : Int32) (b_isWriting : Int32) (u1 : Int32) (hu : u1 = 1) : ∃ (res : Int32) (ik1' : Int32) (iY1' : Nat → Int32) (iF1' : Nat → Int32) (iL1' : Nat → Int32) (ih1' : Int32) (iw1' : Int32) (id1' : Int32) (iW1' : Nat → Int32) (iM1' : Nat → Int32) (in1' : Int32) (kept' : Nat → Int32) (isKept' : Nat → Int32) (b_keptAt' : Int32) (b_isWriting' : Int32), f_X7_image_1 Y F L hd wl dy W M sn ik1 iY1 iF1 iL1 ih1 iw1 id1 iW1 iM1 in1 u1 = some (res, ik1', iY1', iF1', iL1', ih1', iw1', id1', iW1', iM1', in1') ∧ f_X8_image Y F L hd wl dy W M sn kept isKept b_keptAt b_isWriting u1 = some (res, Y, F, L, hd, wl, dy, W, M, sn, kept', isKept', b_keptAt', b_isWriting') ∧ Inv Y F L P W M tY tF tL iY0 iF0 iL0 iW0 iM0 iY1' iF1' iL1' iW1' iM1' kept' isKept' hd wl dy pn sn ih0 iw0 id0 in0 ik0 ih1' iw1' id1' in1' ik1' := by
  obtain ⟨hR, hZ, hP, hS, h0, h1⟩ := id hI
  unfold f_X7_image_1 f_X8_image
  simp only [isW, in_0_1, Option.bind_some]
  by_cases c : (0 : Int32) ≤ u1 ∧ u1 ≤ 1
  · simp only [w1 c]
    obtain ⟨t, -, ht, rfl⟩ := rg (a := 0) (b := 1) (by decide) (by decide) c
    have e : t = 1 := by
      rcases (show t = 0 ∨ t = 1 by omega) with e | e
      · subst e; exact absurd hu (by decide)
      · exact e
    subst e
    have z1 := hR.zr
    have z2 := h1.1.zr
    rw [show (60 : Int32) * nI 1 = nI 60 by decide, passAllW (o := 60) (by decide)]
    unfold f_X7_imageAt_1 f_X2_keep
    rw [if_neg (show ¬ nI 1 = (0 : Int32) by decide)]
    simp only [copyRow, copySights, Option.bind_some, seg_all z1.1 z2.1, seg_all z1.2.1 z2.2.1, seg_all z1.2.2 z2.2.2]
    rw [gI (show 1 < 2 by decide) (by decide), cl (show 1 < 2 ^ 31 by decide)]
    exact ⟨1, 1, Y, F, L, hd, wl, dy, _, _, sn, _, _, _, _, rfl, rfl, ⟨hR, hZ, hP, hS, h0.other (Or.inl (by decide)) (by decide) _, h1.kept hR hS⟩⟩
  · simp only [w0 c]
    exact ⟨-2, _, _, _, _, _, _, _, _, _, _, _, _, _, _, rfl, rfl, hI⟩
theorem sim_restore_0 {Y F L P W M tY tF tL iY0 iF0 iL0 iW0 iM0 iY1 iF1 iL1 iW1 iM1 kept isKept : Nat → Int32} {hd wl dy pn sn ih0 iw0 id0 in0 ik0 ih1 iw1 id1 in1 ik1 : Int32} (hI : Inv Y F L P W M tY tF tL iY0 iF0 iL0 iW0 iM0 iY1 iF1 iL1 iW1 iM1 kept isKept hd wl dy pn sn ih0 iw0 id0 in0 ik0 ih1 iw1 id1 in1 ik1) (b_keptAt : Int32) (b_isWriting : Int32) (u1 : Int32) (hu : ¬ u1 = 1) : ∃ (res : Int32) (Y' : Nat → Int32) (F' : Nat → Int32) (L' : Nat → Int32) (hd' : Int32) (wl' : Int32) (dy' : Int32) (W' : Nat → Int32) (M' : Nat → Int32) (sn' : Int32) (kept' : Nat → Int32) (b_keptAt' : Int32) (b_isWriting' : Int32), f_X7_restore_0 Y F L hd wl dy W M sn ik0 iY0 iF0 iL0 ih0 iw0 id0 iW0 iM0 in0 u1 = some (res, Y', F', L', hd', wl', dy', W', M', sn') ∧ f_X8_restore Y F L hd wl dy W M sn kept isKept b_keptAt b_isWriting u1 = some (res, Y', F', L', hd', wl', dy', W', M', sn', kept', b_keptAt', b_isWriting') ∧ Inv Y' F' L' P W' M' tY tF tL iY0 iF0 iL0 iW0 iM0 iY1 iF1 iL1 iW1 iM1 kept' isKept hd' wl' dy' pn sn' ih0 iw0 id0 in0 ik0 ih1 iw1 id1 in1 ik1 := by
  obtain ⟨hR, hZ, hP, hS, h0, h1⟩ := id hI
  unfold f_X7_restore_0 f_X8_restore
  simp only [isW, in_0_1, Option.bind_some]
  by_cases c : (0 : Int32) ≤ u1 ∧ u1 ≤ 1
  · simp only [w1 c]
    obtain ⟨t, -, ht, rfl⟩ := rg (a := 0) (b := 1) (by decide) (by decide) c
    have e : t = 0 := by
      rcases (show t = 0 ∨ t = 1 by omega) with e | e
      · exact e
      · subst e; exact absurd rfl hu
    subst e
    have z1 := hR.zr
    have z2 := h0.1.zr
    obtain ⟨q1, q2, q3, q4, q5⟩ := h0
    unfold f_X7_imageAt_0 f_X2_giveBack
    rw [if_pos (show nI 0 = (0 : Int32) from rfl), gI (show 0 < 2 by decide) (by decide), cl (show 0 < 2 ^ 31 by decide), ← q3]
    simp only [copyRow, copySights, Option.bind_some, seg_all z2.1 z1.1, seg_all z2.2.1 z1.2.1, seg_all z2.2.2 z1.2.2]
    rcases q4 with e | e
    · simp only [if_pos e]
      exact ⟨-3, Y, F, L, hd, wl, dy, W, M, sn, _, _, _, rfl, rfl, hI⟩
    · have e1 : ¬ ik0 = 0 := by rw [e]; decide
      simp only [if_neg e1]
      obtain ⟨a1, a2, a3, a4, a5, a6, a7, a8, a9⟩ := q5 e
      rw [show (60 : Int32) * nI 0 = nI 0 by decide, passAllR (o := 0) (by decide), seg_congr a5, seg_congr a6, seg_congr a7, seg_congr a8, seg_congr a9, a1, a2, a3, a4, seg_all z2.1 z1.1, seg_all z2.2.1 z1.2.1, seg_all z2.2.2 z1.2.2]
      exact ⟨1, iY0, iF0, iL0, ih0, iw0, id0, _, _, in0, kept, _, _, rfl, rfl, q1, hZ, hP, q2.segd hS, ⟨q1, q2, q3, Or.inr e, q5⟩, h1⟩
  · simp only [w0 c]
    exact ⟨-2, Y, F, L, hd, wl, dy, W, M, sn, _, _, _, rfl, rfl, hI⟩
theorem sim_restore_1 {Y F L P W M tY tF tL iY0 iF0 iL0 iW0 iM0 iY1 iF1 iL1 iW1 iM1 kept isKept : Nat → Int32} {hd wl dy pn sn ih0 iw0 id0 in0 ik0 ih1 iw1 id1 in1 ik1 : Int32} (hI : Inv Y F L P W M tY tF tL iY0 iF0 iL0 iW0 iM0 iY1 iF1 iL1 iW1 iM1 kept isKept hd wl dy pn sn ih0 iw0 id0 in0 ik0 ih1 iw1 id1 in1 ik1) (b_keptAt : Int32) (b_isWriting : Int32) (u1 : Int32) (hu : u1 = 1) : ∃ (res : Int32) (Y' : Nat → Int32) (F' : Nat → Int32) (L' : Nat → Int32) (hd' : Int32) (wl' : Int32) (dy' : Int32) (W' : Nat → Int32) (M' : Nat → Int32) (sn' : Int32) (kept' : Nat → Int32) (b_keptAt' : Int32) (b_isWriting' : Int32), f_X7_restore_1 Y F L hd wl dy W M sn ik1 iY1 iF1 iL1 ih1 iw1 id1 iW1 iM1 in1 u1 = some (res, Y', F', L', hd', wl', dy', W', M', sn') ∧ f_X8_restore Y F L hd wl dy W M sn kept isKept b_keptAt b_isWriting u1 = some (res, Y', F', L', hd', wl', dy', W', M', sn', kept', b_keptAt', b_isWriting') ∧ Inv Y' F' L' P W' M' tY tF tL iY0 iF0 iL0 iW0 iM0 iY1 iF1 iL1 iW1 iM1 kept' isKept hd' wl' dy' pn sn' ih0 iw0 id0 in0 ik0 ih1 iw1 id1 in1 ik1 := by
  obtain ⟨hR, hZ, hP, hS, h0, h1⟩ := id hI
  unfold f_X7_restore_1 f_X8_restore
  simp only [isW, in_0_1, Option.bind_some]
  by_cases c : (0 : Int32) ≤ u1 ∧ u1 ≤ 1
  · simp only [w1 c]
    obtain ⟨t, -, ht, rfl⟩ := rg (a := 0) (b := 1) (by decide) (by decide) c
    have e : t = 1 := by
      rcases (show t = 0 ∨ t = 1 by omega) with e | e
      · subst e; exact absurd hu (by decide)
      · exact e
    subst e
    have z1 := hR.zr
    have z2 := h1.1.zr
    obtain ⟨q1, q2, q3, q4, q5⟩ := h1
    unfold f_X7_imageAt_1 f_X2_giveBack
    rw [if_neg (show ¬ nI 1 = (0 : Int32) by decide), gI (show 1 < 2 by decide) (by decide), cl (show 1 < 2 ^ 31 by decide), ← q3]
    simp only [copyRow, copySights, Option.bind_some, seg_all z2.1 z1.1, seg_all z2.2.1 z1.2.1, seg_all z2.2.2 z1.2.2]
    rcases q4 with e | e
    · simp only [if_pos e]
      exact ⟨-3, Y, F, L, hd, wl, dy, W, M, sn, _, _, _, rfl, rfl, hI⟩
    · have e1 : ¬ ik1 = 0 := by rw [e]; decide
      simp only [if_neg e1]
      obtain ⟨a1, a2, a3, a4, a5, a6, a7, a8, a9⟩ := q5 e
      rw [show (60 : Int32) * nI 1 = nI 60 by decide, passAllR (o := 60) (by decide), seg_congr a5, seg_congr a6, seg_congr a7, seg_congr a8, seg_congr a9, a1, a2, a3, a4, seg_all z2.1 z1.1, seg_all z2.2.1 z1.2.1, seg_all z2.2.2 z1.2.2]
      exact ⟨1, iY1, iF1, iL1, ih1, iw1, id1, _, _, in1, kept, _, _, rfl, rfl, q1, hZ, hP, q2.segd hS, h0, ⟨q1, q2, q3, Or.inr e, q5⟩⟩
  · simp only [w0 c]
    exact ⟨-2, Y, F, L, hd, wl, dy, W, M, sn, _, _, _, rfl, rfl, hI⟩
/-! the constructors' contents -/
theorem mulI (a b : Nat) : nI a * nI b = nI (a * b) := pk_mul a b
def y0 : Nat → Int32 := fun i => if i < 10 then nI (10 * i) else 0
def l0 : Nat → Int32 := fun i => if i < 9 then 15 else 0
theorem i38 {kx} : ∀ (m j fuel : Nat) (Y : Nat → Int32), j + m = 10 → m < fuel → (∀ i, i < j → Y i = nI (10 * i)) → (∀ i, 10 ≤ i → Y i = 0) → f_X5_init_38 kx fuel (nI j) Y = kx y0 ∧ f_X8_init_181 kx fuel (nI j) Y = kx y0
  | 0, j, 0, Y, h, hf, h1, h2 => absurd hf (by omega)
  | 0, j, f + 1, Y, h, hf, h1, h2 => by
    have e : j = 10 := by omega
    subst e
    have eY : Y = y0 := by
      funext i
      unfold y0
      by_cases c : i < 10
      · rw [if_pos c]; exact h1 i c
      · rw [if_neg c]; exact h2 i (by omega)
    rw [f_X5_init_38, f_X8_init_181, show (10 : Int32) = nI 10 from rfl, if_pos (lit_le (a := 10) (by decide) (by decide) (Nat.le_refl 10)), if_pos (lit_le (a := 10) (by decide) (by decide) (Nat.le_refl 10)), eY]
    exact ⟨rfl, rfl⟩
  | m + 1, j, 0, Y, h, hf, h1, h2 => absurd hf (by omega)
  | m + 1, j, f + 1, Y, h, hf, h1, h2 => by
    rw [f_X5_init_38, f_X8_init_181, show (10 : Int32) = nI 10 from rfl, if_neg (lit_nle (a := 10) (b := j) (by decide) (by omega) (by omega)), if_neg (lit_nle (a := 10) (b := j) (by decide) (by omega) (by omega)), gI (by omega : j < 10) (by decide), gI (by omega : j < 10) (by decide), cl (by omega), p1, mulI]
    refine i38 m (j + 1) f _ (by omega) (by omega) (fun i hi => ?_) (fun i hi => ?_)
    · rw [upd_at]
      by_cases e : i = j
      · rw [if_pos e, e]
      · rw [if_neg e]; exact h1 i (by omega)
    · rw [upd_at, if_neg (by omega)]
      exact h2 i hi
theorem i62 {kx} : ∀ (m j fuel : Nat) (Y : Nat → Int32), j + m = 9 → m < fuel → (∀ i, i < j → Y i = 15) → (∀ i, 9 ≤ i → Y i = 0) → f_X5_init_62 kx fuel (nI j) Y = kx l0 ∧ f_X8_init_205 kx fuel (nI j) Y = kx l0
  | 0, j, 0, Y, h, hf, h1, h2 => absurd hf (by omega)
  | 0, j, f + 1, Y, h, hf, h1, h2 => by
    have e : j = 9 := by omega
    subst e
    have eY : Y = l0 := by
      funext i
      unfold l0
      by_cases c : i < 9
      · rw [if_pos c]; exact h1 i c
      · rw [if_neg c]; exact h2 i (by omega)
    rw [f_X5_init_62, f_X8_init_205, show (9 : Int32) = nI 9 from rfl, if_pos (lit_le (a := 9) (by decide) (by decide) (Nat.le_refl 9)), if_pos (lit_le (a := 9) (by decide) (by decide) (Nat.le_refl 9)), eY]
    exact ⟨rfl, rfl⟩
  | m + 1, j, 0, Y, h, hf, h1, h2 => absurd hf (by omega)
  | m + 1, j, f + 1, Y, h, hf, h1, h2 => by
    rw [f_X5_init_62, f_X8_init_205, show (9 : Int32) = nI 9 from rfl, if_neg (lit_nle (a := 9) (b := j) (by decide) (by omega) (by omega)), if_neg (lit_nle (a := 9) (b := j) (by decide) (by omega) (by omega)), gI (by omega : j < 9) (by decide), gI (by omega : j < 9) (by decide), cl (by omega), p1]
    refine i62 m (j + 1) f _ (by omega) (by omega) (fun i hi => ?_) (fun i hi => ?_)
    · rw [upd_at]
      by_cases e : i = j
      · rw [if_pos e]
      · rw [if_neg e]; exact h1 i (by omega)
    · rw [upd_at, if_neg (by omega)]
      exact h2 i hi
theorem row0 : RowOK y0 zA l0 0 20 0 := by
  refine ⟨fun i => if i < 10 then 10 * i else 0, fun _ => 0, fun i => if i < 9 then 15 else 0, 0, 20, 0, ?_, rfl, ?_, rfl, rfl, rfl, fun i => ?_, fun _ => Nat.zero_le _, fun i hi => ?_, fun i => ?_, by decide, by decide, by decide, fun i hi => ⟨if_neg (by omega), rfl⟩, fun i hi => if_neg (by omega), fun i hi => ?_⟩
  · funext i
    show (if i < 10 then nI (10 * i) else 0) = nI (if i < 10 then 10 * i else 0)
    by_cases c : i < 10
    · rw [if_pos c, if_pos c]
    · rw [if_neg c, if_neg c]; rfl
  · funext i
    show (if i < 9 then (15 : Int32) else 0) = nI (if i < 9 then 15 else 0)
    by_cases c : i < 9
    · rw [if_pos c, if_pos c]; rfl
    · rw [if_neg c, if_neg c]; rfl
  · show (if i < 10 then 10 * i else 0) ≤ 999
    by_cases c : i < 10
    · rw [if_pos c]; omega
    · rw [if_neg c]; omega
  · show 1 ≤ (if i < 9 then 15 else 0)
    rw [if_pos hi]; decide
  · show (if i < 9 then 15 else 0) ≤ 99
    by_cases c : i < 9
    · rw [if_pos c]; decide
    · rw [if_neg c]; decide
  · show (if i < 10 then 10 * i else 0) ≤ (if i + 1 < 10 then 10 * (i + 1) else 0) + (if i < 9 then 15 else 0) ∧ (if i + 1 < 10 then 10 * (i + 1) else 0) ≤ (if i < 10 then 10 * i else 0) + (if i < 9 then 15 else 0)
    rw [if_pos (by omega : i < 10), if_pos (by omega : i + 1 < 10), if_pos hi]
    omega
theorem sight0 : SightOK zA zA 0 := ⟨fun _ => 0, fun _ => 0, 0, rfl, rfl, rfl, by decide, fun _ => Nat.zero_le _, fun _ => Nat.zero_le _⟩
theorem inv_init : ∃ rr, f_X5_init zA zA 0 = some rr ∧ f_X8_init zA zA 0 = some rr ∧ Inv rr.1 zA rr.2.1 zA zA zA rr.1 zA rr.2.1 rr.1 zA rr.2.1 zA zA rr.1 zA rr.2.1 zA zA zA zA 0 rr.2.2 0 0 0 0 rr.2.2 0 0 0 0 rr.2.2 0 0 0 := by
  have z : ∀ i : Nat, 10 ≤ i → zA i = 0 := fun _ _ => rfl
  have z9 : ∀ i : Nat, 9 ≤ i → zA i = 0 := fun _ _ => rfl
  refine ⟨(y0, l0, 20), ?_, ?_, row0, ⟨row0.zr.1, row0.zr.2.1, row0.zr.2.2⟩, ⟨0, rfl, by decide⟩, sight0, ⟨row0, sight0, rfl, Or.inl rfl, fun h => absurd h (by decide)⟩, ⟨row0, sight0, rfl, Or.inl rfl, fun h => absurd h (by decide)⟩⟩
  · unfold f_X5_init
    rw [show (0 : Int32) = nI 0 from rfl, (i38 10 0 2000 zA (by decide) (by decide) (fun i hi => absurd hi (by omega)) z).1, (i62 9 0 2000 zA (by decide) (by decide) (fun i hi => absurd hi (by omega)) z9).1]
  · unfold f_X8_init
    rw [show (0 : Int32) = nI 0 from rfl, (i38 10 0 2000 zA (by decide) (by decide) (fun i hi => absurd hi (by omega)) z).2, (i62 9 0 2000 zA (by decide) (by decide) (fun i hi => absurd hi (by omega)) z9).2]
