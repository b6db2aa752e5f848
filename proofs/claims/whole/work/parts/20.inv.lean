/-! what holds of the contents between the calls -/
def Zr (n : Nat) (f : Nat → Int32) : Prop := ∀ i, n ≤ i → f i = 0
/-- the row's contents are numbers within the document's bounds -/
def RowOK (Y F L : Nat → Int32) (hd wl dy : Int32) : Prop :=
  ∃ (y f l : Nat → Nat) (h w d : Nat), Y = (fun i => nI (y i)) ∧ F = (fun i => nI (f i)) ∧ L = (fun i => nI (l i)) ∧ hd = nI h ∧ wl = nI w ∧ dy = nI d ∧
    (∀ i, y i ≤ 999) ∧ (∀ i, f i ≤ 99) ∧ (∀ i, i < 9 → 1 ≤ l i) ∧ (∀ i, l i ≤ 99) ∧ h < 1024 ∧ w ≤ 999 ∧ d ≤ 99 ∧ (∀ i, 10 ≤ i → y i = 0 ∧ f i = 0) ∧ (∀ i, 9 ≤ i → l i = 0) ∧ (∀ i, i < 9 → y i ≤ y (i + 1) + l i ∧ y (i + 1) ≤ y i + l i)
def SightOK (W M : Nat → Int32) (sn : Int32) : Prop :=
  ∃ (w m : Nat → Nat) (n : Nat), W = (fun i => nI (w i)) ∧ M = (fun i => nI (m i)) ∧ sn = nI n ∧ n ≤ 8 ∧ (∀ i, w i ≤ 9) ∧ (∀ i, m i ≤ 9)
def ImgOK (o k : Nat) (iY iF iL : Nat → Int32) (ih iw id : Int32) (iW iM : Nat → Int32) (sn ik : Int32) (kept isKept : Nat → Int32) : Prop :=
  RowOK iY iF iL ih iw id ∧ SightOK iW iM sn ∧ ik = isKept k ∧ (ik = 0 ∨ ik = 1) ∧ (ik = 1 → kept o = ih ∧ kept (o + 1) = iw ∧ kept (o + 2) = id ∧ kept (o + 3) = sn ∧ (∀ i, i < 10 → kept (o + 4 + i) = iY i) ∧ (∀ i, i < 10 → kept (o + 14 + i) = iF i) ∧ (∀ i, i < 9 → kept (o + 24 + i) = iL i) ∧ (∀ i, i < 8 → kept (o + 33 + i) = iW i) ∧ (∀ i, i < 8 → kept (o + 41 + i) = iM i))
def Inv (Y F L P W M tY tF tL iY0 iF0 iL0 iW0 iM0 iY1 iF1 iL1 iW1 iM1 kept isKept : Nat → Int32) (hd wl dy pn sn ih0 iw0 id0 in0 ik0 ih1 iw1 id1 in1 ik1 : Int32) : Prop :=
  RowOK Y F L hd wl dy ∧ (Zr 10 tY ∧ Zr 10 tF ∧ Zr 9 tL) ∧ (∃ n : Nat, pn = nI n ∧ n ≤ 60) ∧ SightOK W M sn ∧ ImgOK 0 0 iY0 iF0 iL0 ih0 iw0 id0 iW0 iM0 in0 ik0 kept isKept ∧ ImgOK 60 1 iY1 iF1 iL1 ih1 iw1 id1 iW1 iM1 in1 ik1 kept isKept
