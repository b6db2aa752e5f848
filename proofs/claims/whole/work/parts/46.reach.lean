/-! how far one can go -/
/-- a child at y j is drawn by a step of more than this -/
def th (d yk yj s : Nat) : Nat := if d = 0 then yj + s - yk else yk + s - yj
def okU (n d yk : Nat) (y l : Nat → Nat) (h : Nat) : Nat → Nat → Nat → Prop
  | 0, _, _ => True
  | m + 1, u, s => (h.testBit (u + 1) = true → n ≤ th d yk (y (u + 1)) (s + l u)) ∧ okU n d yk y l h m (u + 1) (s + l u)
def okD (n d yk : Nat) (y l : Nat → Nat) (h : Nat) : Nat → Nat → Prop
  | 0, _ => True
  | u + 1, s => (h.testBit u = true → n ≤ th d yk (y u) (s + l u)) ∧ okD n d yk y l h u (s + l u)
def fU (d yk : Nat) (y l : Nat → Nat) (h : Nat) : Nat → Nat → Nat → Nat → Nat
  | 0, _, c, _ => c
  | m + 1, u, c, s => fU d yk y l h m (u + 1) (if h.testBit (u + 1) = true then min c (th d yk (y (u + 1)) (s + l u)) else c) (s + l u)
def fD (d yk : Nat) (y l : Nat → Nat) (h : Nat) : Nat → Nat → Nat → Nat
  | 0, c, _ => c
  | u + 1, c, s => fD d yk y l h u (if h.testBit u = true then min c (th d yk (y u) (s + l u)) else c) (s + l u)
theorem le_ite {n c T : Nat} {t : Prop} [Decidable t] : n ≤ (if t then min c T else c) ↔ n ≤ c ∧ (t → n ≤ T) := by
  by_cases ht : t
  · rw [if_pos ht, Nat.le_min]; exact ⟨fun q => ⟨q.1, fun _ => q.2⟩, fun q => ⟨q.1, q.2 ht⟩⟩
  · rw [if_neg ht]; exact ⟨fun q => ⟨q, fun e => absurd e ht⟩, fun q => q.1⟩
theorem fU_le {n d yk h : Nat} {y l : Nat → Nat} : ∀ m u c s, n ≤ fU d yk y l h m u c s ↔ n ≤ c ∧ okU n d yk y l h m u s
  | 0, u, c, s => ⟨fun q => ⟨q, trivial⟩, fun q => q.1⟩
  | m + 1, u, c, s => by
    unfold fU okU
    rw [fU_le m, le_ite, and_assoc]
theorem fD_le {n d yk h : Nat} {y l : Nat → Nat} : ∀ u c s, n ≤ fD d yk y l h u c s ↔ n ≤ c ∧ okD n d yk y l h u s
  | 0, c, s => ⟨fun q => ⟨q, trivial⟩, fun q => q.1⟩
  | u + 1, c, s => by
    unfold fD okD
    rw [fD_le u, le_ite, and_assoc]
/-- where the one before is -/
def at_ (d yk n s x : Nat) : Prop := (d = 0 ∧ x + s = yk + n) ∨ (¬ d = 0 ∧ x + n = yk + s)
def by_ (d x yu : Nat) : Prop := (d = 0 ∧ yu ≤ x) ∨ (¬ d = 0 ∧ x ≤ yu)
theorem drawn_i {d yk n s x yu yj l : Nat} (h1 : at_ d yk n s x) (h2 : by_ d x yu) (h3 : yu ≤ yj + l) (h4 : yj ≤ yu + l) (hn : 1 ≤ n) : (l < ad yj x ↔ th d yk yj (s + l) < n) ∧ (l < ad yj x → at_ d yk n (s + l) (nw x yj l) ∧ by_ d (nw x yj l) yj) := by
  unfold at_ at h1
  unfold by_ at h2
  unfold at_ by_ th ad nw
  rcases h1 with ⟨rfl, h1⟩ | ⟨hd, h1⟩
  · rw [if_pos rfl]
    have h2' : yu ≤ x := by rcases h2 with q | q; exact q.2; exact absurd rfl q.1
    by_cases c : x ≤ yj
    · rw [if_pos c]
      by_cases c2 : yj ≤ x
      · rw [if_pos c2]; exact ⟨by omega, fun q => by omega⟩
      · rw [if_neg c2]; exact ⟨by omega, fun q => by omega⟩
    · rw [if_neg c, if_pos (by omega)]
      exact ⟨by omega, fun q => ⟨Or.inl ⟨rfl, by omega⟩, Or.inl ⟨rfl, by omega⟩⟩⟩
  · rw [if_neg hd]
    have h2' : x ≤ yu := by rcases h2 with q | q; exact absurd q.1 hd; exact q.2
    by_cases c : x ≤ yj
    · rw [if_pos c]
      by_cases c2 : yj ≤ x
      · rw [if_pos c2]; exact ⟨by omega, fun q => by omega⟩
      · rw [if_neg c2]; exact ⟨by omega, fun q => ⟨Or.inr ⟨hd, by omega⟩, Or.inr ⟨hd, by omega⟩⟩⟩
    · rw [if_neg c]; exact ⟨by omega, fun q => by omega⟩
theorem th_up {d yk s yu yj l : Nat} (h3 : yu ≤ yj + l) (h4 : yj ≤ yu + l) : th d yk yu s ≤ th d yk yj (s + l) := by
  unfold th
  by_cases c : d = 0
  · rw [if_pos c, if_pos c]; omega
  · rw [if_neg c, if_neg c]; omega
theorem okU_of {n d yk h : Nat} {y l : Nat → Nat} : ∀ (m u s : Nat), u + m = 9 → (∀ i, i < 9 → adj l y i) → n ≤ th d yk (y u) s → okU n d yk y l h m u s
  | 0, u, s, _, _, _ => trivial
  | m + 1, u, s, hm, ha, hn => by
    have a := ha u (by omega)
    have t : n ≤ th d yk (y (u + 1)) (s + l u) := Nat.le_trans hn (th_up a.1 a.2)
    exact ⟨fun _ => t, okU_of m (u + 1) _ (by omega) ha t⟩
theorem okD_of {n d yk h : Nat} {y l : Nat → Nat} : ∀ (u s : Nat), u ≤ 9 → (∀ i, i < 9 → adj l y i) → n ≤ th d yk (y u) s → okD n d yk y l h u s
  | 0, s, _, _, _ => trivial
  | u + 1, s, hm, ha, hn => by
    have a := ha u (by omega)
    have t : n ≤ th d yk (y u) (s + l u) := Nat.le_trans hn (th_up a.2 a.1)
    exact ⟨fun _ => t, okD_of u _ (by omega) ha t⟩
theorem thl {n T : Nat} {t b : Bool} (h : T < n) : (b = true ∧ t = false) ↔ (b = true ∧ (t = true → n ≤ T)) := by
  cases t
  · exact ⟨fun q => ⟨q.1, fun e => absurd e (by decide)⟩, fun q => ⟨q.1, rfl⟩⟩
  · exact ⟨fun q => absurd q.2 (by decide), fun q => absurd (q.2 rfl) (by omega)⟩
theorem thx {n T : Nat} {t : Bool} {A B : Prop} (h : T < n) : ((A ∧ t = false) ∧ B) ↔ (A ∧ (t = true → n ≤ T) ∧ B) := by
  cases t
  · exact ⟨fun q => ⟨q.1.1, fun e => absurd e (by decide), q.2⟩, fun q => ⟨⟨q.1, rfl⟩, q.2.2⟩⟩
  · exact ⟨fun q => absurd q.1.2 (by decide), fun q => absurd (q.2.1 rfl) (by omega)⟩
theorem upS_bits {n d yk h : Nat} {y l : Nat → Nat} (hh : h < 1024) (hn : 1 ≤ n) (ha : ∀ i, i < 9 → adj l y i) : ∀ (m u : Nat) (p : Nat → Nat) (b s : Nat), u + m = 9 → at_ d yk n s (p u) → by_ d (p u) (y u) → (∀ i, u < i → p i = y i) → ((upS l m u p b).2 &&& h = 0 ↔ b &&& h = 0 ∧ okU n d yk y l h m u s)
  | 0, u, p, b, s, hm, h1, h2, h3 => ⟨fun q => ⟨q, trivial⟩, fun q => q.1⟩
  | m + 1, u, p, b, s, hm, h1, h2, h3 => by
    have a := ha u (by omega)
    have e := h3 (u + 1) (by omega)
    obtain ⟨k1, k2⟩ := drawn_i h1 h2 a.1 a.2 hn
    unfold upS okU
    rw [e]
    by_cases c : l u < ad (y (u + 1)) (p u)
    · rw [if_pos c, upS_bits hh hn ha m (u + 1) _ _ (s + l u) (by omega) (by rw [up_eq]; exact (k2 c).1) (by rw [up_eq]; exact (k2 c).2) (fun i hi => by rw [up_ne (by omega)]; exact h3 i (by omega)), andz (by omega) hh]
      exact thx (k1.mp c)
    · rw [if_neg c]
      have t : n ≤ th d yk (y (u + 1)) (s + l u) := by
        rcases Nat.lt_or_ge (th d yk (y (u + 1)) (s + l u)) n with q | q
        · exact absurd (k1.mpr q) c
        · exact q
      exact ⟨fun q => ⟨q, fun _ => t, okU_of m (u + 1) _ (by omega) ha t⟩, fun q => q.1⟩
theorem dnS_bits {n d yk h : Nat} {y l : Nat → Nat} (hh : h < 1024) (hn : 1 ≤ n) (ha : ∀ i, i < 9 → adj l y i) : ∀ (u : Nat) (p : Nat → Nat) (b s : Nat), u ≤ 9 → at_ d yk n s (p u) → by_ d (p u) (y u) → (∀ i, i < u → p i = y i) → ((dnS l u p b).2 &&& h = 0 ↔ b &&& h = 0 ∧ okD n d yk y l h u s)
  | 0, p, b, s, hm, h1, h2, h3 => ⟨fun q => ⟨q, trivial⟩, fun q => q.1⟩
  | u + 1, p, b, s, hm, h1, h2, h3 => by
    have a := ha u (by omega)
    have e := h3 u (by omega)
    obtain ⟨k1, k2⟩ := drawn_i h1 h2 a.2 a.1 hn
    unfold dnS okD
    rw [e]
    by_cases c : l u < ad (y u) (p (u + 1))
    · rw [if_pos c, dnS_bits hh hn ha u _ _ (s + l u) (by omega) (by rw [up_eq]; exact (k2 c).1) (by rw [up_eq]; exact (k2 c).2) (fun i hi => by rw [up_ne (by omega)]; exact h3 i (by omega)), andz (by omega) hh]
      exact thx (k1.mp c)
    · rw [if_neg c]
      have t : n ≤ th d yk (y u) (s + l u) := by
        rcases Nat.lt_or_ge (th d yk (y u) (s + l u)) n with q | q
        · exact absurd (k1.mpr q) c
        · exact q
      exact ⟨fun q => ⟨q, fun _ => t, okD_of u _ (by omega) ha t⟩, fun q => q.1⟩
theorem goP_bits {n d k v h : Nat} {y l : Nat → Nat} (hl : ∀ i, l i ≤ 99) (hy : ∀ i, y i ≤ 999) (hh : h < 1024) (hn : 1 ≤ n) (ha : ∀ i, i < 9 → adj l y i) (hk : k ≤ 9) (hv : v ≤ 999) (h1 : at_ d (y k) n 0 v) (h2 : by_ d v (y k)) : ((goP l y k v).2 &&& h = 0 ↔ okU n d (y k) y l h (9 - k) k 0 ∧ okD n d (y k) y l h k 0) := by
  unfold goP
  have r3 := (upS_ok (l := l) (9 - k) k (va_up y k v) 0 (by omega) (up_le hy hv) (by decide)).2.2.1
  rw [dnS_bits (d := d) (yk := y k) (n := n) hh hn ha k _ _ 0 hk (by rw [r3 k (by omega), up_eq]; exact h1) (by rw [r3 k (by omega), up_eq]; exact h2) (fun i hi => by rw [r3 i (by omega), up_ne (by omega)]), upS_bits (d := d) (yk := y k) (n := n) hh hn ha (9 - k) k _ _ 0 (by omega) (by rw [up_eq]; exact h1) (by rw [up_eq]; exact h2) (fun i hi => up_ne (by omega))]
  exact ⟨fun q => ⟨q.1.2, q.2⟩, fun q => ⟨⟨Nat.zero_and h, q.1⟩, q.2⟩⟩
def c0 (d yk : Nat) : Nat := if d = 0 then 999 - yk else yk
def farP (d : Nat) (y l : Nat → Nat) (h k : Nat) : Nat := if h.testBit k = true then 0 else fD d (y k) y l h k (fU d (y k) y l h (9 - k) k (c0 d (y k)) 0) 0
theorem farP_le {d h k n : Nat} {y l : Nat → Nat} (hn : 1 ≤ n) : n ≤ farP d y l h k ↔ h.testBit k = false ∧ n ≤ c0 d (y k) ∧ okU n d (y k) y l h (9 - k) k 0 ∧ okD n d (y k) y l h k 0 := by
  unfold farP
  cases h.testBit k
  · rw [if_neg (by decide), fD_le, fU_le, and_assoc]
    exact ⟨fun q => ⟨rfl, q⟩, fun q => q.2⟩
  · rw [if_pos rfl]
    exact ⟨fun q => by omega, fun q => absurd q.1 (by decide)⟩
theorem why8 {l y : Nat → Nat} (hl : ∀ i, l i ≤ 99) (hy : ∀ i, y i ≤ 999) (ha : ∀ i, i < 9 → adj l y i) {k h d n : Nat} (hk : k ≤ 9) (hh : h < 1024) (hn : 1 ≤ n) (hn2 : n ≤ 1000) {D : Int32} (hD : (d = 0 ∧ D = nI n) ∨ (¬ d = 0 ∧ nI (y k) + D = nI (y k) - nI n)) (g : Nat → Int32) (b : Int32) : ∃ w g' b', f_X8_whyNotGo (fun i => nI (y i)) (fun i => nI (l i)) (nI h) g b (nI k) D = some (w, g', b') ∧ (w = 0 ↔ n ≤ farP d y l h k) := by
  have yk := hy k
  unfold f_X8_whyNotGo
  rw [gI (by omega : k < 10) (by decide), cl (by omega), in_0_999]
  simp only [Option.bind_some]
  rw [farP_le hn]
  by_cases c : n ≤ c0 d (y k)
  · obtain ⟨v, hv, hdv, h1, h2⟩ : ∃ v, v ≤ 999 ∧ nI (y k) + D = nI v ∧ at_ d (y k) n 0 v ∧ by_ d v (y k) := by
      unfold c0 at c
      rcases hD with ⟨rfl, rfl⟩ | ⟨hd, hD⟩
      · rw [if_pos rfl] at c
        exact ⟨y k + n, by omega, nI_add _ _, Or.inl ⟨rfl, by omega⟩, Or.inl ⟨rfl, by omega⟩⟩
      · rw [if_neg hd] at c
        exact ⟨y k - n, by omega, by rw [hD, subI c], Or.inr ⟨hd, by omega⟩, Or.inr ⟨hd, by omega⟩⟩
    have cc : (0 : Int32) ≤ nI (y k) + D ∧ nI (y k) + D ≤ (999 : Int32) := by
      rw [hdv]
      exact ⟨lit_le (a := 0) (by decide) (by omega) (by omega), lit_le (b := 999) (by omega) (by decide) hv⟩
    rw [w1 cc]
    obtain ⟨g', _, eg⟩ := thenI hl hy (b := b) hk hv hdv g
    have gb := goP_bits hl hy hh hn ha hk hv h1 h2
    rw [eg, has8 (by omega) hh]
    simp only [Option.bind_some]
    rw [nI_and]
    have lt : ∀ x : Nat, x &&& h < 2 ^ 31 := fun x => Nat.lt_of_le_of_lt Nat.and_le_right (by omega)
    by_cases t : h.testBit k = true
    · rw [if_pos t, if_neg (by decide)]
      exact ⟨2, g', _, rfl, ⟨fun q => absurd q (by decide), fun q => by rw [t] at q; exact absurd q.1 (by decide)⟩⟩
    · rw [if_neg t, if_pos rfl]
      by_cases z : (goP l y k v).2 &&& h = 0
      · rw [if_pos (show nI ((goP l y k v).2 &&& h) = (0 : Int32) by rw [z]; rfl)]
        exact ⟨0, g', _, rfl, ⟨fun _ => ⟨by simpa using t, c, gb.mp z⟩, fun _ => rfl⟩⟩
      · rw [if_neg (show ¬ nI ((goP l y k v).2 &&& h) = (0 : Int32) from lit_ne (b := 0) (lt _) (by decide) z)]
        exact ⟨2, g', _, rfl, ⟨fun q => absurd q (by decide), fun q => absurd (gb.mpr q.2.2) z⟩⟩
  · have cc : ¬ ((0 : Int32) ≤ nI (y k) + D ∧ nI (y k) + D ≤ (999 : Int32)) := by
      intro q
      unfold c0 at c
      rcases hD with ⟨rfl, rfl⟩ | ⟨hd, hD⟩
      · rw [if_pos rfl] at c
        rw [nI_add] at q
        exact absurd q.2 (lit_nle (b := 999) (by omega) (by decide) (by omega))
      · rw [if_neg hd] at c
        rw [hD] at q
        have q1 := q.1
        rw [i32_le, pk_sub_toInt (by omega) (by omega)] at q1
        have q1' : (0 : Int) ≤ (y k : Int) - (n : Int) := q1
        omega
    rw [w0 cc]
    exact ⟨1, g, b, rfl, ⟨fun q => absurd q (by decide), fun q => absurd q.2.1 c⟩⟩
theorem c0_le {d yk : Nat} (h : yk ≤ 999) : c0 d yk ≤ 999 := by
  unfold c0
  by_cases c : d = 0
  · rw [if_pos c]; omega
  · rw [if_neg c]; exact h
theorem farP_b {d h k : Nat} {y l : Nat → Nat} (hy : ∀ i, y i ≤ 999) : farP d y l h k ≤ 999 := by
  rcases Nat.eq_zero_or_pos (farP d y l h k) with q | q
  · omega
  · exact Nat.le_trans ((farP_le q).mp (Nat.le_refl _)).2.1 (c0_le (hy k))
theorem neg1 {a b : Int32} : (-1 : Int32) * (a - b) = b - a := by
  show (-(1 : Int32)) * (a - b) = b - a
  rw [Int32.neg_mul, Int32.one_mul, Int32.neg_sub]
theorem reach8 {l y : Nat → Nat} (hl : ∀ i, l i ≤ 99) (hy : ∀ i, y i ≤ 999) (ha : ∀ i, i < 9 → adj l y i) {k h d : Nat} (hk : k ≤ 9) (hh : h < 1024) (hd : d ≤ 1) : ∀ (m fuel u : Nat) (g : Nat → Int32) (b : Int32), u + m = farP d y l h k → m < fuel → ∃ g' b', f_X8_reach_24 (nI k) (nI d) (fun i => nI (y i)) (fun i => nI (l i)) (nI h) fuel (nI u) g b = some (nI (farP d y l h k), g', b')
  | _, 0, u, g, b, hm, hf => absurd hf (by omega)
  | m, f + 1, u, g, b, hm, hf => by
    have fb := farP_b (d := d) (h := h) (k := k) (l := l) hy
    have yk := hy k
    rw [f_X8_reach_24]
    have key : ∀ {D : Int32}, ((d = 0 ∧ D = nI (u + 1)) ∨ (¬ d = 0 ∧ nI (y k) + D = nI (y k) - nI (u + 1))) → ∃ g' b', (f_X8_whyNotGo (fun i => nI (y i)) (fun i => nI (l i)) (nI h) g b (nI k) D).bind (fun r8 => if r8.1 = 0 then f_X8_reach_24 (nI k) (nI d) (fun i => nI (y i)) (fun i => nI (l i)) (nI h) f (nI u + (1 : Int32)) r8.2.1 r8.2.2 else some (nI u, r8.2.1, r8.2.2)) = some (nI (farP d y l h k), g', b') := by
      intro D hD
      obtain ⟨w, g', b', e, hw⟩ := why8 hl hy ha hk hh (by omega : 1 ≤ u + 1) (by omega) hD g b
      rw [e]
      simp only [Option.bind_some]
      match m, hm, hf with
      | 0, hm, hf =>
        rw [if_neg (fun q => by have := hw.mp q; omega)]
        exact ⟨g', b', by rw [show u = farP d y l h k by omega]⟩
      | m + 1, hm, hf =>
        rw [if_pos (hw.mpr (by omega)), p1]
        exact reach8 hl hy ha hk hh hd m f (u + 1) g' b' (by omega) (by omega)
    by_cases c : d = 0
    · rw [if_pos (show nI d = 0 by rw [c]; rfl)]
      exact key (Or.inl ⟨c, p1 u⟩)
    · rw [if_neg (show ¬ nI d = 0 from lit_ne (b := 0) (by omega) (by decide) c)]
      refine key (Or.inr ⟨c, ?_⟩)
      rw [Int32.sub_eq_add_neg, ← p1, Int32.sub_eq_add_neg, Int32.neg_add, Int32.sub_eq_add_neg]
/-- the class's own sum -/
theorem thI {d yk yj s l : Nat} (h : d = 0 → yk ≤ yj + (s + l)) (h' : ¬ d = 0 → yj ≤ yk + (s + l)) {U : Int32} (hU : (d = 0 ∧ U = 1) ∨ (¬ d = 0 ∧ U = -1)) : U * (nI yj - nI yk) + (nI s + nI l) = nI (th d yk yj (s + l)) := by
  have aux : ∀ a b c : Nat, b ≤ a + c → nI a - nI b + nI c = nI (a + c - b) := by
    intro a b c hq
    rw [← subI hq, ← nI_add, Int32.sub_eq_add_neg, Int32.sub_eq_add_neg, Int32.add_assoc, Int32.add_comm (-nI b), ← Int32.add_assoc]
  unfold th
  rw [nI_add]
  rcases hU with ⟨hd, rfl⟩ | ⟨hd, rfl⟩
  · rw [if_pos hd, Int32.one_mul, aux _ _ _ (h hd)]
  · rw [if_neg hd, neg1, aux _ _ _ (h' hd)]
/-- those between are never farther than the string -/
def nr (d yk yj s : Nat) : Prop := (d = 0 → yk ≤ yj + s) ∧ (¬ d = 0 → yj ≤ yk + s)
theorem nr_up {d yk s yu yj l : Nat} (h : nr d yk yu s) (h3 : yu ≤ yj + l) (h4 : yj ≤ yu + l) : nr d yk yj (s + l) := ⟨fun c => by have := h.1 c; omega, fun c => by have := h.2 c; omega⟩
theorem th_b {d yk yj s : Nat} (h1 : yk ≤ 999) (h2 : yj ≤ 999) (hs : s ≤ 2000) : th d yk yj s < 2 ^ 31 := by
  unfold th
  by_cases c : d = 0
  · rw [if_pos c]; omega
  · rw [if_neg c]; omega
theorem far_pick {h u c T : Nat} (hu : u < 10) (hh : h < 1024) : (if h.testBit u = true then (1 : Int32) else 0) = 0 ↔ ¬ h.testBit u = true := by
  cases h.testBit u
  · exact ⟨fun _ => by decide, fun _ => rfl⟩
  · exact ⟨fun q => absurd q (by decide), fun q => absurd rfl q⟩
theorem far42 {l y : Nat → Nat} (hl : ∀ i, l i ≤ 99) (hy : ∀ i, y i ≤ 999) (ha : ∀ i, i < 9 → adj l y i) {k h d : Nat} (hk : k ≤ 9) (hh : h < 1024) {U : Int32} (hU : (d = 0 ∧ U = 1) ∨ (¬ d = 0 ∧ U = -1)) {kx} : ∀ (m u fuel c s : Nat), u + m = 9 → m < fuel → c ≤ 999 → s + 99 * m ≤ 891 → nr d (y k) (y u) s → f_X5_farthest_42 (nI k) U (fun i => nI (y i)) (fun i => nI (l i)) (nI h) kx fuel (nI c) (nI s) (nI (u + 1)) = kx (nI (fU d (y k) y l h m u c s))
  | _, _, 0, _, _, _, hf, _, _, _ => absurd hf (by omega)
  | 0, u, n + 1, c, s, hm, hf, hc, hs, hr => by
    rw [f_X5_farthest_42, show (10 : Int32) = nI 10 from rfl, if_pos (lit_le (by decide) (by omega) (by omega))]
    rfl
  | m + 1, u, n + 1, c, s, hm, hf, hc, hs, hr => by
    have a := ha u (by omega)
    have hr' := nr_up hr a.1 a.2
    have ls := hl u
    rw [f_X5_farthest_42, show (10 : Int32) = nI 10 from rfl, if_neg (lit_nle (by decide) (by omega) (by omega)), m1, gI (by omega : u < 9) (by decide), cl (by omega), holdsI (by omega) hh]
    simp only [Option.bind_some]
    unfold fU
    by_cases t : h.testBit (u + 1) = true
    · rw [if_pos t, if_neg (by decide), if_pos t, gI (by omega : u + 1 < 10) (by decide), gI (by omega : k < 10) (by decide), cl (by omega), cl (by omega), thI hr'.1 hr'.2 hU, imin_n (by omega) (th_b (hy _) (hy _) (by omega)), nI_add, p1]
      exact far42 hl hy ha hk hh hU m (u + 1) n _ _ (by omega) (by omega) (Nat.le_trans (Nat.min_le_left _ _) hc) (by omega) hr'
    · rw [if_neg t, if_pos rfl, if_neg t, nI_add, p1]
      exact far42 hl hy ha hk hh hU m (u + 1) n _ _ (by omega) (by omega) hc (by omega) hr'
theorem far110 {l y : Nat → Nat} (hl : ∀ i, l i ≤ 99) (hy : ∀ i, y i ≤ 999) (ha : ∀ i, i < 9 → adj l y i) {k h d : Nat} (hk : k ≤ 9) (hh : h < 1024) {U : Int32} (hU : (d = 0 ∧ U = 1) ∨ (¬ d = 0 ∧ U = -1)) : ∀ (u fuel c s : Nat), u ≤ 9 → u < fuel → c ≤ 999 → s + 99 * u ≤ 891 → nr d (y k) (y u) s → f_X5_farthest_110 (nI k) U (fun i => nI (y i)) (fun i => nI (l i)) (nI h) fuel (nI c) (nI s) (nI u - 1) = some (nI (fD d (y k) y l h u c s))
  | _, 0, _, _, _, hf, _, _, _ => absurd hf (by omega)
  | 0, n + 1, c, s, hm, hf, hc, hs, hr => by
    rw [f_X5_farthest_110, if_pos (by decide)]
    rfl
  | u + 1, n + 1, c, s, hm, hf, hc, hs, hr => by
    have a := ha u (by omega)
    have hr' := nr_up hr a.2 a.1
    have ls := hl u
    rw [m1, f_X5_farthest_110, if_neg (show ¬ nI u < (0 : Int32) from lit_nlt (b := 0) (by omega) (by decide) (by omega)), gI (by omega : u < 9) (by decide), cl (by omega), holdsI (by omega) hh]
    simp only [Option.bind_some]
    rw [show nI u + (-1 : Int32) = nI u - 1 from (Int32.sub_eq_add_neg _ _).symm]
    unfold fD
    by_cases t : h.testBit u = true
    · rw [if_pos t, if_neg (by decide), if_pos t, gJ (by omega : u < 10) (by decide), gI (by omega : k < 10) (by decide), cl (by omega), thI hr'.1 hr'.2 hU, imin_n (by omega) (th_b (hy _) (hy _) (by omega)), nI_add]
      exact far110 hl hy ha hk hh hU u n _ _ (by omega) (by omega) (Nat.le_trans (Nat.min_le_left _ _) hc) (by omega) hr'
    · rw [if_neg t, if_pos rfl, if_neg t, nI_add]
      exact far110 hl hy ha hk hh hU u n _ _ (by omega) (by omega) hc (by omega) hr'
theorem fU_c {d yk h : Nat} {y l : Nat → Nat} {m u c s : Nat} : fU d yk y l h m u c s ≤ c := ((fU_le m u c s).mp (Nat.le_refl _)).1
theorem far7 {l y : Nat → Nat} (hl : ∀ i, l i ≤ 99) (hy : ∀ i, y i ≤ 999) (ha : ∀ i, i < 9 → adj l y i) {k h d : Nat} (hk : k ≤ 9) (hh : h < 1024) {U : Int32} (hU : (d = 0 ∧ U = 1) ∨ (¬ d = 0 ∧ U = -1)) : f_X5_farthest (fun i => nI (y i)) (fun i => nI (l i)) (nI h) (nI k) U = some (nI (farP d y l h k)) := by
  have yk := hy k
  unfold f_X5_farthest farP
  rw [holdsI (by omega) hh]
  simp only [Option.bind_some]
  by_cases t : h.testBit k = true
  · rw [if_pos t, if_neg (by decide), if_pos t]
    rfl
  · rw [if_neg t, if_pos rfl, if_neg t, gI (by omega : k < 10) (by decide), cl (by omega), p1]
    have n0 : nr d (y k) (y k) 0 := ⟨fun _ => by omega, fun _ => by omega⟩
    have fin : ∀ c, c ≤ 999 → f_X5_farthest_42 (nI k) U (fun i => nI (y i)) (fun i => nI (l i)) (nI h) (fun u3_11 => f_X5_farthest_110 (nI k) U (fun i => nI (y i)) (fun i => nI (l i)) (nI h) 2000 u3_11 (nI 0) (nI k - (1 : Int32))) 2000 (nI c) (nI 0) (nI (k + 1)) = some (nI (fD d (y k) y l h k (fU d (y k) y l h (9 - k) k c 0) 0)) := by
      intro c hc
      rw [far42 hl hy ha hk hh hU (9 - k) k 2000 c 0 (by omega) (by omega) hc (by omega) n0]
      exact far110 hl hy ha hk hh hU k 2000 _ 0 hk (by omega) (Nat.le_trans fU_c hc) (by omega) n0
    unfold c0
    rcases hU with ⟨hd, rfl⟩ | ⟨hd, rfl⟩
    · rw [if_neg (show ¬ (1 : Int32) ≤ 0 by decide), gJ (by omega : k < 10) (by decide), if_pos hd, show (999 : Int32) = nI 999 from rfl, subI yk]
      exact fin (999 - y k) (by omega)
    · rw [if_pos (show (-1 : Int32) ≤ 0 by decide), if_neg hd]
      exact fin (y k) yk
set_option maxRecDepth 1000000 in
theorem sim_reach {Y F L P W M tY tF tL iY0 iF0 iL0 iW0 iM0 iY1 iF1 iL1 iW1 iM1 kept isKept : Nat → Int32} {hd wl dy pn sn ih0 iw0 id0 in0 ik0 ih1 iw1 id1 in1 ik1 : Int32} (hI : Inv Y F L P W M tY tF tL iY0 iF0 iL0 iW0 iM0 iY1 iF1 iL1 iW1 iM1 kept isKept hd wl dy pn sn ih0 iw0 id0 in0 ik0 ih1 iw1 id1 in1 ik1) (b_then_ : Nat → Int32) (b_drawnBits : Int32) (u1 : Int32) (u2 : Int32) : ∃ (res : Int32) (b_then_' : Nat → Int32) (b_drawnBits' : Int32), f_X7_reach Y L hd u1 u2 = some res ∧ f_X8_reach Y L hd b_then_ b_drawnBits u1 u2 = some (res, b_then_', b_drawnBits') ∧ Inv Y F L P W M tY tF tL iY0 iF0 iL0 iW0 iM0 iY1 iF1 iL1 iW1 iM1 kept isKept hd wl dy pn sn ih0 iw0 id0 in0 ik0 ih1 iw1 id1 in1 ik1 := by
  have hI' := hI
  obtain ⟨⟨y, f, l, h, w, d, rfl, rfl, rfl, rfl, rfl, rfl, hy, hf, hl1, hl, hh, hw, hd, hz, hz2, ha⟩, _⟩ := hI
  unfold f_X7_reach f_X8_reach
  rw [isW, isW, isC, in_0_1]
  simp only [Option.bind_some]
  by_cases c1 : (0 : Int32) ≤ u1 ∧ u1 ≤ (9 : Int32)
  · by_cases c2 : (0 : Int32) ≤ u2 ∧ u2 ≤ (1 : Int32)
    · obtain ⟨k, _, hk, rfl⟩ := rg (a := 0) (b := 9) (by decide) (by decide) c1
      obtain ⟨e, _, he, rfl⟩ := rg (a := 0) (b := 1) (by decide) (by decide) c2
      simp only [w1 c1, w1 c2]
      obtain ⟨g', b', e8⟩ := reach8 hl hy ha hk hh he (farP e y l h k) 2000 0 b_then_ b_drawnBits (by omega) (by have := farP_b (d := e) (h := h) (k := k) (l := l) hy; omega)
      refine ⟨nI (farP e y l h k), g', b', ?_, e8, hI'⟩
      by_cases c : e = 0
      · rw [if_pos (show nI e = 0 by rw [c]; rfl), far7 hl hy ha hk hh (d := e) (Or.inl ⟨c, rfl⟩)]
        rfl
      · rw [if_neg (show ¬ nI e = 0 from lit_ne (b := 0) (by omega) (by decide) c), far7 hl hy ha hk hh (d := e) (Or.inr ⟨c, rfl⟩)]
        rfl
    · simp only [w1 c1, w0 c2]
      exact ⟨_, _, _, rfl, rfl, hI'⟩
  · simp only [w0 c1]
    exact ⟨_, _, _, rfl, rfl, hI'⟩
