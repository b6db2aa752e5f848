/-! in how many ways it is read -/
def ln (x : Nat) : Nat := if x ≤ 99 then (if x ≤ 9 then 1 else 2) else 3
theorem ln_b (x : Nat) : 1 ≤ ln x ∧ ln x ≤ 3 := by
  unfold ln
  by_cases c : x ≤ 99
  · rw [if_pos c]
    by_cases d : x ≤ 9
    · rw [if_pos d]; omega
    · rw [if_neg d]; omega
  · rw [if_neg c]; omega
theorem ln_8 {x : Nat} (h : x < 2 ^ 31) : f_X8_digitsOf (nI x) = some (nI (ln x)) := by
  unfold f_X8_digitsOf ln
  rw [show (99 : Int32) = nI 99 from rfl, show (9 : Int32) = nI 9 from rfl]
  by_cases c : x ≤ 99
  · rw [if_pos c, if_pos (lit_le h (by decide) c)]
    by_cases d : x ≤ 9
    · rw [if_pos d, if_pos (lit_le h (by decide) d)]; rfl
    · rw [if_neg d, if_neg (lit_nle h (by decide) d)]; rfl
  · rw [if_neg c, if_neg (lit_nle h (by decide) c)]; rfl
theorem ln_7 {x : Nat} (h : x ≤ 999) : f_X7_digitCount (nI x) = some (nI (ln x)) := by
  obtain ⟨n, n1, n2, n3, n4⟩ := digitCountI (x := x) (by omega)
  have a1 := n3 1 (by decide)
  have a2 := n3 2 (by decide)
  have a3 := n3 3 (by decide)
  rw [show (10 : Nat) ^ 1 = 10 by decide] at a1
  rw [show (10 : Nat) ^ 2 = 100 by decide] at a2
  rw [show (10 : Nat) ^ 3 = 1000 by decide] at a3
  rw [n4]
  have : n = ln x := by
    unfold ln
    by_cases c : x ≤ 99
    · rw [if_pos c]
      by_cases d : x ≤ 9
      · rw [if_pos d]; omega
      · rw [if_neg d]; omega
    · rw [if_neg c]; omega
  rw [this]
theorem ln_p {x : Nat} (h : x ≤ 999) : x % 10 ^ ln x = x := by
  unfold ln
  by_cases c : x ≤ 99
  · rw [if_pos c]
    by_cases d : x ≤ 9
    · rw [if_pos d, show (10 : Nat) ^ 1 = 10 by decide]; omega
    · rw [if_neg d, show (10 : Nat) ^ 2 = 100 by decide]; omega
  · rw [if_neg c, show (10 : Nat) ^ 3 = 1000 by decide]; omega
/-- a number as it stands from p on -/
def vl (D : Nat → Nat) (p : Nat) : Nat → Nat
  | 0 => 0
  | k + 1 => 10 * vl D p k + D (p + k)
def nwF (W : Nat → Nat) (i : Nat) : Nat → Nat → Bool
  | 0, _ => true
  | r + 1, v => if W v = W i then false else nwF W i r (v + 1)
def rE (D W : Nat → Nat) (i p : Nat) : Bool := nwF W i i 0 && decide (vl D p (ln (W i)) = W i)
theorem vl_lt {D : Nat → Nat} (hD : ∀ i, D i ≤ 9) (p : Nat) : ∀ k, vl D p k < 10 ^ k
  | 0 => by
    show 0 < 10 ^ 0
    decide
  | k + 1 => by
    have := vl_lt hD p k
    have := hD (p + k)
    show 10 * vl D p k + D (p + k) < 10 ^ (k + 1)
    rw [Nat.pow_succ]
    omega
theorem vl_mod {D : Nat → Nat} (hD : ∀ i, D i ≤ 9) {p k x : Nat} : vl D p (k + 1) = x % 10 ^ (k + 1) ↔ D (p + k) = x % 10 ∧ vl D p k = x / 10 % 10 ^ k := by
  have e : x % 10 ^ (k + 1) = x % 10 + 10 * (x / 10 % 10 ^ k) := by
    rw [Nat.pow_succ, Nat.mul_comm (10 ^ k) 10, Nat.mod_mul]
  have := hD (p + k)
  show 10 * vl D p k + D (p + k) = _ ↔ _
  rw [e]
  omega
section rd
variable {D W : Nat → Nat} {n : Nat} {dg wd : Nat → Int32}
theorem cmp56 (hD : ∀ i, D i ≤ 9) (hn : n ≤ 9) (hg : ∀ i, i < n → dg i = nI (D i)) {e L p : Nat} (he : e ≤ n) (hp : p + L = e) : ∀ (k x fuel : Nat), p + k ≤ e → x < 2 ^ 31 → k < fuel → f_X4_standsBefore_56 (nI e) (nI L) dg fuel (nI x) (nI (p + k) - 1) = some (if vl D p k = x % 10 ^ k then 1 else 0)
  | _, _, 0, _, _, h => absurd h (by omega)
  | 0, x, f + 1, hk, hx, hf => by
    have q : nI (p + 0) - 1 < nI e - nI L := by
      rw [subI (by omega), i32_lt, show (1 : Int32) = nI 1 from rfl, pk_sub_toInt (by omega) (by decide), nI_toInt (by omega)]
      omega
    rw [f_X4_standsBefore_56, if_pos q, Nat.pow_zero, Nat.mod_one, if_pos (show vl D p 0 = 0 from rfl)]
  | k + 1, x, f + 1, hk, hx, hf => by
    rw [show p + (k + 1) = (p + k) + 1 by omega, m1, f_X4_standsBefore_56, subI (by omega), if_neg (lit_nlt (by omega) (by omega) (by omega)), gI (by omega : p + k < 9) (by decide), cl (by omega), hg (p + k) (by omega), show (10 : Int32) = nI 10 from rfl, remI hx (by decide) (by decide)]
    have dk := hD (p + k)
    by_cases c : D (p + k) = x % 10
    · rw [if_pos (by rw [c]), divI hx (by decide) (by decide), show nI (p + k) + (-1 : Int32) = nI (p + k) - 1 from (Int32.sub_eq_add_neg _ _).symm, cmp56 hD hn hg he hp k (x / 10) f (by omega) (Nat.lt_of_le_of_lt (Nat.div_le_self _ _) hx) (by omega)]
      by_cases d : vl D p k = x / 10 % 10 ^ k
      · rw [if_pos d, if_pos ((vl_mod hD).mpr ⟨c, d⟩)]
      · rw [if_neg d, if_neg (fun q => d ((vl_mod hD).mp q).2)]
    · rw [if_neg (lit_ne (by omega) (by omega) c), if_neg (fun q => c ((vl_mod hD).mp q).1)]
theorem new2 (hW : ∀ i, i < 4 → wd i = nI (W i)) (hw : ∀ i, W i ≤ 999) {i : Nat} (hi : i < 4) {kx : Option Int32} : ∀ (r v fuel : Nat), v + r = i → r < fuel → f_X4_standsBefore_2 (nI i) wd kx fuel (nI v) = if nwF W i r v = true then kx else some 0
  | _, _, 0, _, h => absurd h (by omega)
  | 0, v, f + 1, hv, hf => by
    rw [f_X4_standsBefore_2, if_pos (lit_le (by omega) (by omega) (by omega))]
    rfl
  | r + 1, v, f + 1, hv, hf => by
    have w1 := hw v
    have w2 := hw i
    rw [f_X4_standsBefore_2, if_neg (lit_nle (by omega) (by omega) (by omega)), gI (by omega : v < 4) (by decide), gI hi (by decide), cl (by omega), cl (by omega), hW v (by omega), hW i hi, p1]
    unfold nwF
    by_cases c : W v = W i
    · rw [if_pos (by rw [c]), if_pos c, if_neg (by decide)]
    · rw [if_neg (lit_ne (by omega) (by omega) c), if_neg c]
      exact new2 hW hw hi r (v + 1) f (by omega) (by omega)
theorem stI (hD : ∀ i, D i ≤ 9) (hn : n ≤ 9) (hg : ∀ i, i < n → dg i = nI (D i)) (hW : ∀ i, i < 4 → wd i = nI (W i)) (hw : ∀ i, W i ≤ 999) {i e : Nat} (hi : i < 4) (he : e ≤ n) : f_X4_standsBefore dg wd (nI i) (nI e) = some (if ln (W i) ≤ e ∧ rE D W i (e - ln (W i)) = true then 1 else 0) := by
  have w2 := hw i
  have lb := ln_b (W i)
  unfold f_X4_standsBefore
  have h := new2 hW hw hi (kx := if nI i < 0 ∨ 4 ≤ (nI i).toNatClampNeg then none else (f_X7_digitCount (wd (nI i).toNatClampNeg)).bind (fun r6 => if r6 ≤ nI e then f_X4_standsBefore_56 (nI e) r6 dg 2000 (wd (nI i).toNatClampNeg) (nI e - (1 : Int32)) else some ((0 : Int32)))) i 0 2000 (by omega) (by omega)
  refine Eq.trans h ?_
  unfold rE
  by_cases c : nwF W i i 0 = true
  · rw [if_pos c, gI hi (by decide), cl (by omega), hW i hi, ln_7 (by omega)]
    simp only [Option.bind_some]
    by_cases d : ln (W i) ≤ e
    · rw [if_pos (lit_le (by omega) (by omega) d)]
      have q := cmp56 hD hn hg he (p := e - ln (W i)) (L := ln (W i)) (by omega) (ln (W i)) (W i) 2000 (by omega) (by omega) (by omega)
      rw [show e - ln (W i) + ln (W i) = e by omega] at q
      rw [q, ln_p w2]
      by_cases x : vl D (e - ln (W i)) (ln (W i)) = W i
      · rw [if_pos x, if_pos ⟨d, by rw [c, decide_eq_true x]; rfl⟩]
      · rw [if_neg x, if_neg (fun q => x (by
          have q2 := q.2
          rw [c, Bool.true_and] at q2
          exact of_decide_eq_true q2))]
    · rw [if_neg (lit_nle (by omega) (by omega) d), if_neg (fun q => d q.1)]
  · rw [if_neg c, if_neg (fun q => c (by
      have q2 := q.2
      rw [Bool.and_eq_true] at q2
      exact q2.1))]
/-- a word of length l from p on, its ways -/
abbrev rl (W : Nat → Nat) (i : Nat) : Nat := ln (W i)
theorem rl1 (i : Nat) : 1 ≤ rl W i := (ln_b (W i)).1
def Tc (D W : Nat → Nat) (e i : Nat) : Nat := if 0 + rl W i ≤ e ∧ rE D W i (e - rl W i) = true then cn (rE D W) (rl W) 0 (e - rl W i) else 0
def Tf (D W : Nat → Nat) (e i : Nat) : Option Nat := if 0 + rl W i ≤ e ∧ rE D W i (e - rl W i) = true then osg (fm (rE D W) (rl W) 0 (e - rl W i)) else none
theorem i01 {c : Prop} [Decidable c] : (if c then (1 : Int32) else 0) = 0 ↔ ¬ c := by
  by_cases h : c
  · rw [if_pos h]; exact ⟨fun q => absurd q (by decide), fun q => absurd h q⟩
  · rw [if_neg h]; exact ⟨fun _ => h, fun _ => rfl⟩
theorem cnt23 {kx} (hD : ∀ i, D i ≤ 9) (hn : n ≤ 9) (hg : ∀ i, i < n → dg i = nI (D i)) (hW : ∀ i, i < 4 → wd i = nI (W i)) (hw : ∀ i, W i ≤ 999) {e : Nat} (he : e ≤ n) : ∀ (m i fuel : Nat) (g : Nat → Int32), i + m = 4 → m < fuel → (∀ p, p < e → g p = nI (cn (rE D W) (rl W) 0 p)) → g e = nI (smx (fun a b => a + b) 0 (Tc D W e) i) → ∃ g', (∀ p, p < e → g' p = nI (cn (rE D W) (rl W) 0 p)) ∧ g' e = nI (smx (fun a b => a + b) 0 (Tc D W e) 4) ∧ f_X4_countReadings_23 (nI e) dg wd kx fuel (nI i) g = kx g'
  | _, _, 0, _, _, h, _, _ => absurd h (by omega)
  | 0, i, f + 1, g, hi, hf, h1, h2 => by
    have e4 : i = 4 := by omega
    subst e4
    refine ⟨g, h1, h2, ?_⟩
    rw [f_X4_countReadings_23, show (4 : Int32) = nI 4 from rfl, if_pos (lit_le (by omega) (by omega) (Nat.le_refl 4))]
  | m + 1, i, f + 1, g, hi, hf, h1, h2 => by
    have w2 := hw i
    have lb := ln_b (W i)
    rw [f_X4_countReadings_23, show (4 : Int32) = nI 4 from rfl, if_neg (lit_nle (by omega) (by omega) (by omega)), stI hD hn hg hW hw (by omega) he]
    simp only [Option.bind_some]
    have sm : smx (fun a b => a + b) 0 (Tc D W e) (i + 1) = smx (fun a b => a + b) 0 (Tc D W e) i + Tc D W e i := rfl
    by_cases c : ln (W i) ≤ e ∧ rE D W i (e - ln (W i)) = true
    · rw [if_neg (fun q => (i01.mp q) c), gI (by omega : e < 10) (by decide), gI (by omega : i < 4) (by decide), cl (by omega), cl (by omega), hW i (by omega), ln_7 w2]
      simp only [Option.bind_some]
      rw [subI c.1, gI (by omega : e - ln (W i) < 10) (by decide), cl (by omega), h2, h1 (e - ln (W i)) (by omega), nI_add, p1]
      refine cnt23 hD hn hg hW hw he m (i + 1) f _ (by omega) (by omega) (fun p hp => ?_) ?_
      · rw [upd_at, if_neg (by omega)]; exact h1 p hp
      · rw [upd_at, if_pos rfl, sm]
        unfold Tc
        rw [if_pos ⟨by show 0 + ln (W i) ≤ e; omega, c.2⟩]
    · rw [if_pos (i01.mpr c), p1]
      refine cnt23 hD hn hg hW hw he m (i + 1) f g (by omega) (by omega) h1 ?_
      rw [h2, sm]
      unfold Tc
      rw [if_neg (show ¬ (0 + rl W i ≤ e ∧ rE D W i (e - rl W i) = true) from fun q => c ⟨by have q1 : 0 + ln (W i) ≤ e := q.1; omega, q.2⟩), Nat.add_zero]
theorem cn_e {e : Nat} (h0 : 1 ≤ e) (h9 : e ≤ 9) : cn (rE D W) (rl W) 0 e = smx (fun a b => a + b) 0 (Tc D W e) 4 := by
  unfold cn
  rw [hh_fw Rg_n (fun i => rl1 i) 9 0 e (by omega) (by omega)]
  rfl
theorem fm_e {e : Nat} (h0 : 1 ≤ e) (h9 : e ≤ 9) : fm (rE D W) (rl W) 0 e = smx omin none (Tf D W e) 4 := by
  unfold fm
  rw [hh_fw Rg_o (fun i => rl1 i) 9 0 e (by omega) (by omega)]
  rfl
theorem cnt9 {kx} (hD : ∀ i, D i ≤ 9) (hn : n ≤ 9) (hg : ∀ i, i < n → dg i = nI (D i)) (hW : ∀ i, i < 4 → wd i = nI (W i)) (hw : ∀ i, W i ≤ 999) : ∀ (m e fuel : Nat) (g : Nat → Int32), e + m = n + 1 → 1 ≤ e → m < fuel → (∀ p, p < e → g p = nI (cn (rE D W) (rl W) 0 p)) → ∃ g', (∀ p, p ≤ n → g' p = nI (cn (rE D W) (rl W) 0 p)) ∧ f_X4_countReadings_9 (nI n) dg wd kx fuel (nI e) g = kx g'
  | _, _, 0, _, _, _, h, _ => absurd h (by omega)
  | 0, e, f + 1, g, he, h0, hf, h1 => by
    refine ⟨g, fun p hp => h1 p (by omega), ?_⟩
    rw [f_X4_countReadings_9, if_pos (lit_lt (by omega) (by omega) (by omega))]
  | m + 1, e, f + 1, g, he, h0, hf, h1 => by
    obtain ⟨g1, a1, a2, a3⟩ := cnt23 (kx := fun byEnd_10 => f_X4_countReadings_9 (nI n) dg wd kx f (nI e + (1 : Int32)) byEnd_10) hD hn hg hW hw (e := e) (by omega) 4 0 2000 (upd g e (0 : Int32)) (by omega) (by omega) (fun p hp => by rw [upd_at, if_neg (by omega)]; exact h1 p hp) (by rw [upd_at, if_pos rfl]; rfl)
    obtain ⟨g2, b1, b2⟩ := cnt9 (kx := kx) hD hn hg hW hw m (e + 1) f g1 (by omega) (by omega) (by omega) (fun p hp => by
      by_cases c : p = e
      · rw [c, a2, cn_e h0 (by omega)]
      · exact a1 p (by omega))
    refine ⟨g2, b1, ?_⟩
    rw [f_X4_countReadings_9, if_neg (lit_nlt (by omega) (by omega) (by omega)), gI (by omega : e < 10) (by decide), cl (by omega)]
    refine Eq.trans a3 ?_
    show f_X4_countReadings_9 (nI n) dg wd kx f (nI e + (1 : Int32)) g1 = _
    rw [p1]
    exact b2
theorem enc_n {a : Option Nat} (h : bd 10 a) : enc a = -6 ↔ a = none := by
  cases a with
  | none => exact ⟨fun _ => rfl, fun _ => rfl⟩
  | some k =>
    have := h k rfl
    refine ⟨fun q => ?_, fun q => o_sn q⟩
    have q' : nI k = -6 := q
    have e : (nI k).toInt = (-6 : Int32).toInt := by rw [q']
    rw [nI_toInt (by omega)] at e
    have e' : (k : Int) = -6 := e
    omega
theorem enc_l {a : Option Nat} (h : bd 10 a) : enc a < 0 ↔ a = none := by
  cases a with
  | none => exact ⟨fun _ => rfl, fun _ => by decide⟩
  | some k =>
    have := h k rfl
    refine ⟨fun q => absurd q ?_, fun q => o_sn q⟩
    exact lit_nlt (b := 0) (by omega) (by decide) (by omega)
theorem bd_fm {E : Nat → Nat → Bool} {l : Nat → Nat} {p e : Nat} : bd 9 (fm E l p e) := bd_hh 9 p e
theorem bd_10 {a : Option Nat} (h : bd 9 a) : bd 10 a := fun k hk => Nat.le_succ_of_le (h k hk)
theorem bd_Tf {e : Nat} (i : Nat) : bd 10 (Tf D W e i) := by
  unfold Tf
  by_cases c : 0 + rl W i ≤ e ∧ rE D W i (e - rl W i) = true
  · rw [if_pos c]; exact bd_sg bd_fm
  · rw [if_neg c]; exact bd_no
theorem few24 {kx} (hD : ∀ i, D i ≤ 9) (hn : n ≤ 9) (hg : ∀ i, i < n → dg i = nI (D i)) (hW : ∀ i, i < 4 → wd i = nI (W i)) (hw : ∀ i, W i ≤ 999) {e : Nat} (he : e ≤ n) : ∀ (m i fuel : Nat) (g : Nat → Int32), i + m = 4 → m < fuel → (∀ p, p < e → g p = enc (fm (rE D W) (rl W) 0 p)) → g e = enc (smx omin none (Tf D W e) i) → ∃ g', (∀ p, p < e → g' p = enc (fm (rE D W) (rl W) 0 p)) ∧ g' e = enc (smx omin none (Tf D W e) 4) ∧ f_X4_fewestWords_24 (nI e) dg wd kx fuel (nI i) g = kx g'
  | _, _, 0, _, _, h, _, _ => absurd h (by omega)
  | 0, i, f + 1, g, hi, hf, h1, h2 => by
    have e4 : i = 4 := by omega
    subst e4
    refine ⟨g, h1, h2, ?_⟩
    rw [f_X4_fewestWords_24, show (4 : Int32) = nI 4 from rfl, if_pos (lit_le (by omega) (by omega) (Nat.le_refl 4))]
  | m + 1, i, f + 1, g, hi, hf, h1, h2 => by
    have w2 := hw i
    have lb := ln_b (W i)
    rw [f_X4_fewestWords_24, show (4 : Int32) = nI 4 from rfl, if_neg (lit_nle (by omega) (by omega) (by omega)), stI hD hn hg hW hw (by omega) he]
    simp only [Option.bind_some]
    have sm : smx omin none (Tf D W e) (i + 1) = omin (smx omin none (Tf D W e) i) (Tf D W e i) := rfl
    have fin : ∀ g' : Nat → Int32, (∀ p, p < e → g' p = enc (fm (rE D W) (rl W) 0 p)) → g' e = enc (smx omin none (Tf D W e) (i + 1)) → ∃ g'', (∀ p, p < e → g'' p = enc (fm (rE D W) (rl W) 0 p)) ∧ g'' e = enc (smx omin none (Tf D W e) 4) ∧ f_X4_fewestWords_24 (nI e) dg wd kx f (nI (i + 1)) g' = kx g'' := fun g' q1 q2 => few24 hD hn hg hW hw he m (i + 1) f g' (by omega) (by omega) q1 q2
    by_cases c : ln (W i) ≤ e ∧ rE D W i (e - ln (W i)) = true
    · have eT : Tf D W e i = osg (fm (rE D W) (rl W) 0 (e - ln (W i))) := by
        unfold Tf
        rw [if_pos ⟨by show 0 + ln (W i) ≤ e; omega, c.2⟩]
      have hA := bd_smx (f := Tf D W e) (n := 10) bd_Tf i
      have hB := bd_fm (E := rE D W) (l := rl W) (p := 0) (e := e - ln (W i))
      rw [if_neg (fun q => (i01.mp q) c), gI (by omega : i < 4) (by decide), cl (by omega), hW i (by omega), ln_7 w2]
      simp only [Option.bind_some]
      rw [subI c.1, gI (by omega : e - ln (W i) < 10) (by decide), cl (by omega), h1 (e - ln (W i)) (by omega), p1]
      rw [sm, eT] at fin
      have put : ∀ v : Int32, v = enc (omin (smx omin none (Tf D W e) i) (osg (fm (rE D W) (rl W) 0 (e - ln (W i))))) → ∃ g'', (∀ p, p < e → g'' p = enc (fm (rE D W) (rl W) 0 p)) ∧ g'' e = enc (smx omin none (Tf D W e) 4) ∧ f_X4_fewestWords_24 (nI e) dg wd kx f (nI (i + 1)) (upd g e v) = kx g'' := fun v hv => fin _ (fun p hp => by rw [upd_at, if_neg (by omega)]; exact h1 p hp) (by rw [upd_at, if_pos rfl]; exact hv)
      generalize smx omin none (Tf D W e) i = a at hA fin put h2
      generalize fm (rE D W) (rl W) 0 (e - ln (W i)) = b at hB fin put ⊢
      cases b with
      | none =>
        rw [if_pos (show enc none = -6 from rfl)]
        exact fin g h1 (by rw [h2]; cases a <;> rfl)
      | some k =>
        have k9 := hB k rfl
        rw [if_neg (fun q => o_sn ((enc_n (bd_10 hB)).mp q)), gI (by omega : e < 10) (by decide), cl (by omega), h2]
        cases a with
        | none =>
          rw [if_pos (show enc none = -6 from rfl)]
          exact put _ (by show nI k + 1 = nI (k + 1); rw [p1])
        | some j =>
          have j9 := hA j rfl
          rw [if_neg (fun q => o_sn ((enc_n hA).mp q))]
          show ∃ g'', _ ∧ _ ∧ (if nI j ≤ nI k + 1 then _ else _) = _
          rw [p1]
          by_cases d : j ≤ k + 1
          · rw [if_pos (lit_le (by omega) (by omega) d)]
            exact fin g h1 (by rw [h2]; show nI j = nI (min j (k + 1)); rw [Nat.min_eq_left d])
          · rw [if_neg (lit_nle (by omega) (by omega) d)]
            exact put _ (by show nI k + 1 = nI (min j (k + 1)); rw [p1, Nat.min_eq_right (by omega)])
    · have eT : Tf D W e i = none := by
        unfold Tf
        rw [if_neg (show ¬ (0 + rl W i ≤ e ∧ rE D W i (e - rl W i) = true) from fun q => c ⟨by have q1 : 0 + ln (W i) ≤ e := q.1; omega, q.2⟩)]
      rw [if_pos (i01.mpr c), p1]
      refine fin g h1 ?_
      rw [h2, sm, eT]
      generalize smx omin none (Tf D W e) i = a
      cases a <;> rfl
theorem few9 {kx} (hD : ∀ i, D i ≤ 9) (hn : n ≤ 9) (hg : ∀ i, i < n → dg i = nI (D i)) (hW : ∀ i, i < 4 → wd i = nI (W i)) (hw : ∀ i, W i ≤ 999) : ∀ (m e fuel : Nat) (g : Nat → Int32), e + m = n + 1 → 1 ≤ e → m < fuel → (∀ p, p < e → g p = enc (fm (rE D W) (rl W) 0 p)) → ∃ g', (∀ p, p ≤ n → g' p = enc (fm (rE D W) (rl W) 0 p)) ∧ f_X4_fewestWords_9 (nI n) dg wd kx fuel (nI e) g = kx g'
  | _, _, 0, _, _, _, h, _ => absurd h (by omega)
  | 0, e, f + 1, g, he, h0, hf, h1 => by
    refine ⟨g, fun p hp => h1 p (by omega), ?_⟩
    rw [f_X4_fewestWords_9, if_pos (lit_lt (by omega) (by omega) (by omega))]
  | m + 1, e, f + 1, g, he, h0, hf, h1 => by
    obtain ⟨g1, a1, a2, a3⟩ := few24 (kx := fun byEnd_13 => f_X4_fewestWords_9 (nI n) dg wd kx f (nI e + (1 : Int32)) byEnd_13) hD hn hg hW hw (e := e) (by omega) 4 0 2000 (upd g e (-6 : Int32)) (by omega) (by omega) (fun p hp => by rw [upd_at, if_neg (by omega)]; exact h1 p hp) (by rw [upd_at, if_pos rfl]; rfl)
    obtain ⟨g2, b1, b2⟩ := few9 (kx := kx) hD hn hg hW hw m (e + 1) f g1 (by omega) (by omega) (by omega) (fun p hp => by
      by_cases c : p = e
      · rw [c, a2, fm_e h0 (by omega)]
      · exact a1 p (by omega))
    refine ⟨g2, b1, ?_⟩
    rw [f_X4_fewestWords_9, if_neg (lit_nlt (by omega) (by omega) (by omega)), gI (by omega : e < 10) (by decide), cl (by omega)]
    refine Eq.trans a3 ?_
    show f_X4_fewestWords_9 (nI n) dg wd kx f (nI e + (1 : Int32)) g1 = _
    rw [p1]
    exact b2
/-! the other, from the end -/
theorem anew4 (hW : ∀ i, i < 4 → wd i = nI (W i)) (hw : ∀ i, W i ≤ 999) {i : Nat} (hi : i < 4) : ∀ (r v fuel : Nat) (b : Bool), v + r = i → r < fuel → f_X8_isAnew_4 (nI i) wd fuel (if b = true then 1 else 0) (nI v) = some (if (b && nwF W i r v) = true then 1 else 0)
  | _, _, 0, _, _, h => absurd h (by omega)
  | 0, v, f + 1, b, hv, hf => by
    rw [f_X8_isAnew_4, if_pos (lit_le (by omega) (by omega) (by omega))]
    cases b <;> rfl
  | r + 1, v, f + 1, b, hv, hf => by
    have w1 := hw v
    have w2 := hw i
    rw [f_X8_isAnew_4, if_neg (lit_nle (by omega) (by omega) (by omega)), p1]
    cases b with
    | false =>
      rw [if_pos (show (if false = true then (1 : Int32) else 0) = 0 from rfl)]
      have := anew4 hW hw hi r (v + 1) f false (by omega) (by omega)
      rw [Bool.false_and] at this ⊢
      exact this
    | true =>
      rw [if_neg (by decide), gI (by omega : v < 4) (by decide), gI hi (by decide), cl (by omega), cl (by omega), hW v (by omega), hW i hi]
      unfold nwF
      by_cases c : W v = W i
      · rw [if_pos (by rw [c]), if_pos c]
        have := anew4 hW hw hi r (v + 1) f false (by omega) (by omega)
        rw [Bool.false_and] at this
        exact this
      · rw [if_neg (lit_ne (by omega) (by omega) c), if_neg c]
        exact anew4 hW hw hi r (v + 1) f true (by omega) (by omega)
theorem anewI (hW : ∀ i, i < 4 → wd i = nI (W i)) (hw : ∀ i, W i ≤ 999) {i : Nat} (hi : i < 4) : f_X8_isAnew wd (nI i) = some (if nwF W i i 0 = true then 1 else 0) := by
  unfold f_X8_isAnew
  have := anew4 hW hw hi i 0 2000 true (by omega) (by omega)
  rw [Bool.true_and] at this
  exact this
theorem val22 {kx} (hn : n ≤ 9) (hg : ∀ i, i < n → dg i = nI (D i)) {p L : Nat} (hp : p + L ≤ n) : ∀ (m k fuel : Nat), k + m = L → m < fuel → f_X8_isWord_22 (nI p) (nI L) dg kx fuel (nI (vl D p k)) (nI (p + k)) = kx (nI (vl D p L))
  | _, _, 0, _, h => absurd h (by omega)
  | 0, k, f + 1, hk, hf => by
    have e : k = L := by omega
    subst e
    rw [f_X8_isWord_22, nI_add, if_pos (lit_le (by omega) (by omega) (Nat.le_refl _))]
  | m + 1, k, f + 1, hk, hf => by
    rw [f_X8_isWord_22, nI_add, if_neg (lit_nle (by omega) (by omega) (by omega)), gI (by omega : p + k < 9) (by decide), cl (by omega), hg (p + k) (by omega), show (10 : Int32) = nI 10 from rfl, mulI, nI_add, p1]
    exact val22 hn hg hp m (k + 1) f (by omega) (by omega)
theorem wordI (hD : ∀ i, D i ≤ 9) (hn : n ≤ 9) (hg : ∀ i, i < n → dg i = nI (D i)) {x p : Nat} (hx : x ≤ 999) (hp : p ≤ n) : f_X8_isWord dg (nI x) (nI p) (nI n) = some (if p + ln x ≤ n ∧ vl D p (ln x) = x then 1 else 0) := by
  have lb := ln_b x
  unfold f_X8_isWord
  rw [ln_8 (by omega)]
  simp only [Option.bind_some]
  rw [nI_add]
  by_cases c : p + ln x ≤ n
  · rw [if_pos (lit_le (by omega) (by omega) c)]
    have h := val22 (kx := fun u5_5 => if u5_5 = nI x then some ((1 : Int32)) else some ((0 : Int32))) hn hg c (ln x) 0 2000 (by omega) (by omega)
    refine Eq.trans h ?_
    have v := vl_lt hD p (ln x)
    have v2 : vl D p (ln x) < 1000 := Nat.lt_of_lt_of_le v (Nat.pow_le_pow_right (n := 10) (by decide) lb.2)
    show (if nI (vl D p (ln x)) = nI x then some (1 : Int32) else some 0) = _
    by_cases d : vl D p (ln x) = x
    · rw [if_pos (by rw [d]), if_pos ⟨c, d⟩]
    · rw [if_neg (lit_ne (by omega) (by omega) d), if_neg (fun q => d q.2)]
  · rw [if_neg (lit_nle (by omega) (by omega) c), if_neg (fun q => c q.1)]
def Uc (D W : Nat → Nat) (n p i : Nat) : Nat := if p + rl W i ≤ n ∧ rE D W i p = true then cn (rE D W) (rl W) (p + rl W i) n else 0
def Uf (D W : Nat → Nat) (n p i : Nat) : Option Nat := if p + rl W i ≤ n ∧ rE D W i p = true then osg (fm (rE D W) (rl W) (p + rl W i) n) else none
theorem bd_Uf {p : Nat} (i : Nat) : bd 10 (Uf D W n p i) := by
  unfold Uf
  by_cases c : p + rl W i ≤ n ∧ rE D W i p = true
  · rw [if_pos c]; exact bd_sg bd_fm
  · rw [if_neg c]; exact bd_no
theorem cn_p {p : Nat} (h0 : p < n) (h9 : n ≤ 9) : cn (rE D W) (rl W) p n = smx (fun a b => a + b) 0 (Uc D W n p) 4 := by
  unfold cn
  rw [hh_bk Rg_n (fun i => rl1 i) h0 (by omega)]
  rfl
theorem fm_p {p : Nat} (h0 : p < n) (h9 : n ≤ 9) : fm (rE D W) (rl W) p n = smx omin none (Uf D W n p) 4 := by
  unfold fm
  rw [hh_bk Rg_o (fun i => rl1 i) h0 (by omega)]
  rfl
def Rd (D W : Nat → Nat) (n p : Nat) (g h : Nat → Int32) : Prop := ∀ q, p ≤ q → q ≤ n → g q = nI (cn (rE D W) (rl W) q n) ∧ h q = enc (fm (rE D W) (rl W) q n)
theorem rd17 (hD : ∀ i, D i ≤ 9) (hn : n ≤ 9) (hg : ∀ i, i < n → dg i = nI (D i)) (hW : ∀ i, i < 4 → wd i = nI (W i)) (hw : ∀ i, W i ≤ 999) {p : Nat} (hp : p < n) : ∀ (m i fuel : Nat) (g h : Nat → Int32), i + m = 4 → m < fuel → Rd D W n (p + 1) g h → g p = nI (smx (fun a b => a + b) 0 (Uc D W n p) i) → h p = enc (smx omin none (Uf D W n p) i) → ∃ g' h', Rd D W n p g' h' ∧ f_X8_readFrom_17 (nI p) (nI n) wd dg fuel (nI i) g h = some (g', h')
  | _, _, 0, _, _, _, h, _, _, _ => absurd h (by omega)
  | 0, i, f + 1, g, h, hi, hf, h1, h2, h3 => by
    have e4 : i = 4 := by omega
    subst e4
    refine ⟨g, h, fun q q1 q2 => ?_, ?_⟩
    · by_cases c : q = p
      · subst c
        exact ⟨by rw [h2, cn_p hp hn], by rw [h3, fm_p hp hn]⟩
      · exact h1 q (by omega) q2
    · rw [f_X8_readFrom_17, show (4 : Int32) = nI 4 from rfl, if_pos (lit_le (by omega) (by omega) (Nat.le_refl 4))]
  | m + 1, i, f + 1, g, h, hi, hf, h1, h2, h3 => by
    have w2 := hw i
    have lb := ln_b (W i)
    have sc : smx (fun a b => a + b) 0 (Uc D W n p) (i + 1) = smx (fun a b => a + b) 0 (Uc D W n p) i + Uc D W n p i := rfl
    have sf : smx omin none (Uf D W n p) (i + 1) = omin (smx omin none (Uf D W n p) i) (Uf D W n p i) := rfl
    have fin : ∀ g' h' : Nat → Int32, Rd D W n (p + 1) g' h' → g' p = nI (smx (fun a b => a + b) 0 (Uc D W n p) (i + 1)) → h' p = enc (smx omin none (Uf D W n p) (i + 1)) → ∃ g'' h'', Rd D W n p g'' h'' ∧ f_X8_readFrom_17 (nI p) (nI n) wd dg f (nI (i + 1)) g' h' = some (g'', h'') := fun g' h' q1 q2 q3 => rd17 hD hn hg hW hw hp m (i + 1) f g' h' (by omega) (by omega) q1 q2 q3
    rw [f_X8_readFrom_17, show (4 : Int32) = nI 4 from rfl, if_neg (lit_nle (by omega) (by omega) (by omega)), anewI hW hw (by omega), p1]
    simp only [Option.bind_some]
    have skip : ¬ (p + rl W i ≤ n ∧ rE D W i p = true) → ∃ g'' h'', Rd D W n p g'' h'' ∧ f_X8_readFrom_17 (nI p) (nI n) wd dg f (nI (i + 1)) g h = some (g'', h'') := by
      intro q
      have e1 : Uc D W n p i = 0 := by unfold Uc; rw [if_neg q]
      have e2 : Uf D W n p i = none := by unfold Uf; rw [if_neg q]
      refine fin g h h1 (by rw [h2, sc, e1, Nat.add_zero]) ?_
      rw [h3, sf, e2]
      generalize smx omin none (Uf D W n p) i = a
      cases a <;> rfl
    by_cases c : nwF W i i 0 = true
    · rw [if_neg (fun q => (i01.mp q) c), gI (by omega : i < 4) (by decide), cl (by omega), hW i (by omega), wordI hD hn hg w2 (by omega)]
      simp only [Option.bind_some]
      by_cases d : p + ln (W i) ≤ n ∧ vl D p (ln (W i)) = W i
      · have ok : p + rl W i ≤ n ∧ rE D W i p = true := ⟨d.1, by unfold rE; rw [c, decide_eq_true d.2]; rfl⟩
        rw [if_neg (fun q => (i01.mp q) d), ln_8 (by omega)]
        simp only [Option.bind_some]
        have e1 : Uc D W n p i = cn (rE D W) (rl W) (p + ln (W i)) n := by unfold Uc; rw [if_pos ok]
        have e2 : Uf D W n p i = osg (fm (rE D W) (rl W) (p + ln (W i)) n) := by unfold Uf; rw [if_pos ok]
        obtain ⟨k1, k2⟩ := h1 (p + ln (W i)) (by omega) d.1
        have hA := bd_smx (f := Uf D W n p) (n := 10) bd_Uf i
        have hB := bd_fm (E := rE D W) (l := rl W) (p := p + ln (W i)) (e := n)
        rw [gI (by omega : p < 10) (by decide), nI_add, gI (by have := d.1; omega : p + ln (W i) < 10) (by decide), cl (by omega), cl (by have := d.1; omega), k1, k2, h2, h3, nI_add]
        rw [sc, e1, sf, e2] at fin
        have put : ∀ v : Int32, v = enc (omin (smx omin none (Uf D W n p) i) (osg (fm (rE D W) (rl W) (p + ln (W i)) n))) → ∃ g'' h'', Rd D W n p g'' h'' ∧ f_X8_readFrom_17 (nI p) (nI n) wd dg f (nI (i + 1)) (upd g p (nI (smx (fun a b => a + b) 0 (Uc D W n p) i + cn (rE D W) (rl W) (p + ln (W i)) n))) (upd h p v) = some (g'', h'') := fun v hv => fin _ _ (fun q q1 q2 => by
          rw [upd_at, upd_at, if_neg (by omega), if_neg (by omega)]
          exact h1 q q1 q2) (by rw [upd_at, if_pos rfl]) (by rw [upd_at, if_pos rfl]; exact hv)
        generalize smx omin none (Uf D W n p) i = a at hA put ⊢
        generalize fm (rE D W) (rl W) (p + ln (W i)) n = b at hB put ⊢
        cases b with
        | none =>
          rw [if_pos ((enc_l (bd_10 hB)).mpr rfl)]
          exact put _ (by cases a <;> rfl)
        | some k =>
          have k9 := hB k rfl
          rw [if_neg (fun q => o_sn ((enc_l (bd_10 hB)).mp q))]
          cases a with
          | none =>
            rw [if_pos ((enc_l hA).mpr rfl)]
            exact put _ (by show nI k + 1 = nI (k + 1); rw [p1])
          | some j =>
            have j9 := hA j rfl
            rw [if_neg (fun q => o_sn ((enc_l hA).mp q))]
            by_cases x : j ≤ k + 1
            · rw [if_pos (show enc (some j) ≤ enc (some k) + 1 by show nI j ≤ nI k + 1; rw [p1]; exact lit_le (by omega) (by omega) x)]
              exact put _ (by show nI j = nI (min j (k + 1)); rw [Nat.min_eq_left x])
            · rw [if_neg (show ¬ enc (some j) ≤ enc (some k) + 1 by show ¬ nI j ≤ nI k + 1; rw [p1]; exact lit_nle (by omega) (by omega) x)]
              exact put _ (by show nI k + 1 = nI (min j (k + 1)); rw [p1, Nat.min_eq_right (by omega)])
      · rw [if_pos (i01.mpr d)]
        refine skip (fun q => d ⟨q.1, ?_⟩)
        have q2 := q.2
        unfold rE at q2
        rw [c, Bool.true_and] at q2
        exact of_decide_eq_true q2
    · rw [if_pos (i01.mpr c)]
      refine skip (fun q => c ?_)
      have q2 := q.2
      unfold rE at q2
      rw [Bool.and_eq_true] at q2
      exact q2.1
theorem rd175 {kx} (hD : ∀ i, D i ≤ 9) (hn : n ≤ 9) (hg : ∀ i, i < n → dg i = nI (D i)) (hW : ∀ i, i < 4 → wd i = nI (W i)) (hw : ∀ i, W i ≤ 999) : ∀ (p fuel : Nat) (g h : Nat → Int32), p ≤ n → p < fuel → Rd D W n p g h → ∃ g' h', Rd D W n 0 g' h' ∧ f_X8_read_175 (nI n) wd dg kx fuel (nI p - 1) g h = kx g' h'
  | _, 0, _, _, _, h, _ => absurd h (by omega)
  | 0, f + 1, g, h, hp, hf, h1 => by
    refine ⟨g, h, h1, ?_⟩
    rw [f_X8_read_175, if_pos (by decide)]
  | p + 1, f + 1, g, h, hp, hf, h1 => by
    obtain ⟨g1, k1, a1, a2⟩ := rd17 hD hn hg hW hw (p := p) (by omega) 4 0 2000 (upd g p (0 : Int32)) (upd h p (-6 : Int32)) (by omega) (by omega) (fun q q1 q2 => by
      rw [upd_at, upd_at, if_neg (by omega), if_neg (by omega)]
      exact h1 q q1 q2) (by rw [upd_at, if_pos rfl]; rfl) (by rw [upd_at, if_pos rfl]; rfl)
    rw [m1, f_X8_read_175, if_neg (show ¬ nI p < (0 : Int32) from lit_nlt (b := 0) (by omega) (by decide) (by omega))]
    unfold f_X8_readFrom
    rw [gI (by omega : p < 10) (by decide), cl (by omega), show f_X8_readFrom_17 (nI p) (nI n) wd dg 2000 (0 : Int32) (upd g p (0 : Int32)) (upd h p (-6 : Int32)) = some (g1, k1) from a2]
    simp only [Option.bind_some]
    rw [show nI p + (-1 : Int32) = nI p - 1 from (Int32.sub_eq_add_neg _ _).symm]
    exact rd175 hD hn hg hW hw p f g1 k1 (by omega) (by omega) a1
end rd
theorem dig123 {kx} : ∀ (m x fb : Nat) (db : Nat → Int32), m ≤ 9 → x < 2 ^ 31 → m < fb → ∃ (db' : Nat → Int32), (∀ i, i < m → db' i = nI (x / 10 ^ (m - 1 - i) % 10)) ∧ (∀ i, m ≤ i → db' i = db i) ∧ f_X8_read_123 kx fb (nI x) (nI m - 1) db = kx db'
  | _, _, 0, _, _, _, h => absurd h (by omega)
  | 0, x, fb + 1, db, hm, hx, hb => by
    refine ⟨db, fun i hi => absurd hi (by omega), fun i _ => rfl, ?_⟩
    rw [f_X8_read_123, if_pos (by decide)]
  | m + 1, x, fb + 1, db, hm, hx, hb => by
    have hx' : x / 10 < 2 ^ 31 := Nat.lt_of_le_of_lt (Nat.div_le_self _ _) hx
    obtain ⟨db', h3, h4, h6⟩ := dig123 (kx := kx) m (x / 10) fb (upd db m (nI (x % 10))) (by omega) hx' (by omega)
    refine ⟨db', fun i hi => ?_, fun i hi => ?_, ?_⟩
    · by_cases c : i = m
      · subst c
        rw [h4 i (Nat.le_refl _), upd_at, if_pos rfl, show i + 1 - 1 - i = 0 by omega, Nat.pow_zero, Nat.div_one]
      · rw [h3 i (by omega), Nat.div_div_eq_div_mul, show m + 1 - 1 - i = (m - 1 - i) + 1 by omega, Nat.pow_succ, Nat.mul_comm]
    · rw [h4 i (by omega), upd_at, if_neg (by omega)]
    · rw [m1, f_X8_read_123, if_neg (show ¬ nI m < (0 : Int32) from lit_nlt (b := 0) (by omega) (by decide) (by omega)), gI (by omega : m < 9) (by decide), cl (by omega), show (10 : Int32) = nI 10 from rfl, divI hx (by decide) (by decide), show nI x - nI (x / 10) * nI 10 = nI (x % 10) by rw [← divI hx (by decide) (by decide)]; exact remI hx (by decide) (by decide), show nI m + (-1 : Int32) = nI m - 1 from (Int32.sub_eq_add_neg _ _).symm, h6]
theorem rd95 {kx} : ∀ (r c x fuel : Nat), x < 10 ^ r → x < 2 ^ 31 → r + c ≤ 9 → r < fuel → ∃ n, c + 1 ≤ n ∧ n ≤ c + 1 + r ∧ (∀ q, c + 1 ≤ q → (n ≤ q ↔ x / 10 ^ (q - (c + 1)) = 0)) ∧ f_X8_read_95 kx fuel (nI (c + 1)) (nI x) = kx (nI n)
  | _, _, _, 0, _, _, _, h => absurd h (by omega)
  | 0, c, x, f + 1, hx, hx2, hc, hf => by
    have x0 : x = 0 := by rw [Nat.pow_zero] at hx; omega
    subst x0
    refine ⟨c + 1, Nat.le_refl _, by omega, fun q hq => ⟨fun _ => Nat.zero_div _, fun _ => hq⟩, ?_⟩
    rw [f_X8_read_95, if_pos (show nI 0 ≤ (0 : Int32) by decide)]
  | r + 1, c, x, f + 1, hx, hx2, hc, hf => by
    rw [f_X8_read_95]
    by_cases x0 : x = 0
    · subst x0
      refine ⟨c + 1, Nat.le_refl _, by omega, fun q hq => ⟨fun _ => Nat.zero_div _, fun _ => hq⟩, ?_⟩
      rw [if_pos (show nI 0 ≤ (0 : Int32) by decide)]
    · rw [if_neg (show ¬ nI x ≤ (0 : Int32) from lit_nle (b := 0) hx2 (by decide) (by omega)), show (10 : Int32) = nI 10 from rfl, divI hx2 (by decide) (by decide), p1]
      have hd : x / 10 < 10 ^ r := by rw [Nat.pow_succ] at hx; omega
      obtain ⟨n, n1, n2, n3, n4⟩ := rd95 (kx := kx) r (c + 1) (x / 10) f hd (Nat.lt_of_le_of_lt (Nat.div_le_self _ _) hx2) (by omega) (by omega)
      refine ⟨n, by omega, by omega, fun q hq => ?_, n4⟩
      by_cases e : q = c + 1
      · subst e
        rw [Nat.sub_self, Nat.pow_zero, Nat.div_one]
        exact ⟨fun h => absurd h (by omega), fun h => absurd h x0⟩
      · rw [n3 q (by omega), Nat.div_div_eq_div_mul, show q - (c + 1) = (q - (c + 1 + 1)) + 1 by omega, Nat.pow_succ, Nat.mul_comm 10]
/-- both ask for as many digits -/
theorem digs {x : Nat} (hx : x ≤ 999999999) : ∃ n, 1 ≤ n ∧ n ≤ 9 ∧ f_X7_digitCount (nI x) = some (nI n) ∧ ∀ kx, f_X8_read_95 kx 2000 (1 : Int32) (nI x / (10 : Int32)) = kx (nI n) := by
  obtain ⟨n, n1, n2, n3, n4⟩ := digitCountI (x := x) (by omega)
  have h9 : x / 10 < 10 ^ 9 := by
    have : (10 : Nat) ^ 9 = 1000000000 := by decide
    rw [this]; omega
  have n9 : n ≤ 9 := (n3 9 (by decide)).mpr (by
    rw [show (10 : Nat) ^ 9 = 1000000000 by decide]; omega)
  refine ⟨n, n1, n9, n4, fun kx => ?_⟩
  obtain ⟨k, k1, k2, k3, k4⟩ := rd95 (kx := kx) 9 0 (x / 10) 2000 h9 (by omega) (by decide) (by decide)
  have same : ∀ q, 1 ≤ q → (k ≤ q ↔ n ≤ q) := by
    intro q hq
    rw [k3 q (by omega), n3 q hq, Nat.div_div_eq_div_mul, show q = (q - 1) + 1 by omega, Nat.pow_succ, Nat.mul_comm 10]
    rfl
  have e : k = n := by
    have a := (same k (by omega)).mp (Nat.le_refl _)
    have b := (same n n1).mpr (Nat.le_refl _)
    omega
  rw [show (10 : Int32) = nI 10 from rfl, divI (by omega) (by decide) (by decide)]
  rw [e] at k4
  exact k4
theorem isAW (v : Int32) : f_X8_isAWord v = some (if (1 : Int32) ≤ v ∧ v ≤ (999 : Int32) then 1 else 0) := by
  unfold f_X8_isAWord
  rw [in_1_999]
  exact if_pos b01
def w4 (a b c d i : Nat) : Nat := if i = 0 then a else if i = 1 then b else if i = 2 then c else if i = 3 then d else 0
theorem w4_le {a b c d : Nat} (ha : a ≤ 999) (hb : b ≤ 999) (hc : c ≤ 999) (hd : d ≤ 999) (i : Nat) : w4 a b c d i ≤ 999 := by
  unfold w4
  by_cases c0 : i = 0
  · rw [if_pos c0]; exact ha
  rw [if_neg c0]
  by_cases c1 : i = 1
  · rw [if_pos c1]; exact hb
  rw [if_neg c1]
  by_cases c2 : i = 2
  · rw [if_pos c2]; exact hc
  rw [if_neg c2]
  by_cases c3 : i = 3
  · rw [if_pos c3]; exact hd
  rw [if_neg c3]; omega
theorem w4_at {a b c d : Nat} {f : Nat → Int32} (i : Nat) (hi : i < 4) : upd (upd (upd (upd f (0 : Int32).toNatClampNeg (nI a)) (1 : Int32).toNatClampNeg (nI b)) (2 : Int32).toNatClampNeg (nI c)) (3 : Int32).toNatClampNeg (nI d) i = nI (w4 a b c d i) := by
  match i, hi with
  | 0, _ => rfl
  | 1, _ => rfl
  | 2, _ => rfl
  | 3, _ => rfl
  | n + 4, h => exact absurd h (by omega)
theorem read7 {D W : Nat → Nat} {n : Nat} {dg wd be : Nat → Int32} (hD : ∀ i, D i ≤ 9) (hn : n ≤ 9) (hg : ∀ i, i < n → dg i = nI (D i)) (hW : ∀ i, i < 4 → wd i = nI (W i)) (hw : ∀ i, W i ≤ 999) : (∃ be', f_X4_countReadings dg wd be (nI n) = some (nI (cn (rE D W) (rl W) 0 n), be')) ∧ ∃ be', f_X4_fewestWords dg wd be (nI n) = some (enc (fm (rE D W) (rl W) 0 n), be') := by
  constructor
  · unfold f_X4_countReadings
    obtain ⟨g, h1, h2⟩ := cnt9 (kx := fun byEnd_11 => if nI n < 0 ∨ 10 ≤ (nI n).toNatClampNeg then none else some ((byEnd_11 (nI n).toNatClampNeg), byEnd_11)) hD hn hg hW hw n 1 2000 (upd be (0 : Int32).toNatClampNeg (1 : Int32)) (by omega) (by decide) (by omega) (fun p hp => by
      have e : p = 0 := by omega
      subst e
      unfold cn
      rw [hh_ee]
      rfl)
    refine ⟨g, Eq.trans h2 ?_⟩
    show (if nI n < 0 ∨ 10 ≤ (nI n).toNatClampNeg then none else some ((g (nI n).toNatClampNeg), g)) = _
    rw [gI (by omega : n < 10) (by decide), cl (by omega), h1 n (Nat.le_refl _)]
  · unfold f_X4_fewestWords
    obtain ⟨g, h1, h2⟩ := few9 (kx := fun byEnd_14 => if nI n < 0 ∨ 10 ≤ (nI n).toNatClampNeg then none else some ((byEnd_14 (nI n).toNatClampNeg), byEnd_14)) hD hn hg hW hw n 1 2000 (upd be (0 : Int32).toNatClampNeg (0 : Int32)) (by omega) (by decide) (by omega) (fun p hp => by
      have e : p = 0 := by omega
      subst e
      unfold fm
      rw [hh_ee]
      rfl)
    refine ⟨g, Eq.trans h2 ?_⟩
    show (if nI n < 0 ∨ 10 ≤ (nI n).toNatClampNeg then none else some ((g (nI n).toNatClampNeg), g)) = _
    rw [gI (by omega : n < 10) (by decide), cl (by omega), h1 n (Nat.le_refl _)]
set_option maxRecDepth 1000000 in
theorem sim_read {Y F L P W M tY tF tL iY0 iF0 iL0 iW0 iM0 iY1 iF1 iL1 iW1 iM1 kept isKept : Nat → Int32} {hd wl dy pn sn ih0 iw0 id0 in0 ik0 ih1 iw1 id1 in1 ik1 : Int32} (hI : Inv Y F L P W M tY tF tL iY0 iF0 iL0 iW0 iM0 iY1 iF1 iL1 iW1 iM1 kept isKept hd wl dy pn sn ih0 iw0 id0 in0 ik0 ih1 iw1 id1 in1 ik1) (a_puzzles_digits : Nat → Int32) (a_puzzles_words : Nat → Int32) (a_puzzles_byEnd : Nat → Int32) (b_words : Nat → Int32) (b_signs : Nat → Int32) (b_readings : Nat → Int32) (b_fewest : Nat → Int32) (u1 : Int32) (u2 : Int32) (u3 : Int32) (u4 : Int32) (u5 : Int32) (u6 : Int32) : ∃ (res : Int32) (a_puzzles_digits' : Nat → Int32) (a_puzzles_words' : Nat → Int32) (a_puzzles_byEnd' : Nat → Int32) (b_words' : Nat → Int32) (b_signs' : Nat → Int32) (b_readings' : Nat → Int32) (b_fewest' : Nat → Int32), f_X7_read a_puzzles_digits a_puzzles_words a_puzzles_byEnd u1 u2 u3 u4 u5 u6 = some (res, a_puzzles_digits', a_puzzles_words', a_puzzles_byEnd') ∧ f_X8_read b_words b_signs b_readings b_fewest u1 u2 u3 u4 u5 u6 = some (res, b_words', b_signs', b_readings', b_fewest') ∧ Inv Y F L P W M tY tF tL iY0 iF0 iL0 iW0 iM0 iY1 iF1 iL1 iW1 iM1 kept isKept hd wl dy pn sn ih0 iw0 id0 in0 ik0 ih1 iw1 id1 in1 ik1 := by
  unfold f_X7_read f_X8_read
  simp only [isW, isAW, in_0_999999999, in_0_1, Option.bind_some]
  by_cases c1 : (1 : Int32) ≤ u1 ∧ u1 ≤ (999 : Int32)
  · by_cases c2 : (1 : Int32) ≤ u2 ∧ u2 ≤ (999 : Int32)
    · by_cases c3 : (1 : Int32) ≤ u3 ∧ u3 ≤ (999 : Int32)
      · by_cases c4 : (1 : Int32) ≤ u4 ∧ u4 ≤ (999 : Int32)
        · by_cases c5 : (0 : Int32) ≤ u5 ∧ u5 ≤ (999999999 : Int32)
          · by_cases c6 : (0 : Int32) ≤ u6 ∧ u6 ≤ (1 : Int32)
            · simp only [w1 c1, w1 c2, w1 c3, w1 c4, w1 c5, w1 c6]
              obtain ⟨a, _, ha, rfl⟩ := rg (a := 1) (b := 999) (by decide) (by decide) c1
              obtain ⟨b, _, hb, rfl⟩ := rg (a := 1) (b := 999) (by decide) (by decide) c2
              obtain ⟨c, _, hc, rfl⟩ := rg (a := 1) (b := 999) (by decide) (by decide) c3
              obtain ⟨d, _, hd, rfl⟩ := rg (a := 1) (b := 999) (by decide) (by decide) c4
              obtain ⟨x, _, hx, rfl⟩ := rg (a := 0) (b := 999999999) (by decide) (by decide) c5
              obtain ⟨v, _, hv, rfl⟩ := rg (a := 0) (b := 1) (by decide) (by decide) c6
              obtain ⟨n, n1, n9, e7, e8⟩ := digs hx
              obtain ⟨D, da, _, hD, hd1, hd2, _, e9, _⟩ := digI (u := nI n) (kx := fun _ _ => none) n x 2000 2000 a_puzzles_digits b_words n9 (by omega) (by omega) (by omega)
              have hw := w4_le ha hb hc hd
              have hW7 := w4_at (a := a) (b := b) (c := c) (d := d) (f := a_puzzles_words)
              have hW8 := w4_at (a := a) (b := b) (c := c) (d := d) (f := b_words)
              unfold f_X4_takeWords f_X4_takeDigits
              rw [e7, e8]
              simp only [Option.bind_some]
              rw [show (9 : Int32) = nI 9 from rfl, imin_n (by omega) (by decide), Nat.min_eq_left n9, e9]
              simp only [Option.bind_some]
              obtain ⟨r1, r2⟩ := read7 (be := a_puzzles_byEnd) hD n9 (fun i hi => (hd2 i hi).1) hW7 hw
              obtain ⟨sg', s1, _, s3⟩ := dig123 (kx := fun signs_17 => if nI n < 0 ∨ 10 ≤ (nI n).toNatClampNeg then none else f_X8_read_175 (nI n) (upd (upd (upd (upd b_words (0 : Int32).toNatClampNeg (nI a)) (1 : Int32).toNatClampNeg (nI b)) (2 : Int32).toNatClampNeg (nI c)) (3 : Int32).toNatClampNeg (nI d)) signs_17 (fun readings_21 fewest_22 => if nI v = 0 then some ((readings_21 (0 : Int32).toNatClampNeg), (upd (upd (upd (upd b_words (0 : Int32).toNatClampNeg (nI a)) (1 : Int32).toNatClampNeg (nI b)) (2 : Int32).toNatClampNeg (nI c)) (3 : Int32).toNatClampNeg (nI d)), signs_17, readings_21, fewest_22) else some ((fewest_22 (0 : Int32).toNatClampNeg), (upd (upd (upd (upd b_words (0 : Int32).toNatClampNeg (nI a)) (1 : Int32).toNatClampNeg (nI b)) (2 : Int32).toNatClampNeg (nI c)) (3 : Int32).toNatClampNeg (nI d)), signs_17, readings_21, fewest_22)) 2000 (nI n - (1 : Int32)) (upd b_readings (nI n).toNatClampNeg (1 : Int32)) (upd b_fewest (nI n).toNatClampNeg (0 : Int32))) n x 2000 b_signs n9 (by omega) (by omega)
              have hs : ∀ i, i < n → sg' i = nI (D i) := fun i hi => by rw [s1 i hi, hd1 i hi]
              rw [s3]
              simp only [gI (show n < 10 by omega) (by decide), cl (show n < 2 ^ 31 by omega)]
              obtain ⟨rd', fw', q1, q2⟩ := rd175 (kx := fun readings_21 fewest_22 => if nI v = 0 then some ((readings_21 (0 : Int32).toNatClampNeg), (upd (upd (upd (upd b_words (0 : Int32).toNatClampNeg (nI a)) (1 : Int32).toNatClampNeg (nI b)) (2 : Int32).toNatClampNeg (nI c)) (3 : Int32).toNatClampNeg (nI d)), sg', readings_21, fewest_22) else some ((fewest_22 (0 : Int32).toNatClampNeg), (upd (upd (upd (upd b_words (0 : Int32).toNatClampNeg (nI a)) (1 : Int32).toNatClampNeg (nI b)) (2 : Int32).toNatClampNeg (nI c)) (3 : Int32).toNatClampNeg (nI d)), sg', readings_21, fewest_22)) hD n9 hs hW8 hw n 2000 (upd b_readings n (1 : Int32)) (upd b_fewest n (0 : Int32)) (Nat.le_refl _) (by omega) (fun q q1 q2 => by
                have e : q = n := by omega
                subst e
                rw [upd_at, upd_at, if_pos rfl, if_pos rfl]
                unfold cn fm
                rw [hh_ee, hh_ee]
                exact ⟨rfl, rfl⟩)
              have z := q1 0 (Nat.le_refl _) (Nat.zero_le _)
              rw [q2]
              by_cases v0 : v = 0
              · subst v0
                obtain ⟨be', r1⟩ := r1
                rw [if_pos (show nI 0 = (0 : Int32) from rfl), if_pos (show nI 0 = (0 : Int32) from rfl), r1]
                simp only [Option.bind_some]
                rw [show (0 : Int32).toNatClampNeg = 0 from rfl, z.1, gJ (show n < 10 by omega) (by decide)]
                exact ⟨_, _, _, _, _, _, _, _, rfl, rfl, hI⟩
              · obtain ⟨be', r2⟩ := r2
                have nv : ¬ nI v = (0 : Int32) := lit_ne (b := 0) (by omega) (by decide) v0
                rw [if_neg nv, if_neg nv, r2]
                simp only [Option.bind_some]
                rw [show (0 : Int32).toNatClampNeg = 0 from rfl, z.2, gJ (show n < 10 by omega) (by decide)]
                exact ⟨_, _, _, _, _, _, _, _, rfl, rfl, hI⟩
            · simp only [w1 c1, w1 c2, w1 c3, w1 c4, w1 c5, w0 c6]
              exact ⟨_, _, _, _, _, _, _, _, rfl, rfl, hI⟩
          · simp only [w1 c1, w1 c2, w1 c3, w1 c4, w0 c5]
            exact ⟨_, _, _, _, _, _, _, _, rfl, rfl, hI⟩
        · simp only [w1 c1, w1 c2, w1 c3, w0 c4]
          exact ⟨_, _, _, _, _, _, _, _, rfl, rfl, hI⟩
      · simp only [w1 c1, w1 c2, w0 c3]
        exact ⟨_, _, _, _, _, _, _, _, rfl, rfl, hI⟩
    · simp only [w1 c1, w0 c2]
      exact ⟨_, _, _, _, _, _, _, _, rfl, rfl, hI⟩
  · simp only [w0 c1]
    exact ⟨_, _, _, _, _, _, _, _, rfl, rfl, hI⟩
