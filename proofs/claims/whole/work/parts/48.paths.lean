/-! ways through a row: from the front, from the end -/
def smx {R : Type} (add : R → R → R) (z : R) (f : Nat → R) : Nat → R
  | 0 => z
  | k + 1 => add (smx add z f k) (f k)
/-- the laws of adding, of a step -/
def Rg {R : Type} (add : R → R → R) (z : R) (sg : R → R) : Prop := (∀ a b, add a b = add b a) ∧ (∀ a b c, add (add a b) c = add a (add b c)) ∧ (∀ a, add z a = a) ∧ (∀ a b, sg (add a b) = add (sg a) (sg b)) ∧ sg z = z
def hh {R : Type} (add : R → R → R) (z o : R) (sg : R → R) (E : Nat → Nat → Bool) (l : Nat → Nat) : Nat → Nat → Nat → R
  | 0, p, e => if p = e then o else z
  | f + 1, p, e => if p = e then o else smx add z (fun i => if p + l i ≤ e ∧ E i p = true then sg (hh add z o sg E l f (p + l i) e) else z) 4
section fb
variable {R : Type} {add : R → R → R} {z o : R} {sg : R → R} {E : Nat → Nat → Bool} {l : Nat → Nat}
theorem smx_congr {f g : Nat → R} : ∀ (k : Nat), (∀ i, i < k → f i = g i) → smx add z f k = smx add z g k
  | 0, _ => rfl
  | k + 1, h => by
    show add (smx add z f k) (f k) = add (smx add z g k) (g k)
    rw [smx_congr k (fun i hi => h i (by omega)), h k (by omega)]
theorem smx_z (hR : Rg add z sg) {f : Nat → R} : ∀ (k : Nat), (∀ i, i < k → f i = z) → smx add z f k = z
  | 0, _ => rfl
  | k + 1, h => by
    show add (smx add z f k) (f k) = z
    rw [smx_z hR k (fun i hi => h i (by omega)), h k (by omega), hR.2.2.1]
theorem smx_add (hR : Rg add z sg) {f g : Nat → R} : ∀ (k : Nat), smx add z (fun i => add (f i) (g i)) k = add (smx add z f k) (smx add z g k)
  | 0 => (hR.2.2.1 z).symm
  | k + 1 => by
    show add (smx add z (fun i => add (f i) (g i)) k) (add (f k) (g k)) = add (add (smx add z f k) (f k)) (add (smx add z g k) (g k))
    have hc := hR.1
    have ha := hR.2.1
    rw [smx_add hR k, ha, ha, ← ha (smx add z g k), hc (smx add z g k) (f k), ha]
theorem smx_swap (hR : Rg add z sg) {X : Nat → Nat → R} (m : Nat) : ∀ (k : Nat), smx add z (fun i => smx add z (fun j => X i j) m) k = smx add z (fun j => smx add z (fun i => X i j) k) m
  | 0 => (smx_z hR m (fun _ _ => rfl)).symm
  | k + 1 => by
    show add (smx add z (fun i => smx add z (fun j => X i j) m) k) (smx add z (fun j => X k j) m) = smx add z (fun j => add (smx add z (fun i => X i j) k) (X k j)) m
    rw [smx_swap hR m k, smx_add hR]
theorem sg_smx (hR : Rg add z sg) {f : Nat → R} : ∀ (k : Nat), sg (smx add z f k) = smx add z (fun i => sg (f i)) k
  | 0 => hR.2.2.2.2
  | k + 1 => by
    show sg (add (smx add z f k) (f k)) = add (smx add z (fun i => sg (f i)) k) (sg (f k))
    rw [hR.2.2.2.1, sg_smx hR k]
theorem hh_ee (f e : Nat) : hh add z o sg E l f e e = o := by
  cases f with
  | zero => unfold hh; rw [if_pos rfl]
  | succ f => unfold hh; rw [if_pos rfl]
theorem hh_f (hR : Rg add z sg) (hl : ∀ i, 1 ≤ l i) : ∀ (f f' p e : Nat), e - p ≤ f → e - p ≤ f' → hh add z o sg E l f p e = hh add z o sg E l f' p e
  | 0, 0, p, e, h, h' => rfl
  | 0, f' + 1, p, e, h, h' => by
    unfold hh
    by_cases c : p = e
    · rw [if_pos c, if_pos c]
    · rw [if_neg c, if_neg c, smx_z hR 4 (fun i _ => if_neg (fun q => by have := hl i; have := q.1; omega))]
  | f + 1, 0, p, e, h, h' => by
    unfold hh
    by_cases c : p = e
    · rw [if_pos c, if_pos c]
    · rw [if_neg c, if_neg c, smx_z hR 4 (fun i _ => if_neg (fun q => by have := hl i; have := q.1; omega))]
  | f + 1, f' + 1, p, e, h, h' => by
    unfold hh
    by_cases c : p = e
    · rw [if_pos c, if_pos c]
    · rw [if_neg c, if_neg c]
      refine smx_congr 4 (fun i _ => ?_)
      have := hl i
      rw [hh_f hR hl f f' (p + l i) e (by omega) (by omega)]
theorem hh_fw (hR : Rg add z sg) (hl : ∀ i, 1 ≤ l i) : ∀ (f p e : Nat), p < e → e - p ≤ f → hh add z o sg E l f p e = smx add z (fun i => if p + l i ≤ e ∧ E i (e - l i) = true then sg (hh add z o sg E l f p (e - l i)) else z) 4
  | 0, p, e, hp, hf => absurd hf (by omega)
  | f + 1, p, e, hp, hf => by
    have addz : ∀ a, add a z = a := fun a => by rw [hR.1, hR.2.2.1]
    have hz := hR.2.2.1
    have L : hh add z o sg E l (f + 1) p e = smx add z (fun j => add (if p + l j = e ∧ E j p = true then sg o else z) (smx add z (fun i => if p + l i + l j ≤ e ∧ E i (e - l i) = true ∧ E j p = true then sg (sg (hh add z o sg E l f (p + l j) (e - l i))) else z) 4)) 4 := by
      rw [hh, if_neg (by omega)]
      refine smx_congr 4 (fun j _ => ?_)
      have lj := hl j
      by_cases c1 : E j p = true
      · by_cases c2 : p + l j ≤ e
        · rw [if_pos ⟨c2, c1⟩]
          by_cases c3 : p + l j = e
          · rw [if_pos ⟨c3, c1⟩, c3, hh_ee, smx_z hR 4 (fun i _ => if_neg (fun q => by have := hl i; have := q.1; omega)), addz]
          · rw [if_neg (fun q => c3 q.1), hz, hh_fw hR hl f (p + l j) e (by omega) (by omega), sg_smx hR]
            refine smx_congr 4 (fun i _ => ?_)
            have li := hl i
            by_cases c4 : p + l i + l j ≤ e ∧ E i (e - l i) = true
            · rw [if_pos ⟨by omega, c4.2⟩, if_pos ⟨c4.1, c4.2, c1⟩]
            · rw [if_neg (fun q => c4 ⟨by omega, q.2⟩), if_neg (fun q => c4 ⟨q.1, q.2.1⟩), hR.2.2.2.2]
        · rw [if_neg (fun q => c2 q.1), if_neg (fun q => c2 (by omega)), hz, smx_z hR 4 (fun i _ => if_neg (fun q => by have := q.1; omega))]
      · rw [if_neg (fun q => c1 q.2), if_neg (fun q => c1 q.2), hz, smx_z hR 4 (fun i _ => if_neg (fun q => c1 q.2.2))]
    have K : smx add z (fun i => if p + l i ≤ e ∧ E i (e - l i) = true then sg (hh add z o sg E l (f + 1) p (e - l i)) else z) 4 = smx add z (fun i => add (if p + l i = e ∧ E i p = true then sg o else z) (smx add z (fun j => if p + l i + l j ≤ e ∧ E i (e - l i) = true ∧ E j p = true then sg (sg (hh add z o sg E l f (p + l j) (e - l i))) else z) 4)) 4 := by
      refine smx_congr 4 (fun i _ => ?_)
      have li := hl i
      by_cases c2 : p + l i ≤ e
      · by_cases c3 : p + l i = e
        · have ep : e - l i = p := by omega
          rw [ep, hh_ee, smx_z hR 4 (fun j _ => if_neg (fun q => by have := hl j; have := q.1; omega)), addz]
          by_cases c1 : E i p = true
          · rw [if_pos ⟨c2, c1⟩, if_pos ⟨c3, c1⟩]
          · rw [if_neg (fun q => c1 q.2), if_neg (fun q => c1 q.2)]
        · rw [if_neg (show ¬ (p + l i = e ∧ E i p = true) from fun q => c3 q.1), hz]
          by_cases c1 : E i (e - l i) = true
          · rw [if_pos ⟨c2, c1⟩, hh, if_neg (by omega), sg_smx hR]
            refine smx_congr 4 (fun j _ => ?_)
            have lj := hl j
            by_cases c4 : p + l i + l j ≤ e ∧ E j p = true
            · rw [if_pos ⟨by omega, c4.2⟩, if_pos ⟨c4.1, c1, c4.2⟩]
            · rw [if_neg (fun q => c4 ⟨by omega, q.2⟩), if_neg (fun q => c4 ⟨q.1, q.2.2⟩), hR.2.2.2.2]
          · rw [if_neg (fun q => c1 q.2), smx_z hR 4 (fun j _ => if_neg (fun q => c1 q.2.1))]
      · rw [if_neg (fun q => c2 q.1), if_neg (fun q => c2 (by omega)), hz, smx_z hR 4 (fun j _ => if_neg (fun q => by have := q.1; omega))]
    rw [L, K, smx_add hR, smx_add hR, smx_swap hR]
theorem hh_bk (hR : Rg add z sg) (hl : ∀ i, 1 ≤ l i) {f p e : Nat} (hp : p < e) (hf : e - p ≤ f) : hh add z o sg E l f p e = smx add z (fun i => if p + l i ≤ e ∧ E i p = true then sg (hh add z o sg E l f (p + l i) e) else z) 4 := by
  obtain ⟨g, rfl⟩ : ∃ g, f = g + 1 := ⟨f - 1, by omega⟩
  rw [hh, if_neg (by omega)]
  refine smx_congr 4 (fun i _ => ?_)
  have li := hl i
  rw [hh_f hR hl g (g + 1) (p + l i) e (by omega) (by omega)]
end fb
/-! how many, how few -/
def cn (E : Nat → Nat → Bool) (l : Nat → Nat) (p e : Nat) : Nat := hh (fun a b => a + b) 0 1 (fun x => x) E l 9 p e
theorem Rg_n : Rg (fun a b : Nat => a + b) 0 (fun x => x) := ⟨Nat.add_comm, Nat.add_assoc, Nat.zero_add, fun _ _ => rfl, rfl⟩
def omin : Option Nat → Option Nat → Option Nat
  | none, b => b
  | some a, none => some a
  | some a, some b => some (min a b)
def osg : Option Nat → Option Nat
  | none => none
  | some a => some (a + 1)
theorem Rg_o : Rg omin none osg := by
  refine ⟨fun a b => ?_, fun a b c => ?_, fun a => rfl, fun a b => ?_, rfl⟩
  · cases a <;> cases b <;> first | rfl | exact congrArg some (Nat.min_comm _ _)
  · cases a <;> cases b <;> cases c <;> first | rfl | exact congrArg some (Nat.min_assoc _ _ _)
  · cases a <;> cases b <;> first | rfl | exact congrArg some (by omega)
def fm (E : Nat → Nat → Bool) (l : Nat → Nat) (p e : Nat) : Option Nat := hh omin none (some 0) osg E l 9 p e
def bd (n : Nat) (x : Option Nat) : Prop := ∀ k, x = some k → k ≤ n
theorem o_ns {k : Nat} {P : Prop} (h : (none : Option Nat) = some k) : P := by cases h
theorem o_sn {k : Nat} {P : Prop} (h : some k = (none : Option Nat)) : P := by cases h
theorem bd_min {n : Nat} {a b : Option Nat} (ha : bd n a) (hb : bd n b) : bd n (omin a b) := by
  intro k hk
  cases a with
  | none => exact hb k hk
  | some x =>
    cases b with
    | none => exact ha k hk
    | some y =>
      have e : min x y = k := Option.some.inj hk
      have := ha x rfl
      omega
theorem bd_sg {n : Nat} {a : Option Nat} (ha : bd n a) : bd (n + 1) (osg a) := by
  intro k hk
  cases a with
  | none => exact o_ns hk
  | some x =>
    have e : x + 1 = k := Option.some.inj hk
    have := ha x rfl
    omega
theorem bd_no {n : Nat} : bd n none := fun k hk => o_ns hk
theorem bd_smx {n : Nat} {f : Nat → Option Nat} (h : ∀ i, bd n (f i)) : ∀ k, bd n (smx omin none f k)
  | 0 => bd_no
  | k + 1 => bd_min (bd_smx h k) (h k)
theorem bd_hh {E : Nat → Nat → Bool} {l : Nat → Nat} : ∀ f p e, bd f (hh omin none (some 0) osg E l f p e)
  | 0, p, e => by
    unfold hh
    by_cases c : p = e
    · rw [if_pos c]; intro k hk; have : 0 = k := Option.some.inj hk; omega
    · rw [if_neg c]; exact bd_no
  | f + 1, p, e => by
    unfold hh
    by_cases c : p = e
    · rw [if_pos c]; intro k hk; have : 0 = k := Option.some.inj hk; omega
    · rw [if_neg c]
      refine bd_smx (fun i => ?_) 4
      by_cases c2 : p + l i ≤ e ∧ E i p = true
      · rw [if_pos c2]; exact bd_sg (bd_hh f _ _)
      · rw [if_neg c2]; exact bd_no
def enc : Option Nat → Int32
  | none => -6
  | some k => nI k
