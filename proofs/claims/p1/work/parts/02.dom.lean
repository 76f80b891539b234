/-! The abstract values: (kind, number, low, high). 0: an int between low and high; 1: a long; 2: the int that is argument 'number' of the script; 3: the same as a long; 4: the cell 'number' of the world; 5: null; 6: the script; 7: the sign of argument 'number' less 'low'; 8: anything. -/
abbrev abV : Type := Nat × Nat × Int × Int
def abI (lo hi : Int) : abV := (0, 0, lo, hi)
def abL (lo hi : Int) : abV := (1, 0, lo, hi)
def abT (k : Nat) : abV := (2, k, 0, 0)
def abU (k : Nat) : abV := (3, k, 0, 0)
def abR (j : Nat) : abV := (4, j, 0, 0)
def abN : abV := (5, 0, 0, 0)
def abS (n : Int) : abV := (6, 0, n, n)
def abZ (k : Nat) (lo : Int) : abV := (7, k, lo, lo)
def abJ : abV := (8, 0, 0, 0)
def abSg (m n : Int) : Int := if m < n then -1 else if m = n then 0 else 1
abbrev abE : Type := List (Int × Int)
def abG (ws : va_W) (sb sl : Nat) (rh : Nat → Int) (v : abV) (x : Value) : Prop :=
  match v.1 with
  | 0 => ∃ y : Int32, x = .int y ∧ v.2.2.1 ≤ y.toInt ∧ y.toInt ≤ v.2.2.2
  | 1 => ∃ y : Int64, x = .long y ∧ v.2.2.1 ≤ y.toInt ∧ y.toInt ≤ v.2.2.2
  | 2 => ∃ y : Int32, x = .int y ∧ y.toInt = rh v.2.1
  | 3 => ∃ y : Int64, x = .long y ∧ y.toInt = rh v.2.1
  | 4 => ∃ (a : Nat) (e : va_E), ws[v.2.1]? = some (a, e) ∧ x = .ref a
  | 5 => x = .null
  | 6 => x = .ref sb ∧ v.2.2.1 = (sl : Int)
  | 7 => ∃ y : Int32, x = .int y ∧ y.toInt = abSg (rh v.2.1) v.2.2.1
  | _ => True
/-- the world keeps its addresses -/
def abX (w0 w1 : va_W) : Prop := ∀ (j a : Nat) (e : va_E), w0[j]? = some (a, e) → ∃ e' : va_E, w1[j]? = some (a, e')
theorem abX.rf (w : va_W) : abX w w := fun _ _ e h => ⟨e, h⟩
theorem abX.tr {w0 w1 w2 : va_W} (h1 : abX w0 w1) (h2 : abX w1 w2) : abX w0 w2 := fun j a e h => by
  obtain ⟨e', h'⟩ := h1 j a e h
  exact h2 j a e' h'
theorem abX.set {w : va_W} {q0 a : Nat} {e0 e1 : va_E} (h : w[q0]? = some (a, e0)) : abX w (w.set q0 (a, e1)) := by
  intro j b e hj
  by_cases hq : q0 = j
  · subst hq
    rw [h] at hj
    cases hj
    exact ⟨e1, by rw [List.getElem?_set_self (List.getElem?_eq_some_iff.mp h).1]⟩
  · exact ⟨e, by rw [List.getElem?_set_ne hq]; exact hj⟩
theorem abX.app (w x : va_W) : abX w (w ++ x) := by
  intro j a e h
  exact ⟨e, by rw [List.getElem?_append_left (List.getElem?_eq_some_iff.mp h).1]; exact h⟩
theorem abG.mono {w0 w1 : va_W} {sb sl : Nat} {rh : Nat → Int} {v : abV} {x : Value} (hx : abX w0 w1) (h : abG w0 sb sl rh v x) : abG w1 sb sl rh v x := by
  obtain ⟨t, k, lo, hi⟩ := v
  match t, h with
  | 0, h => exact h
  | 1, h => exact h
  | 2, h => exact h
  | 3, h => exact h
  | 4, h =>
    obtain ⟨a, e, h1, h2⟩ := h
    obtain ⟨e', h'⟩ := hx _ _ _ h1
    exact ⟨a, e', h', h2⟩
  | 5, h => exact h
  | 6, h => exact h
  | 7, h => exact h
  | _ + 8, _ => trivial
def abEok (rh : Nat → Int) (env : abE) : Prop := ∀ (k : Nat) (q : Int × Int), env[k]? = some q → q.1 ≤ rh k ∧ rh k ≤ q.2
def abIv (env : abE) (v : abV) : Option (Int × Int) := match v.1 with
  | 0 => some v.2.2
  | 2 => env[v.2.1]?
  | _ => none
def abLv (env : abE) (v : abV) : Option (Int × Int) := match v.1 with
  | 1 => some v.2.2
  | 3 => env[v.2.1]?
  | _ => none
def abRf (v : abV) : Option Nat := match v.1 with
  | 4 => some v.2.1
  | _ => none
theorem abIv_ok {ws : va_W} {sb sl : Nat} {rh : Nat → Int} {env : abE} {v : abV} {x : Value} {q : Int × Int} (he : abEok rh env) (h : abIv env v = some q) (g : abG ws sb sl rh v x) : ∃ y : Int32, x = .int y ∧ q.1 ≤ y.toInt ∧ y.toInt ≤ q.2 := by
  obtain ⟨t, k, lo, hi⟩ := v
  match t, h, g with
  | 0, h, g => cases h; exact g
  | 2, h, g =>
    obtain ⟨y, hy, hr⟩ := g
    have := he k q h
    exact ⟨y, hy, by rw [hr]; exact this.1, by rw [hr]; exact this.2⟩
  | 1, h, _ => cases h
  | 3, h, _ => cases h
  | 4, h, _ => cases h
  | 5, h, _ => cases h
  | 6, h, _ => cases h
  | 7, h, _ => cases h
  | _ + 8, h, _ => cases h
theorem abLv_ok {ws : va_W} {sb sl : Nat} {rh : Nat → Int} {env : abE} {v : abV} {x : Value} {q : Int × Int} (he : abEok rh env) (h : abLv env v = some q) (g : abG ws sb sl rh v x) : ∃ y : Int64, x = .long y ∧ q.1 ≤ y.toInt ∧ y.toInt ≤ q.2 := by
  obtain ⟨t, k, lo, hi⟩ := v
  match t, h, g with
  | 1, h, g => cases h; exact g
  | 3, h, g =>
    obtain ⟨y, hy, hr⟩ := g
    have := he k q h
    exact ⟨y, hy, by rw [hr]; exact this.1, by rw [hr]; exact this.2⟩
  | 0, h, _ => cases h
  | 2, h, _ => cases h
  | 4, h, _ => cases h
  | 5, h, _ => cases h
  | 6, h, _ => cases h
  | 7, h, _ => cases h
  | _ + 8, h, _ => cases h
theorem abRf_ok {ws : va_W} {sb sl : Nat} {rh : Nat → Int} {v : abV} {x : Value} {j : Nat} (h : abRf v = some j) (g : abG ws sb sl rh v x) : ∃ (a : Nat) (e : va_E), ws[j]? = some (a, e) ∧ x = .ref a := by
  obtain ⟨t, k, lo, hi⟩ := v
  match t, h, g with
  | 4, h, g => cases h; exact g
  | 0, h, _ => cases h
  | 1, h, _ => cases h
  | 2, h, _ => cases h
  | 3, h, _ => cases h
  | 5, h, _ => cases h
  | 6, h, _ => cases h
  | 7, h, _ => cases h
  | _ + 8, h, _ => cases h
/-- the category of a value, where it is known -/
def abCat (v : abV) : Nat := match v.1 with
  | 0 => 1
  | 1 => 2
  | 2 => 1
  | 3 => 2
  | 4 => 1
  | 5 => 1
  | 6 => 1
  | 7 => 1
  | _ => 0
theorem abCat_ok {ws : va_W} {sb sl : Nat} {rh : Nat → Int} {v : abV} {x : Value} {n : Nat} (h : abCat v = n + 1) (g : abG ws sb sl rh v x) : x.category = n + 1 := by
  obtain ⟨t, k, lo, hi⟩ := v
  match t, h, g with
  | 0, h, g => obtain ⟨y, rfl, -⟩ := g; exact h
  | 1, h, g => obtain ⟨y, rfl, -⟩ := g; exact h
  | 2, h, g => obtain ⟨y, rfl, -⟩ := g; exact h
  | 3, h, g => obtain ⟨y, rfl, -⟩ := g; exact h
  | 4, h, g => obtain ⟨y, e, -, rfl⟩ := g; exact h
  | 5, h, g => cases g; exact h
  | 6, h, g => obtain ⟨rfl, -⟩ := g; exact h
  | 7, h, g => obtain ⟨y, rfl, -⟩ := g; exact h
  | _ + 8, h, _ => cases h
/-! trees: a leaf stands for all that would lie below it; the lowest bit first -/
def abGet {al : Type} : Nat → Lean.RArray al → Nat → al
  | _, .leaf x, _ => x
  | 0, .branch _ l _, i => abGet 0 l i
  | d + 1, .branch _ l r, i => if i % 2 = 0 then abGet d l (i / 2) else abGet d r (i / 2)
def abSet {al : Type} : Nat → Lean.RArray al → Nat → al → Lean.RArray al
  | 0, _, _, v => .leaf v
  | d + 1, .leaf x, i, v => if i % 2 = 0 then .branch 0 (abSet d (.leaf x) (i / 2) v) (.leaf x) else .branch 0 (.leaf x) (abSet d (.leaf x) (i / 2) v)
  | d + 1, .branch _ l r, i, v => if i % 2 = 0 then .branch 0 (abSet d l (i / 2) v) r else .branch 0 l (abSet d r (i / 2) v)
theorem abGet_leaf {al : Type} (d : Nat) (x : al) (i : Nat) : abGet d (.leaf x) i = x := by
  cases d <;> rfl
theorem abHalf {i j n : Nat} (hi : i < 2 ^ (n + 1)) : i / 2 < 2 ^ n := by
  rw [Nat.pow_succ] at hi
  omega
theorem abGet_set {al : Type} : ∀ (d : Nat) (t : Lean.RArray al) (i j : Nat) (v : al), i < 2 ^ d → j < 2 ^ d → abGet d (abSet d t i v) j = if i = j then v else abGet d t j
  | 0, t, i, j, v, hi, hj => by
    have h1 : i = j := by simp at hi hj; omega
    rw [if_pos h1]
    exact abGet_leaf 0 v j
  | d + 1, .leaf x, i, j, v, hi, hj => by
    have h1 := abHalf (j := 0) hi
    have h2 := abHalf (j := 0) hj
    have ih := abGet_set d (.leaf x) (i / 2) (j / 2) v h1 h2
    rw [abGet_leaf] at ih
    by_cases hp : i % 2 = 0
    · rw [show abSet (d + 1) (.leaf x) i v = .branch 0 (abSet d (.leaf x) (i / 2) v) (.leaf x) from if_pos hp]
      by_cases hq : j % 2 = 0
      · rw [show abGet (d + 1) (.branch 0 (abSet d (.leaf x) (i / 2) v) (.leaf x)) j = abGet d (abSet d (.leaf x) (i / 2) v) (j / 2) from if_pos hq, ih, abGet_leaf]
        by_cases hz : i / 2 = j / 2
        · rw [if_pos hz, if_pos (by omega)]
        · rw [if_neg hz, if_neg (by omega)]
      · rw [show abGet (d + 1) (.branch 0 (abSet d (.leaf x) (i / 2) v) (.leaf x)) j = abGet d (.leaf x) (j / 2) from if_neg hq, abGet_leaf, abGet_leaf, if_neg (by omega)]
    · rw [show abSet (d + 1) (.leaf x) i v = .branch 0 (.leaf x) (abSet d (.leaf x) (i / 2) v) from if_neg hp]
      by_cases hq : j % 2 = 0
      · rw [show abGet (d + 1) (.branch 0 (.leaf x) (abSet d (.leaf x) (i / 2) v)) j = abGet d (.leaf x) (j / 2) from if_pos hq, abGet_leaf, abGet_leaf, if_neg (by omega)]
      · rw [show abGet (d + 1) (.branch 0 (.leaf x) (abSet d (.leaf x) (i / 2) v)) j = abGet d (abSet d (.leaf x) (i / 2) v) (j / 2) from if_neg hq, ih, abGet_leaf]
        by_cases hz : i / 2 = j / 2
        · rw [if_pos hz, if_pos (by omega)]
        · rw [if_neg hz, if_neg (by omega)]
  | d + 1, .branch p l r, i, j, v, hi, hj => by
    have h1 := abHalf (j := 0) hi
    have h2 := abHalf (j := 0) hj
    by_cases hp : i % 2 = 0
    · have ih := abGet_set d l (i / 2) (j / 2) v h1 h2
      rw [show abSet (d + 1) (.branch p l r) i v = .branch 0 (abSet d l (i / 2) v) r from if_pos hp]
      by_cases hq : j % 2 = 0
      · rw [show abGet (d + 1) (.branch 0 (abSet d l (i / 2) v) r) j = abGet d (abSet d l (i / 2) v) (j / 2) from if_pos hq, ih, show abGet (d + 1) (.branch p l r) j = abGet d l (j / 2) from if_pos hq]
        by_cases hz : i / 2 = j / 2
        · rw [if_pos hz, if_pos (by omega)]
        · rw [if_neg hz, if_neg (by omega)]
      · rw [show abGet (d + 1) (.branch 0 (abSet d l (i / 2) v) r) j = abGet d r (j / 2) from if_neg hq, show abGet (d + 1) (.branch p l r) j = abGet d r (j / 2) from if_neg hq, if_neg (by omega)]
    · have ih := abGet_set d r (i / 2) (j / 2) v h1 h2
      rw [show abSet (d + 1) (.branch p l r) i v = .branch 0 l (abSet d r (i / 2) v) from if_neg hp]
      by_cases hq : j % 2 = 0
      · rw [show abGet (d + 1) (.branch 0 l (abSet d r (i / 2) v)) j = abGet d l (j / 2) from if_pos hq, show abGet (d + 1) (.branch p l r) j = abGet d l (j / 2) from if_pos hq, if_neg (by omega)]
      · rw [show abGet (d + 1) (.branch 0 l (abSet d r (i / 2) v)) j = abGet d (abSet d r (i / 2) v) (j / 2) from if_neg hq, ih, show abGet (d + 1) (.branch p l r) j = abGet d r (j / 2) from if_neg hq]
        by_cases hz : i / 2 = j / 2
        · rw [if_pos hz, if_pos (by omega)]
        · rw [if_neg hz, if_neg (by omega)]
/-- the depth that a row of n needs -/
def abD (n : Nat) : Nat := Nat.log2 n + 1
theorem abD_lt {i n : Nat} (h : i < n) : i < 2 ^ abD n := Nat.lt_trans h Nat.lt_log2_self
/-! arithmetic -/
def abBI (lo hi : Int) : abV := if (-2147483648 : Int) ≤ lo ∧ hi ≤ 2147483647 then abI lo hi else abI (-2147483648) 2147483647
def abBL (lo hi : Int) : abV := if (-9223372036854775808 : Int) ≤ lo ∧ hi ≤ 9223372036854775807 then abL lo hi else abL (-9223372036854775808) 9223372036854775807
theorem abTopI {ws : va_W} {sb sl : Nat} {rh : Nat → Int} (y : Int32) : abG ws sb sl rh (abI (-2147483648) 2147483647) (.int y) := by
  have h1 := Int32.toInt_lt y
  have h2 := Int32.le_toInt y
  exact ⟨y, rfl, by show (-2147483648 : Int) ≤ _; omega, by show _ ≤ (2147483647 : Int); omega⟩
theorem abTopL {ws : va_W} {sb sl : Nat} {rh : Nat → Int} (y : Int64) : abG ws sb sl rh (abL (-9223372036854775808) 9223372036854775807) (.long y) := by
  have h1 := Int64.toInt_lt y
  have h2 := Int64.le_toInt y
  exact ⟨y, rfl, by show (-9223372036854775808 : Int) ≤ _; omega, by show _ ≤ (9223372036854775807 : Int); omega⟩
theorem abBI_ok {ws : va_W} {sb sl : Nat} {rh : Nat → Int} {y : Int32} {t lo hi : Int} (h : y.toInt = t.bmod (2 ^ 32)) (h1 : lo ≤ t) (h2 : t ≤ hi) : abG ws sb sl rh (abBI lo hi) (.int y) := by
  unfold abBI
  by_cases hc : (-2147483648 : Int) ≤ lo ∧ hi ≤ 2147483647
  · rw [if_pos hc]
    have e : t.bmod (2 ^ 32) = t := Int.bmod_eq_of_le (by omega) (by omega)
    rw [e] at h
    exact ⟨y, rfl, by show lo ≤ _; omega, by show _ ≤ hi; omega⟩
  · rw [if_neg hc]
    exact abTopI y
theorem abBL_ok {ws : va_W} {sb sl : Nat} {rh : Nat → Int} {y : Int64} {t lo hi : Int} (h : y.toInt = t.bmod (2 ^ 64)) (h1 : lo ≤ t) (h2 : t ≤ hi) : abG ws sb sl rh (abBL lo hi) (.long y) := by
  unfold abBL
  by_cases hc : (-9223372036854775808 : Int) ≤ lo ∧ hi ≤ 9223372036854775807
  · rw [if_pos hc]
    have e : t.bmod (2 ^ 64) = t := Int.bmod_eq_of_le (by omega) (by omega)
    rw [e] at h
    exact ⟨y, rfl, by show lo ≤ _; omega, by show _ ≤ hi; omega⟩
  · rw [if_neg hc]
    exact abTopL y
/-- an int operation: code 0 plus, 1 minus, else known of known numbers alone -/
def abOpI (code : Nat) (f : Int32 → Int32 → Int32) (a b : Int × Int) : abV :=
  match code with
  | 0 => abBI (a.1 + b.1) (a.2 + b.2)
  | 1 => abBI (a.1 - b.2) (a.2 - b.1)
  | _ => if a.1 = a.2 ∧ b.1 = b.2 then (let r := (f (Int32.ofInt a.1) (Int32.ofInt b.1)).toInt; abI r r) else
    match code with
    | 2 => if b.1 = b.2 ∧ 0 ≤ b.1 then abI 0 b.1 else abI (-2147483648) 2147483647
    | _ => abI (-2147483648) 2147483647
theorem abConstI {x : Int32} {a : Int × Int} (h1 : a.1 ≤ x.toInt) (h2 : x.toInt ≤ a.2) (h : a.1 = a.2) : Int32.ofInt a.1 = x := by
  have e : a.1 = x.toInt := by omega
  rw [e, Int32.ofInt_toInt]
theorem abConstL {x : Int64} {a : Int × Int} (h1 : a.1 ≤ x.toInt) (h2 : x.toInt ≤ a.2) (h : a.1 = a.2) : Int64.ofInt a.1 = x := by
  have e : a.1 = x.toInt := by omega
  rw [e, Int64.ofInt_toInt]
theorem abSelfI {ws : va_W} {sb sl : Nat} {rh : Nat → Int} (y : Int32) : abG ws sb sl rh (abI y.toInt y.toInt) (.int y) := ⟨y, rfl, Int.le_refl _, Int.le_refl _⟩
theorem abSelfL {ws : va_W} {sb sl : Nat} {rh : Nat → Int} (y : Int64) : abG ws sb sl rh (abL y.toInt y.toInt) (.long y) := ⟨y, rfl, Int.le_refl _, Int.le_refl _⟩
theorem abAnd_lo (x y : Int32) (h : 0 ≤ y.toInt) : 0 ≤ (x &&& y).toInt ∧ (x &&& y).toInt ≤ y.toInt := by
  have hy : y.toBitVec.toNat < 2 ^ 31 := by
    have := BitVec.toInt_eq_toNat_cond y.toBitVec
    have h2 : 0 ≤ y.toBitVec.toInt := h
    have h3 := y.toBitVec.isLt
    by_cases hc : 2 * y.toBitVec.toNat < 2 ^ 32
    · omega
    · rw [if_neg hc] at this
      omega
  have e2 : y.toInt = (y.toBitVec.toNat : Int) := by
    show y.toBitVec.toInt = _
    rw [BitVec.toInt_eq_toNat_cond, if_pos (by omega)]
  have hle : (x &&& y).toBitVec.toNat ≤ y.toBitVec.toNat := by
    show (x.toBitVec &&& y.toBitVec).toNat ≤ _
    rw [BitVec.toNat_and]
    exact Nat.and_le_right
  have e1 : (x &&& y).toInt = ((x &&& y).toBitVec.toNat : Int) := by
    show (x &&& y).toBitVec.toInt = _
    rw [BitVec.toInt_eq_toNat_cond, if_pos (by omega)]
  rw [e1, e2]
  omega
theorem abOpI_ok {ws : va_W} {sb sl : Nat} {rh : Nat → Int} {code : Nat} {f : Int32 → Int32 → Int32} {a b : Int × Int} {x y : Int32} (h0 : code = 0 → f x y = x + y) (h1 : code = 1 → f x y = x - y) (h2 : code = 2 → f x y = x &&& y) (ha1 : a.1 ≤ x.toInt) (ha2 : x.toInt ≤ a.2) (hb1 : b.1 ≤ y.toInt) (hb2 : y.toInt ≤ b.2) : abG ws sb sl rh (abOpI code f a b) (.int (f x y)) := by
  have gen : ∀ v : abV, abG ws sb sl rh v (.int (f x y)) → abG ws sb sl rh (if a.1 = a.2 ∧ b.1 = b.2 then (let r := (f (Int32.ofInt a.1) (Int32.ofInt b.1)).toInt; abI r r) else v) (.int (f x y)) := by
    intro v hv
    by_cases hc : a.1 = a.2 ∧ b.1 = b.2
    · rw [if_pos hc, abConstI ha1 ha2 hc.1, abConstI hb1 hb2 hc.2]
      exact abSelfI _
    · rw [if_neg hc]
      exact hv
  match code, h0, h1, h2 with
  | 0, h0, _, _ =>
    rw [h0 rfl]
    exact abBI_ok (Int32.toInt_add x y) (by omega) (by omega)
  | 1, _, h1, _ =>
    rw [h1 rfl]
    exact abBI_ok (Int32.toInt_sub x y) (by omega) (by omega)
  | 2, _, _, h2 =>
    refine gen _ ?_
    by_cases hc : b.1 = b.2 ∧ 0 ≤ b.1
    · rw [if_pos hc, h2 rfl]
      have := abAnd_lo x y (by omega)
      exact ⟨_, rfl, this.1, by show _ ≤ b.1; omega⟩
    · rw [if_neg hc]
      exact abTopI _
  | _ + 3, _, _, _ => exact gen _ (abTopI _)
def abOpL (code : Nat) (f : Int64 → Int64 → Int64) (a b : Int × Int) : abV :=
  match code with
  | 0 => abBL (a.1 + b.1) (a.2 + b.2)
  | 1 => abBL (a.1 - b.2) (a.2 - b.1)
  | _ => if a.1 = a.2 ∧ b.1 = b.2 then (let r := (f (Int64.ofInt a.1) (Int64.ofInt b.1)).toInt; abL r r) else abL (-9223372036854775808) 9223372036854775807
theorem abOpL_ok {ws : va_W} {sb sl : Nat} {rh : Nat → Int} {code : Nat} {f : Int64 → Int64 → Int64} {a b : Int × Int} {x y : Int64} (h0 : code = 0 → f x y = x + y) (h1 : code = 1 → f x y = x - y) (ha1 : a.1 ≤ x.toInt) (ha2 : x.toInt ≤ a.2) (hb1 : b.1 ≤ y.toInt) (hb2 : y.toInt ≤ b.2) : abG ws sb sl rh (abOpL code f a b) (.long (f x y)) := by
  have gen : abG ws sb sl rh (if a.1 = a.2 ∧ b.1 = b.2 then (let r := (f (Int64.ofInt a.1) (Int64.ofInt b.1)).toInt; abL r r) else abL (-9223372036854775808) 9223372036854775807) (.long (f x y)) := by
    by_cases hc : a.1 = a.2 ∧ b.1 = b.2
    · rw [if_pos hc, abConstL ha1 ha2 hc.1, abConstL hb1 hb2 hc.2]
      exact abSelfL _
    · rw [if_neg hc]
      exact abTopL _
  match code, h0, h1 with
  | 0, h0, _ =>
    rw [h0 rfl]
    exact abBL_ok (Int64.toInt_add x y) (by omega) (by omega)
  | 1, _, h1 =>
    rw [h1 rfl]
    exact abBL_ok (Int64.toInt_sub x y) (by omega) (by omega)
  | _ + 2, _, _ => exact gen
/-! what a comparison tells of the arguments -/
def abCut (env : abE) (v : abV) (q : Int × Int) (lo hi : Int) : Option abE :=
  let lo' := if lo ≤ q.1 then q.1 else lo
  let hi' := if q.2 ≤ hi then q.2 else hi
  if lo' ≤ hi' then some (if v.1 = 2 ∨ v.1 = 3 then env.set v.2.1 (lo', hi') else env) else none
theorem abEok_set {rh : Nat → Int} {env : abE} {k : Nat} {q : Int × Int} (he : abEok rh env) (h1 : q.1 ≤ rh k) (h2 : rh k ≤ q.2) : abEok rh (env.set k q) := by
  intro j p hj
  by_cases hk : k = j
  · subst hk
    by_cases hl : k < env.length
    · rw [List.getElem?_set_self hl] at hj
      cases hj
      exact ⟨h1, h2⟩
    · rw [List.getElem?_eq_none (by simp; omega)] at hj
      cases hj
  · rw [List.getElem?_set_ne hk] at hj
    exact he j p hj
/-- the number that a value is, where it is an argument -/
def abTg (rh : Nat → Int) (v : abV) (n : Int) : Prop := (v.1 = 2 ∨ v.1 = 3) → rh v.2.1 = n
theorem abTg_i {ws : va_W} {sb sl : Nat} {rh : Nat → Int} {v : abV} {y : Int32} (g : abG ws sb sl rh v (.int y)) : abTg rh v y.toInt := by
  obtain ⟨t, k, lo, hi⟩ := v
  rintro (h | h)
  · have h' : t = 2 := h
    subst h'
    obtain ⟨z, hz, e⟩ := g
    cases hz
    exact e.symm
  · have h' : t = 3 := h
    subst h'
    obtain ⟨z, hz, e⟩ := g
    cases hz
theorem abTg_l {ws : va_W} {sb sl : Nat} {rh : Nat → Int} {v : abV} {y : Int64} (g : abG ws sb sl rh v (.long y)) : abTg rh v y.toInt := by
  obtain ⟨t, k, lo, hi⟩ := v
  rintro (h | h)
  · have h' : t = 2 := h
    subst h'
    obtain ⟨z, hz, e⟩ := g
    cases hz
  · have h' : t = 3 := h
    subst h'
    obtain ⟨z, hz, e⟩ := g
    cases hz
    exact e.symm
theorem abTg_0 {rh : Nat → Int} {lo hi n : Int} : abTg rh (abI lo hi) n := by
  rintro (h | h) <;> cases h
theorem abCut_ok {rh : Nat → Int} {env : abE} {v : abV} {q : Int × Int} {lo hi n : Int} (he : abEok rh env) (hn : abTg rh v n) (h1 : q.1 ≤ n) (h2 : n ≤ q.2) (h3 : lo ≤ n) (h4 : n ≤ hi) : ∃ env' : abE, abCut env v q lo hi = some env' ∧ abEok rh env' := by
  have a1 : (if lo ≤ q.1 then q.1 else lo) ≤ n := by split <;> omega
  have a2 : n ≤ (if q.2 ≤ hi then q.2 else hi) := by split <;> omega
  unfold abCut
  dsimp only
  rw [if_pos (by omega)]
  refine ⟨_, rfl, ?_⟩
  by_cases ht : v.1 = 2 ∨ v.1 = 3
  · rw [if_pos ht]
    have hr := hn ht
    exact abEok_set he (by rw [hr]; exact a1) (by rw [hr]; exact a2)
  · rw [if_neg ht]
    exact he
def abCond (cd : Jvm.ClassFile.Cond) (env : abE) (v w : abV) (a b : Int × Int) : Option abE :=
  match cd with
  | .eq => match abCut env v a b.1 b.2 with
    | none => none
    | some e1 => abCut e1 w b a.1 a.2
  | .ne => if b.1 = b.2 then
      (if a.1 = b.1 then abCut env v a (b.1 + 1) a.2 else if a.2 = b.1 then abCut env v a a.1 (b.1 - 1) else some env)
    else some env
  | .lt => match abCut env v a a.1 (b.2 - 1) with
    | none => none
    | some e1 => abCut e1 w b (a.1 + 1) b.2
  | .ge => match abCut env v a b.1 a.2 with
    | none => none
    | some e1 => abCut e1 w b b.1 a.2
  | .gt => match abCut env v a (b.1 + 1) a.2 with
    | none => none
    | some e1 => abCut e1 w b b.1 (a.2 - 1)
  | .le => match abCut env v a a.1 b.2 with
    | none => none
    | some e1 => abCut e1 w b a.1 b.2
def abHolds (cd : Jvm.ClassFile.Cond) (m n : Int) : Prop := match cd with
  | .eq => m = n
  | .ne => ¬ m = n
  | .lt => m < n
  | .ge => ¬ m < n
  | .gt => n < m
  | .le => ¬ n < m
theorem abCut2 {rh : Nat → Int} {env : abE} {v w : abV} {a b : Int × Int} {lo hi lo2 hi2 m n : Int} (he : abEok rh env) (hm : abTg rh v m) (hn : abTg rh w n) (a1 : a.1 ≤ m) (a2 : m ≤ a.2) (b1 : b.1 ≤ n) (b2 : n ≤ b.2) (h1 : lo ≤ m) (h2 : m ≤ hi) (h3 : lo2 ≤ n) (h4 : n ≤ hi2) : ∃ env' : abE, (match abCut env v a lo hi with | none => none | some e1 => abCut e1 w b lo2 hi2) = some env' ∧ abEok rh env' := by
  obtain ⟨e1, p1, p2⟩ := abCut_ok he hm a1 a2 h1 h2
  rw [p1]
  exact abCut_ok p2 hn b1 b2 h3 h4
theorem abCond_ok {rh : Nat → Int} {env : abE} {cd : Jvm.ClassFile.Cond} {v w : abV} {a b : Int × Int} {m n : Int} (he : abEok rh env) (hm : abTg rh v m) (hn : abTg rh w n) (a1 : a.1 ≤ m) (a2 : m ≤ a.2) (b1 : b.1 ≤ n) (b2 : n ≤ b.2) (hc : abHolds cd m n) : ∃ env' : abE, abCond cd env v w a b = some env' ∧ abEok rh env' := by
  cases cd with
  | eq => exact abCut2 he hm hn a1 a2 b1 b2 (by have : m = n := hc; omega) (by have : m = n := hc; omega) (by have : m = n := hc; omega) (by have : m = n := hc; omega)
  | ne =>
    have hc' : ¬ m = n := hc
    show ∃ env' : abE, (if b.1 = b.2 then (if a.1 = b.1 then abCut env v a (b.1 + 1) a.2 else if a.2 = b.1 then abCut env v a a.1 (b.1 - 1) else some env) else some env) = some env' ∧ abEok rh env'
    by_cases h1 : b.1 = b.2
    · rw [if_pos h1]
      by_cases h2 : a.1 = b.1
      · rw [if_pos h2]
        exact abCut_ok he hm a1 a2 (by omega) (by omega)
      · rw [if_neg h2]
        by_cases h3 : a.2 = b.1
        · rw [if_pos h3]
          exact abCut_ok he hm a1 a2 (by omega) (by omega)
        · rw [if_neg h3]
          exact ⟨env, rfl, he⟩
    · rw [if_neg h1]
      exact ⟨env, rfl, he⟩
  | lt => exact abCut2 he hm hn a1 a2 b1 b2 (by have : m < n := hc; omega) (by have : m < n := hc; omega) (by have : m < n := hc; omega) (by have : m < n := hc; omega)
  | ge => exact abCut2 he hm hn a1 a2 b1 b2 (by have : ¬ m < n := hc; omega) (by have : ¬ m < n := hc; omega) (by have : ¬ m < n := hc; omega) (by have : ¬ m < n := hc; omega)
  | gt => exact abCut2 he hm hn a1 a2 b1 b2 (by have : n < m := hc; omega) (by have : n < m := hc; omega) (by have : n < m := hc; omega) (by have : n < m := hc; omega)
  | le => exact abCut2 he hm hn a1 a2 b1 b2 (by have : ¬ n < m := hc; omega) (by have : ¬ n < m := hc; omega) (by have : ¬ n < m := hc; omega) (by have : ¬ n < m := hc; omega)
def abNeg : Jvm.ClassFile.Cond → Jvm.ClassFile.Cond
  | .eq => .ne
  | .ne => .eq
  | .lt => .ge
  | .ge => .lt
  | .gt => .le
  | .le => .gt
theorem abNeg_holds {cd : Jvm.ClassFile.Cond} {m n : Int} (h : ¬ abHolds cd m n) : abHolds (abNeg cd) m n := by
  cases cd with
  | eq => exact h
  | ne => exact Classical.not_not.mp h
  | lt => exact h
  | ge => exact Classical.not_not.mp h
  | gt => exact h
  | le => exact Classical.not_not.mp h
/-! cases of an argument with few values -/
def abRange (lo : Int) : Nat → List Int
  | 0 => [lo]
  | n + 1 => lo :: abRange (lo + 1) n
theorem abRange_mem : ∀ (n : Nat) (lo x : Int), lo ≤ x → x ≤ lo + n → x ∈ abRange lo n
  | 0, lo, x, h1, h2 => by
    have : x = lo := by omega
    rw [this]
    exact List.mem_cons_self
  | n + 1, lo, x, h1, h2 => by
    by_cases h : x = lo
    · rw [h]
      exact List.mem_cons_self
    · exact List.mem_cons_of_mem _ (abRange_mem n (lo + 1) x (by omega) (by omega))
/-- the cases, where the value is an argument with more than one and at most w + 1 values -/
def abSplit (env : abE) (v : abV) (w : Int) : Option (List abE) :=
  if v.1 = 2 ∨ v.1 = 3 then
    match env[v.2.1]? with
    | none => none
    | some q => if q.1 < q.2 ∧ q.2 - q.1 ≤ w then some ((abRange q.1 (q.2 - q.1).toNat).map (fun z => env.set v.2.1 (z, z))) else none
  else none
theorem abSplit_ok {rh : Nat → Int} {env : abE} {v : abV} {w : Int} {es : List abE} (he : abEok rh env) (h : abSplit env v w = some es) : ∃ env' ∈ es, abEok rh env' := by
  unfold abSplit at h
  by_cases ht : v.1 = 2 ∨ v.1 = 3
  · rw [if_pos ht] at h
    cases hq : env[v.2.1]? with
    | none => rw [hq] at h; cases h
    | some q =>
      rw [hq] at h
      dsimp only at h
      by_cases hw : q.1 < q.2 ∧ q.2 - q.1 ≤ w
      · rw [if_pos hw] at h
        cases h
        have hr := he _ _ hq
        refine ⟨env.set v.2.1 (rh v.2.1, rh v.2.1), List.mem_map.mpr ⟨rh v.2.1, abRange_mem _ _ _ hr.1 (by omega), rfl⟩, abEok_set he (Int.le_refl _) (Int.le_refl _)⟩
      · rw [if_neg hw] at h
        cases h
  · rw [if_neg ht] at h
    cases h
