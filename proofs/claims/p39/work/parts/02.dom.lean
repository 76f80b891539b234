/-! Written for the kernel: recursors and Nat's own functions alone. Numbers are kept as Nats, 2^63 above what they mean. -/
noncomputable def abIf {al : Type} (c : Bool) (t e : al) : al := Bool.rec e t c
theorem abIf_t {al : Type} {c : Bool} {t e : al} (h : c = true) : abIf c t e = t := by rw [h]; rfl
theorem abIf_f {al : Type} {c : Bool} {t e : al} (h : c = false) : abIf c t e = e := by rw [h]; rfl
theorem abIf_some {al : Type} {c : Bool} {t : Option al} {r : al} (h : abIf c t none = some r) : c = true ∧ t = some r := by
  cases c with
  | true => exact ⟨rfl, h⟩
  | false => cases h
theorem abBle {a b : Nat} (h : Nat.ble a b = true) : a ≤ b := Nat.le_of_ble_eq_true h
theorem abBle_f {a b : Nat} (h : Nat.ble a b = false) : b < a := Nat.lt_of_not_le (fun q => by rw [Nat.ble_eq_true_of_le q] at h; cases h)
theorem abBeq {a b : Nat} (h : Nat.beq a b = true) : a = b := Nat.eq_of_beq_eq_true h
theorem abBeq_f {a b : Nat} (h : Nat.beq a b = false) : ¬ a = b := Nat.ne_of_beq_eq_false h
/-! rows of values -/
/-- a value: (kind, number, number). 0: an int between the two; 1: the int that is argument a of the script; 2, 3: the same as longs; 4: the cell a of the world; 5: the script, of length a; 6: null; 7: the sign of argument a less b; 8: anything -/
abbrev abV : Type := Nat × Nat × Nat
abbrev abE : Type := List (Nat × Nat)
def abJ : abV := (8, 0, 0)
abbrev abB : Int := 9223372036854775808
def abSg (m n : Int) : Int := if m < n then -1 else if m = n then 0 else 1
def abG (ws : va_W) (sb sl : Nat) (rh : Nat → Int) (v : abV) (x : Value) : Prop :=
  match v.1 with
  | 0 => ∃ y : Int32, x = .int y ∧ (v.2.1 : Int) ≤ y.toInt + abB ∧ y.toInt + abB ≤ (v.2.2 : Int)
  | 1 => ∃ y : Int32, x = .int y ∧ y.toInt = rh v.2.1
  | 2 => ∃ y : Int64, x = .long y ∧ (v.2.1 : Int) ≤ y.toInt + abB ∧ y.toInt + abB ≤ (v.2.2 : Int)
  | 3 => ∃ y : Int64, x = .long y ∧ y.toInt = rh v.2.1
  | 4 => ∃ (a : Nat) (e : va_E), ws[v.2.1]? = some (a, e) ∧ x = .ref a
  | 5 => x = .ref sb ∧ (v.2.2 = 0 → v.2.1 = sl)
  | 6 => x = .null
  | 7 => ∃ y : Int32, x = .int y ∧ y.toInt = abSg (rh v.2.1 + abB) (v.2.2 : Int)
  | _ => True
/-- the world keeps its addresses -/
def abX (w0 w1 : va_W) : Prop := ∀ (j a : Nat) (e : va_E), w0[j]? = some (a, e) → ∃ e' : va_E, w1[j]? = some (a, e')
theorem abX.rf (w : va_W) : abX w w := fun _ _ e h => ⟨e, h⟩
theorem abX.tr {w0 w1 w2 : va_W} (h1 : abX w0 w1) (h2 : abX w1 w2) : abX w0 w2 := fun j a e h => by
  obtain ⟨e', h'⟩ := h1 j a e h
  exact h2 j a e' h'
theorem abX.set {w : va_W} {q0 a : Nat} {e0 e1 : va_E} (h : w[q0]? = some (a, e0)) : abX w (w.set q0 (a, e1)) := by
  intro j b e hj
  by_cases hq : q0 = j
  · subst hq
    rw [h] at hj
    cases hj
    exact ⟨e1, by rw [List.getElem?_set_self (List.getElem?_eq_some_iff.mp h).1]⟩
  · exact ⟨e, by rw [List.getElem?_set_ne hq]; exact hj⟩
theorem abX.app (w x : va_W) : abX w (w ++ x) := by
  intro j a e h
  exact ⟨e, by rw [List.getElem?_append_left (List.getElem?_eq_some_iff.mp h).1]; exact h⟩
theorem abG.mono {w0 w1 : va_W} {sb sl : Nat} {rh : Nat → Int} {v : abV} {x : Value} (hx : abX w0 w1) (h : abG w0 sb sl rh v x) : abG w1 sb sl rh v x := by
  obtain ⟨t, k, lo⟩ := v
  match t, h with
  | 0, h => exact h
  | 1, h => exact h
  | 2, h => exact h
  | 3, h => exact h
  | 4, h =>
    obtain ⟨a, e, h1, h2⟩ := h
    obtain ⟨e', h'⟩ := hx _ _ _ h1
    exact ⟨a, e', h', h2⟩
  | 5, h => exact h
  | 6, h => exact h
  | 7, h => exact h
  | _ + 8, _ => trivial
def abEok (rh : Nat → Int) (env : abE) : Prop := ∀ (k : Nat) (q : Nat × Nat), env[k]? = some q → (q.1 : Int) ≤ rh k + abB ∧ rh k + abB ≤ (q.2 : Int)
/-- the place k of the arguments' bounds -/
noncomputable def abWe {al : Type} (f : Nat → Nat → Option al) (env : abE) : Nat → Option al :=
  List.rec (motive := fun _ => Nat → Option al) (fun _ => none) (fun h _ ih k => Nat.rec (f h.1 h.2) (fun n _ => ih n) k) env
theorem abWe_ok {al : Type} {f : Nat → Nat → Option al} : ∀ {env : abE} {k : Nat} {r : al}, abWe f env k = some r → ∃ q : Nat × Nat, env[k]? = some q ∧ f q.1 q.2 = some r
  | [], _, _, h => by cases h
  | q :: _, 0, _, h => ⟨q, rfl, h⟩
  | _ :: env, k + 1, _, h => abWe_ok (env := env) (k := k) h
/-- the bounds of an int (c = 0) or a long (c = 2) -/
noncomputable def abWi {al : Type} (c : Nat) (env : abE) (v : abV) (f : Nat → Nat → Option al) : Option al :=
  abIf (Nat.beq v.1 c) (f v.2.1 v.2.2) (abIf (Nat.beq v.1 (c + 1)) (abWe f env v.2.1) none)
theorem abWi0 {al : Type} {ws : va_W} {sb sl : Nat} {rh : Nat → Int} {env : abE} {v : abV} {x : Value} {f : Nat → Nat → Option al} {r : al} (h : abWi 0 env v f = some r) (he : abEok rh env) (g : abG ws sb sl rh v x) : ∃ (a b : Nat) (y : Int32), f a b = some r ∧ x = .int y ∧ (a : Int) ≤ y.toInt + abB ∧ y.toInt + abB ≤ (b : Int) ∧ (v.1 = 1 → y.toInt = rh v.2.1 ∧ env[v.2.1]? = some (a, b)) ∧ (v.1 = 0 ∨ v.1 = 1) := by
  unfold abWi at h
  obtain ⟨t, k, lo⟩ := v
  cases h1 : Nat.beq t 0 with
  | true =>
    rw [abIf_t h1] at h
    have e := abBeq h1
    subst e
    obtain ⟨y, hx, p1, p2⟩ := g
    exact ⟨k, lo, y, h, hx, p1, p2, (fun q => by cases q), Or.inl rfl⟩
  | false =>
    rw [abIf_f h1] at h
    obtain ⟨h2, h3⟩ := abIf_some h
    have e : t = 0 + 1 := abBeq h2
    subst e
    obtain ⟨q, q1, q2⟩ := abWe_ok h3
    obtain ⟨y, hx, p1⟩ := g
    have hq := he _ _ q1
    have p1' : y.toInt = rh k := p1
    exact ⟨q.1, q.2, y, q2, hx, by rw [p1']; exact hq.1, by rw [p1']; exact hq.2, fun _ => ⟨p1, q1⟩, Or.inr rfl⟩
theorem abWi2 {al : Type} {ws : va_W} {sb sl : Nat} {rh : Nat → Int} {env : abE} {v : abV} {x : Value} {f : Nat → Nat → Option al} {r : al} (h : abWi 2 env v f = some r) (he : abEok rh env) (g : abG ws sb sl rh v x) : ∃ (a b : Nat) (y : Int64), f a b = some r ∧ x = .long y ∧ (a : Int) ≤ y.toInt + abB ∧ y.toInt + abB ≤ (b : Int) ∧ (v.1 = 3 → y.toInt = rh v.2.1 ∧ env[v.2.1]? = some (a, b)) ∧ (v.1 = 2 ∨ v.1 = 3) := by
  unfold abWi at h
  obtain ⟨t, k, lo⟩ := v
  cases h1 : Nat.beq t 2 with
  | true =>
    rw [abIf_t h1] at h
    have e := abBeq h1
    subst e
    obtain ⟨y, hx, p1, p2⟩ := g
    exact ⟨k, lo, y, h, hx, p1, p2, (fun q => by cases q), Or.inl rfl⟩
  | false =>
    rw [abIf_f h1] at h
    obtain ⟨h2, h3⟩ := abIf_some h
    have e : t = 2 + 1 := abBeq h2
    subst e
    obtain ⟨q, q1, q2⟩ := abWe_ok h3
    obtain ⟨y, hx, p1⟩ := g
    have hq := he _ _ q1
    have p1' : y.toInt = rh k := p1
    exact ⟨q.1, q.2, y, q2, hx, by rw [p1']; exact hq.1, by rw [p1']; exact hq.2, fun _ => ⟨p1, q1⟩, Or.inr rfl⟩
/-- a reference to a cell -/
noncomputable def abWr {al : Type} (v : abV) (f : Nat → Option al) : Option al := abIf (Nat.beq v.1 4) (f v.2.1) none
theorem abWr_ok {al : Type} {ws : va_W} {sb sl : Nat} {rh : Nat → Int} {v : abV} {x : Value} {f : Nat → Option al} {r : al} (h : abWr v f = some r) (g : abG ws sb sl rh v x) : ∃ (a : Nat) (e : va_E), f v.2.1 = some r ∧ ws[v.2.1]? = some (a, e) ∧ x = .ref a := by
  obtain ⟨t, k, lo⟩ := v
  obtain ⟨h1, h2⟩ := abIf_some h
  have e : t = 4 := abBeq h1
  subst e
  obtain ⟨a, e, q1, q2⟩ := g
  exact ⟨a, e, h2, q1, q2⟩
/-- slots that a value takes; 0 where it isn't known -/
def abCat (v : abV) : Nat := match v.1 with
  | 0 => 1
  | 1 => 1
  | 2 => 2
  | 3 => 2
  | 4 => 1
  | 5 => 1
  | 6 => 1
  | 7 => 1
  | _ => 0
theorem abCat_ok {ws : va_W} {sb sl : Nat} {rh : Nat → Int} {v : abV} {x : Value} {n : Nat} (h : abCat v = n + 1) (g : abG ws sb sl rh v x) : x.category = n + 1 := by
  obtain ⟨t, k, lo⟩ := v
  match t, h, g with
  | 0, h, g => obtain ⟨y, rfl, -⟩ := g; exact h
  | 1, h, g => obtain ⟨y, rfl, -⟩ := g; exact h
  | 2, h, g => obtain ⟨y, rfl, -⟩ := g; exact h
  | 3, h, g => obtain ⟨y, rfl, -⟩ := g; exact h
  | 4, h, g => obtain ⟨y, e, -, rfl⟩ := g; exact h
  | 5, h, g => obtain ⟨rfl, -⟩ := g; exact h
  | 6, h, g => cases g; exact h
  | 7, h, g => obtain ⟨y, rfl, -⟩ := g; exact h
  | _ + 8, h, _ => cases h
/-! trees: a decision tree over the numbers below 2^d, a leaf for all that lie below it -/
def abWf {al : Type} : Nat → Nat → Lean.RArray al → Prop
  | _, _, .leaf _ => True
  | 0, _, .branch _ _ _ => False
  | d + 1, lo, .branch p l r => p = lo + 2 ^ d ∧ abWf d lo l ∧ abWf d p r
noncomputable def abExp {al : Type} (x v : al) (i d : Nat) : Nat → Lean.RArray al :=
  Nat.rec (motive := fun _ => Nat → Lean.RArray al) (fun _ => .leaf v) (fun d ih lo => abIf (Nat.ble (lo + 2 ^ d) i) (.branch (lo + 2 ^ d) (.leaf x) (ih (lo + 2 ^ d))) (.branch (lo + 2 ^ d) (ih lo) (.leaf x))) d
noncomputable def abSet {al : Type} (i : Nat) (v : al) (t : Lean.RArray al) : Nat → Nat → Lean.RArray al :=
  Lean.RArray.rec (motive := fun _ => Nat → Nat → Lean.RArray al) (fun x d lo => abExp x v i d lo) (fun p l r ihl ihr d lo => abIf (Nat.ble p i) (.branch p l (ihr (d - 1) p)) (.branch p (ihl (d - 1) lo) r)) t
theorem abGet_l {al : Type} (x : al) (n : Nat) : (Lean.RArray.leaf x).get n = x := rfl
theorem abGet_b1 {al : Type} {p n : Nat} {l r : Lean.RArray al} (h : Nat.ble p n = true) : (Lean.RArray.branch p l r).get n = r.get n := by
  unfold Lean.RArray.get
  simp only [h]
theorem abGet_b0 {al : Type} {p n : Nat} {l r : Lean.RArray al} (h : Nat.ble p n = false) : (Lean.RArray.branch p l r).get n = l.get n := by
  unfold Lean.RArray.get
  simp only [h]
theorem abBle_t {a b : Nat} (h : a ≤ b) : Nat.ble a b = true := Nat.ble_eq_true_of_le h
theorem abBle_n {a b : Nat} (h : b < a) : Nat.ble a b = false := by
  cases q : Nat.ble a b with
  | false => rfl
  | true => exact absurd (abBle q) (by omega)
theorem abExp_wf {al : Type} (x v : al) (i : Nat) : ∀ (d lo : Nat), abWf d lo (abExp x v i d lo)
  | 0, _ => trivial
  | d + 1, lo => by
    show abWf (d + 1) lo (abIf (Nat.ble (lo + 2 ^ d) i) (.branch (lo + 2 ^ d) (.leaf x) (abExp x v i d (lo + 2 ^ d))) (.branch (lo + 2 ^ d) (abExp x v i d lo) (.leaf x)))
    cases h : Nat.ble (lo + 2 ^ d) i with
    | true => exact ⟨rfl, by cases d <;> trivial, abExp_wf x v i d _⟩
    | false => exact ⟨rfl, abExp_wf x v i d _, by cases d <;> trivial⟩
theorem abExp_get {al : Type} (x v : al) (i : Nat) : ∀ (d lo j : Nat), lo ≤ i → i < lo + 2 ^ d → lo ≤ j → j < lo + 2 ^ d → (abExp x v i d lo).get j = if i = j then v else x
  | 0, lo, j, h1, h2, h3, h4 => by
    have e : i = j := by simp at h2 h4; omega
    rw [if_pos e]
    rfl
  | d + 1, lo, j, h1, h2, h3, h4 => by
    rw [Nat.pow_succ] at h2 h4
    have ih := abExp_get x v i d
    show (abIf (Nat.ble (lo + 2 ^ d) i) (Lean.RArray.branch (lo + 2 ^ d) (Lean.RArray.leaf x) (abExp x v i d (lo + 2 ^ d))) (Lean.RArray.branch (lo + 2 ^ d) (abExp x v i d lo) (Lean.RArray.leaf x))).get j = _
    cases h : Nat.ble (lo + 2 ^ d) i with
    | true =>
      have hi := abBle h
      rw [abIf_t rfl]
      cases hj : Nat.ble (lo + 2 ^ d) j with
      | true =>
        have := abBle hj
        rw [abGet_b1 hj, ih _ _ (by omega) (by omega) (by omega) (by omega)]
      | false =>
        have := abBle_f hj
        rw [abGet_b0 hj, abGet_l, if_neg (by omega)]
    | false =>
      have hi := abBle_f h
      rw [abIf_f rfl]
      cases hj : Nat.ble (lo + 2 ^ d) j with
      | true =>
        have := abBle hj
        rw [abGet_b1 hj, abGet_l, if_neg (by omega)]
      | false =>
        have := abBle_f hj
        rw [abGet_b0 hj, ih _ _ (by omega) (by omega) (by omega) (by omega)]
theorem abSet_wf {al : Type} (i : Nat) (v : al) : ∀ (t : Lean.RArray al) (d lo : Nat), abWf d lo t → abWf d lo (abSet i v t d lo)
  | .leaf x, d, lo, _ => abExp_wf x v i d lo
  | .branch p l r, 0, lo, h => h.elim
  | .branch p l r, d + 1, lo, h => by
    obtain ⟨h1, h2, h3⟩ := h
    show abWf (d + 1) lo (abIf (Nat.ble p i) (.branch p l (abSet i v r d p)) (.branch p (abSet i v l d lo) r))
    cases hb : Nat.ble p i with
    | true => exact ⟨h1, h2, abSet_wf i v r d p h3⟩
    | false => exact ⟨h1, abSet_wf i v l d lo h2, h3⟩
theorem abSet_get {al : Type} (i : Nat) (v : al) : ∀ (t : Lean.RArray al) (d lo j : Nat), abWf d lo t → lo ≤ i → i < lo + 2 ^ d → lo ≤ j → j < lo + 2 ^ d → (abSet i v t d lo).get j = if i = j then v else t.get j
  | .leaf x, d, lo, j, _, h1, h2, h3, h4 => by
    exact abExp_get x v i d lo j h1 h2 h3 h4
  | .branch p l r, 0, lo, j, h, _, _, _, _ => h.elim
  | .branch p l r, d + 1, lo, j, h, h1, h2, h3, h4 => by
    obtain ⟨hp, w1, w2⟩ := h
    rw [Nat.pow_succ] at h2 h4
    show (abIf (Nat.ble p i) (Lean.RArray.branch p l (abSet i v r d p)) (Lean.RArray.branch p (abSet i v l d lo) r)).get j = _
    cases hb : Nat.ble p i with
    | true =>
      have hi := abBle hb
      rw [abIf_t rfl]
      cases hj : Nat.ble p j with
      | true =>
        have := abBle hj
        rw [abGet_b1 hj, abGet_b1 hj, abSet_get i v r d p j w2 (by omega) (by omega) (by omega) (by omega)]
      | false =>
        have := abBle_f hj
        rw [abGet_b0 hj, abGet_b0 hj, if_neg (by omega)]
    | false =>
      have hi := abBle_f hb
      rw [abIf_f rfl]
      cases hj : Nat.ble p j with
      | true =>
        have := abBle hj
        rw [abGet_b1 hj, abGet_b1 hj, if_neg (by omega)]
      | false =>
        have := abBle_f hj
        rw [abGet_b0 hj, abGet_b0 hj, abSet_get i v l d lo j w1 (by omega) (by omega) (by omega) (by omega)]
/-- the depth that a row of n needs -/
def abD (n : Nat) : Nat := Nat.log2 n + 1
theorem abD_lt {i n : Nat} (h : i < n) : i < 0 + 2 ^ abD n := by
  rw [Nat.zero_add]
  exact Nat.lt_trans h Nat.lt_log2_self
/-- all of a tree, by the ranges of its leaves -/
def abChk {al : Type} (P : Nat → al → Prop) : Lean.RArray al → Nat → Nat → Prop
  | .leaf x, lo, hi => ∀ n : Nat, lo ≤ n → n < hi → P n x
  | .branch p l r, lo, hi => abChk P l lo p ∧ abChk P r p hi
theorem abChk_get {al : Type} {P : Nat → al → Prop} : ∀ (t : Lean.RArray al) (lo hi n : Nat), abChk P t lo hi → lo ≤ n → n < hi → P n (t.get n)
  | .leaf x, lo, hi, n, h, h1, h2 => h n h1 h2
  | .branch p l r, lo, hi, n, h, h1, h2 => by
    cases hb : Nat.ble p n with
    | true =>
      rw [abGet_b1 hb]
      exact abChk_get r p hi n h.2 (abBle hb) h2
    | false =>
      rw [abGet_b0 hb]
      exact abChk_get l lo p n h.1 h1 (abBle_f hb)
/-! locals -/
noncomputable def abNth (l : List abV) : Nat → abV := List.rec (motive := fun _ => Nat → abV) (fun _ => abJ) (fun h _ ih i => Nat.rec h (fun n _ => ih n) i) l
noncomputable def abUpd (v : abV) (l : List abV) : Nat → List abV := List.rec (motive := fun _ => Nat → List abV) (fun _ => []) (fun h t ih i => Nat.rec (v :: t) (fun n _ => h :: ih n) i) l
theorem abNth_get : ∀ (l : List abV) (i : Nat), abNth l i = (l[i]?).getD abJ
  | [], _ => rfl
  | _ :: _, 0 => rfl
  | _ :: l, i + 1 => by
    rw [List.getElem?_cons_succ]
    exact abNth_get l i
theorem abUpd_set : ∀ (v : abV) (l : List abV) (i : Nat), abUpd v l i = l.set i v
  | _, [], _ => rfl
  | _, _ :: _, 0 => rfl
  | v, h :: l, i + 1 => by
    rw [List.set_cons_succ, ← abUpd_set v l i]
    rfl
/-- a store of one slot, of two -/
noncomputable def abSt1 (ls : List abV) (i : Nat) (v : abV) : List abV :=
  abIf (Nat.beq ((abNth ls (i - 1)).1 / 2) 1) (abUpd v (abUpd abJ ls (i - 1)) i) (abUpd v ls i)
noncomputable def abSt2 (ls : List abV) (i : Nat) (v : abV) : List abV := abUpd abJ (abSt1 ls i v) (i + 1)
/-! bounds of ints and longs -/
def abTI : abV := (0, 9223372034707292160, 9223372039002259455)
def abTL : abV := (2, 0, 18446744073709551615)
noncomputable def abBI (lo hi : Nat) : abV := abIf (Nat.ble 9223372034707292160 lo) (abIf (Nat.ble hi 9223372039002259455) (0, lo, hi) abTI) abTI
noncomputable def abBL (lo hi : Nat) : abV := abIf (Nat.ble hi 18446744073709551615) (2, lo, hi) abTL
theorem abTI_ok {ws : va_W} {sb sl : Nat} {rh : Nat → Int} (y : Int32) : abG ws sb sl rh abTI (.int y) := by
  have h1 := Int32.toInt_lt y
  have h2 := Int32.le_toInt y
  exact ⟨y, rfl, by show (9223372034707292160 : Int) ≤ _; simp only [abB]; omega, by show _ ≤ (9223372039002259455 : Int); simp only [abB]; omega⟩
theorem abTL_ok {ws : va_W} {sb sl : Nat} {rh : Nat → Int} (y : Int64) : abG ws sb sl rh abTL (.long y) := by
  have h1 := Int64.toInt_lt y
  have h2 := Int64.le_toInt y
  exact ⟨y, rfl, by show (0 : Int) ≤ _; simp only [abB]; omega, by show _ ≤ (18446744073709551615 : Int); simp only [abB]; omega⟩
/-- t: what the number would be without the wrap-around -/
theorem abBI_ok {ws : va_W} {sb sl : Nat} {rh : Nat → Int} {y : Int32} {t : Int} {lo hi : Nat} (h : y.toInt = t.bmod (2 ^ 32)) (h1 : (lo : Int) ≤ t + abB) (h2 : t + abB ≤ (hi : Int)) : abG ws sb sl rh (abBI lo hi) (.int y) := by
  unfold abBI
  cases c1 : Nat.ble 9223372034707292160 lo with
  | false => rw [abIf_f rfl]; exact abTI_ok y
  | true =>
    rw [abIf_t rfl]
    cases c2 : Nat.ble hi 9223372039002259455 with
    | false => rw [abIf_f rfl]; exact abTI_ok y
    | true =>
      rw [abIf_t rfl]
      have d1 := abBle c1
      have d2 := abBle c2
      simp only [abB] at h1 h2
      have e : t.bmod (2 ^ 32) = t := Int.bmod_eq_of_le (by omega) (by omega)
      rw [e] at h
      exact ⟨y, rfl, by show (lo : Int) ≤ _; simp only [abB]; omega, by show _ ≤ (hi : Int); simp only [abB]; omega⟩
theorem abBL_ok {ws : va_W} {sb sl : Nat} {rh : Nat → Int} {y : Int64} {t : Int} {lo hi : Nat} (h : y.toInt = t.bmod (2 ^ 64)) (h0 : 0 ≤ t + abB) (h1 : (lo : Int) ≤ t + abB) (h2 : t + abB ≤ (hi : Int)) : abG ws sb sl rh (abBL lo hi) (.long y) := by
  unfold abBL
  cases c2 : Nat.ble hi 18446744073709551615 with
  | false => rw [abIf_f rfl]; exact abTL_ok y
  | true =>
    rw [abIf_t rfl]
    have d2 := abBle c2
    simp only [abB] at h0 h1 h2
    have e : t.bmod (2 ^ 64) = t := Int.bmod_eq_of_le (by omega) (by omega)
    rw [e] at h
    exact ⟨y, rfl, by show (lo : Int) ≤ _; simp only [abB]; omega, by show _ ≤ (hi : Int); simp only [abB]; omega⟩
theorem abI32 (y : Int32) : -2147483648 ≤ y.toInt ∧ y.toInt ≤ 2147483647 := by
  have h1 := Int32.toInt_lt y
  have h2 := Int32.le_toInt y
  omega
theorem abI64 (y : Int64) : -9223372036854775808 ≤ y.toInt ∧ y.toInt ≤ 9223372036854775807 := by
  have h1 := Int64.toInt_lt y
  have h2 := Int64.le_toInt y
  omega
/-! what a comparison tells of the arguments -/
abbrev abRs (al : Type) : Type := Option (List al)
noncomputable def abJn {al : Type} (a b : abRs al) : abRs al := match a with
  | none => none
  | some x => match b with
    | none => none
    | some y => some (x ++ y)
theorem abJn_some {al : Type} {a b : abRs al} {r : List al} (h : abJn a b = some r) : ∃ x y, a = some x ∧ b = some y ∧ r = x ++ y := by
  unfold abJn at h
  cases a with
  | none => cases h
  | some x =>
    cases b with
    | none => cases h
    | some y =>
      cases h
      exact ⟨x, y, rfl, rfl, rfl⟩
noncomputable def abUe (q : Nat × Nat) (l : abE) : Nat → abE := List.rec (motive := fun _ => Nat → abE) (fun _ => []) (fun h t ih i => Nat.rec (q :: t) (fun n _ => h :: ih n) i) l
theorem abUe_set : ∀ (v : Nat × Nat) (l : abE) (i : Nat), abUe v l i = l.set i v
  | _, [], _ => rfl
  | _, _ :: _, 0 => rfl
  | v, h :: l, i + 1 => by
    rw [List.set_cons_succ, ← abUe_set v l i]
    rfl
theorem abEok_set {rh : Nat → Int} {env : abE} {k : Nat} {q : Nat × Nat} (he : abEok rh env) (h1 : (q.1 : Int) ≤ rh k + abB) (h2 : rh k + abB ≤ (q.2 : Int)) : abEok rh (abUe q env k) := by
  rw [abUe_set]
  intro j p hj
  by_cases hk : k = j
  · subst hk
    by_cases hl : k < env.length
    · rw [List.getElem?_set_self hl] at hj
      cases hj
      exact ⟨h1, h2⟩
    · rw [List.getElem?_eq_none (by simp; omega)] at hj
      cases hj
  · rw [List.getElem?_set_ne hk] at hj
    exact he j p hj
/-- v, between a and b, is cut to lo .. hi: t is its argument's number and one more, 0 where it is none -/
noncomputable def abCut {al : Type} (env : abE) (t a b lo hi : Nat) (f : abE → abRs al) : abRs al :=
  abIf (Nat.ble lo b) (abIf (Nat.ble a hi) (abIf (Nat.ble lo hi) (Nat.rec (f env) (fun k _ => f (abUe (abIf (Nat.ble lo a) a lo, abIf (Nat.ble b hi) b hi) env k)) t) (some [])) (some [])) (some [])
theorem abCut_ok {al : Type} {rh : Nat → Int} {env : abE} {t a b lo hi : Nat} {f : abE → abRs al} {r : List al} {n : Int} (h : abCut env t a b lo hi f = some r) (he : abEok rh env) (ht : ∀ k, t = k + 1 → n = rh k) (a1 : (a : Int) ≤ n + abB) (a2 : n + abB ≤ (b : Int)) (h1 : (lo : Int) ≤ n + abB) (h2 : n + abB ≤ (hi : Int)) : ∃ env' : abE, f env' = some r ∧ abEok rh env' := by
  unfold abCut at h
  rw [abIf_t (abBle_t (by omega)), abIf_t (abBle_t (by omega)), abIf_t (abBle_t (by omega))] at h
  cases t with
  | zero => exact ⟨env, h, he⟩
  | succ k =>
    refine ⟨_, h, ?_⟩
    have e := ht k rfl
    rw [e] at a1 a2 h1 h2
    refine abEok_set he ?_ ?_
    · cases q : Nat.ble lo a with
      | true => exact a1
      | false => exact h1
    · cases q : Nat.ble b hi with
      | true => exact a2
      | false => exact h2
/-- the number of a value's argument and one more; 0 where it is none -/
noncomputable def abTag (v : abV) : Nat := abIf (Nat.beq v.1 1) (v.2.1 + 1) (abIf (Nat.beq v.1 3) (v.2.1 + 1) 0)
theorem abTag_i {ws : va_W} {sb sl : Nat} {rh : Nat → Int} {v : abV} {y : Int32} (g : abG ws sb sl rh v (.int y)) (k : Nat) (h : abTag v = k + 1) : y.toInt = rh k := by
  obtain ⟨t, i, lo⟩ := v
  unfold abTag at h
  cases h1 : Nat.beq t 1 with
  | true =>
    rw [abIf_t h1] at h
    have e : t = 1 := abBeq h1
    subst e
    cases h
    obtain ⟨z, hz, e⟩ := g
    cases hz
    exact e
  | false =>
    rw [abIf_f h1] at h
    cases h3 : Nat.beq t 3 with
    | true =>
      have e : t = 3 := abBeq h3
      subst e
      obtain ⟨z, hz, e⟩ := g
      cases hz
    | false =>
      rw [abIf_f h3] at h
      cases h
theorem abTag_l {ws : va_W} {sb sl : Nat} {rh : Nat → Int} {v : abV} {y : Int64} (g : abG ws sb sl rh v (.long y)) (k : Nat) (h : abTag v = k + 1) : y.toInt = rh k := by
  obtain ⟨t, i, lo⟩ := v
  unfold abTag at h
  cases h1 : Nat.beq t 1 with
  | true =>
    have e : t = 1 := abBeq h1
    subst e
    obtain ⟨z, hz, e⟩ := g
    cases hz
  | false =>
    rw [abIf_f h1] at h
    cases h3 : Nat.beq t 3 with
    | true =>
      rw [abIf_t h3] at h
      have e : t = 3 := abBeq h3
      subst e
      cases h
      obtain ⟨z, hz, e⟩ := g
      cases hz
      exact e
    | false =>
      rw [abIf_f h3] at h
      cases h
noncomputable def abCu2 {al : Type} (env : abE) (t a b lo hi u c d lo2 hi2 : Nat) (f : abE → abRs al) : abRs al := abCut env t a b lo hi (fun e => abCut e u c d lo2 hi2 f)
theorem abCu2_ok {al : Type} {rh : Nat → Int} {env : abE} {t a b lo hi u c d lo2 hi2 : Nat} {f : abE → abRs al} {r : List al} {m n : Int} (h : abCu2 env t a b lo hi u c d lo2 hi2 f = some r) (he : abEok rh env) (ht : ∀ k, t = k + 1 → m = rh k) (hu : ∀ k, u = k + 1 → n = rh k) (a1 : (a : Int) ≤ m + abB) (a2 : m + abB ≤ (b : Int)) (c1 : (c : Int) ≤ n + abB) (c2 : n + abB ≤ (d : Int)) (h1 : (lo : Int) ≤ m + abB) (h2 : m + abB ≤ (hi : Int)) (h3 : (lo2 : Int) ≤ n + abB) (h4 : n + abB ≤ (hi2 : Int)) : ∃ env' : abE, f env' = some r ∧ abEok rh env' := by
  obtain ⟨e1, q1, q2⟩ := abCut_ok h he ht a1 a2 h1 h2
  exact abCut_ok q1 q2 hu c1 c2 h3 h4
/-- branches: f: it holds; g: it doesn't; s: once more, with less of the argument -/
noncomputable def abLt {al : Type} (env : abE) (t a b u c d : Nat) (f g _s : abE → abRs al) : abRs al := abJn (abCu2 env t a b a (d - 1) u c d (a + 1) d f) (abCu2 env t a b c b u c d c b g)
noncomputable def abGt {al : Type} (env : abE) (t a b u c d : Nat) (f g _s : abE → abRs al) : abRs al := abJn (abCu2 env t a b (c + 1) b u c d c (b - 1) f) (abCu2 env t a b a d u c d a d g)
noncomputable def abQ3 {al : Type} (env : abE) (t a b c : Nat) (s : abE → abRs al) : abRs al := abJn (abCut env t a b a (c - 1) s) (abJn (abCut env t a b c c s) (abCut env t a b (c + 1) b s))
noncomputable def abEq {al : Type} (env : abE) (t a b u c d : Nat) (f g s : abE → abRs al) : abRs al :=
  abIf (Nat.beq c d) (abIf (Nat.beq a c) (abJn (abCu2 env t a b c d u c d a b f) (abCut env t a b (c + 1) b g))
    (abIf (Nat.beq b c) (abJn (abCu2 env t a b c d u c d a b f) (abCut env t a b a (c - 1) g))
      (abIf (Nat.ble c a) (abJn (abCu2 env t a b c d u c d a b f) (g env)) (abIf (Nat.ble b c) (abJn (abCu2 env t a b c d u c d a b f) (g env))
        (Nat.rec (abJn (abCu2 env t a b c d u c d a b f) (g env)) (fun _ _ => abQ3 env t a b c s) t)))))
    (abJn (abCu2 env t a b c d u c d a b f) (g env))
abbrev abBt (al : Type) : Type := abE → Nat → Nat → Nat → Nat → Nat → Nat → (abE → abRs al) → (abE → abRs al) → (abE → abRs al) → abRs al
def abHas {al : Type} (rh : Nat → Int) (f : abE → abRs al) (r : List al) : Prop := ∃ (env' : abE) (r' : List al), f env' = some r' ∧ (∀ x ∈ r', x ∈ r) ∧ abEok rh env'
def abBrk (P : Int → Int → Prop) {al : Type} (BR : abBt al) : Prop := ∀ (rh : Nat → Int) (env : abE) (t a b u c d : Nat) (f g s : abE → abRs al) (r : List al) (m n : Int), BR env t a b u c d f g s = some r → abEok rh env → (∀ k, t = k + 1 → m = rh k) → (∀ k, u = k + 1 → n = rh k) → (a : Int) ≤ m + abB → m + abB ≤ (b : Int) → (c : Int) ≤ n + abB → n + abB ≤ (d : Int) → abHas rh s r ∨ ((P m n → abHas rh f r) ∧ (¬ P m n → abHas rh g r))
theorem abHas_l {al : Type} {rh : Nat → Int} {f : abE → abRs al} {x r : List al} (hs : ∀ z ∈ x, z ∈ r) (h : ∃ env' : abE, f env' = some x ∧ abEok rh env') : abHas rh f r := by
  obtain ⟨e, h1, h2⟩ := h
  exact ⟨e, x, h1, hs, h2⟩
theorem abLt_ok {al : Type} : abBrk (fun m n => m < n) (al := al) abLt := by
  intro rh env t a b u c d f g s r m n h he ht hu a1 a2 c1 c2
  obtain ⟨x, y, hx, hy, rfl⟩ := abJn_some h
  refine Or.inr ⟨fun hp => ?_, fun hp => ?_⟩
  · exact abHas_l (fun z q => List.mem_append_left _ q) (abCu2_ok hx he ht hu a1 a2 c1 c2 a1 (by omega) (by omega) c2)
  · exact abHas_l (fun z q => List.mem_append_right _ q) (abCu2_ok hy he ht hu a1 a2 c1 c2 (by omega) a2 c1 (by omega))
theorem abGt_ok {al : Type} : abBrk (fun m n => n < m) (al := al) abGt := by
  intro rh env t a b u c d f g s r m n h he ht hu a1 a2 c1 c2
  obtain ⟨x, y, hx, hy, rfl⟩ := abJn_some h
  refine Or.inr ⟨fun hp => ?_, fun hp => ?_⟩
  · exact abHas_l (fun z q => List.mem_append_left _ q) (abCu2_ok hx he ht hu a1 a2 c1 c2 (by omega) a2 c1 (by omega))
  · exact abHas_l (fun z q => List.mem_append_right _ q) (abCu2_ok hy he ht hu a1 a2 c1 c2 a1 (by omega) (by omega) c2)
theorem abEq_ok {al : Type} : abBrk (fun m n => m = n) (al := al) abEq := by
  intro rh env t a b u c d f g s r m n h he ht hu a1 a2 c1 c2
  have base : ∀ G : abRs al, abJn (abCu2 env t a b c d u c d a b f) G = some r → (¬ m = n → ∀ y, G = some y → ∃ env' : abE, g env' = some y ∧ abEok rh env') → abHas rh s r ∨ ((m = n → abHas rh f r) ∧ (¬ m = n → abHas rh g r)) := by
    intro G h1 h2
    obtain ⟨x, y, hx, hy, rfl⟩ := abJn_some h1
    refine Or.inr ⟨fun hp => ?_, fun hp => ?_⟩
    · exact abHas_l (fun z q => List.mem_append_left _ q) (abCu2_ok hx he ht hu a1 a2 c1 c2 (by omega) (by omega) (by omega) (by omega))
    · exact abHas_l (fun z q => List.mem_append_right _ q) (h2 hp y hy)
  unfold abEq at h
  cases q1 : Nat.beq c d with
  | false =>
    rw [abIf_f q1] at h
    exact base _ h (fun _ y hy => ⟨env, hy, he⟩)
  | true =>
    rw [abIf_t q1] at h
    have e1 := abBeq q1
    cases q2 : Nat.beq a c with
    | true =>
      rw [abIf_t q2] at h
      have e2 := abBeq q2
      exact base _ h (fun hp y hy => abCut_ok hy he ht a1 a2 (by omega) a2)
    | false =>
      rw [abIf_f q2] at h
      have e2 := abBeq_f q2
      cases q3 : Nat.beq b c with
      | true =>
        rw [abIf_t q3] at h
        have e3 := abBeq q3
        exact base _ h (fun hp y hy => abCut_ok hy he ht a1 a2 a1 (by omega))
      | false =>
        rw [abIf_f q3] at h
        cases q4 : Nat.ble c a with
        | true =>
          rw [abIf_t q4] at h
          exact base _ h (fun _ y hy => ⟨env, hy, he⟩)
        | false =>
          rw [abIf_f q4] at h
          cases q5 : Nat.ble b c with
          | true =>
            rw [abIf_t q5] at h
            exact base _ h (fun _ y hy => ⟨env, hy, he⟩)
          | false =>
            rw [abIf_f q5] at h
            cases t with
            | zero => exact base _ h (fun _ y hy => ⟨env, hy, he⟩)
            | succ k =>
              refine Or.inl ?_
              have h' : abQ3 env (k + 1) a b c s = some r := h
              obtain ⟨x, yz, hx, hyz, rfl⟩ := abJn_some h'
              obtain ⟨y, z, hy, hz, rfl⟩ := abJn_some hyz
              by_cases g1 : m + abB < (c : Int)
              · exact abHas_l (fun w q => List.mem_append_left _ q) (abCut_ok hx he ht a1 a2 a1 (by omega))
              · by_cases g2 : m + abB = (c : Int)
                · exact abHas_l (fun w q => List.mem_append_right _ (List.mem_append_left _ q)) (abCut_ok hy he ht a1 a2 (by omega) (by omega))
                · exact abHas_l (fun w q => List.mem_append_right _ (List.mem_append_right _ q)) (abCut_ok hz he ht a1 a2 (by omega) a2)
/-- the other way round -/
noncomputable def abSw {al : Type} (BR : abBt al) : abBt al := fun env t a b u c d f g s => BR env t a b u c d g f s
theorem abSw_ok {al : Type} {P : Int → Int → Prop} {BR : abBt al} (h : abBrk P BR) : abBrk (fun m n => ¬ P m n) (abSw BR) := by
  intro rh env t a b u c d f g s r m n h1 he ht hu a1 a2 c1 c2
  rcases h rh env t a b u c d g f s r m n h1 he ht hu a1 a2 c1 c2 with q | ⟨q1, q2⟩
  · exact Or.inl q
  · exact Or.inr ⟨fun hp => q2 hp, fun hp => q1 (Classical.not_not.mp hp)⟩
/-- cases of an argument with few values -/
noncomputable def abFo {al : Type} (f : Nat → abRs al) (a n : Nat) : abRs al := Nat.rec (f a) (fun n ih => abJn (f (a + (n + 1))) ih) n
theorem abFo_ok {al : Type} {f : Nat → abRs al} {a : Nat} : ∀ {n : Nat} {r : List al} {z : Nat}, abFo f a n = some r → a ≤ z → z ≤ a + n → ∃ r', f z = some r' ∧ ∀ x ∈ r', x ∈ r
  | 0, r, z, h, h1, h2 => by
    have e : z = a := by omega
    rw [e]
    exact ⟨r, h, fun _ q => q⟩
  | n + 1, r, z, h, h1, h2 => by
    obtain ⟨x, y, hx, hy, rfl⟩ := abJn_some h
    by_cases e : z = a + (n + 1)
    · rw [e]
      exact ⟨x, hx, fun _ q => List.mem_append_left _ q⟩
    · obtain ⟨r', q1, q2⟩ := abFo_ok (n := n) hy h1 (by omega)
      exact ⟨r', q1, fun w q => List.mem_append_right _ (q2 w q)⟩
noncomputable def abSpl {al : Type} (w t : Nat) (env : abE) (a b : Nat) (s : abE → abRs al) : abRs al :=
  Nat.rec none (fun k _ => abIf (Nat.ble (b - a) w) (abFo (fun z => s (abUe (z, z) env k)) a (b - a)) none) t
theorem abSpl_ok {al : Type} {rh : Nat → Int} {w t : Nat} {env : abE} {a b : Nat} {s : abE → abRs al} {r : List al} {m : Int} (h : abSpl w t env a b s = some r) (he : abEok rh env) (ht : ∀ k, t = k + 1 → m = rh k) (a1 : (a : Int) ≤ m + abB) (a2 : m + abB ≤ (b : Int)) : abHas rh s r := by
  cases t with
  | zero => cases h
  | succ k =>
    obtain ⟨h1, h2⟩ := abIf_some (show abIf (Nat.ble (b - a) w) (abFo (fun z => s (abUe (z, z) env k)) a (b - a)) none = some r from h)
    have e := ht k rfl
    obtain ⟨r', q1, q2⟩ := abFo_ok (z := (m + abB).toNat) h2 (by omega) (by omega)
    refine ⟨_, r', q1, q2, abEok_set he ?_ ?_⟩
    · show (((m + abB).toNat : Nat) : Int) ≤ _
      rw [← e]; omega
    · show _ ≤ (((m + abB).toNat : Nat) : Int)
      rw [← e]; omega
