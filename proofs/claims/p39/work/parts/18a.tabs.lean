/-! tables, tried leaf by leaf -/
noncomputable def avLeafs {al : Type} (p : al → Bool) (t : Lean.RArray al) : Bool := Lean.RArray.rec (fun x => p x) (fun _ _ _ a b => abIf a b false) t
theorem avLeafs_ok {al : Type} {p : al → Bool} : ∀ {t : Lean.RArray al}, avLeafs p t = true → ∀ i : Nat, p (t.get i) = true
  | .leaf _, h, _ => h
  | .branch q a b, h, i => by
    obtain ⟨h1, h2⟩ := abIf_and (show abIf (avLeafs p a) (avLeafs p b) false = true from h)
    show p (Bool.rec (a.get i) (b.get i) (Nat.ble q i)) = true
    cases Nat.ble q i with
    | false => exact avLeafs_ok h1 i
    | true => exact avLeafs_ok h2 i
noncomputable def avAllR (lo : Int) (n : Nat) (f : Int → Bool) : Bool := Nat.rec true (fun k ih => abIf (f (lo + (k : Int))) ih false) n
theorem avAllR_ok {lo : Int} {f : Int → Bool} : ∀ {n : Nat}, avAllR lo n f = true → ∀ y : Int, lo ≤ y → y < lo + (n : Int) → f y = true
  | 0, _, y, h1, h2 => by omega
  | n + 1, h, y, h1, h2 => by
    obtain ⟨h3, h4⟩ := abIf_and (show abIf (f (lo + (n : Int))) (avAllR lo n f) false = true from h)
    by_cases e : y = lo + (n : Int)
    · rw [e]; exact h3
    · exact avAllR_ok h4 y h1 (by omega)
noncomputable def avInA (p : List (Int × Int × Int)) : (Int → Bool) → Bool := List.rec (motive := fun _ => (Int → Bool) → Bool) (fun f => f 0) (fun h _ ih f => avAllR h.2.1 (h.2.2 - h.2.1 + 1).toNat (fun y => ih (fun z => f (h.1 * y + z)))) p
theorem avInA_ok : ∀ {p : List (Int × Int × Int)} {f : Int → Bool}, avInA p f = true → ∀ z : Int, avInS p z → f z = true
  | [], f, h, z, hz => by
    have e : z = 0 := hz
    rw [e]; exact h
  | g :: p, f, h, z, hz => by
    obtain ⟨y, h1, h2, h3⟩ := hz
    have h4 : avAllR g.2.1 (g.2.2 - g.2.1 + 1).toNat (fun y => avInA p (fun z => f (g.1 * y + z))) = true := h
    have h5 := avAllR_ok h4 y h1 (by omega)
    have h6 := avInA_ok (f := fun z => f (g.1 * y + z)) h5 _ h3
    have h7 : f (g.1 * y + (z - g.1 * y)) = true := h6
    rw [show g.1 * y + (z - g.1 * y) = z by omega] at h7
    exact h7
noncomputable def avEqS (x y : avSi) : Bool := abIf (Nat.beq x.1 y.1) (abIf (aiEq x.2.1 y.2.1) (aiEq x.2.2 y.2.2) false) false
theorem avEqS_ok {x y : avSi} (h : avEqS x y = true) : x = y := by
  obtain ⟨h1, h2⟩ := abIf_and h
  obtain ⟨h3, h4⟩ := abIf_and h2
  exact Prod.ext (abBeq h1) (Prod.ext (aiEq_ok h3) (aiEq_ok h4))
noncomputable def avImpB (x y : avSi) : Bool := abIf (avEqS x y) true (abIf (Nat.beq x.1 2) (abIf (Nat.beq y.1 2) (abIf (aiEq x.2.1 y.2.1) (aiEq y.2.2 (-1)) false) false) false)
theorem avImpB_ok {x y : avSi} (h : avImpB x y = true) : avImp x y := by
  rcases abIf_or h with q | q
  · exact Or.inl (avEqS_ok q)
  · obtain ⟨h1, h2⟩ := abIf_and q
    obtain ⟨h3, h4⟩ := abIf_and h2
    obtain ⟨h5, h6⟩ := abIf_and h4
    exact Or.inr ⟨abBeq h1, abBeq h3, aiEq_ok h5, aiEq_ok h6⟩
noncomputable def avClC (RT : Lean.RArray avRg) (L : List avCl) : Bool := List.rec true (fun c _ ih => abIf (avInA c.2.1 (fun z => avImpB ((RT.get c.1).2.2.get (z + c.2.2.1).toNat) c.2.2.2)) ih false) L
theorem avClC_ok {RT : Lean.RArray avRg} : ∀ {L : List avCl}, avClC RT L = true → avClOk RT L
  | [], _, c, hc => by cases hc
  | x :: L, h, c, hc => by
    obtain ⟨h1, h2⟩ := abIf_and (show abIf (avInA x.2.1 (fun z => avImpB ((RT.get x.1).2.2.get (z + x.2.2.1).toNat) x.2.2.2)) (avClC RT L) false = true from h)
    rcases List.mem_cons.mp hc with rfl | hc
    · intro z hz i hi
      have := avImpB_ok (avInA_ok h1 z hz)
      rw [← hi] at this
      exact this
    · exact avClC_ok h2 c hc
theorem avCl_ok : avClOk avRT avCLt := avClC_ok (by decide +kernel)
theorem avCy0_ok : avCyOk0 avRT avCYt.1 := fun y hy => by cases hy
/-- entries alike -/
noncomputable def avEqL (a : List Nat) : List Nat → Bool := List.rec (motive := fun _ => List Nat → Bool) (fun m => List.rec true (fun _ _ _ => false) m) (fun x _ ih m => List.rec false (fun y r _ => abIf (Nat.beq x y) (ih r) false) m) a
theorem avEqL_ok : ∀ {a b : List Nat}, avEqL a b = true → a = b
  | [], [], _ => rfl
  | [], _ :: _, h => by cases h
  | _ :: _, [], h => by cases h
  | x :: a, y :: b, h => by
    obtain ⟨h1, h2⟩ := abIf_and (show abIf (Nat.beq x y) (avEqL a b) false = true from h)
    rw [abBeq h1, avEqL_ok h2]
noncomputable def avEqE (x y : abEy) : Bool := abIf (Nat.beq x.1 y.1) (abIf (Nat.beq x.2.1 y.2.1) (abIf (Nat.beq x.2.2.1 y.2.2.1) (abIf (Nat.beq x.2.2.2.1 y.2.2.2.1) (abIf (Nat.beq x.2.2.2.2.1 y.2.2.2.2.1) (avEqL x.2.2.2.2.2 y.2.2.2.2.2) false) false) false) false) false
theorem avEqE_ok {x y : abEy} (h : avEqE x y = true) : x = y := by
  obtain ⟨h1, h⟩ := abIf_and h
  obtain ⟨h2, h⟩ := abIf_and h
  obtain ⟨h3, h⟩ := abIf_and h
  obtain ⟨h4, h⟩ := abIf_and h
  obtain ⟨h5, h⟩ := abIf_and h
  exact Prod.ext (abBeq h1) (Prod.ext (abBeq h2) (Prod.ext (abBeq h3) (Prod.ext (abBeq h4) (Prod.ext (abBeq h5) (avEqL_ok h)))))
noncomputable def avMemE (e : abEy) (l : List abEy) : Bool := List.rec false (fun x _ ih => abIf (avEqE x e) true ih) l
theorem avMemE_ok {e : abEy} : ∀ {l : List abEy}, avMemE e l = true → e ∈ l
  | [], h => by cases h
  | x :: l, h => by
    rcases abIf_or (show abIf (avEqE x e) true (avMemE e l) = true from h) with q | q
    · rw [avEqE_ok q]; exact List.mem_cons_self
    · exact List.mem_cons_of_mem _ (avMemE_ok q)
/-- an entry of the new tables: an old one, none, or one of the new; what is called takes no room -/
noncomputable def avTc (k : Nat) (e : abEy) : Bool := abIf (abIf (Nat.beq e.1 0) true (abIf (avEqE ((abMe k).2.2.2.2.2.get e.2.1) e) true (avMemE e (avNw k))))
  (abIf (Nat.ble 78 e.1) (abIf (Nat.ble e.1 81) (abIf (Nat.beq (abMe e.2.2.1).2.2.1 0) (Nat.beq (abMe e.2.2.1).2.2.2.1 0) false) true) true) false
noncomputable def avTcA (n : Nat) : Bool := Nat.rec true (fun k ih => abIf (avLeafs (avTc k) (avTT k)) ih false) n
theorem avTcA_ok : ∀ {n : Nat}, avTcA n = true → ∀ k : Nat, k < n → avLeafs (avTc k) (avTT k) = true
  | 0, _, k, hk => by omega
  | n + 1, h, k, hk => by
    obtain ⟨h1, h2⟩ := abIf_and (show abIf (avLeafs (avTc n) (avTT n)) (avTcA n) false = true from h)
    by_cases e : k = n
    · rw [e]; exact h1
    · exact avTcA_ok h2 k (by omega)
theorem avTcAll : avTcA 276 = true := by decide +kernel
theorem avTabZ_ok : avTabZ avTT := by
  intro k pc hk hpc h1 h2
  have h := avLeafs_ok (avTcA_ok avTcAll k hk) pc
  obtain ⟨-, h3⟩ := abIf_and h
  rw [abIf_t (abBle_t h1), abIf_t (abBle_t h2)] at h3
  obtain ⟨h4, h5⟩ := abIf_and h3
  exact ⟨abBeq h4, abBeq h5⟩
