/-! THE ENGINE: each instruction a function over one frame's values and the world; nx: what follows in this frame -/
abbrev abCel : Type := Nat × Nat × Lean.RArray abV
abbrev abH : Type := Lean.RArray abCel
/-- the world, how many cells, the arguments' bounds, cells and slots made in this frame -/
abbrev abSt : Type := abH × Nat × abE × Nat × Nat
abbrev abF : Type := Nat × List abV × List abV × abSt
abbrev abR : Type := Option (List abF)
abbrev abNx : Type := Nat → List abV → List abV → abSt → abR
abbrev abPo : Type := abNx → Nat → abEy → Nat → List abV → List abV → abSt → abR
noncomputable def abHd (st : List abV) (f : abV → List abV → abR) : abR := List.rec none (fun v r _ => f v r) st
noncomputable def ab2 (st : List abV) (f : abV → abV → List abV → abR) : abR := abHd st fun w r => abHd r fun v r => f w v r
def abSe (g : abSt) (e : abE) : abSt := (g.1, g.2.1, e, g.2.2.2)
def abSh (g : abSt) (h : abH) : abSt := (h, g.2)
noncomputable def abFail : abPo := fun _ _ _ _ _ _ _ => none
noncomputable def abOc (c len : Nat) : abPo := fun nx _ e pc ls st g => nx (pc + len) ls ((c, e.2.2.2.2.1, e.2.2.2.2.1) :: st) g
noncomputable def abOl (c len : Nat) : abPo := fun nx _ e pc ls st g => abIf (Nat.beq ((abNth ls e.2.2.2.1).1 / 2) c) (nx (pc + len) ls (abNth ls e.2.2.2.1 :: st) g) none
noncomputable def abOs (c len : Nat) : abPo := fun nx _ e pc ls st g => abHd st fun v r => abIf (Nat.beq (v.1 / 2) c) (nx (pc + len) (abSt1 ls e.2.2.2.1 v) r g) none
noncomputable def abOs2 (len : Nat) : abPo := fun nx _ e pc ls st g => abHd st fun v r => abIf (Nat.beq (v.1 / 2) 1) (nx (pc + len) (abSt2 ls e.2.2.2.1 v) r g) none
noncomputable def abOinc : abPo := fun nx _ e pc ls st g => abWi 0 g.2.2.1 (abNth ls e.2.2.2.1) fun a b =>
  nx (pc + 3) (abSt1 ls e.2.2.2.1 (abBI (a + e.2.2.2.2.1 - 9223372036854775808) (b + e.2.2.2.2.1 - 9223372036854775808))) st g
/-! int operations: the bounds of both, and what to do with the result -/
abbrev abOp : Type := abV → abV → Nat → Nat → Nat → Nat → (abV → abR) → abR
noncomputable def abOi (F : abOp) : abPo := fun nx _ _ pc ls st g => ab2 st fun w v r => abWi 0 g.2.2.1 v fun a b => abWi 0 g.2.2.1 w fun c d => F v w a b c d fun u => nx (pc + 1) ls (u :: r) g
def abKi (y : Int32) : abV := (0, (y.toInt + 9223372036854775808).toNat, (y.toInt + 9223372036854775808).toNat)
def abOf (n : Nat) : Int32 := Int32.ofInt ((n : Int) - 9223372036854775808)
noncomputable def abFadd : abOp := fun _ _ a b c d K => K (abBI (a + c - 9223372036854775808) (b + d - 9223372036854775808))
noncomputable def abFsub : abOp := fun v w a b c d K => abIf (Nat.beq (abTag v) 0) (K (abBI (a + 9223372036854775808 - d) (b + 9223372036854775808 - c)))
  (abIf (Nat.beq (abTag v) (abTag w)) (K (0, 9223372036854775808, 9223372036854775808)) (K (abBI (a + 9223372036854775808 - d) (b + 9223372036854775808 - c))))
noncomputable def abFmul : abOp := fun _ _ a b c d K => K (abIf (Nat.ble 9223372036854775808 a) (abIf (Nat.ble 9223372036854775808 c)
  (abBI ((a - 9223372036854775808) * (c - 9223372036854775808) + 9223372036854775808) ((b - 9223372036854775808) * (d - 9223372036854775808) + 9223372036854775808)) abTI) abTI)
/-- known of known numbers alone -/
noncomputable def abFk (f : Int32 → Int32 → Int32) : abOp := fun _ _ a b c d K => K (abIf (Nat.beq a b) (abIf (Nat.beq c d) (abKi (f (abOf a) (abOf c))) abTI) abTI)
/-- a divisor above 0 -/
noncomputable def abFd (f : Int32 → Int32 → Int32) : abOp := fun v w a b c d K => abIf (Nat.ble 9223372036854775809 c) (abFk f v w a b c d K) none
noncomputable def abFand : abOp := fun v w a b c d K => abIf (Nat.beq a b) (abFk (fun x y => x &&& y) v w a b c d K)
  (abIf (Nat.ble 9223372036854775808 c) (K (0, 9223372036854775808, d)) (K abTI))
noncomputable def abOi2 (F : abOp) : abPo := fun nx _ _ pc ls st g => ab2 st fun w v r => abWi 0 g.2.2.1 v fun a b => abWi 0 g.2.2.1 w fun c d =>
  abIf (Nat.beq (abTag v) 0) (abIf (Nat.beq (abTag w) 0) (F v w a b c d fun u => nx (pc + 1) ls (u :: r) g)
    (abIf (Nat.beq c d) (F v w a b c d fun u => nx (pc + 1) ls (u :: r) g)
      (abIf (Nat.ble (d - c) 12) (abSpl 12 (abTag w) g.2.2.1 c d fun e => nx pc ls st (abSe g e)) (F v w a b c d fun u => nx (pc + 1) ls (u :: r) g))))
    (abIf (Nat.beq a b) (F v w a b c d fun u => nx (pc + 1) ls (u :: r) g)
      (abIf (Nat.ble (b - a) 12) (abSpl 12 (abTag v) g.2.2.1 a b fun e => nx pc ls st (abSe g e)) (F v w a b c d fun u => nx (pc + 1) ls (u :: r) g)))
noncomputable def abOneg : abPo := fun nx _ _ pc ls st g => abHd st fun v r => abWi 0 g.2.2.1 v fun a b => nx (pc + 1) ls (abBI (18446744073709551616 - b) (18446744073709551616 - a) :: r) g
/-! long operations -/
noncomputable def abOj (F : Nat → Nat → Nat → Nat → abV) : abPo := fun nx _ _ pc ls st g => ab2 st fun w v r => abWi 2 g.2.2.1 v fun a b => abWi 2 g.2.2.1 w fun c d => nx (pc + 1) ls (F a b c d :: r) g
noncomputable def abGadd : Nat → Nat → Nat → Nat → abV := fun a b c d => abIf (Nat.ble 9223372036854775808 (a + c)) (abBL (a + c - 9223372036854775808) (b + d - 9223372036854775808)) abTL
noncomputable def abGsub : Nat → Nat → Nat → Nat → abV := fun a b c d => abIf (Nat.ble d (a + 9223372036854775808)) (abBL (a + 9223372036854775808 - d) (b + 9223372036854775808 - c)) abTL
noncomputable def abGtop : Nat → Nat → Nat → Nat → abV := fun _ _ _ _ => abTL
noncomputable def abOjs : abPo := fun nx _ _ pc ls st g => ab2 st fun w v r => abWi 0 g.2.2.1 w fun _ _ => abWi 2 g.2.2.1 v fun _ _ => nx (pc + 1) ls (abTL :: r) g
noncomputable def abOi2l : abPo := fun nx _ _ pc ls st g => abHd st fun v r => abIf (Nat.ble v.1 1) (nx (pc + 1) ls ((v.1 + 2, v.2) :: r) g) none
noncomputable def abOl2i : abPo := fun nx _ _ pc ls st g => abHd st fun v r => abWi 2 g.2.2.1 v fun a b => nx (pc + 1) ls (abBI a b :: r) g
noncomputable def abOi2b : abPo := fun nx _ _ pc ls st g => abHd st fun v r => abWi 0 g.2.2.1 v fun _ _ => nx (pc + 1) ls ((0, 9223372036854775680, 9223372036854775935) :: r) g
noncomputable def abOcmp : abPo := fun nx _ _ pc ls st g => ab2 st fun w v r => abWi 2 g.2.2.1 v fun a b => abWi 2 g.2.2.1 w fun c d =>
  abIf (Nat.ble c b) (abIf (Nat.ble a d)
    (abIf (Nat.beq c d) (abIf (Nat.beq a b) (nx (pc + 1) ls ((0, 9223372036854775808, 9223372036854775808) :: r) g)
      (abIf (Nat.beq v.1 3) (nx (pc + 1) ls ((7, v.2.1, c) :: r) g) (nx (pc + 1) ls ((0, 9223372036854775807, 9223372036854775809) :: r) g)))
      (nx (pc + 1) ls ((0, 9223372036854775807, 9223372036854775809) :: r) g))
    (nx (pc + 1) ls ((0, 9223372036854775809, 9223372036854775809) :: r) g))
    (nx (pc + 1) ls ((0, 9223372036854775807, 9223372036854775807) :: r) g)
/-- a value of one slot -/
noncomputable def abOne (v : abV) (k : abR) : abR := abIf (Nat.beq (v.1 / 2) 1) none (abIf (Nat.ble v.1 7) k none)
noncomputable def abOdup : abPo := fun nx _ _ pc ls st g => abHd st fun v r => abOne v (nx (pc + 1) ls (v :: v :: r) g)
noncomputable def abOdup2 : abPo := fun nx _ _ pc ls st g => abHd st fun v r => abIf (Nat.beq (v.1 / 2) 1) (nx (pc + 1) ls (v :: v :: r) g)
  (abHd r fun w r' => abOne v (abOne w (nx (pc + 1) ls (v :: w :: v :: w :: r') g)))
noncomputable def abOif (BR : abBt abF) : abPo := fun nx _ e pc ls st g => abHd st fun v r =>
  abIf (Nat.beq v.1 7) (abWe (fun a b => BR g.2.2.1 (v.2.1 + 1) a b 0 v.2.2 v.2.2 (fun x => nx e.2.2.1 ls r (abSe g x)) (fun x => nx (pc + 3) ls r (abSe g x)) (fun x => nx pc ls st (abSe g x))) g.2.2.1 v.2.1)
    (abWi 0 g.2.2.1 v fun a b => BR g.2.2.1 (abTag v) a b 0 9223372036854775808 9223372036854775808 (fun x => nx e.2.2.1 ls r (abSe g x)) (fun x => nx (pc + 3) ls r (abSe g x)) (fun x => nx pc ls st (abSe g x)))
noncomputable def abOic (BR : abBt abF) : abPo := fun nx _ e pc ls st g => ab2 st fun w v r =>
  abWi 0 g.2.2.1 v fun a b => abWi 0 g.2.2.1 w fun c d => BR g.2.2.1 (abTag v) a b (abTag w) c d (fun x => nx e.2.2.1 ls r (abSe g x)) (fun x => nx (pc + 3) ls r (abSe g x)) (fun x => nx pc ls st (abSe g x))
noncomputable def abOgo : abPo := fun nx _ e _ ls st g => nx e.2.2.1 ls st g
/-! switches: the targets stand in the entry -/
noncomputable def abPk (l : List Nat) (df : Nat) : Nat → Nat := List.rec (motive := fun _ => Nat → Nat) (fun _ => df) (fun h _ ih i => Nat.rec h (fun n _ => ih n) i) l
noncomputable def abTs (f : Nat → abR) (ps : List Nat) : Nat → abR := List.rec (motive := fun _ => Nat → abR) (fun _ => some []) (fun _ _ ih i => abJn (f i) (ih (i + 1))) ps
noncomputable def abTa (f : Nat → abR) (ps : List Nat) : abR := List.rec (some []) (fun h _ ih => abJn (f h) ih) ps
noncomputable def abOsw : abPo := fun nx _ e pc ls st g => abHd st fun v r => abWi 0 g.2.2.1 v fun a b =>
  abIf (Nat.beq a b) (nx (abIf (Nat.ble e.2.2.2.2.1 a) (abPk e.2.2.2.2.2 e.2.2.1 (a - e.2.2.2.2.1)) e.2.2.1) ls r g)
    (abIf (Nat.ble (b + 1) e.2.2.2.2.1) (nx e.2.2.1 ls r g) (abIf (Nat.ble (e.2.2.2.2.1 + e.2.2.2.2.2.length) a) (nx e.2.2.1 ls r g)
      (abIf (Nat.beq (abTag v) 0) (abJn (nx e.2.2.1 ls r g) (abTa (fun t => nx t ls r g) e.2.2.2.2.2))
        (abJn (abCut g.2.2.1 (abTag v) a b a (e.2.2.2.2.1 - 1) fun x => nx pc ls st (abSe g x))
          (abJn (abCut g.2.2.1 (abTag v) a b (e.2.2.2.2.1 + e.2.2.2.2.2.length) b fun x => nx pc ls st (abSe g x))
            (abTs (fun i => abCut g.2.2.1 (abTag v) a b i i fun x => nx pc ls st (abSe g x)) e.2.2.2.2.2 e.2.2.2.2.1))))))
/-! fields -/
noncomputable def abOgf : abPo := fun nx _ e pc ls st g => abHd st fun v r => abWr v fun j => abIf (Nat.beq (g.1.get j).1 e.2.2.1) (nx (pc + 3) ls ((g.1.get j).2.2.get e.2.2.2.1 :: r) g) none
/-- a cell with a new value at a place -/
noncomputable def abPut (g : abSt) (j i : Nat) (u : abV) : abSt := abSh g (abSet j ((g.1.get j).1, (g.1.get j).2.1, abSet i u (g.1.get j).2.2 (abD (g.1.get j).2.1) 0) g.1 12 0)
abbrev abFt : Type := abE → abV → abR → abR
noncomputable def abFti : abFt := fun _ v k => abIf (Nat.ble v.1 1) k none
noncomputable def abFtz : abFt := fun env v k => abWi 0 env v fun a b => abIf (Nat.ble 9223372036854775808 a) (abIf (Nat.ble b 9223372036854775809) k none) none
noncomputable def abFtb : abFt := fun env v k => abWi 0 env v fun a b => abIf (Nat.ble 9223372036854775680 a) (abIf (Nat.ble b 9223372036854775935) k none) none
noncomputable def abFtr : abFt := fun _ v k => abIf (Nat.beq v.1 4) k (abIf (Nat.beq v.1 6) k none)
noncomputable def abFtl : abFt := fun _ v k => abIf (Nat.beq (v.1 / 2) 1) k none
noncomputable def abOpf (F : abFt) : abPo := fun nx _ e pc ls st g => ab2 st fun v w r => abWr w fun j => abIf (Nat.beq (g.1.get j).1 e.2.2.1) (F g.2.2.1 v (nx (pc + 3) ls r (abPut g j e.2.2.2.1 v))) none
/-! rows -/
noncomputable def abHu (env : abE) (t : Lean.RArray abV) (K : abV → abR) (n : Nat) : Nat → Nat → Nat → abR :=
  Nat.rec (motive := fun _ => Nat → Nat → Nat → abR) (fun _ lo hi => K (0, lo, hi)) (fun _ ih i lo hi => abWi 0 env (t.get i) fun a b => ih (i + 1) (abIf (Nat.ble a lo) a lo) (abIf (Nat.ble hi b) b hi)) n
/-- the contents between two indices: one place, or what several places of ints hold -/
noncomputable def abAt (env : abE) (c : abCel) (a b : Nat) (K : abV → abR) : abR :=
  abIf (Nat.ble 9223372036854775808 a) (abIf (Nat.ble (b + 1) (9223372036854775808 + c.2.1))
    (abIf (Nat.beq a b) (K (c.2.2.get (a - 9223372036854775808)))
      (abIf (Nat.ble (b - a) 63) (abWi 0 env (c.2.2.get (a - 9223372036854775808)) fun lo hi => abHu env c.2.2 K (b - a) (a + 1 - 9223372036854775808) lo hi) none)) none) none
/-- one place -/
noncomputable def abA1 (c : abCel) (a : Nat) (k : Nat → abR) : abR := abIf (Nat.ble 9223372036854775808 a) (abIf (Nat.ble (a + 1) (9223372036854775808 + c.2.1)) (k (a - 9223372036854775808)) none) none
noncomputable def abOial : abPo := fun nx _ _ pc ls st g => ab2 st fun w v r => abWi 0 g.2.2.1 w fun a b => abWr v fun j =>
  abIf (Nat.beq (g.1.get j).1 100) (abAt g.2.2.1 (g.1.get j) a b fun u => nx (pc + 1) ls (u :: r) g) none
noncomputable def abObal : abPo := fun nx _ _ pc ls st g => ab2 st fun w v r => abWi 0 g.2.2.1 w fun a b => abWr v fun j =>
  abIf (Nat.beq ((g.1.get j).1 / 2) 51) (abAt g.2.2.1 (g.1.get j) a b fun u => nx (pc + 1) ls (u :: r) g) none
noncomputable def abOlal : abPo := fun nx _ _ pc ls st g => ab2 st fun w v r => abWi 0 g.2.2.1 w fun a b => abWr v fun j =>
  abIf (Nat.beq (g.1.get j).1 101) (abIf (Nat.beq a b) (abA1 (g.1.get j) a fun i => nx (pc + 1) ls ((g.1.get j).2.2.get i :: r) g) none) none
noncomputable def abOaal : abPo := fun nx _ _ pc ls st g => ab2 st fun w v r => abWi 0 g.2.2.1 w fun a b =>
  abIf (Nat.beq a b) (abWr v fun j => abIf (Nat.ble 200 (g.1.get j).1) (abA1 (g.1.get j) a fun i => nx (pc + 1) ls ((g.1.get j).2.2.get i :: r) g) none)
    (abSpl 63 (abTag w) g.2.2.1 a b fun e => nx pc ls st (abSe g e))
/-- writing: by the row's code -/
noncomputable def abOst (ok : abSt → Nat → abV → abR → abR) : abPo := fun nx _ _ pc ls st g => abHd st fun u s1 => ab2 s1 fun w v r => abWi 0 g.2.2.1 w fun a b =>
  abIf (Nat.beq a b) (abWr v fun j => abA1 (g.1.get j) a fun i => ok g (g.1.get j).1 u (nx (pc + 1) ls r (abPut g j i u)))
    (abSpl 63 (abTag w) g.2.2.1 a b fun e => nx pc ls st (abSe g e))
noncomputable def abKia : abSt → Nat → abV → abR → abR := fun g c u k => abIf (Nat.beq c 100) (abFti g.2.2.1 u k) none
noncomputable def abKba : abSt → Nat → abV → abR → abR := fun g c u k => abIf (Nat.beq c 102) (abFtb g.2.2.1 u k) (abIf (Nat.beq c 103) (abFtz g.2.2.1 u k) none)
noncomputable def abKla : abSt → Nat → abV → abR → abR := fun g c u k => abIf (Nat.beq c 101) (abFtl g.2.2.1 u k) none
noncomputable def abKaa : abSt → Nat → abV → abR → abR := fun g c u k => abWr u fun q => abIf (Nat.ble (g.1.get q).1 90) (abIf (Nat.beq ((g.1.get q).1 + 200) c) k none) none
noncomputable def abOlen : abPo := fun nx _ _ pc ls st g => abHd st fun v r => abWr v fun j =>
  abIf (Nat.ble 100 (g.1.get j).1) (abIf (Nat.ble (g.1.get j).1 103) (nx (pc + 1) ls ((0, 9223372036854775808 + (g.1.get j).2.1, 9223372036854775808 + (g.1.get j).2.1) :: r) g) none) none
/-! the script, in the law alone -/
noncomputable def abOsl : abPo := fun nx _ _ pc ls st g => abHd st fun v r => abIf (Nat.beq v.1 5) (abIf (Nat.beq v.2.2 0) (nx (pc + 1) ls ((0, 9223372036854775808 + v.2.1, 9223372036854775808 + v.2.1) :: r) g) none) none
noncomputable def abOsd : abPo := fun nx _ _ pc ls st g => ab2 st fun w v r => abIf (Nat.beq v.1 5) (abIf (Nat.beq v.2.2 0) (abWi 0 g.2.2.1 w fun a b => abIf (Nat.beq a b)
  (abIf (Nat.ble 9223372036854775808 a) (abIf (Nat.ble (a + 1) (9223372036854775808 + v.2.1)) (nx (pc + 1) ls ((1, a - 9223372036854775808, 0) :: r) g) none) none) none) none) none
/-! making -/
noncomputable def abMe (k : Nat) : abM := abMt.get k
noncomputable def abMk (g : abSt) (c : abCel) : abSt := (abSet g.2.1 c g.1 12 0, g.2.1 + 1, g.2.2.1, g.2.2.2.1 + 1, g.2.2.2.2 + c.2.1)
/-- room for one cell more of n slots -/
noncomputable def abRm (k : Nat) (g : abSt) (n : Nat) (r : abR) : abR :=
  abIf (Nat.ble (g.2.1 + 1) 4096) (abIf (Nat.ble (g.2.2.2.1 + 1) (abMe k).2.2.1) (abIf (Nat.ble (g.2.2.2.2 + n) (abMe k).2.2.2.1) r none) none) none
noncomputable def abOnew : abPo := fun nx k e pc ls st g => abRm k g e.2.2.2.1 (nx (pc + 3) ls ((4, g.2.1, 0) :: st) (abMk g (e.2.2.1, e.2.2.2.1, abDfl.get e.2.2.1)))
noncomputable def abLg (v : abV) (g : abSt) (f : Nat → abR) : abR := abWi 0 g.2.2.1 v fun a b => abIf (Nat.beq a b) (abIf (Nat.ble 9223372036854775808 a) (abIf (Nat.ble a 9223372036854841344) (f (a - 9223372036854775808)) none) none) none
noncomputable def abOna : abPo := fun nx k e pc ls st g => abHd st fun v r => abLg v g fun n => abRm k g n (nx (pc + 2) ls ((4, g.2.1, 0) :: r) (abMk g (e.2.2.1, n, .leaf (abIf (Nat.beq e.2.2.1 101) (2, 9223372036854775808, 9223372036854775808) (0, 9223372036854775808, 9223372036854775808)))))
noncomputable def abOnr : abPo := fun nx k e pc ls st g => abHd st fun v r => abLg v g fun n => abRm k g n (nx (pc + 3) ls ((4, g.2.1, 0) :: r) (abMk g (200 + e.2.2.1, n, .leaf (6, 0, 0))))
/-! calls -/
/-- the room that a stack takes -/
noncomputable def abSm (st : List abV) : Nat := List.rec 0 (fun v _ ih => abIf (Nat.beq (v.1 / 2) 1) (ih + 2) (abIf (Nat.ble v.1 7) (ih + 1) (ih + 2))) st
noncomputable def abOoi : abPo := fun nx _ _ pc ls st g => abHd st fun v r => abWr v fun _ => abIf (Nat.ble (abSm r) 8) (nx (pc + 3) ls r g) none
/-- arraycopy of nothing, or of a whole row of ints -/
noncomputable def abCp1 (nx : abNx) (pc : Nat) (ls r : List abV) (g : abSt) (n dp sp jd js : Nat) : abR :=
  abIf (Nat.ble (abSm r) 8) (abIf (Nat.beq dp 0) (abIf (Nat.beq sp 0) (abIf (Nat.beq (g.1.get jd).1 (g.1.get js).1)
    (abIf (Nat.beq n 0) (abIf (Nat.beq (g.1.get jd).1 100) (nx (pc + 3) ls r g) (abIf (Nat.beq ((g.1.get jd).1 / 2) 51) (nx (pc + 3) ls r g) none))
      (abIf (Nat.beq (g.1.get jd).1 100) (abIf (Nat.beq n (g.1.get jd).2.1) (abIf (Nat.beq n (g.1.get js).2.1) (nx (pc + 3) ls r (abSh g (abSet jd ((g.1.get jd).1, (g.1.get jd).2.1, (g.1.get js).2.2) g.1 12 0))) none) none) none)) none) none) none) none
noncomputable def abCp2 (nx : abNx) (pc : Nat) (ls : List abV) (g : abSt) (n dp rd sp rs : abV) (r : List abV) : abR :=
  abLg n g fun n => abLg dp g fun dp => abLg sp g fun sp => abWr rd fun jd => abWr rs fun js => abCp1 nx pc ls r g n dp sp jd js
noncomputable def abOcp : abPo := fun nx _ _ pc ls st g => abHd st fun n s1 => ab2 s1 fun dp rd s2 => ab2 s2 fun sp rs r => abCp2 nx pc ls g n dp rd sp rs r
noncomputable def abTk (K : List abV → List abV → abR) (n : Nat) : List abV → List abV → abR :=
  Nat.rec (motive := fun _ => List abV → List abV → abR) (fun acc st => K acc st) (fun _ ih acc st => abHd st fun v r => abIf (Nat.ble v.1 7) (ih (v :: acc) r) none) n
noncomputable def abJs (n : Nat) : List abV := Nat.rec [] (fun _ ih => abJ :: ih) n
noncomputable def abEn (as : List abV) : Nat → List abV :=
  List.rec (motive := fun _ => Nat → List abV) (fun n => abJs n) (fun v _ ih n => abIf (Nat.beq (v.1 / 2) 1) (v :: abJ :: ih (n - 2)) (v :: ih (n - 1))) as
noncomputable def abBd (r : abR) (f : abF → abR) : abR := match r with
  | none => none
  | some xs => List.rec (some []) (fun x _ ih => abJn (f x) ih) xs
abbrev abIh : Type := Nat → Nat → Lean.RArray abEy → Nat → List abV → List abV → abSt → abR
/-- behind a call that came to x -/
noncomputable def abAf (ih : abIh) (d k : Nat) (t : Lean.RArray abEy) (q pc : Nat) (ls r : List abV) (g : abSt) (x : abF) : abR :=
  abIf (Nat.ble x.2.2.2.2.2.2.1 (abMe q).2.2.1) (abIf (Nat.ble x.2.2.2.2.2.2.2 (abMe q).2.2.2.1)
    (ih d k t (pc + 3) ls (x.2.2.1 ++ r) (x.2.2.2.1, x.2.2.2.2.1, x.2.2.2.2.2.1, g.2.2.2.1 + (abMe q).2.2.1, g.2.2.2.2 + (abMe q).2.2.2.1)) none) none
/-- a call of method q with the arguments as; r stays on the stack -/
noncomputable def abGo (ih : abIh) (d k : Nat) (t : Lean.RArray abEy) (q pc : Nat) (ls as r : List abV) (g : abSt) : abR :=
  abIf (Nat.ble (abSm r) 8) (abIf (Nat.ble (g.2.2.2.1 + (abMe q).2.2.1) (abMe k).2.2.1) (abIf (Nat.ble (g.2.2.2.2 + (abMe q).2.2.2.1) (abMe k).2.2.2.1) (abIf (Nat.ble (abSm as) (abMe q).1.2.2.1)
    (Nat.rec none (fun d' _ => abBd (ih d' q (abMe q).2.2.2.2.2 0 (abEn as (abMe q).1.2.2.1) [] (g.1, g.2.1, g.2.2.1, 0, 0)) (abAf ih d k t q pc ls r g)) d) none) none) none) none
noncomputable def abCl (ih : abIh) (d k : Nat) (t : Lean.RArray abEy) (e : abEy) (pc : Nat) (ls st : List abV) (g : abSt) : abR :=
  abTk (fun as r => abIf (Nat.beq e.1 79) (abGo ih d k t e.2.2.1 pc ls as r g)
    (abHd r fun v r => abWr v fun j => abIf (Nat.beq e.1 78) (abIf (Nat.beq (g.1.get j).1 (abMe e.2.2.1).2.2.2.2.1) (abGo ih d k t e.2.2.1 pc ls (v :: as) r g) none)
      (abGo ih d k t e.2.2.1 pc ls (v :: as) r g))) (abMe e.2.2.1).2.1 [] st
/-- an end of the frame -/
noncomputable def abRt (e : abEy) (pc : Nat) (ls st : List abV) (g : abSt) : abR :=
  abIf (Nat.beq e.1 85) (some [(pc, ls, st, g)]) (abIf (Nat.beq e.1 82) (List.rec (some [(pc, ls, st, g)]) (fun _ _ _ => none) st)
    (abHd st fun v r => List.rec (abIf (Nat.beq e.1 84) (abFtl g.2.2.1 v (some [(pc, ls, st, g)])) (abIf (Nat.beq e.2.2.1 1) (abFtz g.2.2.1 v (some [(pc, ls, st, g)])) (abFti g.2.2.1 v (some [(pc, ls, st, g)])))) (fun _ _ _ => none) r))
noncomputable def abOps : Lean.RArray abPo := .branch 44 (.branch 22 (.branch 11 (.branch 5 (.branch 2 (.branch 1 (.leaf abFail) (.leaf (abOc 0 1))) (.branch 3 (.leaf (abOc 0 2)) (.branch 4 (.leaf (abOc 0 3)) (.leaf (abOc 0 2))))) (.branch 8 (.branch 6 (.leaf (abOc 0 3)) (.branch 7 (.leaf (abOc 2 1)) (.leaf (abOc 2 3)))) (.branch 9 (.leaf (abOl 0 2)) (.branch 10 (.leaf (abOl 0 1)) (.leaf (abOl 1 2)))))) (.branch 16 (.branch 13 (.branch 12 (.leaf (abOl 1 1)) (.leaf (abOl 2 2))) (.branch 14 (.leaf (abOl 2 1)) (.branch 15 (.leaf (abOs 0 2)) (.leaf (abOs 0 1))))) (.branch 19 (.branch 17 (.leaf (abOs2 2)) (.branch 18 (.leaf (abOs2 1)) (.leaf (abOs 2 2)))) (.branch 20 (.leaf (abOs 2 1)) (.branch 21 (.leaf abOinc) (.leaf (abOi abFadd))))))) (.branch 33 (.branch 27 (.branch 24 (.branch 23 (.leaf (abOi abFsub)) (.leaf (abOi2 abFmul))) (.branch 25 (.leaf (abOi (abFd fun x y => x / y))) (.branch 26 (.leaf (abOi (abFd fun x y => x - x / y * y))) (.leaf (abOi abFand))))) (.branch 30 (.branch 28 (.leaf (abOi (abFk fun x y => x ||| y))) (.branch 29 (.leaf (abOi (abFk fun x y => x ^^^ y))) (.leaf (abOi (abFk fun x y => x <<< (y &&& 31)))))) (.branch 31 (.leaf (abOi (abFk fun x y => x >>> (y &&& 31)))) (.branch 32 (.leaf abOneg) (.leaf (abOj abGadd)))))) (.branch 38 (.branch 35 (.branch 34 (.leaf (abOj abGsub)) (.leaf (abOj abGtop))) (.branch 36 (.leaf (abOj abGtop)) (.branch 37 (.leaf (abOj abGtop)) (.leaf (abOj abGtop))))) (.branch 41 (.branch 39 (.leaf abOjs) (.branch 40 (.leaf abOjs) (.leaf abOi2l))) (.branch 42 (.leaf abOl2i) (.branch 43 (.leaf abOi2b) (.leaf abOcmp))))))) (.branch 66 (.branch 55 (.branch 49 (.branch 46 (.branch 45 (.leaf abOdup) (.leaf abOdup2)) (.branch 47 (.leaf (abOif abEq)) (.branch 48 (.leaf (abOif (abSw abEq))) (.leaf (abOif abLt))))) (.branch 52 (.branch 50 (.leaf (abOif (abSw abLt))) (.branch 51 (.leaf (abOif abGt)) (.leaf (abOif (abSw abGt))))) (.branch 53 (.leaf (abOic abEq)) (.branch 54 (.leaf (abOic (abSw abEq))) (.leaf (abOic abLt)))))) (.branch 60 (.branch 57 (.branch 56 (.leaf (abOic (abSw abLt))) (.leaf (abOic abGt))) (.branch 58 (.leaf (abOic (abSw abGt))) (.branch 59 (.leaf abOgo) (.leaf abOsw)))) (.branch 63 (.branch 61 (.leaf abOgf) (.branch 62 (.leaf (abOpf abFti)) (.leaf (abOpf abFtz)))) (.branch 64 (.leaf (abOpf abFtr)) (.branch 65 (.leaf abOial) (.leaf abObal)))))) (.branch 77 (.branch 71 (.branch 68 (.branch 67 (.leaf abOlal) (.leaf abOaal)) (.branch 69 (.leaf abOlen) (.branch 70 (.leaf (abOst abKia)) (.leaf (abOst abKba))))) (.branch 74 (.branch 72 (.leaf (abOst abKla)) (.branch 73 (.leaf (abOst abKaa)) (.leaf abOnew))) (.branch 75 (.leaf abOna) (.branch 76 (.leaf abOnr) (.leaf abOoi))))) (.branch 82 (.branch 79 (.branch 78 (.leaf abOcp) (.leaf abFail)) (.branch 80 (.leaf abFail) (.branch 81 (.leaf abFail) (.leaf abFail)))) (.branch 85 (.branch 83 (.leaf abFail) (.branch 84 (.leaf abFail) (.leaf abFail))) (.branch 86 (.leaf abFail) (.branch 87 (.leaf abOsl) (.leaf abOsd)))))))
/-- THE RUN: all ends to which it may come -/
noncomputable def abRun (n : Nat) : abIh := Nat.rec (motive := fun _ => abIh) (fun _ _ _ _ _ _ _ => none) (fun _ ih d k t pc ls st g =>
  abIf (Nat.beq (t.get pc).2.1 pc) (abIf (Nat.ble 78 (t.get pc).1) (abIf (Nat.ble (t.get pc).1 81) (abCl ih d k t (t.get pc) pc ls st g) (abIf (Nat.ble (t.get pc).1 85) (abRt (t.get pc) pc ls st g) ((abOps.get (t.get pc).1) (ih d k t) k (t.get pc) pc ls st g)))
    ((abOps.get (t.get pc).1) (ih d k t) k (t.get pc) pc ls st g)) none) n
