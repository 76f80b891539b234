/-! regions, slots, what is known -/
/-- a region: its code (a class, 100 .. 103 for rows of numbers, 200 and more for rows of objects), the slots of each of its cells, what they hold: (0 or 1, lo, hi), (2, region, cell or -1), (3, 0, 0) -/
abbrev avSi : Type := Nat × Int × Int
abbrev avRg : Type := Nat × Nat × Lean.RArray avSi
/-- equal slots of a region: region, terms (factor, lo, hi), constant, what they hold -/
abbrev avCl : Type := Nat × List (Int × Int × Int) × Int × avSi
noncomputable def avEr (k : Int) (p : List (Int × Int × Int)) (F : Int × Int × Int → List (Int × Int × Int) → Bool) : Bool :=
  List.rec (motive := fun _ => (List (Int × Int × Int) → List (Int × Int × Int)) → Bool) (fun _ => false) (fun h r ih put => abIf (aiEq h.1 k) (F h (put r)) (ih fun x => put (h :: x))) p fun x => x
noncomputable def avTm (s : avS) (t : afT) : List (Int × Int × Int) → Bool :=
  List.rec (motive := fun _ => List (Int × Int × Int) → Bool) (fun p => List.rec true (fun h _ ih => abIf (aiLe h.2.1 0) (abIf (aiLe 0 h.2.2) ih false) false) p)
    (fun x _ ih p => avEr x.2 p fun h r => abIf (aiLe h.2.1 (afNth s.1.2.1 (s.1.1 - 1 - x.1)).1) (abIf (aiLe (afNth s.1.2.1 (s.1.1 - 1 - x.1)).2 h.2.2) (ih r) false) false) t
noncomputable def avCs (s : avS) (r : Nat) (f : afF) (K : avSi → Bool) (l : List avCl) : Bool :=
  List.rec false (fun c _ ih => abIf (Nat.beq c.1 r) (abIf (aiEq c.2.2.1 f.2) (abIf (avTm s f.1 c.2.1) (K c.2.2.2) ih) ih) ih) l
/-- what the slot of that number holds -/
noncomputable def avSl (CL : List avCl) (t : Lean.RArray avSi) (s : avS) (r : Nat) (f : afF) (K : avSi → Bool) : Bool :=
  Lean.RArray.rec (fun x => K x) (fun _ _ _ _ _ => List.rec (K (t.get f.2.toNat)) (fun _ _ _ => avCs s r f K CL) f.1) t
noncomputable def avFind (r : Nat) (c f : afF) (y : avV → Bool) (n : Bool) (l : List avK) : Bool :=
  List.rec n (fun k _ ih => abIf (Nat.beq k.1 r) (abIf (afQ k.2.2.1 f) (abIf (afQ k.2.1 c) (y k.2.2.2) ih) ih) ih) l
noncomputable def avApart (s : avS) (a b : afF) : Bool := abIf (aiLe 1 (afLo s.1 (afSub a b))) true (aiLe (afHi s.1 (afSub a b)) (-1))
/-- what stays known behind a write -/
noncomputable def avKeep (s : avS) (r : Nat) (c f : afF) (l : List avK) : List avK :=
  List.rec [] (fun k _ ih => abIf (Nat.beq k.1 r) (abIf (avApart s k.2.2.1 f) (k :: ih) (abIf (avApart s k.2.1 c) (k :: ih) ih)) (k :: ih)) l
/-- a slot's value for the first time -/
noncomputable def avFirst (i : avSi) (s : avS) (K : avV → avS → Bool) : Bool :=
  abIf (Nat.ble i.1 1) (avBox i.1 i.2.1 i.2.2 s K) (abIf (Nat.beq i.1 2) (abIf (aiLe 0 i.2.2) (K (2, i.2.1.toNat, [], i.2.2) s) (K (2, i.2.1.toNat, afN s.1.1) (afFr s.1 0 4095, s.2))) (K (3, 0, [], 0) s))
noncomputable def avRead (CL : List avCl) (t : Lean.RArray avSi) (r : Nat) (c f : afF) (s : avS) (K : avV → avS → Bool) : Bool :=
  avFind r c f (fun v => K v s) (avSl CL t s r f fun i => avFirst i s fun v s' => K v (s'.1, (r, c, f, v) :: s'.2)) s.2
noncomputable def avFits (s : avS) (u : avV) (i : avSi) : Bool := abIf (Nat.beq i.1 u.1) (abIf (Nat.ble i.1 1) (abIf (avGe s (afAdd u.2.2 ([], -i.2.1))) (avGe s (afSub ([], i.2.2) u.2.2)) false) false) false
/-- rows of one shape: a slot of one may go to a slot of the other: from, to, the lower's bounds, terms, constant -/
abbrev avCy : Type := Nat × Nat × Int × Int × List (Int × Int × Int) × Int
/-- what a run may write: of the guarded regions the slots of these patterns alone -/
abbrev avCyG : Type := List avCy × List Nat × List avCl
noncomputable def avMay (GU : List Nat × List avCl) (s : avS) (r : Nat) (f : afF) : Bool := abIf (List.rec false (fun x _ ih => abIf (Nat.beq x r) true ih) GU.1) (avCs s r f (fun _ => true) GU.2) true
noncomputable def avCpy (CY : List avCy) (s : avS) (r : Nat) (f : afF) (u : avV) (l : List avK) : Bool :=
  List.rec false (fun k _ ih => abIf (Nat.beq k.2.2.2.1 u.1) (abIf (afQ k.2.2.2.2.2 u.2.2)
    (abIf (List.rec false (fun y _ jh => abIf (Nat.beq y.1 k.1) (abIf (Nat.beq y.2.1 r) (abIf (aiLe y.2.2.1 (afLo s.1 k.2.2.1)) (abIf (aiLe (afHi s.1 k.2.2.1) y.2.2.2.1)
      (abIf (aiEq (afSub f k.2.2.1).2 y.2.2.2.2.2) (abIf (avTm s (afSub f k.2.2.1).1 y.2.2.2.2.1) true jh) jh) jh) jh) jh) jh) CY) true ih) ih) ih) l
noncomputable def avWrite (CL : List avCl) (CY : avCyG) (t : Lean.RArray avSi) (r : Nat) (c f : afF) (u : avV) (s : avS) (K : avS → Bool) : Bool :=
  abIf (avMay CY.2 s r f) (abIf (abIf (avSl CL t s r f (avFits s u)) true (avCpy CY.1 s r f u s.2)) (K (s.1, (r, c, f, u) :: avKeep s r c f s.2)) false) false
/-! cells and rows -/
noncomputable def avRf (v : avV) (k : Nat → afF → Bool) : Bool := abIf (Nat.beq v.1 2) (k v.2.1 v.2.2) false
noncomputable def avOgf (RT : Lean.RArray avRg) (CL : List avCl) : avPo := fun nx e pc ls st s => avHd st fun v r => avRf v fun g c => abIf (Nat.beq (RT.get g).1 e.2.2.1) (avRead CL (RT.get g).2.2 g c ([], (e.2.2.2.1 : Int)) s fun u s => nx (pc + 3) ls (u :: r) s) false
/-- b: 2 for a boolean, else any bound -/
noncomputable def avOpf (RT : Lean.RArray avRg) (CL : List avCl) (CY : avCyG) (z : Bool) : avPo := fun nx e pc ls st s => av2 st fun u v r => avFo 0 u fun f => avRf v fun g c => abIf (Nat.beq (RT.get g).1 e.2.2.1)
  (abIf (abIf z (abIf (avGe s f) (avGe s (afSub ([], 1) f)) false) true) (avWrite CL CY (RT.get g).2.2 g c ([], (e.2.2.2.1 : Int)) u s fun s => nx (pc + 3) ls r s) false) false
noncomputable def avIx1 (s : avS) (f : afF) (n : Nat) (k : Bool) : Bool := abIf (avGe s f) (abIf (avGe s (afSub ([], (n : Int) - 1) f)) k false) false
noncomputable def avOal (RT : Lean.RArray avRg) (CL : List avCl) (ok : Nat → Bool) : avPo := fun nx _ pc ls st s => av2 st fun w v r => avFo 0 w fun f => avRf v fun g c =>
  abIf (ok (RT.get g).1) (avIx1 s f (RT.get g).2.1 (avRead CL (RT.get g).2.2 g c f s fun u s => nx (pc + 1) ls (u :: r) s)) false
noncomputable def avOas (RT : Lean.RArray avRg) (CL : List avCl) (CY : avCyG) (t : Nat) (ok : avS → Nat → afF → Bool) : avPo := fun nx _ pc ls st s => avHd st fun u s1 => av2 s1 fun w v r => avFo 0 w fun f => avFo t u fun h => avRf v fun g c =>
  abIf (ok s (RT.get g).1 h) (avIx1 s f (RT.get g).2.1 (avWrite CL CY (RT.get g).2.2 g c f u s fun s => nx (pc + 1) ls r s)) false
noncomputable def avKb (s : avS) (c : Nat) (f : afF) : Bool := abIf (Nat.beq c 102) (abIf (avGe s (afAdd f ([], 128))) (avGe s (afSub ([], 127) f)) false) (abIf (Nat.beq c 103) (abIf (avGe s f) (avGe s (afSub ([], 1) f)) false) false)
noncomputable def avOlen (RT : Lean.RArray avRg) : avPo := fun nx _ pc ls st s => avHd st fun v r => avRf v fun g _ => abIf (Nat.ble 100 (RT.get g).1) (abIf (Nat.ble (RT.get g).1 103) (nx (pc + 1) ls ((0, 0, [], ((RT.get g).2.1 : Int)) :: r) s) false) false
/-! shapes: values, bounds of ghosts (the first ghost first), facts over them, slots known -/
abbrev avSh : Type := List avV × afE × List afF × List avK
/-- the form with the ghosts' forms put in -/
noncomputable def avNtF (l : List afF) : Nat → afF := List.rec (motive := fun _ => Nat → afF) (fun _ => ([], 0)) (fun h _ ih i => Nat.rec h (fun n _ => ih n) i) l
noncomputable def avSb (th : List afF) (f : afF) : afF := List.rec ([], f.2) (fun p _ ih => afAdd ih (afMul p.2 (avNtF th p.1))) f.1
noncomputable def avSv (th : List afF) (v : avV) : avV := (v.1, v.2.1, avSb th v.2.2)
noncomputable def avQv (v w : avV) : Bool := abIf (Nat.beq v.1 w.1) (abIf (Nat.beq v.2.1 w.2.1) (afQ v.2.2 w.2.2) false) false
/-- each value is the shape's, the ghosts put in; what the shape has as nothing may be anything -/
noncomputable def avVs (th : List afF) (a : List avV) : List avV → Bool :=
  List.rec (motive := fun _ => List avV → Bool) (fun l => List.rec true (fun _ _ _ => false) l) (fun v _ ih l => List.rec false (fun w r _ => abIf (abIf (Nat.beq v.1 6) true (avQv (avSv th v) w)) (ih r) false) l) a
noncomputable def avBs (s : avS) (th : List afF) (b : afE) : Bool :=
  List.rec (motive := fun _ => List afF → Bool) (fun l => List.rec true (fun _ _ _ => false) l) (fun q _ ih l => List.rec false (fun f r _ => abIf (avGe s (afAdd f ([], -q.1))) (abIf (avGe s (afSub ([], q.2) f)) (ih r) false) false) l) b th
noncomputable def avFs (s : avS) (th : List afF) (l : List afF) : Bool := List.rec true (fun f _ ih => abIf (avGe s (avSb th f)) ih false) l
noncomputable def avKs (s : avS) (th : List afF) (l : List avK) : Bool := List.rec true (fun k _ ih => abIf (avFind k.1 (avSb th k.2.1) (avSb th k.2.2.1) (fun v => avQv (avSv th k.2.2.2) v) false s.2) ih false) l
/-- only names below n -/
noncomputable def avSc (n : Nat) (t : afT) : Bool := List.rec true (fun p _ ih => abIf (Nat.ble (p.1 + 1) n) ih false) t
noncomputable def avScL (n : Nat) (l : List afF) : Bool := List.rec true (fun f _ ih => abIf (avSc n f.1) ih false) l
noncomputable def avFit (s : avS) (th : List afF) (sh : avSh) (ls : List avV) : Bool := abIf (avScL s.1.1 th) (abIf (avVs th sh.1 ls) (abIf (avBs s th sh.2.1) (abIf (avFs s th sh.2.2.1) (avKs s th sh.2.2.2) false) false) false) false
/-- a shape's own names -/
noncomputable def avShk (n : Nat) (l : List avK) : Bool := List.rec true (fun k _ ih => abIf (avSc n k.2.1.1) (abIf (avSc n k.2.2.1.1) (abIf (avSc n k.2.2.2.2.2.1) ih false) false) false) l
noncomputable def avShOk (sh : avSh) : Bool := abIf (List.rec true (fun v _ ih => abIf (avSc sh.2.1.length v.2.2.1) ih false) sh.1) (abIf (avScL sh.2.1.length sh.2.2.1) (avShk sh.2.1.length sh.2.2.2) false) false
/-- the state that a shape stands for -/
noncomputable def avSt0 (sh : avSh) : avS := ((sh.2.1.length, sh.2.1.reverse, sh.2.2.1), sh.2.2.2)
