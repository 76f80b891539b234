/-! the ghosts' forms, looked for (whether they fit is tested behind); contracts; the run -/
noncomputable def avAs {al : Type} (g : Nat) (y : afF → al) (n : al) (l : List (Nat × afF)) : al := List.rec n (fun h _ ih => abIf (Nat.beq h.1 g) (y h.2) ih) l
noncomputable def avDt (k : Int) (t : afT) : afT := List.rec [] (fun p _ ih => (p.1, p.2 / k) :: ih) t
noncomputable def aiAbs (k : Int) : Int := abIf (aiLe 0 k) k (-k)
/-- the terms that may be k times something -/
noncomputable def avPt (k : Int) (t : afT) : afT := List.rec [] (fun p _ ih => abIf (aiLe (aiAbs k) (aiAbs p.2)) (abIf (aiEq (p.2 % k) 0) (p :: ih) ih) ih) t
noncomputable def avRest (th : List (Nat × afF)) (f : afF) (F : afF) : afF := List.rec (afSub f ([], F.2)) (fun p _ ih => avAs p.1 (fun g => afSub ih (afMul p.2 g)) ih th) F.1
noncomputable def avUn (th : List (Nat × afF)) (t : afT) : afT := List.rec [] (fun p _ ih => avAs p.1 (fun _ => ih) (p :: ih) th) t
noncomputable def avDet (u : afT) : afF → List (Nat × afF) → List (Nat × afF) :=
  List.rec (motive := fun _ => afF → List (Nat × afF) → List (Nat × afF)) (fun _ th => th) (fun p r ih f th =>
    List.rec ((p.1, avDt p.2 f.1, f.2 / p.2) :: th) (fun _ _ _ => ih (afSub f (afMul p.2 (avDt p.2 (avPt p.2 f.1), 0))) ((p.1, avDt p.2 (avPt p.2 f.1), 0) :: th)) r) u
noncomputable def avDe1 (F f : afF) (th : List (Nat × afF)) : List (Nat × afF) := avDet (avUn th F.1) (avRest th f F) th
noncomputable def avDeL (a : List avV) : List avV → List (Nat × afF) → List (Nat × afF) :=
  List.rec (motive := fun _ => List avV → List (Nat × afF) → List (Nat × afF)) (fun _ th => th) (fun v _ ih l th => List.rec th (fun w r _ => ih r (abIf (Nat.beq v.1 6) th (avDe1 v.2.2 w.2.2 th))) l) a
noncomputable def avTl (n : Nat) (th : List (Nat × afF)) : List afF := Nat.rec [] (fun i ih => ih ++ [avAs i (fun f => f) ([], 0) th]) n
noncomputable def avFnF (r : Nat) (c f : afF) (l : List avK) (y : afF → List (Nat × afF)) (n : List (Nat × afF)) : List (Nat × afF) :=
  List.rec n (fun k _ ih => abIf (Nat.beq k.1 r) (abIf (afQ k.2.2.1 f) (abIf (afQ k.2.1 c) (y k.2.2.2.2.2) ih) ih) ih) l
noncomputable def avDeK (n : Nat) (s : avS) (l : List avK) : List (Nat × afF) → List (Nat × afF) :=
  List.rec (motive := fun _ => List (Nat × afF) → List (Nat × afF)) (fun th => th) (fun k _ ih th => ih (avFnF k.1 (avSb (avTl n th) k.2.1) (avSb (avTl n th) k.2.2.1) s.2 (fun f => avDe1 k.2.2.2.2.2 f th) th)) l
noncomputable def avTheta (s : avS) (sh : avSh) (ls : List avV) : List afF := avTl sh.2.1.length (avDeK sh.2.1.length s sh.2.2.2 (avDeL sh.1 ls []))
/-- a contract: method, shape of the arguments, answer (9: none), what may change (region, slot or -1), how deep it goes -/
abbrev avCon : Type := Nat × avSh × avSi × List (Nat × Int) × Nat
noncomputable def avGone (l : List (Nat × Int)) (k : avK) : Bool := List.rec false (fun m _ ih => abIf (Nat.beq m.1 k.1) (abIf (aiEq m.2 (-1)) true (List.rec (abIf (aiEq m.2 k.2.2.1.2) true ih) (fun _ _ _ => true) k.2.2.1.1)) ih) l
noncomputable def avLeft (_ : List (Nat × Int)) (_ : List avK) : List avK := []
noncomputable def avAns (i : avSi) (s : avS) (K : Option avV → avS → Bool) : Bool := abIf (Nat.beq i.1 9) (K none s) (avFirst i s fun v s => K (some v) s)
noncomputable def avTry (d : Nat) (s : avS) (as : List avV) (K : Option avV → avS → Bool) (l : List avCon) : Bool :=
  List.rec false (fun c _ ih => abIf (Nat.ble (c.2.2.2.2 + 1) d) (abIf (avFit s (avTheta s c.2.1 as) c.2.1 as) (avAns c.2.2.1 (s.1, avLeft c.2.2.2.1 s.2) K) ih) ih) l
noncomputable def avPush (r : List avV) (o : Option avV) : List avV := Option.rec r (fun v => v :: r) o
noncomputable def avSm (st : List avV) : Nat := List.rec 0 (fun v _ ih => abIf (Nat.beq v.1 1) (ih + 2) (abIf (Nat.ble v.1 5) (ih + 1) (ih + 2))) st
noncomputable def avTk (K : List avV → List avV → Bool) (n : Nat) : List avV → List avV → Bool :=
  Nat.rec (motive := fun _ => List avV → List avV → Bool) (fun acc st => K acc st) (fun _ ih acc st => avHd st fun v r => abIf (Nat.ble v.1 5) (abIf (Nat.beq v.1 4) false (ih (v :: acc) r)) false) n
noncomputable def avJs (n : Nat) : List avV := Nat.rec [] (fun _ ih => avJ :: ih) n
noncomputable def avEn (as : List avV) : Nat → List avV := List.rec (motive := fun _ => Nat → List avV) (fun n => avJs n) (fun v _ ih n => abIf (Nat.beq v.1 1) (v :: avJ :: ih (n - 2)) (v :: ih (n - 1))) as
/-- a cut: place, shape, measure -/
abbrev avCut : Type := Nat × avSh × afF
abbrev avIh : Type := List avCut → Option afF → Bool → Nat → Nat → Nat → List avV → List avV → avS → (Option avV → avS → Bool) → Bool
noncomputable def avLess (s : avS) (m : Option afF) (f : afF) : Bool := Option.rec true (fun g => avGe s (afSub (afAdd g ([], -1)) f)) m
/-- at a place: a cut, or on -/
noncomputable def avArr (m : Option afF) (pc : Nat) (ls st : List avV) (s : avS) (go : Bool) (cs : List avCut) : Bool :=
  List.rec go (fun c _ ih => abIf (Nat.beq c.1 pc)
    (List.rec (abIf (avFit s (avTheta s c.2.1 ls) c.2.1 ls) (abIf (avGe s (avSb (avTheta s c.2.1 ls) c.2.2)) (avLess s m (avSb (avTheta s c.2.1 ls) c.2.2)) false) false) (fun _ _ _ => false) st) ih) cs
noncomputable def avGo (TT : Nat → Lean.RArray abEy) (CC : Lean.RArray (List avCon)) (ih : avIh) (cs : List avCut) (m : Option afF) (d k q pc : Nat) (ls as r : List avV) (s : avS) (K : Option avV → avS → Bool) : Bool :=
  abIf (Nat.ble (avSm r + (abMe q).1.2.2.1) 49) (abIf (Nat.ble (avSm as) (abMe q).1.2.2.1)
    (List.rec (Nat.rec false (fun d' _ => ih [] none false d' q 0 (avEn as (abMe q).1.2.2.1) [] s fun o s => ih cs m false d k (pc + 3) ls (avPush r o) s K) d)
      (fun c l _ => avTry d s as (fun o s => ih cs m false d k (pc + 3) ls (avPush r o) s K) (c :: l)) (CC.get q)) false) false
noncomputable def avCall (RT : Lean.RArray avRg) (TT : Nat → Lean.RArray abEy) (CC : Lean.RArray (List avCon)) (ih : avIh) (cs : List avCut) (m : Option afF) (d k : Nat) (e : abEy) (pc : Nat) (ls st : List avV) (s : avS) (K : Option avV → avS → Bool) : Bool :=
  avTk (fun as r => abIf (Nat.beq e.1 79) (avGo TT CC ih cs m d k e.2.2.1 pc ls as r s K)
    (abIf (Nat.beq e.1 78) (avHd r fun v r => avRf v fun g _ => abIf (Nat.beq (RT.get g).1 (abMe e.2.2.1).2.2.2.2.1) (avGo TT CC ih cs m d k e.2.2.1 pc ls (v :: as) r s K) false) false)) (abMe e.2.2.1).2.1 [] st
noncomputable def avRet (e : abEy) (st : List avV) (s : avS) (K : Option avV → avS → Bool) : Bool :=
  abIf (Nat.beq e.1 82) (List.rec (K none s) (fun _ _ _ => false) st) (avHd st fun v r => List.rec
    (abIf (Nat.beq e.1 84) (avFo 1 v fun _ => K (some v) s) (abIf (Nat.beq e.1 83) (avFo 0 v fun f => abIf (Nat.beq e.2.2.1 1) (abIf (avGe s f) (abIf (avGe s (afSub ([], 1) f)) (K (some v) s) false) false) (K (some v) s)) false)) (fun _ _ _ => false) r)
noncomputable def avRun (RT : Lean.RArray avRg) (TT : Nat → Lean.RArray abEy) (CC : Lean.RArray (List avCon)) (OP : Lean.RArray avPo) (n : Nat) : avIh :=
  Nat.rec (motive := fun _ => avIh) (fun _ _ _ _ _ _ _ _ _ _ => false) (fun _ ih cs m fst d k pc ls st s K =>
    avArr m pc ls st s (abIf (Nat.beq ((TT k).get pc).2.1 pc) (abIf (Nat.ble 78 ((TT k).get pc).1) (abIf (Nat.ble ((TT k).get pc).1 81) (avCall RT TT CC ih cs m d k ((TT k).get pc) pc ls st s K)
      (abIf (Nat.ble ((TT k).get pc).1 84) (avRet ((TT k).get pc) st s K) ((OP.get ((TT k).get pc).1) (fun pc ls st s => ih cs m false d k pc ls st s K) ((TT k).get pc) pc ls st s)))
      ((OP.get ((TT k).get pc).1) (fun pc ls st s => ih cs m false d k pc ls st s K) ((TT k).get pc) pc ls st s)) false) (abIf fst [] cs)) n
/-- a text: its length, a char -/
noncomputable def avOsl : avPo := fun nx _ pc ls st s => avHd st fun v r => abIf (Nat.beq v.1 5) (abIf (Nat.ble (Nat.succ v.2.1) 44) (abIf (Nat.ble (avSm r) 8) (nx (pc + 3) ls ((0, 0, [], (avSlen v.2.1 : Int)) :: r) s) false) false) false
noncomputable def avOsc : avPo := fun nx _ pc ls st s => av2 st fun w v r => avFo 0 w fun f => abIf (Nat.beq v.1 5) (abIf (Nat.ble (Nat.succ v.2.1) 44) (abIf (avGe s f) (abIf (avGe s (afSub ([], (avSlen v.2.1 : Int) - 1) f)) (abIf (Nat.ble (avSm r) 8) (avNew 0 0 65535 s fun u s => nx (pc + 3) ls (u :: r) s) false) false) false) false) false
