/-! THE SECOND ENGINE: paths from cut to cut over forms; it answers true where every path is well -/
/-- the texts: class, place, text; their lengths -/
def abSr : List (String × Nat × String) := [("TallBins$Reader", 54, "bin"), ("TallBins$Reader", 60, "grain"), ("TallBins$Reader", 62, "breath"), ("TallBins$Reader", 64, "bar"), ("TallBins$Reader", 97, "rings"), ("TallBins$Reader", 105, "hold"), ("TallBins$Reader", 110, "mouth"), ("TallBins$Reader", 115, "rough"), ("TallBins$Reader", 123, "heavy"), ("TallBins$Reader", 128, "grip"), ("TallBins$Reader", 133, "price"), ("TallBins$Reader", 135, "warm"), ("TallBins$Reader", 137, "damp"), ("TallBins$Reader", 139, "add"), ("TallBins$Reader", 150, "not"), ("TallBins$Reader", 175, "hot"), ("TallBins$Reader", 177, "wet"), ("TallBins$Reader", 179, "units"), ("TallBins$Reader", 181, "beetles"), ("TallBins$Reader", 183, "hung"), ("TallBins$Reader", 185, "drawn"), ("TallBins$Reader", 148, "and"), ("TallBinsModel", 251, "bin"), ("TallBinsModel", 253, "grain"), ("TallBinsModel", 255, "breath"), ("TallBinsModel", 257, "bar"), ("TallBinsModel", 218, "rings"), ("TallBinsModel", 224, "hold"), ("TallBinsModel", 226, "mouth"), ("TallBinsModel", 228, "rough"), ("TallBinsModel", 232, "heavy"), ("TallBinsModel", 234, "grip"), ("TallBinsModel", 236, "price"), ("TallBinsModel", 238, "not"), ("TallBinsModel", 207, "hot"), ("TallBinsModel", 209, "wet"), ("TallBinsModel", 211, "units"), ("TallBinsModel", 213, "beetles"), ("TallBinsModel", 215, "hung"), ("TallBinsModel", 217, "drawn"), ("TallBinsModel", 249, "and"), ("TallBinsModel", 268, "warm"), ("TallBinsModel", 269, "damp"), ("TallBinsModel", 271, "add")]
def abSl : List Nat := [3, 5, 6, 3, 5, 4, 5, 5, 5, 4, 5, 4, 4, 3, 3, 3, 3, 5, 7, 4, 5, 3, 3, 5, 6, 3, 5, 4, 5, 5, 5, 4, 5, 3, 3, 3, 5, 7, 4, 5, 3, 4, 4, 3]
/-- a value: (kind, region or text, form). 0: an int; 1: a long; 2: the cell of that number, of that region; 3: null; 4: the sign of the form (an int); 5: a text; 6: nothing; 7: the script -/
abbrev avV : Type := Nat × Nat × afF
/-- what is known of a slot: region, cell, slot, value -/
abbrev avK : Type := Nat × afF × afF × avV
abbrev avS : Type := afG × List avK
abbrev avNx : Type := Nat → List avV → List avV → avS → Bool
abbrev avPo : Type := avNx → abEy → Nat → List avV → List avV → avS → Bool
def avJ : avV := (6, 0, [], 0)
def avIm : Int := -2147483648
def avIx : Int := 2147483647
def avLm : Int := -9223372036854775808
def avLx : Int := 9223372036854775807
noncomputable def avMn (t : Nat) : Int := Nat.rec avIm (fun _ _ => avLm) t
noncomputable def avMx (t : Nat) : Int := Nat.rec avIx (fun _ _ => avLx) t
/-- what bounds or facts say -/
noncomputable def avGe (s : avS) (f : afF) : Bool := abIf (aiLe 0 (afLo s.1 f)) true (afEnt s.1 f)
noncomputable def avNew (t : Nat) (lo hi : Int) (s : avS) (K : avV → avS → Bool) : Bool := K (t, 0, afN s.1.1) (afFr s.1 lo hi, s.2)
/-- a number of kind t between two -/
noncomputable def avBox (t : Nat) (lo hi : Int) (s : avS) (K : avV → avS → Bool) : Bool := abIf (aiEq lo hi) (K (t, 0, [], lo) s) (avNew t lo hi s K)
noncomputable def avTop (t : Nat) (s : avS) (K : avV → avS → Bool) : Bool := avNew t (avMn t) (avMx t) s K
/-- the number that a sum comes to: the form where it surely fits, else any -/
noncomputable def avNum (t : Nat) (s : avS) (f : afF) (K : avV → avS → Bool) : Bool :=
  abIf (avGe s (afAdd f ([], -avMn t))) (abIf (avGe s (afSub ([], avMx t) f)) (K (t, 0, f) s) (avTop t s K)) (avTop t s K)
noncomputable def avHd (st : List avV) (f : avV → List avV → Bool) : Bool := List.rec false (fun v r _ => f v r) st
noncomputable def av2 (st : List avV) (f : avV → avV → List avV → Bool) : Bool := avHd st fun w r => avHd r fun v r => f w v r
noncomputable def avNth (l : List avV) : Nat → avV := List.rec (motive := fun _ => Nat → avV) (fun _ => avJ) (fun h _ ih i => Nat.rec h (fun n _ => ih n) i) l
noncomputable def avUpd (v : avV) (l : List avV) : Nat → List avV := List.rec (motive := fun _ => Nat → List avV) (fun _ => []) (fun h t ih i => Nat.rec (v :: t) (fun n _ => h :: ih n) i) l
noncomputable def avSt1 (ls : List avV) (i : Nat) (v : avV) : List avV := abIf (Nat.beq (avNth ls (i - 1)).1 1) (avUpd v (avUpd avJ ls (i - 1)) i) (avUpd v ls i)
noncomputable def avSt2 (ls : List avV) (i : Nat) (v : avV) : List avV := avUpd avJ (avSt1 ls i v) (i + 1)
/-- a value's form, of the kind asked -/
noncomputable def avFo (t : Nat) (v : avV) (k : afF → Bool) : Bool := abIf (Nat.beq v.1 t) (k v.2.2) false
def avX (e : abEy) : Int := (e.2.2.2.2.1 : Int) - 9223372036854775808
/-! constants, locals -/
noncomputable def avFail : avPo := fun _ _ _ _ _ _ => false
noncomputable def avOc (t len : Nat) : avPo := fun nx e pc ls st s => nx (pc + len) ls ((t, 0, [], avX e) :: st) s
noncomputable def avOl (t len : Nat) : avPo := fun nx e pc ls st s => abIf (Nat.beq (avNth ls e.2.2.2.1).1 t) (nx (pc + len) ls (avNth ls e.2.2.2.1 :: st) s) false
noncomputable def avOla (len : Nat) : avPo := fun nx e pc ls st s => abIf (Nat.beq (avNth ls e.2.2.2.1).1 2) (nx (pc + len) ls (avNth ls e.2.2.2.1 :: st) s)
  (abIf (Nat.beq (avNth ls e.2.2.2.1).1 5) (nx (pc + len) ls (avNth ls e.2.2.2.1 :: st) s) (abIf (Nat.beq (avNth ls e.2.2.2.1).1 7) (nx (pc + len) ls (avNth ls e.2.2.2.1 :: st) s) false))
noncomputable def avOs (t len : Nat) : avPo := fun nx e pc ls st s => avHd st fun v r => abIf (Nat.beq v.1 t) (nx (pc + len) (avSt1 ls e.2.2.2.1 v) r s) false
noncomputable def avOs2 (len : Nat) : avPo := fun nx e pc ls st s => avHd st fun v r => abIf (Nat.beq v.1 1) (nx (pc + len) (avSt2 ls e.2.2.2.1 v) r s) false
noncomputable def avOinc : avPo := fun nx e pc ls st s => avFo 0 (avNth ls e.2.2.2.1) fun f => avNum 0 s (afAdd f ([], avX e)) fun v s => nx (pc + 3) (avSt1 ls e.2.2.2.1 v) st s
/-! numbers -/
abbrev avOp : Type := avS → afF → afF → (avV → avS → Bool) → Bool
noncomputable def avOi (t : Nat) (F : avOp) : avPo := fun nx _ pc ls st s => av2 st fun w v r => avFo t v fun f => avFo t w fun g => F s f g fun u s => nx (pc + 1) ls (u :: r) s
noncomputable def avFadd (t : Nat) : avOp := fun s f g K => avNum t s (afAdd f g) K
noncomputable def avFsub (t : Nat) : avOp := fun s f g K => avNum t s (afSub f g) K
/-- a form without names: its constant -/
noncomputable def avCo {al : Type} (f : afF) (y : Int → al) (n : al) : al := List.rec (y f.2) (fun _ _ _ => n) f.1
noncomputable def aiMin (a b : Int) : Int := abIf (aiLe a b) a b
noncomputable def aiMax (a b : Int) : Int := abIf (aiLe a b) b a
/-- any number between two, or any at all where they don't fit -/
noncomputable def avFitB (t : Nat) (lo hi : Int) (s : avS) (K : avV → avS → Bool) : Bool := abIf (aiLe (avMn t) lo) (abIf (aiLe hi (avMx t)) (avBox t lo hi s K) (avTop t s K)) (avTop t s K)
noncomputable def avMul4 (a b c d : Int) (K : Int → Int → Bool) : Bool := K (aiMin (aiMin (a * c) (a * d)) (aiMin (b * c) (b * d))) (aiMax (aiMax (a * c) (a * d)) (aiMax (b * c) (b * d)))
noncomputable def avFmul (t : Nat) : avOp := fun s f g K => avCo g (fun k => avNum t s (afMul k f) K) (avCo f (fun k => avNum t s (afMul k g) K)
  (avMul4 (afLo s.1 f) (afHi s.1 f) (afLo s.1 g) (afHi s.1 g) fun lo hi => avFitB t lo hi s K))
/-- known of known numbers alone -/
noncomputable def avFk (t : Nat) (F : Int → Int → Int) : avOp := fun s f g K => avCo f (fun a => avCo g (fun b => K (t, 0, [], F a b) s) (avTop t s K)) (avTop t s K)
/-- a divisor above 0 -/
noncomputable def avFdiv (t : Nat) : avOp := fun s f g K => abIf (aiLe 1 (afLo s.1 g))
  (abIf (aiLe 0 (afLo s.1 f)) (avCo g (fun c => avBox t (afLo s.1 f / c) (afHi s.1 f / c) s K) (avBox t 0 (afHi s.1 f) s K)) (avBox t (afLo s.1 f) (aiMax (afHi s.1 f) 0) s K)) (abIf (aiLe (afHi s.1 g) (-1)) (avTop t s K) false)
noncomputable def avFrem (t : Nat) : avOp := fun s f g K => abIf (aiLe 1 (afLo s.1 g))
  (abIf (aiLe 0 (afLo s.1 f)) (abIf (aiLe (afHi s.1 f + 1) (afLo s.1 g)) (K (t, 0, f) s) (avBox t 0 (aiMin (afHi s.1 f) (afHi s.1 g - 1)) s K)) (avBox t (1 - afHi s.1 g) (afHi s.1 g - 1) s K)) false
/-- a mask from 0 on -/
noncomputable def avFand (t : Nat) : avOp := fun s f g K => abIf (aiLe 0 (afLo s.1 g)) (avBox t 0 (afHi s.1 g) s K) (avTop t s K)
noncomputable def avFtop (t : Nat) : avOp := fun s _ _ K => avTop t s K
noncomputable def avOneg : avPo := fun nx _ pc ls st s => avHd st fun v r => avFo 0 v fun f => avNum 0 s (afMul (-1) f) fun u s => nx (pc + 1) ls (u :: r) s
noncomputable def avOjs : avPo := fun nx _ pc ls st s => av2 st fun w v r => avFo 0 w fun _ => avFo 1 v fun _ => avTop 1 s fun u s => nx (pc + 1) ls (u :: r) s
noncomputable def avOi2l : avPo := fun nx _ pc ls st s => avHd st fun v r => avFo 0 v fun f => nx (pc + 1) ls ((1, 0, f) :: r) s
noncomputable def avOl2i : avPo := fun nx _ pc ls st s => avHd st fun v r => avFo 1 v fun f => avNum 0 s f fun u s => nx (pc + 1) ls (u :: r) s
noncomputable def avOcut (lo hi : Int) : avPo := fun nx _ pc ls st s => avHd st fun v r => avFo 0 v fun f =>
  abIf (avGe s (afAdd f ([], -lo))) (abIf (avGe s (afSub ([], hi) f)) (nx (pc + 1) ls (v :: r) s) (avNew 0 lo hi s fun u s => nx (pc + 1) ls (u :: r) s)) (avNew 0 lo hi s fun u s => nx (pc + 1) ls (u :: r) s)
noncomputable def avOcmp : avPo := fun nx _ pc ls st s => av2 st fun w v r => avFo 1 v fun f => avFo 1 w fun g => nx (pc + 1) ls ((4, 0, afSub f g) :: r) s
noncomputable def avOne (v : avV) (k : Bool) : Bool := abIf (Nat.beq v.1 1) false (abIf (Nat.ble v.1 5) k false)
noncomputable def avOdup : avPo := fun nx _ pc ls st s => avHd st fun v r => avOne v (nx (pc + 1) ls (v :: v :: r) s)
noncomputable def avOdup2 : avPo := fun nx _ pc ls st s => avHd st fun v r => abIf (Nat.beq v.1 1) (nx (pc + 1) ls (v :: v :: r) s)
  (avHd r fun w r' => avOne v (avOne w (nx (pc + 1) ls (v :: w :: v :: w :: r') s)))
/-! branches: d is what is compared with 0; f: it holds, g: it doesn't -/
abbrev avBt : Type := avS → afF → (avS → Bool) → (avS → Bool) → Bool
noncomputable def avAsm (s : avS) (f : afF) (K : avS → Bool) : Bool := afAsm s.1 f fun q => K (q, s.2)
noncomputable def avNe (s : avS) (d : afF) (K : avS → Bool) : Bool :=
  abIf (afEnt1 s.1 d) (avAsm s (afAdd d ([], -1)) K) (abIf (afEnt1 s.1 (afMul (-1) d)) (avAsm s (afSub ([], -1) d) K)
    (abIf (afTwo d.1) (K s) (abIf (avAsm s (afAdd d ([], -1)) K) (avAsm s (afSub ([], -1) d) K) false)))
noncomputable def avBe : avBt := fun s d f g => abIf (avAsm s d fun s => avAsm s (afMul (-1) d) f) (avNe s d g) false
noncomputable def avBlt : avBt := fun s d f g => abIf (avAsm s (afSub ([], -1) d) f) (avAsm s d g) false
noncomputable def avBgt : avBt := fun s d f g => abIf (avAsm s (afAdd d ([], -1)) f) (avAsm s (afMul (-1) d) g) false
noncomputable def avSw (B : avBt) : avBt := fun s d f g => B s d g f
noncomputable def avOif (B : avBt) : avPo := fun nx e pc ls st s => avHd st fun v r => abIf (Nat.beq v.1 0) (B s v.2.2 (nx e.2.2.1 ls r) (nx (pc + 3) ls r)) (abIf (Nat.beq v.1 4) (B s v.2.2 (nx e.2.2.1 ls r) (nx (pc + 3) ls r)) false)
noncomputable def avOic (B : avBt) : avPo := fun nx e pc ls st s => av2 st fun w v r => avFo 0 v fun f => avFo 0 w fun g => B s (afSub f g) (nx e.2.2.1 ls r) (nx (pc + 3) ls r)
noncomputable def avOgo : avPo := fun nx e _ ls st s => nx e.2.2.1 ls st s
noncomputable def avTs (s : avS) (d : afF) (nx : Nat → avS → Bool) (ps : List Nat) : Int → Bool :=
  List.rec (motive := fun _ => Int → Bool) (fun _ => true) (fun h _ ih i => abIf (avAsm s (afSub d ([], i)) fun s => avAsm s (afSub ([], i) d) (nx h)) (ih (i + 1)) false) ps
noncomputable def avOsw : avPo := fun nx e _ ls st s => avHd st fun v r => avFo 0 v fun d =>
  abIf (avAsm s (afSub ([], avX e - 1) d) fun s => nx e.2.2.1 ls r s) (abIf (avAsm s (afSub d ([], avX e + e.2.2.2.2.2.length)) fun s => nx e.2.2.1 ls r s) (avTs s d (fun t s => nx t ls r s) e.2.2.2.2.2 (avX e)) false) false
/-! texts -/
noncomputable def avSlen (i : Nat) : Nat := List.rec (motive := fun _ => Nat → Nat) (fun _ => 0) (fun h _ ih i => Nat.rec h (fun n _ => ih n) i) abSl i
noncomputable def avOldS (len : Nat) : avPo := fun nx e pc ls st s => nx (pc + len) ls ((5, e.2.2.1, [], 0) :: st) s
