/-! METHODS BY HAND: steps over known numbers, the world as a table of numbers -/
noncomputable def avRG0 (j : Nat) : Nat := avRGt.get j
def haI (z : Int) : avV := (0, 0, [], z)
def haL (z : Int) : avV := (1, 0, [], z)
def haC (z : Int) : avV := (4, 0, [], z)
def haR (r j : Nat) : avV := (2, r, [], (j : Int))
def haS0 : avS := ((0, [], []), [])
/-- the number in a slot -/
def haNm : Option Value → Int
  | some (.int y) => y.toInt
  | some (.long y) => y.toInt
  | _ => 0
def haAt (ws : va_W) (j : Nat) (i : Int) : Int := if i < 0 then 0 else match ws[j]? with
  | some q => haNm (avAt q.2 i.toNat)
  | none => 0
abbrev haMu : Type := Nat → Int → Int
def haJ (RG : avRJ) (mu : haMu) : avRJ := (RG.1, (fun w => haAt w = mu), RG.2.2)
abbrev haCx : Type := va_G × Nat × Nat × avRJ × va_W × Program × Launch × Env × Room × State × MethodId × Array Value × List Frame × Method × Code × Nat × Nat × (State → Prop)
def haW (x : haCx) (mu : haMu) (pc : Nat) (ls st : List avV) : Prop := match x with
  | (D, z, sb, RG, w0, p, l, ev, R, s, m, args, below, meth, c, cc, cs, Q) => avW D z sb avRT (haJ RG mu) w0 avNo p l ev R s m args below meth c cc cs Q pc ls st haS0
def haF (x : haCx) (k d : Nat) : Prop := match x with
  | (_, z, _, RG, w0, p, _, _, R, s, m, args, _, meth, c, cc, cs, _) => avFr z k d p R s m args meth c ∧ (887 ≤ w0.length ∧ cc ≤ R.cells ∧ cs ≤ R.slots) ∧ RG.1 = avRG0
theorem aiLe_t {a b : Int} (h : a ≤ b) : aiLe a b = true := by
  cases q : aiLe a b with
  | true => rfl
  | false =>
    have := aiLe_f q
    omega
theorem aiEq_t (a : Int) : aiEq a a = true := by
  unfold aiEq
  rw [aiLe_t (Int.le_refl a)]
  rfl
theorem haLo (s : afG) (z : Int) : afLo s ([], z) = z := by
  show 0 + z = z
  omega
theorem haHi (s : afG) (z : Int) : afHi s ([], z) = z := by
  show 0 + z = z
  omega
theorem haGe {s : avS} {z : Int} (h : 0 ≤ z) : avGe s ([], z) = true := by
  unfold avGe
  rw [haLo, aiLe_t h]
  rfl
theorem haQ (z : Int) : afQ ([], z) ([], z) = true := by
  show abIf (aiEq z z) true false = true
  rw [aiEq_t]
  rfl
theorem haNum {t : Nat} {z : Int} {s : avS} {K : avV → avS → Bool} (h1 : avMn t ≤ z) (h2 : z ≤ avMx t) (h : K (t, 0, [], z) s = true) : avNum t s ([], z) K = true := by
  have g1 : avGe s (afAdd ([], z) ([], -avMn t)) = true := haGe (s := s) (z := z + -avMn t) (by omega)
  have g2 : avGe s (afSub ([], avMx t) ([], z)) = true := haGe (s := s) (z := avMx t - z) (by omega)
  unfold avNum
  rw [g1, g2]
  exact h
theorem haAsm {s : avS} {z : Int} {K : avS → Bool} (h : 0 ≤ z → K s = true) : avAsm s ([], z) K = true := by
  show abIf (aiLe 0 (afHi s.1 ([], z))) (abIf (aiLe 0 (afLo s.1 ([], z))) (K (s.1, s.2)) (K (afAd s.1 ([], z), s.2))) true = true
  rw [haHi, haLo]
  cases q : aiLe 0 z with
  | false => rfl
  | true =>
    rw [abIf_t rfl, abIf_t rfl]
    exact h (aiLe_ok q)
theorem haNe {s : avS} {z : Int} {K : avS → Bool} (h : ¬ z = 0 → K s = true) : avNe s ([], z) K = true := by
  have e1 : afEnt1 s.1 ([], z) = true → 0 ≤ z ∨ True := fun _ => Or.inr trivial
  unfold avNe
  rcases Int.lt_trichotomy z 0 with q | q | q
  · have a1 : avAsm s (afAdd ([], z) ([], -1)) K = true := haAsm (z := z + -1) (fun h0 => by omega)
    have a2 : avAsm s (afSub ([], -1) ([], z)) K = true := haAsm (z := -1 - z) (fun _ => h (by omega))
    rw [a1, a2]
    cases afEnt1 s.1 ([], z) with
    | true => rfl
    | false =>
      cases afEnt1 s.1 (afMul (-1) ([], z)) with
      | true => rfl
      | false => rfl
  · have a1 : avAsm s (afAdd ([], z) ([], -1)) K = true := haAsm (z := z + -1) (fun h0 => by omega)
    have a2 : avAsm s (afSub ([], -1) ([], z)) K = true := haAsm (z := -1 - z) (fun h0 => by omega)
    rw [a1, a2]
    cases afEnt1 s.1 ([], z) with
    | true => rfl
    | false =>
      cases afEnt1 s.1 (afMul (-1) ([], z)) with
      | true => rfl
      | false => rfl
  · have a1 : avAsm s (afAdd ([], z) ([], -1)) K = true := haAsm (z := z + -1) (fun _ => h (by omega))
    have a2 : avAsm s (afSub ([], -1) ([], z)) K = true := haAsm (z := -1 - z) (fun h0 => by omega)
    rw [a1, a2]
    cases afEnt1 s.1 ([], z) with
    | true => rfl
    | false =>
      cases afEnt1 s.1 (afMul (-1) ([], z)) with
      | true => rfl
      | false => rfl
theorem haMul (k z : Int) : afMul k ([], z) = ([], k * z) := by
  unfold afMul
  cases q : aiEq k 0 with
  | true =>
    rw [abIf_t rfl, aiEq_ok q, Int.zero_mul]
  | false =>
    rw [abIf_f rfl]
    rfl
theorem haBe {s : avS} {z : Int} {f g : avS → Bool} (h1 : z = 0 → f s = true) (h2 : ¬ z = 0 → g s = true) : avBe s ([], z) f g = true := by
  show abIf (avAsm s ([], z) fun s => avAsm s (afMul (-1) ([], z)) f) (avNe s ([], z) g) false = true
  rw [haNe h2, haMul, haAsm (fun a => haAsm (fun b => h1 (by omega)))]
  rfl
theorem haBlt {s : avS} {z : Int} {f g : avS → Bool} (h1 : z < 0 → f s = true) (h2 : ¬ z < 0 → g s = true) : avBlt s ([], z) f g = true := by
  show abIf (avAsm s ([], -1 - z) f) (avAsm s ([], z) g) false = true
  rw [haAsm (z := -1 - z) (fun a => h1 (by omega)), haAsm (fun a => h2 (by omega))]
  rfl
theorem haBgt {s : avS} {z : Int} {f g : avS → Bool} (h1 : 0 < z → f s = true) (h2 : ¬ 0 < z → g s = true) : avBgt s ([], z) f g = true := by
  show abIf (avAsm s ([], z + -1) f) (avAsm s (afMul (-1) ([], z)) g) false = true
  rw [haMul, haAsm (z := z + -1) (fun a => h1 (by omega)), haAsm (fun a => h2 (by omega))]
  rfl
/-! steps -/
section HAS
variable {x : haCx} {mu : haMu} {k d pc pc' : Nat} {ls st ls' st' : List avV} {e : abEy} {F : avPo}
theorem ha_op (hF : haF x k d) (hE : abEtOk k e) (hpc : e.2.1 = pc) (hO : ∀ RG : avRJ, avOk avRT RG e.1 F) (h : ∀ nx : avNx, (∀ pc ls st, haW x mu pc ls st → nx pc ls st haS0 = true) → F nx e pc ls st haS0 = true) : haW x mu pc ls st := by
  obtain ⟨D, z, sb, RG, w0, p, l, ev, R, s, m, args, below, meth, c, cc, cs, Q⟩ := x
  exact hO (haJ RG mu) D z sb w0 avNo p l ev R s m args below meth c cc cs Q k d (fun pc ls st q => @decide (avW D z sb avRT (haJ RG mu) w0 avNo p l ev R s m args below meth c cc cs Q pc ls st q) (Classical.propDecidable _)) e pc ls st haS0 hF.1 hE rfl hpc (fun pc ls st q hh => @of_decide_eq_true _ (Classical.propDecidable _) hh) (h _ (fun pc ls st hw => @decide_eq_true _ (Classical.propDecidable _) hw))
theorem ha_opE (hF : haF x k d) (hpc : e.2.1 = pc) (hO : ∀ RG : avRJ, avOkE avRT RG k e F) (h : ∀ nx : avNx, (∀ pc ls st, haW x mu pc ls st → nx pc ls st haS0 = true) → F nx e pc ls st haS0 = true) : haW x mu pc ls st := by
  obtain ⟨D, z, sb, RG, w0, p, l, ev, R, s, m, args, below, meth, c, cc, cs, Q⟩ := x
  exact hO (haJ RG mu) D z sb w0 avNo p l ev R s m args below meth c cc cs Q d (fun pc ls st q => @decide (avW D z sb avRT (haJ RG mu) w0 avNo p l ev R s m args below meth c cc cs Q pc ls st q) (Classical.propDecidable _)) pc ls st haS0 hF.1 hpc (fun pc ls st q hh => @of_decide_eq_true _ (Classical.propDecidable _) hh) hF.2.1.2 (h _ (fun pc ls st hw => @decide_eq_true _ (Classical.propDecidable _) hw))
theorem ha_s (hF : haF x k d) (hE : abEtOk k e) (hpc : e.2.1 = pc) (hO : ∀ RG : avRJ, avOk avRT RG e.1 F) (hr : ∀ nx : avNx, F nx e pc ls st haS0 = nx pc' ls' st' haS0) (h : haW x mu pc' ls' st') : haW x mu pc ls st := ha_op hF hE hpc hO (fun nx hn => by rw [hr nx]; exact hn _ _ _ h)
theorem ha_iadd {a b : Int} (hF : haF x k d) (hE : abEtOk k e) (hpc : e.2.1 = pc) (ho : e.1 = 21) (h1 : -2147483648 ≤ a + b) (h2 : a + b ≤ 2147483647) (h : haW x mu (pc + 1) ls (haI (a + b) :: st)) : haW x mu pc ls (haI b :: haI a :: st) :=
  ha_op (F := avOi 0 (avFadd 0)) hF hE hpc (fun RG => by rw [ho]; exact avS21) (fun nx hn => haNum (K := fun u s => nx (pc + 1) ls (u :: st) s) h1 h2 (hn _ _ _ h))
theorem ha_isub {a b : Int} (hF : haF x k d) (hE : abEtOk k e) (hpc : e.2.1 = pc) (ho : e.1 = 22) (h1 : -2147483648 ≤ a - b) (h2 : a - b ≤ 2147483647) (h : haW x mu (pc + 1) ls (haI (a - b) :: st)) : haW x mu pc ls (haI b :: haI a :: st) :=
  ha_op (F := avOi 0 (avFsub 0)) hF hE hpc (fun RG => by rw [ho]; exact avS22) (fun nx hn => haNum (K := fun u s => nx (pc + 1) ls (u :: st) s) h1 h2 (hn _ _ _ h))
theorem ha_imul {a b : Int} (hF : haF x k d) (hE : abEtOk k e) (hpc : e.2.1 = pc) (ho : e.1 = 23) (h1 : -2147483648 ≤ b * a) (h2 : b * a ≤ 2147483647) (h : haW x mu (pc + 1) ls (haI (b * a) :: st)) : haW x mu pc ls (haI b :: haI a :: st) :=
  ha_op (F := avOi 0 (avFmul 0)) hF hE hpc (fun RG => by rw [ho]; exact avS23) (fun nx hn => by
    show avNum 0 haS0 (afMul b ([], a)) (fun u s => nx (pc + 1) ls (u :: st) s) = true
    rw [haMul]
    exact haNum h1 h2 (hn _ _ _ h))
theorem ha_iinc {i : Nat} {a c : Int} (hF : haF x k d) (hE : abEtOk k e) (hpc : e.2.1 = pc) (ho : e.1 = 20) (hi : e.2.2.2.1 = i) (hc : avX e = c) (hv : avNth ls i = haI a) (h1 : -2147483648 ≤ a + c) (h2 : a + c ≤ 2147483647) (h : haW x mu (pc + 3) (avSt1 ls i (haI (a + c))) st) : haW x mu pc ls st :=
  ha_op (F := avOinc) hF hE hpc (fun RG => by rw [ho]; exact avS20) (fun nx hn => by
    show avFo 0 (avNth ls e.2.2.2.1) (fun f => avNum 0 haS0 (afAdd f ([], avX e)) fun v s => nx (pc + 3) (avSt1 ls e.2.2.2.1 v) st s) = true
    rw [hi, hv, hc]
    exact haNum (K := fun v s => nx (pc + 3) (avSt1 ls i v) st s) h1 h2 (hn _ _ _ h))
theorem ha_l2i {a : Int} (hF : haF x k d) (hE : abEtOk k e) (hpc : e.2.1 = pc) (ho : e.1 = 41) (h1 : -2147483648 ≤ a) (h2 : a ≤ 2147483647) (h : haW x mu (pc + 1) ls (haI a :: st)) : haW x mu pc ls (haL a :: st) :=
  ha_op (F := avOl2i) hF hE hpc (fun RG => by rw [ho]; exact avS41) (fun nx hn => haNum (K := fun u s => nx (pc + 1) ls (u :: st) s) h1 h2 (hn _ _ _ h))
/-- a number against 0 -/
theorem ha_ifeq {t : Nat} {a : Int} (hF : haF x k d) (hE : abEtOk k e) (hpc : e.2.1 = pc) (ho : e.1 = 46) (ht : e.2.2.1 = t) (h1 : a = 0 → haW x mu t ls st) (h2 : ¬ a = 0 → haW x mu (pc + 3) ls st) : haW x mu pc ls (haI a :: st) :=
  ha_op (F := avOif avBe) hF hE hpc (fun RG => by rw [ho]; exact avS46) (fun nx hn => haBe (f := nx e.2.2.1 ls st) (g := nx (pc + 3) ls st) (fun q => hn _ _ _ (by rw [ht]; exact h1 q)) (fun q => hn _ _ _ (h2 q)))
theorem ha_ifne {t : Nat} {a : Int} (hF : haF x k d) (hE : abEtOk k e) (hpc : e.2.1 = pc) (ho : e.1 = 47) (ht : e.2.2.1 = t) (h1 : ¬ a = 0 → haW x mu t ls st) (h2 : a = 0 → haW x mu (pc + 3) ls st) : haW x mu pc ls (haI a :: st) :=
  ha_op (F := avOif (avSw avBe)) hF hE hpc (fun RG => by rw [ho]; exact avS47) (fun nx hn => haBe (f := nx (pc + 3) ls st) (g := nx e.2.2.1 ls st) (fun q => hn _ _ _ (h2 q)) (fun q => hn _ _ _ (by rw [ht]; exact h1 q)))
theorem ha_iflt {t : Nat} {a : Int} (hF : haF x k d) (hE : abEtOk k e) (hpc : e.2.1 = pc) (ho : e.1 = 48) (ht : e.2.2.1 = t) (h1 : a < 0 → haW x mu t ls st) (h2 : ¬ a < 0 → haW x mu (pc + 3) ls st) : haW x mu pc ls (haI a :: st) :=
  ha_op (F := avOif avBlt) hF hE hpc (fun RG => by rw [ho]; exact avS48) (fun nx hn => haBlt (f := nx e.2.2.1 ls st) (g := nx (pc + 3) ls st) (fun q => hn _ _ _ (by rw [ht]; exact h1 q)) (fun q => hn _ _ _ (h2 q)))
theorem ha_ifge {t : Nat} {a : Int} (hF : haF x k d) (hE : abEtOk k e) (hpc : e.2.1 = pc) (ho : e.1 = 49) (ht : e.2.2.1 = t) (h1 : ¬ a < 0 → haW x mu t ls st) (h2 : a < 0 → haW x mu (pc + 3) ls st) : haW x mu pc ls (haI a :: st) :=
  ha_op (F := avOif (avSw avBlt)) hF hE hpc (fun RG => by rw [ho]; exact avS49) (fun nx hn => haBlt (f := nx (pc + 3) ls st) (g := nx e.2.2.1 ls st) (fun q => hn _ _ _ (h2 q)) (fun q => hn _ _ _ (by rw [ht]; exact h1 q)))
theorem ha_ifgt {t : Nat} {a : Int} (hF : haF x k d) (hE : abEtOk k e) (hpc : e.2.1 = pc) (ho : e.1 = 50) (ht : e.2.2.1 = t) (h1 : 0 < a → haW x mu t ls st) (h2 : ¬ 0 < a → haW x mu (pc + 3) ls st) : haW x mu pc ls (haI a :: st) :=
  ha_op (F := avOif avBgt) hF hE hpc (fun RG => by rw [ho]; exact avS50) (fun nx hn => haBgt (f := nx e.2.2.1 ls st) (g := nx (pc + 3) ls st) (fun q => hn _ _ _ (by rw [ht]; exact h1 q)) (fun q => hn _ _ _ (h2 q)))
theorem ha_ifle {t : Nat} {a : Int} (hF : haF x k d) (hE : abEtOk k e) (hpc : e.2.1 = pc) (ho : e.1 = 51) (ht : e.2.2.1 = t) (h1 : ¬ 0 < a → haW x mu t ls st) (h2 : 0 < a → haW x mu (pc + 3) ls st) : haW x mu pc ls (haI a :: st) :=
  ha_op (F := avOif (avSw avBgt)) hF hE hpc (fun RG => by rw [ho]; exact avS51) (fun nx hn => haBgt (f := nx (pc + 3) ls st) (g := nx e.2.2.1 ls st) (fun q => hn _ _ _ (h2 q)) (fun q => hn _ _ _ (by rw [ht]; exact h1 q)))
/-- two numbers -/
theorem ha_iceq {t : Nat} {a b : Int} (hF : haF x k d) (hE : abEtOk k e) (hpc : e.2.1 = pc) (ho : e.1 = 52) (ht : e.2.2.1 = t) (h1 : a = b → haW x mu t ls st) (h2 : ¬ a = b → haW x mu (pc + 3) ls st) : haW x mu pc ls (haI b :: haI a :: st) :=
  ha_op (F := avOic avBe) hF hE hpc (fun RG => by rw [ho]; exact avS52) (fun nx hn => haBe (z := a - b) (f := nx e.2.2.1 ls st) (g := nx (pc + 3) ls st) (fun q => hn _ _ _ (by rw [ht]; exact h1 (by omega))) (fun q => hn _ _ _ (h2 (by omega))))
theorem ha_icne {t : Nat} {a b : Int} (hF : haF x k d) (hE : abEtOk k e) (hpc : e.2.1 = pc) (ho : e.1 = 53) (ht : e.2.2.1 = t) (h1 : ¬ a = b → haW x mu t ls st) (h2 : a = b → haW x mu (pc + 3) ls st) : haW x mu pc ls (haI b :: haI a :: st) :=
  ha_op (F := avOic (avSw avBe)) hF hE hpc (fun RG => by rw [ho]; exact avS53) (fun nx hn => haBe (z := a - b) (f := nx (pc + 3) ls st) (g := nx e.2.2.1 ls st) (fun q => hn _ _ _ (h2 (by omega))) (fun q => hn _ _ _ (by rw [ht]; exact h1 (by omega))))
theorem ha_iclt {t : Nat} {a b : Int} (hF : haF x k d) (hE : abEtOk k e) (hpc : e.2.1 = pc) (ho : e.1 = 54) (ht : e.2.2.1 = t) (h1 : a < b → haW x mu t ls st) (h2 : ¬ a < b → haW x mu (pc + 3) ls st) : haW x mu pc ls (haI b :: haI a :: st) :=
  ha_op (F := avOic avBlt) hF hE hpc (fun RG => by rw [ho]; exact avS54) (fun nx hn => haBlt (z := a - b) (f := nx e.2.2.1 ls st) (g := nx (pc + 3) ls st) (fun q => hn _ _ _ (by rw [ht]; exact h1 (by omega))) (fun q => hn _ _ _ (h2 (by omega))))
theorem ha_icge {t : Nat} {a b : Int} (hF : haF x k d) (hE : abEtOk k e) (hpc : e.2.1 = pc) (ho : e.1 = 55) (ht : e.2.2.1 = t) (h1 : b ≤ a → haW x mu t ls st) (h2 : a < b → haW x mu (pc + 3) ls st) : haW x mu pc ls (haI b :: haI a :: st) :=
  ha_op (F := avOic (avSw avBlt)) hF hE hpc (fun RG => by rw [ho]; exact avS55) (fun nx hn => haBlt (z := a - b) (f := nx (pc + 3) ls st) (g := nx e.2.2.1 ls st) (fun q => hn _ _ _ (h2 (by omega))) (fun q => hn _ _ _ (by rw [ht]; exact h1 (by omega))))
theorem ha_icgt {t : Nat} {a b : Int} (hF : haF x k d) (hE : abEtOk k e) (hpc : e.2.1 = pc) (ho : e.1 = 56) (ht : e.2.2.1 = t) (h1 : b < a → haW x mu t ls st) (h2 : a ≤ b → haW x mu (pc + 3) ls st) : haW x mu pc ls (haI b :: haI a :: st) :=
  ha_op (F := avOic avBgt) hF hE hpc (fun RG => by rw [ho]; exact avS56) (fun nx hn => haBgt (z := a - b) (f := nx e.2.2.1 ls st) (g := nx (pc + 3) ls st) (fun q => hn _ _ _ (by rw [ht]; exact h1 (by omega))) (fun q => hn _ _ _ (h2 (by omega))))
theorem ha_icle {t : Nat} {a b : Int} (hF : haF x k d) (hE : abEtOk k e) (hpc : e.2.1 = pc) (ho : e.1 = 57) (ht : e.2.2.1 = t) (h1 : a ≤ b → haW x mu t ls st) (h2 : b < a → haW x mu (pc + 3) ls st) : haW x mu pc ls (haI b :: haI a :: st) :=
  ha_op (F := avOic (avSw avBgt)) hF hE hpc (fun RG => by rw [ho]; exact avS57) (fun nx hn => haBgt (z := a - b) (f := nx (pc + 3) ls st) (g := nx e.2.2.1 ls st) (fun q => hn _ _ _ (h2 (by omega))) (fun q => hn _ _ _ (by rw [ht]; exact h1 (by omega))))
/-- the sign of a difference of longs -/
theorem ha_cge {t : Nat} {a : Int} (hF : haF x k d) (hE : abEtOk k e) (hpc : e.2.1 = pc) (ho : e.1 = 49) (ht : e.2.2.1 = t) (h1 : 0 ≤ a → haW x mu t ls st) (h2 : a < 0 → haW x mu (pc + 3) ls st) : haW x mu pc ls (haC a :: st) :=
  ha_op (F := avOif (avSw avBlt)) hF hE hpc (fun RG => by rw [ho]; exact avS49) (fun nx hn => haBlt (f := nx (pc + 3) ls st) (g := nx e.2.2.1 ls st) (fun q => hn _ _ _ (h2 q)) (fun q => hn _ _ _ (by rw [ht]; exact h1 (by omega))))
theorem ha_clt {t : Nat} {a : Int} (hF : haF x k d) (hE : abEtOk k e) (hpc : e.2.1 = pc) (ho : e.1 = 48) (ht : e.2.2.1 = t) (h1 : a < 0 → haW x mu t ls st) (h2 : 0 ≤ a → haW x mu (pc + 3) ls st) : haW x mu pc ls (haC a :: st) :=
  ha_op (F := avOif avBlt) hF hE hpc (fun RG => by rw [ho]; exact avS48) (fun nx hn => haBlt (f := nx e.2.2.1 ls st) (g := nx (pc + 3) ls st) (fun q => hn _ _ _ (by rw [ht]; exact h1 q)) (fun q => hn _ _ _ (h2 (by omega))))
theorem ha_cle {t : Nat} {a : Int} (hF : haF x k d) (hE : abEtOk k e) (hpc : e.2.1 = pc) (ho : e.1 = 51) (ht : e.2.2.1 = t) (h1 : a ≤ 0 → haW x mu t ls st) (h2 : 0 < a → haW x mu (pc + 3) ls st) : haW x mu pc ls (haC a :: st) :=
  ha_op (F := avOif (avSw avBgt)) hF hE hpc (fun RG => by rw [ho]; exact avS51) (fun nx hn => haBgt (f := nx (pc + 3) ls st) (g := nx e.2.2.1 ls st) (fun q => hn _ _ _ (h2 q)) (fun q => hn _ _ _ (by rw [ht]; exact h1 (by omega))))
theorem ha_cgt {t : Nat} {a : Int} (hF : haF x k d) (hE : abEtOk k e) (hpc : e.2.1 = pc) (ho : e.1 = 50) (ht : e.2.2.1 = t) (h1 : 0 < a → haW x mu t ls st) (h2 : a ≤ 0 → haW x mu (pc + 3) ls st) : haW x mu pc ls (haC a :: st) :=
  ha_op (F := avOif avBgt) hF hE hpc (fun RG => by rw [ho]; exact avS50) (fun nx hn => haBgt (f := nx e.2.2.1 ls st) (g := nx (pc + 3) ls st) (fun q => hn _ _ _ (by rw [ht]; exact h1 q)) (fun q => hn _ _ _ (h2 (by omega))))
end HAS
