/-! slots read and written by hand -/
def haUp (mu : haMu) (j : Nat) (i v : Int) : haMu := fun j' i' => if j' = j ∧ i' = i then v else mu j' i'
theorem haUp_s {mu : haMu} {j : Nat} {i v : Int} : haUp mu j i v j i = v := if_pos ⟨rfl, rfl⟩
theorem haUp_n {mu : haMu} {j j' : Nat} {i i' v : Int} (h : ¬ (j' = j ∧ i' = i)) : haUp mu j i v j' i' = mu j' i' := if_neg h
theorem haAt_some {ws : va_W} {j a : Nat} {e : va_E} {i : Int} (hi : 0 ≤ i) (h : ws[j]? = some (a, e)) : haAt ws j i = haNm (avAt e i.toNat) := by
  unfold haAt
  rw [if_neg (by omega), h]
theorem haAt_set {ws : va_W} {j a : Nat} {e e1 : va_E} {i v : Int} (hi : 0 ≤ i) (h : ws[j]? = some (a, e)) (h1 : haNm (avAt e1 i.toNat) = v) (h2 : ∀ i', ¬ i' = i.toNat → avAt e1 i' = avAt e i') : haAt (ws.set j (a, e1)) = haUp (haAt ws) j i v := by
  funext j' i'
  by_cases hj : j' = j
  · subst hj
    have hl := (List.getElem?_eq_some_iff.mp h).1
    by_cases hi' : i' = i
    · subst hi'
      rw [haUp_s, haAt_some hi (List.getElem?_set_self hl), h1]
    · rw [haUp_n (by omega)]
      by_cases hneg : i' < 0
      · unfold haAt
        rw [if_pos hneg, if_pos hneg]
      · rw [haAt_some (by omega) (List.getElem?_set_self hl), haAt_some (by omega) h, h2 _ (by omega)]
  · rw [haUp_n (fun q => hj q.1)]
    unfold haAt
    rw [List.getElem?_set_ne (Ne.symm hj)]
/-- what is known of a slot, wherever the stack is so -/
def haKs (x : haCx) (mu : haMu) (st : List avV) (kk : avK) : Prop := match x with
  | (D, z, sb, RG, _, _, _, _, _, s, _, _, _, _, _, _, _, _) => ∀ (rh : afR) (H : Heap) (locs : List Loc) (ws : va_W) (xs : List Value), avHok D z sb avRT (haJ RG mu) rh s ws H locs haS0 → avSok (haJ RG mu) ws sb rh st xs → avKn (haJ RG mu) ws sb rh kk
section HAR
variable {x : haCx} {mu : haMu} {k d pc pc' : Nat} {ls st ls' st' : List avV} {e : abEy} {F : avPo}
theorem ha_op1 {kk : avK} (hF : haF x k d) (hE : abEtOk k e) (hpc : e.2.1 = pc) (hO : ∀ RG : avRJ, avOk avRT RG e.1 F) (hk : haKs x mu st kk) (h : ∀ nx : avNx, (∀ pc ls st, haW x mu pc ls st → nx pc ls st (haS0.1, [kk]) = true) → F nx e pc ls st (haS0.1, [kk]) = true) : haW x mu pc ls st := by
  obtain ⟨D, z, sb, RG, w0, p, l, ev, R, s, m, args, below, meth, c, cc, cs, Q⟩ := x
  intro rh H locs ws A xs hH hX hL hS
  have hkn := hk rh H locs ws xs hH hS
  have hH2 : avHok D z sb avRT (haJ RG mu) rh s ws H locs (haS0.1, [kk]) := ⟨hH.1, hH.2.1, hH.2.2.1, hH.2.2.2.1, hH.2.2.2.2.1, fun k hk => by
    rcases List.mem_cons.mp hk with rfl | hk
    · exact hkn
    · cases hk⟩
  refine hO (haJ RG mu) D z sb w0 avNo p l ev R s m args below meth c cc cs Q k d (fun pc ls st q => @decide (avW D z sb avRT (haJ RG mu) w0 avNo p l ev R s m args below meth c cc cs Q pc ls st q) (Classical.propDecidable _)) e pc ls st (haS0.1, [kk]) hF.1 hE rfl hpc (fun pc ls st q hh => @of_decide_eq_true _ (Classical.propDecidable _) hh) (h _ (fun pc ls st hw => @decide_eq_true _ (Classical.propDecidable _) ?_)) rh H locs ws A xs hH2 hX hL hS
  intro rh' H' locs' ws' A' xs' hH' hX' hL' hS'
  exact hw rh' H' locs' ws' A' xs' ⟨hH'.1, hH'.2.1, hH'.2.2.1, hH'.2.2.2.1, hH'.2.2.2.2.1, fun k hk => by cases hk⟩ hX' hL' hS'
theorem haCst (rh : afR) (z : Int) : afV rh ([], z) = z := afC_V rh z
/-- a slot that holds an int -/
theorem haKn {D : va_G} {z0 sb : Nat} {RG : avRJ} {rh : afR} {s : State} {ws : va_W} {H : Heap} {locs : List Loc} {q : avS} (hH : avHok D z0 sb avRT (haJ RG mu) rh s ws H locs q) {j a r : Nat} {en : va_E} (hj : ws[j]? = some (a, en)) {i : Int} (hi : 0 ≤ i) {y : Int32} (hx : avAt en i.toNat = some (.int y)) (hr : RG.1 j = r) : avKn (haJ RG mu) ws sb rh (r, ([], (j : Int)), ([], i), haI (mu j i)) := by
  obtain ⟨⟨tys, hK, hC, hlen⟩, -⟩ := hH
  have hmu : haAt ws = mu := hlen.2.1
  refine ⟨afNil_D rh, afNil_D rh, j, i.toNat, a, en, .int y, (haCst rh _).symm, hr, ?_, hj, hx, afNil_D rh, y, rfl, ?_⟩
  · rw [haCst]; omega
  · rw [show afV rh (haI (mu j i)).2.2 = mu j i from haCst rh _, ← hmu, haAt_some hi hj, hx]
    rfl
theorem haKnL {D : va_G} {z0 sb : Nat} {RG : avRJ} {rh : afR} {s : State} {ws : va_W} {H : Heap} {locs : List Loc} {q : avS} (hH : avHok D z0 sb avRT (haJ RG mu) rh s ws H locs q) {j a r : Nat} {en : va_E} (hj : ws[j]? = some (a, en)) {i : Int} (hi : 0 ≤ i) {y : Int64} (hx : avAt en i.toNat = some (.long y)) (hr : RG.1 j = r) : avKn (haJ RG mu) ws sb rh (r, ([], (j : Int)), ([], i), haL (mu j i)) := by
  obtain ⟨⟨tys, hK, hC, hlen⟩, -⟩ := hH
  have hmu : haAt ws = mu := hlen.2.1
  refine ⟨afNil_D rh, afNil_D rh, j, i.toNat, a, en, .long y, (haCst rh _).symm, hr, ?_, hj, hx, afNil_D rh, y, rfl, ?_⟩
  · rw [haCst]; omega
  · rw [show afV rh (haL (mu j i)).2.2 = mu j i from haCst rh _, ← hmu, haAt_some hi hj, hx]
    rfl
theorem haRf {RG : avRJ} {ws : va_W} {sb : Nat} {rh : afR} {r j : Nat} {v : Value} (g : avGv RG ws sb rh (haR r j) v) : ∃ (a : Nat) (en : va_E), ws[j]? = some (a, en) ∧ v = .ref a ∧ RG.1 j = r := by
  obtain ⟨-, jj, a, en, hj, hx1, er, ec⟩ := avGv_r g rfl
  have e1 : (jj : Int) = (j : Int) := by rw [ec]; exact haCst rh _
  have e2 : jj = j := by omega
  subst e2
  exact ⟨a, en, hj, hx1, er⟩
theorem haFind {r j : Nat} {i : Int} {v : avV} {y : avV → Bool} {n : Bool} : avFind r ([], (j : Int)) ([], i) y n [(r, ([], (j : Int)), ([], i), v)] = y v := by
  show abIf (Nat.beq r r) (abIf (afQ ([], i) ([], i)) (abIf (afQ ([], (j : Int)) ([], (j : Int))) (y v) n) n) n = y v
  rw [show Nat.beq r r = true from Nat.beq_refl r, haQ, haQ]
  rfl
theorem haIx {s : avS} {i : Int} {n : Nat} {b : Bool} (h1 : 0 ≤ i) (h2 : i < (n : Int)) : avIx1 s ([], i) n b = b := by
  show abIf (avGe s ([], i)) (abIf (avGe s ([], (n : Int) - 1 - i)) b false) false = b
  rw [haGe h1, haGe (by omega)]
  rfl
theorem ha_iald {r j : Nat} {i : Int} (hF : haF x k d) (hE : abEtOk k e) (hpc : e.2.1 = pc) (ho : e.1 = 64) (hr : (avRT.get r).1 = 100) (h0 : 0 ≤ i) (hn : i < ((avRT.get r).2.1 : Int)) (h : haW x mu (pc + 1) ls (haI (mu j i) :: st)) : haW x mu pc ls (haI i :: haR r j :: st) := by
  refine ha_op1 (F := avOal avRT avCLt (fun n => Nat.beq n 100)) (kk := (r, ([], (j : Int)), ([], i), haI (mu j i))) hF hE hpc (fun RG => by rw [ho]; exact avS64 avCl_ok) ?_ (fun nx hn' => ?_)
  · obtain ⟨D, z, sb, RG, w0, p, l, ev, R, s, m, args, below, meth, c, cc, cs, Q⟩ := x
    intro rh H locs ws xs hH hS
    obtain ⟨x0, xr, rfl, gz, x1, xr', rfl, gv, hS'⟩ := hS
    obtain ⟨a, en, hj, -, er⟩ := haRf gv
    obtain ⟨⟨tys, hK, hC, hlen⟩, -⟩ := id hH
    have hcell := hC j (List.getElem?_eq_some_iff.mp hj).1
    rw [er] at hcell
    obtain ⟨a', cA, f, t0, e1, e2, e3, e4⟩ := hcell.2.1 .int (by rw [hr]; rfl)
    rw [hj] at e1
    cases e1
    have hlt : i.toNat < (avRT.get r).2.1 := by clear hlen hcell hC; omega
    exact haKn hH hj h0 (y := f i.toNat) (if_pos hlt) er
  · show abIf (Nat.beq (avRT.get r).1 100) (avIx1 _ ([], i) (avRT.get r).2.1 (avFind r ([], (j : Int)) ([], i) (fun v => nx (pc + 1) ls (v :: st) _) _ [(r, ([], (j : Int)), ([], i), haI (mu j i))])) false = true
    rw [hr, haIx h0 hn, haFind]
    exact hn' _ _ _ h
theorem ha_bald {r j : Nat} {i : Int} (hF : haF x k d) (hE : abEtOk k e) (hpc : e.2.1 = pc) (ho : e.1 = 65) (hr : (avRT.get r).1 = 103) (h0 : 0 ≤ i) (hn : i < ((avRT.get r).2.1 : Int)) (h : haW x mu (pc + 1) ls (haI (mu j i) :: st)) : haW x mu pc ls (haI i :: haR r j :: st) := by
  refine ha_op1 (F := avOal avRT avCLt (fun n => Nat.beq (n / 2) 51)) (kk := (r, ([], (j : Int)), ([], i), haI (mu j i))) hF hE hpc (fun RG => by rw [ho]; exact avS65 avCl_ok) ?_ (fun nx hn' => ?_)
  · obtain ⟨D, z, sb, RG, w0, p, l, ev, R, s, m, args, below, meth, c, cc, cs, Q⟩ := x
    intro rh H locs ws xs hH hS
    obtain ⟨x0, xr, rfl, gz, x1, xr', rfl, gv, hS'⟩ := hS
    obtain ⟨a, en, hj, -, er⟩ := haRf gv
    obtain ⟨⟨tys, hK, hC, hlen⟩, -⟩ := id hH
    have hcell := hC j (List.getElem?_eq_some_iff.mp hj).1
    rw [er] at hcell
    obtain ⟨a', cA, f, t0, e1, e2, e3, e4⟩ := hcell.2.1 .boolean (by rw [hr]; rfl)
    rw [hj] at e1
    cases e1
    have hlt : i.toNat < (avRT.get r).2.1 := by clear hlen hcell hC; omega
    exact haKn hH hj h0 (y := f i.toNat) (if_pos hlt) er
  · show abIf (Nat.beq ((avRT.get r).1 / 2) 51) (avIx1 _ ([], i) (avRT.get r).2.1 (avFind r ([], (j : Int)) ([], i) (fun v => nx (pc + 1) ls (v :: st) _) _ [(r, ([], (j : Int)), ([], i), haI (mu j i))])) false = true
    rw [hr, haIx h0 hn, haFind]
    exact hn' _ _ _ h
/-- a field of numbers -/
theorem ha_getI {r j i : Nat} {lo up : Int} (hF : haF x k d) (hE : abEtOk k e) (hpc : e.2.1 = pc) (ho : e.1 = 60) (hi : e.2.2.2.1 = i) (hr : (avRT.get r).1 = e.2.2.1) (hc : e.2.2.1 ≤ 90) (hn : i < (avRT.get r).2.1) (hs : (avRT.get r).2.2.get i = (0, lo, up)) (h : haW x mu (pc + 3) ls (haI (mu j i) :: st)) : haW x mu pc ls (haR r j :: st) := by
  refine ha_op1 (F := avOgf avRT avCLt) (kk := (r, ([], (j : Int)), ([], (i : Int)), haI (mu j i))) hF hE hpc (fun RG => by rw [ho]; exact avS60 avCl_ok) ?_ (fun nx hn' => ?_)
  · obtain ⟨D, z, sb, RG, w0, p, l, ev, R, s, m, args, below, meth, c, cc, cs, Q⟩ := x
    intro rh H locs ws xs hH hS
    obtain ⟨x1, xr', rfl, gv, hS'⟩ := hS
    obtain ⟨a, en, hj, -, er⟩ := haRf gv
    obtain ⟨⟨tys, hK, hC, hlen⟩, -⟩ := id hH
    have hcell := hC j (List.getElem?_eq_some_iff.mp hj).1
    rw [er] at hcell
    obtain ⟨a', fs, y, e1, e2, e3, e4, e5⟩ := hcell.1 (by rw [hr]; exact hc)
    rw [hj] at e1
    cases e1
    obtain ⟨xv, hxv⟩ : ∃ xv, fs[i]? = some xv := ⟨_, List.getElem?_eq_getElem (by omega)⟩
    have hm := e5 i xv hxv
    rw [hs] at hm
    obtain ⟨yy, rfl, -⟩ := hm
    exact haKn hH hj (Int.natCast_nonneg i) (y := yy) hxv er
  · show abIf (Nat.beq (avRT.get r).1 e.2.2.1) (avFind r ([], (j : Int)) ([], (e.2.2.2.1 : Int)) (fun v => nx (pc + 3) ls (v :: st) _) _ [(r, ([], (j : Int)), ([], (i : Int)), haI (mu j i))]) false = true
    rw [hr, hi, show Nat.beq e.2.2.1 e.2.2.1 = true from Nat.beq_refl _, abIf_t rfl, haFind]
    exact hn' _ _ _ h
/-- a field of references, of one cell -/
theorem ha_getR {r j i r' j' : Nat} (hF : haF x k d) (hE : abEtOk k e) (hpc : e.2.1 = pc) (ho : e.1 = 60) (hi : e.2.2.2.1 = i) (hr : (avRT.get r).1 = e.2.2.1) (hc : e.2.2.1 ≤ 90) (hn : i < (avRT.get r).2.1) (hs : (avRT.get r).2.2.get i = (2, (r' : Int), (j' : Int))) (h : haW x mu (pc + 3) ls (haR r' j' :: st)) : haW x mu pc ls (haR r j :: st) := by
  refine ha_op1 (F := avOgf avRT avCLt) (kk := (r, ([], (j : Int)), ([], (i : Int)), haR r' j')) hF hE hpc (fun RG => by rw [ho]; exact avS60 avCl_ok) ?_ (fun nx hn' => ?_)
  · obtain ⟨D, z, sb, RG, w0, p, l, ev, R, s, m, args, below, meth, c, cc, cs, Q⟩ := x
    intro rh H locs ws xs hH hS
    obtain ⟨x1, xr', rfl, gv, hS'⟩ := hS
    obtain ⟨a, en, hj, -, er⟩ := haRf gv
    obtain ⟨⟨tys, hK, hC, hlen⟩, -⟩ := id hH
    have hcell := hC j (List.getElem?_eq_some_iff.mp hj).1
    rw [er] at hcell
    obtain ⟨a', fs, y, e1, e2, e3, e4, e5⟩ := hcell.1 (by rw [hr]; exact hc)
    rw [hj] at e1
    cases e1
    obtain ⟨xv, hxv⟩ : ∃ xv, fs[i]? = some xv := ⟨_, List.getElem?_eq_getElem (by omega)⟩
    have hm := e5 i xv hxv
    rw [hs] at hm
    obtain ⟨jj, aa, ee, m1, rfl, m2, m3⟩ := hm
    have m4 : (jj : Int) = (j' : Int) := m3 (Int.natCast_nonneg j')
    have m5 : jj = j' := by clear hlen hcell hC; omega
    subst m5
    refine ⟨afNil_D rh, afNil_D rh, j, i, _, _, .ref aa, (haCst rh _).symm, er, (haCst rh _).symm, hj, hxv, afNil_D rh, jj, aa, ee, m1, rfl, ?_, (haCst rh _).symm⟩
    exact m2
  · show abIf (Nat.beq (avRT.get r).1 e.2.2.1) (avFind r ([], (j : Int)) ([], (e.2.2.2.1 : Int)) (fun v => nx (pc + 3) ls (v :: st) _) _ [(r, ([], (j : Int)), ([], (i : Int)), haR r' j')]) false = true
    rw [hr, hi, show Nat.beq e.2.2.1 e.2.2.1 = true from Nat.beq_refl _, abIf_t rfl, haFind]
    exact hn' _ _ _ h
end HAR
/-! writes -/
def haT (RG : avRJ) : avRJ := (RG.1, (fun _ => True), RG.2.2)
theorem haTo {D : va_G} {z sb : Nat} {RG : avRJ} {mu : haMu} {rh : afR} {s : State} {ws : va_W} {H : Heap} {locs : List Loc} {q : avS} (h : avHok D z sb avRT (haJ RG mu) rh s ws H locs q) (hq : q.2 = []) : avHok D z sb avRT (haT RG) rh s ws H locs q := by
  obtain ⟨⟨tys, h1, h2, h3, h4, h5⟩, g1, g2, g3, g4, g5⟩ := h
  exact ⟨⟨tys, h1, h2, h3, trivial, h5⟩, g1, g2, g3, g4, fun k hk => by rw [hq] at hk; cases hk⟩
theorem haFrom {D : va_G} {z sb : Nat} {RG : avRJ} {mu : haMu} {rh : afR} {s : State} {ws : va_W} {H : Heap} {locs : List Loc} {q : avS} (h : avHok D z sb avRT (haT RG) rh s ws H locs q) (hq : q.2 = []) (hm : haAt ws = mu) : avHok D z sb avRT (haJ RG mu) rh s ws H locs q := by
  obtain ⟨⟨tys, h1, h2, h3, h4, h5⟩, g1, g2, g3, g4, g5⟩ := h
  exact ⟨⟨tys, h1, h2, h3, hm, h5⟩, g1, g2, g3, g4, fun k hk => by rw [hq] at hk; cases hk⟩
theorem haSok {RG RG' : avRJ} {ws : va_W} {sb : Nat} {rh : afR} (h1 : RG.1 = RG'.1) (h2 : RG.2.2 = RG'.2.2) : ∀ {st : List avV} {xs : List Value}, avSok RG ws sb rh st xs → avSok RG' ws sb rh st xs
  | [], _, h => h
  | v :: r, _, h => by
    obtain ⟨y, xr, e, g, h'⟩ := h
    refine ⟨y, xr, e, ?_, haSok h1 h2 h'⟩
    obtain ⟨g1, J, g2⟩ := RG
    obtain ⟨g1', J', g2'⟩ := RG'
    have e1 : g1 = g1' := h1
    have e2 : g2 = g2' := h2
    subst e1; subst e2
    exact g
section HAP
variable {x : haCx} {mu : haMu} {k d pc pc' : Nat} {ls st ls' st' : List avV} {e : abEy} {F : avPo}
theorem ha_iast {r j : Nat} {i v lo up : Int} (hF : haF x k d) (hE : abEtOk k e) (hpc : e.2.1 = pc) (ho : e.1 = 69) (hr : (avRT.get r).1 = 100) (h0 : 0 ≤ i) (hn : i < ((avRT.get r).2.1 : Int)) (hs : (avRT.get r).2.2.get i.toNat = (0, lo, up)) (h1 : lo ≤ v) (h2 : v ≤ up) (h : haW x (haUp mu j i v) (pc + 1) ls st) : haW x mu pc ls (haI v :: haI i :: haR r j :: st) := by
  obtain ⟨D, z, sb, RG, w0, p, l, ev, R, s, m, args, below, meth, c, cc, cs, Q⟩ := x
  intro rh H locs ws A xs hH hX hL hS
  obtain ⟨⟨hx, hb, hml, hown, hts, hnm, hz, hR3, hR4⟩, hw0, hRG⟩ := hF
  obtain ⟨x2, xr2, rfl, gu, x0, xr, rfl, gw, x1, xr', rfl, gv, hS'⟩ := hS
  obtain ⟨du, yv, rfl, eu⟩ := avGv_i gu rfl
  obtain ⟨d0, y, rfl, e0⟩ := avGv_i gw rfl
  obtain ⟨a, en, hj, rfl, er⟩ := haRf gv
  have eu' : yv.toInt = v := by rw [eu]; exact haCst rh v
  have e0' : y.toInt = i := by rw [e0]; exact haCst rh i
  obtain ⟨⟨tys, hK, hC, hlen⟩, hP, hD, hSS, hso, hkn⟩ := id hH
  have hcell := hC j (List.getElem?_eq_some_iff.mp hj).1
  have hr' : (avRT.get ((haJ RG mu).1 j)).1 = 100 := by rw [show (haJ RG mu).1 j = r from er]; exact hr
  obtain ⟨a', cA, f, t0, e1, e2, e3, e4⟩ := hcell.2.1 .int (by rw [hr']; rfl)
  rw [hj] at e1
  cases e1
  have er' : (haJ RG mu).1 j = r := er
  rw [er'] at e3 e4 hj
  have hcl := abClamp (y := y)
  have hcl' : y.toNatClampNeg = i.toNat := by rw [hcl, e0']
  have hlt : y.toNatClampNeg < (avRT.get r).2.1 := by clear hlen hcell hC; omega
  have hin : vp_in y (avRT.get r).2.1 := vp_in_iff.mpr ⟨by clear hlen hcell hC; omega, by clear hlen hcell hC; omega⟩
  obtain ⟨o, pc2, a1, a2, xx, ps⟩ := e
  have ho' : o = 69 := ho
  have hpc' : pc2 = pc := hpc
  subst ho'; subst hpc'
  have hd := abEt_dec hE (show ¬ (69 : Nat) = 85 by decide) rfl
  refine va_iast hx hb hK hP hD hSS j t0 hj e2 hin hd (fun H1 locs1 hP1 hD1 hS1 => ?_)
  have hX1 := abX.via hj hP1
  have hm : avM (haT RG) ws ((avRT.get ((haT RG).1 j)).2.2.get y.toNatClampNeg) (.int yv) := by
    rw [show (haT RG).1 j = r from er, hcl', hs]
    exact ⟨yv, rfl, by rw [eu']; exact h1, by rw [eu']; exact h2⟩
  have hc1 : avCs1 tys (haT RG) (ws.set j (a, .inl (cA, (avRT.get ((haT RG).1 j)).2.1, .inl (upd f y.toNatClampNeg yv)))) (some (a, .inl (cA, (avRT.get ((haT RG).1 j)).2.1, .inl (upd f y.toNatClampNeg yv)))) (avRT.get ((haT RG).1 j)) := by
    refine avCs1.putI (ty := .int) (RG := haT RG) (ws := ws) ?_ (by rw [show (haT RG).1 j = r from er, hr]; rfl) e2 (by rw [show (haT RG).1 j = r from er]; exact e3) (fun kk hkk => ?_) hm
    · rw [show (haT RG).1 j = r from er]; exact hX1
    · rw [show (haT RG).1 j = r from er] at hkk ⊢; exact e4 kk hkk
  rw [show (haT RG).1 j = r from er] at hc1
  have hput := (haTo hH rfl).put (l := []) (j := j) (a := a) (e1 := .inl (cA, (avRT.get r).2.1, .inl (upd f y.toNatClampNeg yv))) hK hC hj hP1 hD1 hS1 (by rw [show (haT RG).1 j = r from er]; exact hc1) ⟨fun k hk => (by cases hk), trivial⟩
  have hmu : haAt ws = mu := hlen.2.1
  have hat : haAt (ws.set j (a, .inl (cA, (avRT.get r).2.1, .inl (upd f y.toNatClampNeg yv)))) = haUp mu j i v := by
    rw [haAt_set (i := i) (v := v) h0 hj ?_ ?_, hmu]
    · rw [← hcl']
      show haNm (if y.toNatClampNeg < (avRT.get r).2.1 then some (Value.int (upd f y.toNatClampNeg yv y.toNatClampNeg)) else none) = v
      rw [if_pos hlt, pk_us]
      exact eu'
    · intro i' hi'
      rw [← hcl'] at hi'
      show (if i' < (avRT.get r).2.1 then some (Value.int (upd f y.toNatClampNeg yv i')) else none) = (if i' < (avRT.get r).2.1 then some (Value.int (f i')) else none)
      rw [pk_un hi']
  exact h rh H1 locs1 _ A _ (haFrom hput rfl hat) (hX.tr hX1) (hL.mono hX1 (afLe.rf rh)) (haSok (RG := haJ RG mu) (RG' := haJ RG (haUp mu j i v)) rfl rfl (hS'.mono hX1 (afLe.rf rh)))
end HAP
