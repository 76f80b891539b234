/-! references whose cell is not known; the contracts of lookAtBins -/
section HAV
variable {x : haCx} {mu : haMu} {k d pc pc' : Nat} {ls st ls' st' : List avV} {e : abEy} {F : avPo}
theorem ha_op1V {kk : Nat → avK} (hF : haF x k d) (hE : abEtOk k e) (hpc : e.2.1 = pc) (hO : ∀ RG : avRJ, avOk avRT RG e.1 F) (hk : match x with | (D, z, sb, RG, _, _, _, _, _, s, _, _, _, _, _, _, _, _) => ∀ (rh : afR) (H : Heap) (locs : List Loc) (ws : va_W) (xs : List Value), avHok D z sb avRT (haJ RG mu) rh s ws H locs haS0 → avSok (haJ RG mu) ws sb rh st xs → ∃ n : Nat, n < 4096 ∧ avKn (haJ RG mu) ws sb rh (kk n))
    (h : ∀ n : Nat, n < 4096 → ∀ nx : avNx, (∀ pc ls st, haW x mu pc ls st → nx pc ls st (haS0.1, [kk n]) = true) → F nx e pc ls st (haS0.1, [kk n]) = true) : haW x mu pc ls st := by
  obtain ⟨D, z, sb, RG, w0, p, l, ev, R, s, m, args, below, meth, c, cc, cs, Q⟩ := x
  intro rh H locs ws A xs hH hX hL hS
  obtain ⟨n, hn, hkn⟩ := hk rh H locs ws xs hH hS
  have hH2 : avHok D z sb avRT (haJ RG mu) rh s ws H locs (haS0.1, [kk n]) := ⟨hH.1, hH.2.1, hH.2.2.1, hH.2.2.2.1, hH.2.2.2.2.1, fun k hk => by
    rcases List.mem_cons.mp hk with rfl | hk
    · exact hkn
    · cases hk⟩
  refine hO (haJ RG mu) D z sb w0 avNo p l ev R s m args below meth c cc cs Q k d (fun pc ls st q => @decide (avW D z sb avRT (haJ RG mu) w0 avNo p l ev R s m args below meth c cc cs Q pc ls st q) (Classical.propDecidable _)) e pc ls st (haS0.1, [kk n]) hF.1 hE rfl hpc (fun pc ls st q hh => @of_decide_eq_true _ (Classical.propDecidable _) hh) (h n hn _ (fun pc ls st hw => @decide_eq_true _ (Classical.propDecidable _) ?_)) rh H locs ws A xs hH2 hX hL hS
  intro rh' H' locs' ws' A' xs' hH' hX' hL' hS'
  exact hw rh' H' locs' ws' A' xs' ⟨hH'.1, hH'.2.1, hH'.2.2.1, hH'.2.2.2.1, hH'.2.2.2.2.1, fun k hk => by cases hk⟩ hX' hL' hS'
theorem ha_getRv {r j i r' : Nat} (hF : haF x k d) (hE : abEtOk k e) (hpc : e.2.1 = pc) (ho : e.1 = 60) (hi : e.2.2.2.1 = i) (hr : (avRT.get r).1 = e.2.2.1) (hc : e.2.2.1 ≤ 90) (hn : i < (avRT.get r).2.1) (hs : (avRT.get r).2.2.get i = (2, (r' : Int), -1)) (h : ∀ j' : Nat, j' < 4096 → haW x mu (pc + 3) ls (haR r' j' :: st)) : haW x mu pc ls (haR r j :: st) := by
  refine ha_op1V (F := avOgf avRT avCLt) (kk := fun j' => (r, ([], (j : Int)), ([], (i : Int)), haR r' j')) hF hE hpc (fun RG => by rw [ho]; exact avS60 avCl_ok) ?_ (fun j' hj' nx hn' => ?_)
  · obtain ⟨D, z, sb, RG, w0, p, l, ev, R, s, m, args, below, meth, c, cc, cs, Q⟩ := x
    intro rh H locs ws xs hH hS
    obtain ⟨x1, xr', rfl, gv, hS'⟩ := hS
    obtain ⟨a, en, hj, -, er⟩ := haRf gv
    obtain ⟨⟨tys, hK, hC, hlen⟩, -⟩ := id hH
    have hcell := hC j (List.getElem?_eq_some_iff.mp hj).1
    rw [er] at hcell
    obtain ⟨a', fs, y, e1, e2, e3, e4, e5⟩ := hcell.1 (by rw [hr]; exact hc)
    rw [hj] at e1
    cases e1
    obtain ⟨xv, hxv⟩ : ∃ xv, fs[i]? = some xv := ⟨_, List.getElem?_eq_getElem (by omega)⟩
    have hm := e5 i xv hxv
    rw [hs] at hm
    obtain ⟨jj, aa, ee, m1, rfl, m2, -⟩ := hm
    have hjl := (List.getElem?_eq_some_iff.mp m1).1
    have hl := hlen.1
    refine ⟨jj, by clear hcell hC hlen; omega, afNil_D rh, afNil_D rh, j, i, _, _, .ref aa, (haCst rh _).symm, er, (haCst rh _).symm, hj, hxv, afNil_D rh, jj, aa, ee, m1, rfl, ?_, (haCst rh _).symm⟩
    exact m2
  · show abIf (Nat.beq (avRT.get r).1 e.2.2.1) (avFind r ([], (j : Int)) ([], (e.2.2.2.1 : Int)) (fun v => nx (pc + 3) ls (v :: st) _) _ [(r, ([], (j : Int)), ([], (i : Int)), haR r' j')]) false = true
    rw [hr, hi, show Nat.beq e.2.2.1 e.2.2.1 = true from Nat.beq_refl _, abIf_t rfl, haFind]
    exact hn' _ _ _ (h j' hj')
theorem ha_aald {r j r' : Nat} {i : Int} (hF : haF x k d) (hE : abEtOk k e) (hpc : e.2.1 = pc) (ho : e.1 = 67) (hr : 200 ≤ (avRT.get r).1) (h0 : 0 ≤ i) (hn : i < ((avRT.get r).2.1 : Int)) (hs : (avRT.get r).2.2.get i.toNat = (2, (r' : Int), -1)) (h : ∀ j' : Nat, j' < 4096 → haW x mu (pc + 1) ls (haR r' j' :: st)) : haW x mu pc ls (haI i :: haR r j :: st) := by
  refine ha_op1V (F := avOal avRT avCLt (fun n => Nat.ble 200 n)) (kk := fun j' => (r, ([], (j : Int)), ([], i), haR r' j')) hF hE hpc (fun RG => by rw [ho]; exact avS67 avCl_ok) ?_ (fun j' hj' nx hn' => ?_)
  · obtain ⟨D, z, sb, RG, w0, p, l, ev, R, s, m, args, below, meth, c, cc, cs, Q⟩ := x
    intro rh H locs ws xs hH hS
    obtain ⟨x0, xr, rfl, gz, x1, xr', rfl, gv, hS'⟩ := hS
    obtain ⟨a, en, hj, -, er⟩ := haRf gv
    obtain ⟨⟨tys, hK, hC, hlen⟩, -⟩ := id hH
    have hcell := hC j (List.getElem?_eq_some_iff.mp hj).1
    rw [er] at hcell
    obtain ⟨a', cA, f, t0, yc, e1, e0', e2, e3, e4⟩ := hcell.2.2.2 hr
    rw [hj] at e1
    cases e1
    have hlt : i.toNat < (avRT.get r).2.1 := by clear hlen hcell hC; omega
    have hm := e4 i.toNat hlt
    rw [hs] at hm
    obtain ⟨jj, aa, ee, m1, m3, m2, -⟩ := hm
    have hjl := (List.getElem?_eq_some_iff.mp m1).1
    have hl := hlen.1
    have hat : avAt (.inl (cA, (avRT.get r).2.1, .inr (.inr (.inr (.inr f))))) i.toNat = some (.ref aa) := by
      show (if i.toNat < (avRT.get r).2.1 then some (va_rf (f i.toNat)) else none) = some (.ref aa)
      rw [if_pos hlt, m3]
    refine ⟨jj, by clear hcell hC hlen; omega, afNil_D rh, afNil_D rh, j, i.toNat, _, _, .ref aa, (haCst rh _).symm, er, ?_, hj, hat, afNil_D rh, jj, aa, ee, m1, rfl, ?_, (haCst rh _).symm⟩
    · rw [haCst]; omega
    · exact m2
  · show abIf (Nat.ble 200 (avRT.get r).1) (avIx1 _ ([], i) (avRT.get r).2.1 (avFind r ([], (j : Int)) ([], i) (fun v => nx (pc + 1) ls (v :: st) _) _ [(r, ([], (j : Int)), ([], i), haR r' j')])) false = true
    rw [show Nat.ble 200 (avRT.get r).1 = true from Nat.ble_eq.mpr hr, haIx h0 hn, haFind]
    exact hn' _ _ _ (h j' hj')
end HAV
theorem haFitR {r j : Nat} (hj : j < 4096) : avFit haS0 (avTheta haS0 ([(2, r, [(0, 1)], 0)], [(0, 4095)], [], []) [haR r j]) ([(2, r, [(0, 1)], 0)], [(0, 4095)], [], []) [haR r j] = true := by
  have e : avTheta haS0 ([(2, r, [(0, 1)], 0)], [(0, 4095)], [], []) [haR r j] = [([], ((j : Int) - 0) / 1)] := rfl
  rw [e, Int.sub_zero, Int.ediv_one]
  have e1 : avVs [([], (j : Int))] [(2, r, [(0, 1)], 0)] [haR r j] = true := by
    show abIf (abIf (Nat.beq r r) (afQ (afAdd ([], 0) (afMul 1 ([], (j : Int)))) ([], (j : Int))) false) true false = true
    rw [show Nat.beq r r = true from Nat.beq_refl r, haMul, show afAdd ([], 0) ([], 1 * (j : Int)) = ([], 0 + 1 * (j : Int)) from rfl, Int.one_mul, Int.zero_add, haQ]
    rfl
  have e2 : avBs haS0 [([], (j : Int))] [(0, 4095)] = true := by
    show abIf (avGe haS0 ([], (j : Int) + -0)) (abIf (avGe haS0 ([], 4095 - (j : Int))) true false) false = true
    rw [haGe (by omega), haGe (by omega)]
    rfl
  show abIf true (abIf (avVs [([], (j : Int))] _ _) (abIf (avBs haS0 [([], (j : Int))] [(0, 4095)]) (abIf true true false) false) false) false = true
  rw [e1, e2]
  rfl
theorem haFitRI {r j : Nat} {lo up b : Int} (hj : j < 4096) (h1 : lo ≤ b) (h2 : b ≤ up) : avFit haS0 (avTheta haS0 ([(2, r, [(0, 1)], 0), (0, 0, [(1, 1)], 0)], [(0, 4095), (lo, up)], [], []) [haR r j, haI b]) ([(2, r, [(0, 1)], 0), (0, 0, [(1, 1)], 0)], [(0, 4095), (lo, up)], [], []) [haR r j, haI b] = true := by
  have e : avTheta haS0 ([(2, r, [(0, 1)], 0), (0, 0, [(1, 1)], 0)], [(0, 4095), (lo, up)], [], []) [haR r j, haI b] = [([], ((j : Int) - 0) / 1), ([], (b - 0) / 1)] := rfl
  rw [e, Int.sub_zero, Int.ediv_one, Int.sub_zero, Int.ediv_one]
  have e1 : avVs [([], (j : Int)), ([], b)] [(2, r, [(0, 1)], 0), (0, 0, [(1, 1)], 0)] [haR r j, haI b] = true := by
    show abIf (abIf (Nat.beq r r) (afQ (afAdd ([], 0) (afMul 1 ([], (j : Int)))) ([], (j : Int))) false) (abIf (afQ (afAdd ([], 0) (afMul 1 ([], b))) ([], b)) true false) false = true
    rw [show Nat.beq r r = true from Nat.beq_refl r, haMul, haMul, show afAdd ([], 0) ([], 1 * (j : Int)) = ([], 0 + 1 * (j : Int)) from rfl, show afAdd ([], 0) ([], 1 * b) = ([], 0 + 1 * b) from rfl, Int.one_mul, Int.zero_add, haQ, Int.one_mul, Int.zero_add, haQ]
    rfl
  have e2 : avBs haS0 [([], (j : Int)), ([], b)] [(0, 4095), (lo, up)] = true := by
    show abIf (avGe haS0 ([], (j : Int) + -0)) (abIf (avGe haS0 ([], 4095 - (j : Int))) (abIf (avGe haS0 ([], b + -lo)) (abIf (avGe haS0 ([], up - b)) true false) false) false) false = true
    rw [haGe (by omega), haGe (by omega), haGe (by omega), haGe (by omega)]
    rfl
  show abIf true (abIf (avVs [([], (j : Int)), ([], b)] _ _) (abIf (avBs haS0 [([], (j : Int)), ([], b)] [(0, 4095), (lo, up)]) (abIf true true false) false) false) false = true
  rw [e1, e2]
  rfl
theorem haFitRII {r j : Nat} {v : Int} (hj : j < 4096) (h1 : -2147483648 ≤ v) (h2 : v ≤ 2147483647) : avFit haS0 (avTheta haS0 ([(2, r, [(2, 1)], 0), (0, 0, [(0, 1)], 0), (0, 0, [(1, 1)], 0)], [(0, 1), (-2147483648, 2147483647), (0, 4095)], [], []) [haR r j, haI 0, haI v]) ([(2, r, [(2, 1)], 0), (0, 0, [(0, 1)], 0), (0, 0, [(1, 1)], 0)], [(0, 1), (-2147483648, 2147483647), (0, 4095)], [], []) [haR r j, haI 0, haI v] = true := by
  have e : avTheta haS0 ([(2, r, [(2, 1)], 0), (0, 0, [(0, 1)], 0), (0, 0, [(1, 1)], 0)], [(0, 1), (-2147483648, 2147483647), (0, 4095)], [], []) [haR r j, haI 0, haI v] = [([], (0 - 0) / 1), ([], (v - 0) / 1), ([], ((j : Int) - 0) / 1)] := rfl
  rw [e, Int.sub_zero, Int.ediv_one, Int.sub_zero, Int.ediv_one, Int.sub_zero, Int.ediv_one]
  have e1 : avVs [([], 0), ([], v), ([], (j : Int))] [(2, r, [(2, 1)], 0), (0, 0, [(0, 1)], 0), (0, 0, [(1, 1)], 0)] [haR r j, haI 0, haI v] = true := by
    show abIf (abIf (Nat.beq r r) (afQ (afAdd ([], 0) (afMul 1 ([], (j : Int)))) ([], (j : Int))) false) (abIf (afQ (afAdd ([], 0) (afMul 1 ([], 0))) ([], 0)) (abIf (afQ (afAdd ([], 0) (afMul 1 ([], v))) ([], v)) true false) false) false = true
    rw [show Nat.beq r r = true from Nat.beq_refl r, haMul, haMul, haMul, show afAdd ([], 0) ([], 1 * (j : Int)) = ([], 0 + 1 * (j : Int)) from rfl, show afAdd ([], 0) ([], 1 * v) = ([], 0 + 1 * v) from rfl, Int.one_mul, Int.zero_add, haQ, show afQ (afAdd ([], 0) ([], 1 * 0)) ([], 0) = true from rfl, Int.one_mul, Int.zero_add, haQ]
    rfl
  have e2 : avBs haS0 [([], 0), ([], v), ([], (j : Int))] [(0, 1), (-2147483648, 2147483647), (0, 4095)] = true := by
    show abIf (avGe haS0 ([], 0 + -0)) (abIf (avGe haS0 ([], 1 - 0)) (abIf (avGe haS0 ([], v + - -2147483648)) (abIf (avGe haS0 ([], 2147483647 - v)) (abIf (avGe haS0 ([], (j : Int) + -0)) (abIf (avGe haS0 ([], 4095 - (j : Int))) true false) false) false) false) false) false = true
    rw [haGe (by omega), haGe (by omega), haGe (by omega), haGe (by omega), haGe (by omega), haGe (by omega)]
    rfl
  show abIf true (abIf (avVs [([], 0), ([], v), ([], (j : Int))] _ _) (abIf (avBs haS0 [([], 0), ([], v), ([], (j : Int))] [(0, 1), (-2147483648, 2147483647), (0, 4095)]) (abIf true true false) false) false) false = true
  rw [e1, e2]
  rfl
theorem hm_binUnits (hT : abTabs) {j : Nat} {mu : haMu} (hj : j < 4096) : haSp 51 0 [haR 7 j] mu (fun o mu' => (∃ z : Int, o = some (haI z) ∧ -2147483648 ≤ z ∧ z ≤ 2147483647) ∧ haFm mu mu') :=
  (haSp_con (N := 1) (fun D z sb RG hJ => avCn0 hT 1 D z sb RG hJ) (q := 51) (by decide) (c := avC51_0) (as := [haR 7 j]) (show avC51_0 ∈ [avC51_0] from List.mem_cons_self) (by decide) (Or.inr (by decide)) (haFitR hj) (haLe5 rfl) (show 1 ≤ (abMe 51).1.2.2.1 from by decide +kernel)).mono (fun o mu' h => ⟨h.1.2 (by decide), h.2⟩)
theorem hm_lowestAt (hT : abTabs) {j : Nat} {v : Int} {mu : haMu} (hj : j < 4096) (h1 : -2147483648 ≤ v) (h2 : v ≤ 2147483647) : haSp 85 2 [haR 7 j, haI 0, haI v] mu (fun o mu' => (∃ z : Int, o = some (haI z) ∧ -1 ≤ z ∧ z ≤ 11) ∧ haFm mu mu') :=
  (haSp_con (N := 3) (fun D z sb RG hJ => avCn0 hT 3 D z sb RG hJ) (q := 85) (by decide) (c := avC85_0) (as := [haR 7 j, haI 0, haI v]) (show avC85_0 ∈ [avC85_0] from List.mem_cons_self) (by decide) (Or.inr (by decide)) (haFitRII hj h1 h2) (haLe5 rfl) (show 3 ≤ (abMe 85).1.2.2.1 from by decide +kernel)).mono (fun o mu' h => ⟨h.1.2 (by decide), h.2⟩)
theorem hm_isOpen (hT : abTabs) {j : Nat} {b : Int} {mu : haMu} (hj : j < 4096) (hb : 0 ≤ b ∧ b ≤ 5) : haSp 86 6 [haR 18 j, haI b] mu (fun o mu' => (∃ z : Int, o = some (haI z) ∧ 0 ≤ z ∧ z ≤ 1) ∧ haFm mu mu') :=
  (haSp_con (N := 7) (fun D z sb RG hJ => avCn0 hT 7 D z sb RG hJ) (q := 86) (by decide) (c := avC86_h) (as := [haR 18 j, haI b]) (show avC86_h ∈ [avC86_h] from List.mem_cons_self) (by decide) (Or.inr (by decide)) (haFitRI hj hb.1 hb.2) (haLe5 rfl) (show 2 ≤ (abMe 86).1.2.2.1 from by decide +kernel)).mono (fun o mu' h => ⟨h.1.2 (by decide), h.2⟩)
