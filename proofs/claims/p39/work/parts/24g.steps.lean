/-! steps that rows want: longs stored, rows of references of known cells, any op of the engine that keeps the guarded slots -/
section HAJP
variable {x : haCx} {mu : haMu} {k d pc pc' : Nat} {ls st ls' st' : List avV} {e : abEy} {F : avPo}
theorem ha_last {r j : Nat} {i v : Int} {lo up : Int} (hF : haF x k d) (hE : abEtOk k e) (hpc : e.2.1 = pc) (ho : e.1 = 71) (hr : (avRT.get r).1 = 101) (h0 : 0 ≤ i) (hn : i < ((avRT.get r).2.1 : Int)) (hs : (avRT.get r).2.2.get i.toNat = (1, lo, up)) (h1 : lo ≤ v) (h2 : v ≤ up) (h : avRG0 j = r → haW x (haUp mu j i v) (pc + 1) ls st) : haW x mu pc ls (haL v :: haI i :: haR r j :: st) := by
  obtain ⟨D, z, sb, RG, w0, p, l, ev, R, s, m, args, below, meth, c, cc, cs, Q⟩ := x
  intro rh H locs ws A xs hH hX hL hS
  obtain ⟨⟨hx, hb, hml, hown, hts, hnm, hz, hR3, hR4⟩, hw0, hRG⟩ := hF
  obtain ⟨x2, xr2, rfl, gu, x0, xr, rfl, gw, x1, xr', rfl, gv, hS'⟩ := hS
  obtain ⟨du, yv, rfl, eu⟩ := avGv_l gu rfl
  obtain ⟨d0, y, rfl, e0⟩ := avGv_i gw rfl
  obtain ⟨a, en, hj, rfl, er⟩ := haRf gv
  have eu' : yv.toInt = v := by rw [eu]; exact haCst rh v
  have e0' : y.toInt = i := by rw [e0]; exact haCst rh i
  obtain ⟨⟨tys, hK, hC, hlen⟩, hP, hD, hSS, hso, hkn⟩ := id hH
  have hcell := hC j (List.getElem?_eq_some_iff.mp hj).1
  have er' : (haJ RG mu).1 j = r := er
  have hr' : (avRT.get ((haJ RG mu).1 j)).1 = 101 := by rw [er']; exact hr
  obtain ⟨a', cA, f, t0, e1, e2, e3, e4⟩ := hcell.2.2.1 hr'
  rw [hj] at e1
  cases e1
  rw [er'] at e3 e4 hj
  have hcl := abClamp (y := y)
  have hcl' : y.toNatClampNeg = i.toNat := by rw [hcl, e0']
  have hlt : y.toNatClampNeg < (avRT.get r).2.1 := by clear hlen hcell hC; omega
  have hin : vp_in y (avRT.get r).2.1 := vp_in_iff.mpr ⟨by clear hlen hcell hC; omega, by clear hlen hcell hC; omega⟩
  obtain ⟨o, pc2, a1, a2, xx, ps⟩ := e
  have ho' : o = 71 := ho
  have hpc' : pc2 = pc := hpc
  subst ho'; subst hpc'
  have hd := abEt_dec hE (show ¬ (71 : Nat) = 85 by decide) rfl
  have hg0 : avRG0 j = r := by
    rw [← hRG]
    exact er
  refine va_last hx hb hK hP hD hSS j t0 hj e2 hin hd (fun H1 locs1 hP1 hD1 hS1 => ?_)
  have hX1 := abX.via hj hP1
  have hm : avM (haT RG) ws ((avRT.get ((haT RG).1 j)).2.2.get y.toNatClampNeg) (.long yv) := by
    rw [show (haT RG).1 j = r from er, hcl', hs]
    exact ⟨yv, rfl, by rw [eu']; exact h1, by rw [eu']; exact h2⟩
  have hc1 : avCs1 tys (haT RG) (ws.set j (a, .inl (cA, (avRT.get ((haT RG).1 j)).2.1, .inr (.inl (vp_updL f y.toNatClampNeg yv))))) (some (a, .inl (cA, (avRT.get ((haT RG).1 j)).2.1, .inr (.inl (vp_updL f y.toNatClampNeg yv))))) (avRT.get ((haT RG).1 j)) := by
    refine avCs1.putL (RG := haT RG) (ws := ws) ?_ (by rw [show (haT RG).1 j = r from er, hr]) e2 (by rw [show (haT RG).1 j = r from er]; exact e3) (fun kk hkk => ?_) hm
    · rw [show (haT RG).1 j = r from er]; exact hX1
    · rw [show (haT RG).1 j = r from er] at hkk ⊢; exact e4 kk hkk
  rw [show (haT RG).1 j = r from er] at hc1
  have hput := (haTo hH rfl).put (l := []) (j := j) (a := a) (e1 := .inl (cA, (avRT.get r).2.1, .inr (.inl (vp_updL f y.toNatClampNeg yv)))) hK hC hj hP1 hD1 hS1 (by rw [show (haT RG).1 j = r from er]; exact hc1) ⟨fun k hk => (by cases hk), trivial⟩
  have hmu : haAt ws = mu := hlen.2.1
  have hat : haAt (ws.set j (a, .inl (cA, (avRT.get r).2.1, .inr (.inl (vp_updL f y.toNatClampNeg yv))))) = haUp mu j i v := by
    rw [haAt_set (i := i) (v := v) h0 hj ?_ ?_, hmu]
    · rw [← hcl']
      show haNm (if y.toNatClampNeg < (avRT.get r).2.1 then some (Value.long (vp_updL f y.toNatClampNeg yv y.toNatClampNeg)) else none) = v
      rw [if_pos hlt, pk_uLs]
      exact eu'
    · intro i' hi'
      rw [← hcl'] at hi'
      show (if i' < (avRT.get r).2.1 then some (Value.long (vp_updL f y.toNatClampNeg yv i')) else none) = (if i' < (avRT.get r).2.1 then some (Value.long (f i')) else none)
      rw [pk_uLn hi']
  exact h hg0 rh H1 locs1 _ A _ (haFrom hput rfl hat) (hX.tr hX1) (hL.mono hX1 (afLe.rf rh)) (haSok (RG := haJ RG mu) (RG' := haJ RG (haUp mu j i v)) rfl rfl (hS'.mono hX1 (afLe.rf rh)))
theorem ha_aaldX {r j r' j' : Nat} {i : Int} (hF : haF x k d) (hE : abEtOk k e) (hpc : e.2.1 = pc) (ho : e.1 = 67) (hr : 200 ≤ (avRT.get r).1) (h0 : 0 ≤ i) (hn : i < ((avRT.get r).2.1 : Int)) (hs : (avRT.get r).2.2.get i.toNat = (2, (r' : Int), (j' : Int))) (h : haW x mu (pc + 1) ls (haR r' j' :: st)) : haW x mu pc ls (haI i :: haR r j :: st) := by
  refine ha_op1 (F := avOal avRT avCLt (fun n => Nat.ble 200 n)) (kk := (r, ([], (j : Int)), ([], i), haR r' j')) hF hE hpc (fun RG => by rw [ho]; exact avS67 avCl_ok) ?_ (fun nx hn' => ?_)
  · obtain ⟨D, z, sb, RG, w0, p, l, ev, R, s, m, args, below, meth, c, cc, cs, Q⟩ := x
    intro rh H locs ws xs hH hS
    obtain ⟨x0, xr, rfl, gz, x1, xr', rfl, gv, hS'⟩ := hS
    obtain ⟨a, en, hj, -, er⟩ := haRf gv
    obtain ⟨⟨tys, hK, hC, hlen⟩, -⟩ := id hH
    have hcell := hC j (List.getElem?_eq_some_iff.mp hj).1
    rw [er] at hcell
    obtain ⟨a', cA, f, t0, yc, e1, e0', e2, e3, e4⟩ := hcell.2.2.2 hr
    rw [hj] at e1
    cases e1
    have hlt : i.toNat < (avRT.get r).2.1 := by clear hlen hcell hC; omega
    have hm := e4 i.toNat hlt
    rw [hs] at hm
    obtain ⟨jj, aa, ee, m1, m3, m2, m4⟩ := hm
    have m5 : (jj : Int) = (j' : Int) := m4 (Int.natCast_nonneg j')
    have m6 : jj = j' := by clear hlen hcell hC; omega
    subst m6
    have hat : avAt (.inl (cA, (avRT.get r).2.1, .inr (.inr (.inr (.inr f))))) i.toNat = some (.ref aa) := by
      show (if i.toNat < (avRT.get r).2.1 then some (va_rf (f i.toNat)) else none) = some (.ref aa)
      rw [if_pos hlt, m3]
    refine ⟨afNil_D rh, afNil_D rh, j, i.toNat, a, _, .ref aa, (haCst rh _).symm, er, ?_, hj, hat, afNil_D rh, jj, aa, ee, m1, rfl, ?_, (haCst rh _).symm⟩
    · rw [haCst]; clear hlen hcell hC; omega
    · exact m2
  · show abIf (Nat.ble 200 (avRT.get r).1) (avIx1 _ ([], i) (avRT.get r).2.1 (avFind r ([], (j : Int)) ([], i) (fun v => nx (pc + 1) ls (v :: st) _) _ [(r, ([], (j : Int)), ([], i), haR r' j')])) false = true
    rw [abBle_t hr, abIf_t rfl, haIx h0 hn, haFind]
    exact hn' _ _ _ h
/-- an op of the engine from known numbers, where what follows stands over every world with the guarded slots as they were -/
theorem ha_opF (hF : haF x k d) (hE : abEtOk k e) (hpc : e.2.1 = pc) (hO : ∀ RG : avRJ, avJok avGUt RG → avOk avRT RG e.1 F) (h : ∀ nx : avNx, (∀ pc ls st s, (match x with | (D, z, sb, RG, w0, p, l, ev, R, s0, m, args, below, meth, c, cc, cs, Q) => avW D z sb avRT (haFr RG mu) w0 avNo p l ev R s0 m args below meth c cc cs Q pc ls st s) → nx pc ls st s = true) → F nx e pc ls st haS0 = true) : haW x mu pc ls st := by
  obtain ⟨D, z, sb, RG, w0, p, l, ev, R, s, m, args, below, meth, c, cc, cs, Q⟩ := x
  have hRG := hF.2.2
  intro rh H locs ws A xs hH hX hL hS
  refine hO (haFr RG mu) (haJs hRG mu) D z sb w0 avNo p l ev R s m args below meth c cc cs Q k d (fun pc ls st q => @decide (avW D z sb avRT (haFr RG mu) w0 avNo p l ev R s m args below meth c cc cs Q pc ls st q) (Classical.propDecidable _)) e pc ls st haS0 hF.1 hE rfl hpc (fun pc ls st q hh => @of_decide_eq_true _ (Classical.propDecidable _) hh) (h _ (fun pc ls st s hw => @decide_eq_true _ (Classical.propDecidable _) hw)) rh H locs ws A xs ?_ hX ?_ ?_
  · obtain ⟨⟨tys, k1, k2, k3, k4, k5⟩, k6, k7, k8, k9, k10⟩ := hH
    have k4' : haAt ws = mu := k4
    exact ⟨⟨tys, k1, k2, k3, (by show haFm mu (haAt ws); rw [k4']; exact haFm.rf mu), k5⟩, k6, k7, k8, k9, fun k hk => by cases hk⟩
  · obtain ⟨l1, lv, l2, l3⟩ := hL
    exact ⟨l1, lv, l2, fun i v hi hv => by
      obtain ⟨y, y1, y2⟩ := l3 i v hi hv
      exact ⟨y, y1, haGv rfl rfl y2⟩⟩
  · exact haSok (RG := haJ RG mu) (RG' := haFr RG mu) rfl rfl hS
/-- back to known numbers -/
theorem ha_frW (hx : match x with | (D, z, sb, RG, w0, p, l, ev, R, s, m, args, below, meth, c, cc, cs, Q) => ∀ mu' : haMu, haFm mu mu' → haW (D, z, sb, RG, w0, p, l, ev, R, s, m, args, below, meth, c, cc, cs, Q) mu' pc ls st) : match x with | (D, z, sb, RG, w0, p, l, ev, R, s, m, args, below, meth, c, cc, cs, Q) => ∀ q : avS, avW D z sb avRT (haFr RG mu) w0 avNo p l ev R s m args below meth c cc cs Q pc ls st haS0 := by
  obtain ⟨D, z, sb, RG, w0, p, l, ev, R, s, m, args, below, meth, c, cc, cs, Q⟩ := x
  intro q rh H locs ws A xs hH hX hL hS
  obtain ⟨⟨tys, k1, k2, k3, k4, k5⟩, k6, k7, k8, k9, k10⟩ := hH
  have k4' : haFm mu (haAt ws) := k4
  refine hx (haAt ws) k4' rh H locs ws A xs ⟨⟨tys, k1, k2, k3, rfl, k5⟩, k6, k7, k8, k9, fun k hk => by cases hk⟩ hX ?_ ?_
  · obtain ⟨l1, lv, l2, l3⟩ := hL
    exact ⟨l1, lv, l2, fun i v hi hv => by
      obtain ⟨y, y1, y2⟩ := l3 i v hi hv
      exact ⟨y, y1, haGv rfl rfl y2⟩⟩
  · exact haSok (RG := haFr RG mu) (RG' := haJ RG (haAt ws)) rfl rfl hS
end HAJP
theorem haFm_up {mu nu : haMu} {j : Nat} {i v : Int} (h : haFm mu nu) (hn : ¬ avRG0 j ∈ avGUt.1) : haFm mu (haUp nu j i v) := fun j' i' hg => by
  rw [haUp_n (fun z => ?_)]
  · exact h j' i' hg
  · obtain ⟨rfl, rfl⟩ := z
    exact hg.2 (Or.inl hn)
