/-! numbers by hand, where they may wrap; quotients, rests; rows of booleans, fields written -/
section HAA
variable {x : haCx} {mu : haMu} {k d pc pc' : Nat} {ls st ls' st' : List avV} {e : abEy}
theorem ha_iaddA {a b : Int} (hF : haF x k d) (hE : abEtOk k e) (hpc : e.2.1 = pc) (ho : e.1 = 21) (h : ∀ z : Int, -2147483648 ≤ z → z ≤ 2147483647 → (-2147483648 ≤ a + b → a + b ≤ 2147483647 → z = a + b) → haW x mu (pc + 1) ls (haI z :: st)) : haW x mu pc ls (haI b :: haI a :: st) := by
  obtain ⟨D, z, sb, RG, w0, p, l, ev, R, s, m, args, below, meth, c, cc, cs, Q⟩ := x
  intro rh H locs ws A xs hH hX hL hS
  obtain ⟨⟨hx, hb, -⟩, hw0, hRG⟩ := hF
  obtain ⟨o, pc2, a1, a2, xx, ps⟩ := e
  have ho' : o = 21 := ho
  have hpc' : pc2 = pc := hpc
  subst ho'; subst hpc'
  have hd := abEt_dec hE (show ¬ (21 : Nat) = 85 by decide) rfl
  obtain ⟨y0, xr, rfl, gw, x0, xr', rfl, gv, hS'⟩ := hS
  obtain ⟨d1, x1, rfl, e1⟩ := avGv_i gv rfl
  obtain ⟨d2, y1, rfl, e2⟩ := avGv_i gw rfl
  have e1' : x1.toInt = a := by rw [e1]; exact haCst rh a
  have e2' : y1.toInt = b := by rw [e2]; exact haCst rh b
  have hz := avI32 (x1 + y1)
  refine lv_iadd hx hb hd ?_
  exact h (x1 + y1).toInt hz.1 hz.2 (fun q1 q2 => by rw [Int32.toInt_add, e1', e2']; exact avWrap ⟨q1, q2⟩) rh H locs ws A _ hH hX hL ⟨_, _, rfl, ⟨afNil_D rh, _, rfl, (haCst rh _).symm⟩, hS'⟩

theorem ha_isubA {a b : Int} (hF : haF x k d) (hE : abEtOk k e) (hpc : e.2.1 = pc) (ho : e.1 = 22) (h : ∀ z : Int, -2147483648 ≤ z → z ≤ 2147483647 → (-2147483648 ≤ a - b → a - b ≤ 2147483647 → z = a - b) → haW x mu (pc + 1) ls (haI z :: st)) : haW x mu pc ls (haI b :: haI a :: st) := by
  obtain ⟨D, z, sb, RG, w0, p, l, ev, R, s, m, args, below, meth, c, cc, cs, Q⟩ := x
  intro rh H locs ws A xs hH hX hL hS
  obtain ⟨⟨hx, hb, -⟩, hw0, hRG⟩ := hF
  obtain ⟨o, pc2, a1, a2, xx, ps⟩ := e
  have ho' : o = 22 := ho
  have hpc' : pc2 = pc := hpc
  subst ho'; subst hpc'
  have hd := abEt_dec hE (show ¬ (22 : Nat) = 85 by decide) rfl
  obtain ⟨y0, xr, rfl, gw, x0, xr', rfl, gv, hS'⟩ := hS
  obtain ⟨d1, x1, rfl, e1⟩ := avGv_i gv rfl
  obtain ⟨d2, y1, rfl, e2⟩ := avGv_i gw rfl
  have e1' : x1.toInt = a := by rw [e1]; exact haCst rh a
  have e2' : y1.toInt = b := by rw [e2]; exact haCst rh b
  have hz := avI32 (x1 - y1)
  refine lv_isub hx hb hd ?_
  exact h (x1 - y1).toInt hz.1 hz.2 (fun q1 q2 => by rw [Int32.toInt_sub, e1', e2']; exact avWrap ⟨q1, q2⟩) rh H locs ws A _ hH hX hL ⟨_, _, rfl, ⟨afNil_D rh, _, rfl, (haCst rh _).symm⟩, hS'⟩

theorem ha_imulA {a b : Int} (hF : haF x k d) (hE : abEtOk k e) (hpc : e.2.1 = pc) (ho : e.1 = 23) (h : ∀ z : Int, -2147483648 ≤ z → z ≤ 2147483647 → (-2147483648 ≤ a * b → a * b ≤ 2147483647 → z = a * b) → haW x mu (pc + 1) ls (haI z :: st)) : haW x mu pc ls (haI b :: haI a :: st) := by
  obtain ⟨D, z, sb, RG, w0, p, l, ev, R, s, m, args, below, meth, c, cc, cs, Q⟩ := x
  intro rh H locs ws A xs hH hX hL hS
  obtain ⟨⟨hx, hb, -⟩, hw0, hRG⟩ := hF
  obtain ⟨o, pc2, a1, a2, xx, ps⟩ := e
  have ho' : o = 23 := ho
  have hpc' : pc2 = pc := hpc
  subst ho'; subst hpc'
  have hd := abEt_dec hE (show ¬ (23 : Nat) = 85 by decide) rfl
  obtain ⟨y0, xr, rfl, gw, x0, xr', rfl, gv, hS'⟩ := hS
  obtain ⟨d1, x1, rfl, e1⟩ := avGv_i gv rfl
  obtain ⟨d2, y1, rfl, e2⟩ := avGv_i gw rfl
  have e1' : x1.toInt = a := by rw [e1]; exact haCst rh a
  have e2' : y1.toInt = b := by rw [e2]; exact haCst rh b
  have hz := avI32 (x1 * y1)
  refine lv_imul hx hb hd ?_
  exact h (x1 * y1).toInt hz.1 hz.2 (fun q1 q2 => by rw [Int32.toInt_mul, e1', e2']; exact avWrap ⟨q1, q2⟩) rh H locs ws A _ hH hX hL ⟨_, _, rfl, ⟨afNil_D rh, _, rfl, (haCst rh _).symm⟩, hS'⟩

theorem ha_l2iA {a : Int} (hF : haF x k d) (hE : abEtOk k e) (hpc : e.2.1 = pc) (ho : e.1 = 41) (h : ∀ z : Int, -2147483648 ≤ z → z ≤ 2147483647 → (-2147483648 ≤ a → a ≤ 2147483647 → z = a) → haW x mu (pc + 1) ls (haI z :: st)) : haW x mu pc ls (haL a :: st) := by
  obtain ⟨D, z, sb, RG, w0, p, l, ev, R, s, m, args, below, meth, c, cc, cs, Q⟩ := x
  intro rh H locs ws A xs hH hX hL hS
  obtain ⟨⟨hx, hb, -⟩, hw0, hRG⟩ := hF
  obtain ⟨o, pc2, a1, a2, xx, ps⟩ := e
  have ho' : o = 41 := ho
  have hpc' : pc2 = pc := hpc
  subst ho'; subst hpc'
  have hd := abEt_dec hE (show ¬ (41 : Nat) = 85 by decide) rfl
  obtain ⟨x0, xr, rfl, gv, hS'⟩ := hS
  obtain ⟨d1, y, rfl, e1⟩ := avGv_l gv rfl
  have e1' : y.toInt = a := by rw [e1]; exact haCst rh a
  have hz := avI32 y.toInt32
  refine lv_l2i hx hb hd rfl ?_
  exact h y.toInt32.toInt hz.1 hz.2 (fun q1 q2 => by rw [Int64.toInt_toInt32, e1']; exact avWrap ⟨q1, q2⟩) rh H locs ws A _ hH hX hL ⟨_, _, rfl, ⟨afNil_D rh, _, rfl, (haCst rh _).symm⟩, hS'⟩
theorem ha_lmul {a b : Int} (hF : haF x k d) (hE : abEtOk k e) (hpc : e.2.1 = pc) (ho : e.1 = 34) (h1 : -9223372036854775808 ≤ a * b) (h2 : a * b ≤ 9223372036854775807) (h : haW x mu (pc + 1) ls (haL (a * b) :: st)) : haW x mu pc ls (haL b :: haL a :: st) := by
  obtain ⟨D, z, sb, RG, w0, p, l, ev, R, s, m, args, below, meth, c, cc, cs, Q⟩ := x
  intro rh H locs ws A xs hH hX hL hS
  obtain ⟨⟨hx, hb, -⟩, hw0, hRG⟩ := hF
  obtain ⟨o, pc2, a1, a2, xx, ps⟩ := e
  have ho' : o = 34 := ho
  have hpc' : pc2 = pc := hpc
  subst ho'; subst hpc'
  have hd := abEt_dec hE (show ¬ (34 : Nat) = 85 by decide) rfl
  obtain ⟨y0, xr, rfl, gw, x0, xr', rfl, gv, hS'⟩ := hS
  obtain ⟨d1, x1, rfl, e1⟩ := avGv_l gv rfl
  obtain ⟨d2, y1, rfl, e2⟩ := avGv_l gw rfl
  have e1' : x1.toInt = a := by rw [e1]; exact haCst rh a
  have e2' : y1.toInt = b := by rw [e2]; exact haCst rh b
  refine lv_lmul hx hb hd ?_
  refine h rh H locs ws A _ hH hX hL ⟨_, _, rfl, ⟨afNil_D rh, _, rfl, ?_⟩, hS'⟩
  rw [Int64.toInt_mul, e1', e2', show afV rh (haL (a * b)).2.2 = a * b from haCst rh _]
  exact avWrapL ⟨h1, h2⟩
theorem ha_ldiv {a b : Int} (hF : haF x k d) (hd : decode (abBy k) pc = .ok (.ldiv, 1)) (ha : 0 ≤ a) (hb : 1 ≤ b) (h : haW x mu (pc + 1) ls (haL (a / b) :: st)) : haW x mu pc ls (haL b :: haL a :: st) := by
  refine ha_opE (e := (91, pc, 0, 0, 0, [])) (F := avOi 1 (avFdiv 1)) hF rfl (fun RG => avS91 hd) (fun nx hn => ?_)
  show abIf (aiLe 1 (afLo haS0.1 ([], b))) (abIf (aiLe 0 (afLo haS0.1 ([], a))) (avBox 1 (afLo haS0.1 ([], a) / b) (afHi haS0.1 ([], a) / b) haS0 fun u s => nx (pc + 1) ls (u :: st) s) _) _ = true
  rw [haLo, haLo, haHi, aiLe_t hb, aiLe_t ha, abIf_t rfl, abIf_t rfl]
  unfold avBox
  rw [aiEq_t, abIf_t rfl]
  exact hn _ _ _ h
theorem ha_lrem {a b : Int} (hF : haF x k d) (hd : decode (abBy k) pc = .ok (.lrem, 1)) (ha : 0 ≤ a) (hb : 1 ≤ b) (h : haW x mu (pc + 1) ls (haL (a % b) :: st)) : haW x mu pc ls (haL b :: haL a :: st) := by
  obtain ⟨D, z, sb, RG, w0, p, l, ev, R, s, m, args, below, meth, c, cc, cs, Q⟩ := x
  intro rh H locs ws A xs hH hX hL hS
  obtain ⟨⟨hx, hbb, -⟩, hw0, hRG⟩ := hF
  obtain ⟨y0, xr, rfl, gw, x0, xr', rfl, gv, hS'⟩ := hS
  obtain ⟨d1, x1, rfl, e1⟩ := avGv_l gv rfl
  obtain ⟨d2, y1, rfl, e2⟩ := avGv_l gw rfl
  have e1' : x1.toInt = a := by rw [e1]; exact haCst rh a
  have e2' : y1.toInt = b := by rw [e2]; exact haCst rh b
  have hy : 1 ≤ y1.toInt := by rw [e2']; exact hb
  refine lv_lrem hx hbb hd (avNe0L hy) ?_
  refine h rh H locs ws A _ hH hX hL ⟨_, _, rfl, ⟨afNil_D rh, _, rfl, ?_⟩, hS'⟩
  rw [avRemL x1 y1 hy, e1', e2', show afV rh (haL (a % b)).2.2 = a % b from haCst rh _]
  exact Int.tmod_eq_emod_of_nonneg ha
theorem ha_bast {r j : Nat} {i v : Int} {lo up : Int} (hF : haF x k d) (hE : abEtOk k e) (hpc : e.2.1 = pc) (ho : e.1 = 70) (hr : (avRT.get r).1 = 103) (h0 : 0 ≤ i) (hn : i < ((avRT.get r).2.1 : Int)) (hs : (avRT.get r).2.2.get i.toNat = (0, lo, up)) (h1 : lo ≤ v) (h2 : v ≤ up) (hv : 0 ≤ v ∧ v ≤ 1) (h : haW x (haUp mu j i v) (pc + 1) ls st) : haW x mu pc ls (haI v :: haI i :: haR r j :: st) := by
  obtain ⟨D, z, sb, RG, w0, p, l, ev, R, s, m, args, below, meth, c, cc, cs, Q⟩ := x
  intro rh H locs ws A xs hH hX hL hS
  obtain ⟨⟨hx, hb, hml, hown, hts, hnm, hz, hR3, hR4⟩, hw0, hRG⟩ := hF
  obtain ⟨x2, xr2, rfl, gu, x0, xr, rfl, gw, x1, xr', rfl, gv, hS'⟩ := hS
  obtain ⟨du, yv, rfl, eu⟩ := avGv_i gu rfl
  obtain ⟨d0, y, rfl, e0⟩ := avGv_i gw rfl
  obtain ⟨a, en, hj, rfl, er⟩ := haRf gv
  have eu' : yv.toInt = v := by rw [eu]; exact haCst rh v
  have e0' : y.toInt = i := by rw [e0]; exact haCst rh i
  obtain ⟨⟨tys, hK, hC, hlen⟩, hP, hD, hSS, hso, hkn⟩ := id hH
  have hcell := hC j (List.getElem?_eq_some_iff.mp hj).1
  have hr' : (avRT.get ((haJ RG mu).1 j)).1 = 103 := by rw [show (haJ RG mu).1 j = r from er]; exact hr
  obtain ⟨a', cA, f, t0, e1, e2, e3, e4⟩ := hcell.2.1 .boolean (by rw [hr']; rfl)
  rw [hj] at e1
  cases e1
  have er' : (haJ RG mu).1 j = r := er
  rw [er'] at e3 e4 hj
  have hcl := abClamp (y := y)
  have hcl' : y.toNatClampNeg = i.toNat := by rw [hcl, e0']
  have hlt : y.toNatClampNeg < (avRT.get r).2.1 := by clear hlen hcell hC; omega
  have hin : vp_in y (avRT.get r).2.1 := vp_in_iff.mpr ⟨by clear hlen hcell hC; omega, by clear hlen hcell hC; omega⟩
  have hnar : vp_nar .boolean yv = yv := abNarZ (by clear hlen hcell hC; omega) (by clear hlen hcell hC; omega)
  obtain ⟨o, pc2, a1, a2, xx, ps⟩ := e
  have ho' : o = 70 := ho
  have hpc' : pc2 = pc := hpc
  subst ho'; subst hpc'
  have hd := abEt_dec hE (show ¬ (70 : Nat) = 85 by decide) rfl
  refine va_zast hx hb hK hP hD hSS j t0 hj e2 hin hd (fun H1 locs1 hP1 hD1 hS1 => ?_)
  rw [hnar] at hP1 hD1
  have hX1 := abX.via hj hP1
  have hm : avM (haT RG) ws ((avRT.get ((haT RG).1 j)).2.2.get y.toNatClampNeg) (.int yv) := by
    rw [show (haT RG).1 j = r from er, hcl', hs]
    exact ⟨yv, rfl, by rw [eu']; exact h1, by rw [eu']; exact h2⟩
  have hc1 : avCs1 tys (haT RG) (ws.set j (a, .inl (cA, (avRT.get ((haT RG).1 j)).2.1, .inl (upd f y.toNatClampNeg yv)))) (some (a, .inl (cA, (avRT.get ((haT RG).1 j)).2.1, .inl (upd f y.toNatClampNeg yv)))) (avRT.get ((haT RG).1 j)) := by
    refine avCs1.putI (ty := .boolean) (RG := haT RG) (ws := ws) ?_ (by rw [show (haT RG).1 j = r from er, hr]; rfl) e2 (by rw [show (haT RG).1 j = r from er]; exact e3) (fun kk hkk => ?_) hm
    · rw [show (haT RG).1 j = r from er]; exact hX1
    · rw [show (haT RG).1 j = r from er] at hkk ⊢; exact e4 kk hkk
  rw [show (haT RG).1 j = r from er] at hc1
  have hput := (haTo hH rfl).put (l := []) (j := j) (a := a) (e1 := .inl (cA, (avRT.get r).2.1, .inl (upd f y.toNatClampNeg yv))) hK hC hj hP1 hD1 hS1 (by rw [show (haT RG).1 j = r from er]; exact hc1) ⟨fun k hk => (by cases hk), trivial⟩
  have hmu : haAt ws = mu := hlen.2.1
  have hat : haAt (ws.set j (a, .inl (cA, (avRT.get r).2.1, .inl (upd f y.toNatClampNeg yv)))) = haUp mu j i v := by
    rw [haAt_set (i := i) (v := v) h0 hj ?_ ?_, hmu]
    · rw [← hcl']
      show haNm (if y.toNatClampNeg < (avRT.get r).2.1 then some (Value.int (upd f y.toNatClampNeg yv y.toNatClampNeg)) else none) = v
      rw [if_pos hlt, pk_us]
      exact eu'
    · intro i' hi'
      rw [← hcl'] at hi'
      show (if i' < (avRT.get r).2.1 then some (Value.int (upd f y.toNatClampNeg yv i')) else none) = (if i' < (avRT.get r).2.1 then some (Value.int (f i')) else none)
      rw [pk_un hi']
  exact h rh H1 locs1 _ A _ (haFrom hput rfl hat) (hX.tr hX1) (hL.mono hX1 (afLe.rf rh)) (haSok (RG := haJ RG mu) (RG' := haJ RG (haUp mu j i v)) rfl rfl (hS'.mono hX1 (afLe.rf rh)))
end HAA
