/-! THE LAW'S LOOP: its steps, its calls' contracts (printed by wip/gen/gen27.py) -/
def lwS (x : haCx) (V : Int → Int) (L : Nat) : Prop := match x with
  | (_, z, sb, _, _, _, _, _, _, s, _, _, _, _, _, _, _, _) => ∃ xs : Nat → Int32, va_X sb L xs s s.heap ∧ sb < s.heap.size ∧ sb < z ∧ L ≤ 3584 ∧ ∀ j : Int, 0 ≤ j → V j = (xs j.toNat).toInt
def lwSv : avV := (7, 0, [], 0)
def lwL (i : Int) : List avV := [lwSv, haR 0 0, haR 51 860, haI i]
def lwV (V : Int → Int) (i : Int) (k : Nat) : Int := V (i + (k : Int))
theorem lwS_y {x : haCx} {V : Int → Int} {L : Nat} (h : lwS x V L) {j : Int} (hj : 0 ≤ j) : ∃ y : Int32, V j = y.toInt := by
  obtain ⟨D, z, sb, RG, w0, p, l, ev, R, s, m, args, below, meth, c, cc, cs, Q⟩ := x
  obtain ⟨xs, -, -, -, -, h5⟩ := h
  exact ⟨_, h5 j hj⟩
theorem lwS_L {x : haCx} {V : Int → Int} {L : Nat} (h : lwS x V L) : L ≤ 3584 := by
  obtain ⟨D, z, sb, RG, w0, p, l, ev, R, s, m, args, below, meth, c, cc, cs, Q⟩ := x
  obtain ⟨xs, -, -, -, h5, -⟩ := h
  exact h5
theorem lwS_b {x : haCx} {V : Int → Int} {L : Nat} (h : lwS x V L) {j : Int} (hj : 0 ≤ j) : -2147483648 ≤ V j ∧ V j ≤ 2147483647 := by
  obtain ⟨y, e⟩ := lwS_y h hj
  rw [e]
  exact avI32 y
theorem lwV_b {x : haCx} {V : Int → Int} {L : Nat} (h : lwS x V L) {i : Int} (hi : 0 ≤ i) (k : Nat) : -2147483648 ≤ lwV V i k ∧ lwV V i k ≤ 2147483647 := lwS_b h (by omega)
section LWS
variable {x : haCx} {mu : haMu} {k d pc : Nat} {ls st : List avV} {e : abEy}
theorem ha_pop {v : avV} (hF : haF x k d) (hv : v.1 = 0) (hd : decode (abBy k) pc = .ok (.pop, 1)) (h : haW x mu (pc + 1) ls st) : haW x mu pc ls (v :: st) := by
  obtain ⟨D, z, sb, RG, w0, p, l, ev, R, s, m, args, below, meth, c, cc, cs, Q⟩ := x
  intro rh H locs ws A xs hH hX hL hS
  obtain ⟨⟨hx, hb, -⟩, hw0, hRG⟩ := hF
  obtain ⟨x0, xr, rfl, gv, hS'⟩ := hS
  obtain ⟨d1, y, rfl, e1⟩ := avGv_i gv hv
  exact lv_pop hx hb hd rfl (h rh H locs ws A _ hH hX hL hS')
theorem ha_sld {V : Int → Int} {L : Nat} {i : Int} (hF : haF x k d) (hE : abEtOk k e) (hpc : e.2.1 = pc) (ho : e.1 = 87) (hSc : lwS x V L) (h0 : 0 ≤ i) (h1 : i < (L : Int)) (h : haW x mu (pc + 1) ls (haI (V i) :: st)) : haW x mu pc ls (haI i :: lwSv :: st) := by
  obtain ⟨D, z, sb, RG, w0, p, l, ev, R, s, m, args, below, meth, c, cc, cs, Q⟩ := x
  intro rh H locs ws A xs hH hX hL hS
  obtain ⟨⟨hx, hb, -⟩, hw0, hRG⟩ := hF
  obtain ⟨xs0, hXs, hsb, hsz, hL0, hV⟩ := hSc
  obtain ⟨o, pc2, a1, a2, xx, ps⟩ := e
  have ho' : o = 87 := ho
  have hpc' : pc2 = pc := hpc
  subst ho'; subst hpc'
  have hd := abEt_dec hE (show ¬ (87 : Nat) = 85 by decide) rfl
  obtain ⟨y0, xr, rfl, gw, x1, xr', rfl, gv, hS'⟩ := hS
  obtain ⟨d1, y, rfl, ey⟩ := avGv_i gw rfl
  have ey' : y.toInt = i := by rw [ey]; exact haCst rh i
  have gv2 : x1 = .ref sb := gv.2
  subst gv2
  have hcl := abClamp (y := y)
  have hcl' : y.toNatClampNeg = i.toNat := by rw [hcl, ey']
  have hSS := hH.2.2.2.1
  refine va_sld hx hb hXs hsb (show ¬ z ≤ sb by omega) hSS (vp_in_iff.mpr ⟨by clear hH hSS hL hXs; omega, by clear hH hSS hL hXs; omega⟩) hd ?_
  refine h rh H locs ws A _ hH hX hL ⟨_, _, rfl, ⟨afNil_D rh, _, rfl, ?_⟩, hS'⟩
  rw [hcl', ← hV i h0]
  exact (haCst rh _).symm
theorem ha_slen {V : Int → Int} {L : Nat} (hF : haF x k d) (hE : abEtOk k e) (hpc : e.2.1 = pc) (ho : e.1 = 86) (hSc : lwS x V L) (h : haW x mu (pc + 1) ls (haI (L : Int) :: st)) : haW x mu pc ls (lwSv :: st) := by
  obtain ⟨D, z, sb, RG, w0, p, l, ev, R, s, m, args, below, meth, c, cc, cs, Q⟩ := x
  intro rh H locs ws A xs hH hX hL hS
  obtain ⟨⟨hx, hb, -⟩, hw0, hRG⟩ := hF
  obtain ⟨xs0, hXs, hsb, hsz, hL0, hV⟩ := hSc
  obtain ⟨o, pc2, a1, a2, xx, ps⟩ := e
  have ho' : o = 86 := ho
  have hpc' : pc2 = pc := hpc
  subst ho'; subst hpc'
  have hd := abEt_dec hE (show ¬ (86 : Nat) = 85 by decide) rfl
  obtain ⟨x1, xr', rfl, gv, hS'⟩ := hS
  have gv2 : x1 = .ref sb := gv.2
  subst gv2
  have hSS := hH.2.2.2.1
  refine va_slen hx hb hXs hsb (show ¬ z ≤ sb by omega) hSS hd ?_
  refine h rh H locs ws A _ hH hX hL ⟨_, _, rfl, ⟨afNil_D rh, _, rfl, ?_⟩, hS'⟩
  rw [show afV rh (haI (L : Int)).2.2 = (L : Int) from haCst rh _]
  exact Int32.toInt_ofNat_of_lt (by omega)
theorem ha_lshlB {a b : Int} {x1 : Int64} {y1 : Int32} (hF : haF x k d) (hE : abEtOk k e) (hpc : e.2.1 = pc) (ho : e.1 = 38) (ha : a = x1.toInt) (hb : b = y1.toInt) (h : haW x mu (pc + 1) ls (haL (x1 <<< (y1.toInt64 &&& 63)).toInt :: st)) : haW x mu pc ls (haI b :: haL a :: st) := by
  obtain ⟨D, z, sb, RG, w0, p, l, ev, R, s, m, args, below, meth, c, cc, cs, Q⟩ := x
  intro rh H locs ws A xs hH hX hL hS
  obtain ⟨⟨hx, hbb, -⟩, hw0, hRG⟩ := hF
  obtain ⟨o, pc2, a1, a2, xx, ps⟩ := e
  have ho' : o = 38 := ho
  have hpc' : pc2 = pc := hpc
  subst ho'; subst hpc'
  have hd := abEt_dec hE (show ¬ (38 : Nat) = 85 by decide) rfl
  obtain ⟨y0, xr, rfl, gw, x0, xr', rfl, gv, hS'⟩ := hS
  obtain ⟨d1, x2, rfl, e1⟩ := avGv_l gv rfl
  obtain ⟨d2, y2, rfl, e2⟩ := avGv_i gw rfl
  have e1' : x2 = x1 := Int64.toInt_inj.mp (by rw [e1, ← ha]; exact haCst rh a)
  have e2' : y2 = y1 := Int32.toInt_inj.mp (by rw [e2, ← hb]; exact haCst rh b)
  subst e1'; subst e2'
  refine lv_lshl hx hbb hd rfl ?_
  exact h rh H locs ws A _ hH hX hL ⟨_, _, rfl, ⟨afNil_D rh, _, rfl, (haCst rh _).symm⟩, hS'⟩
theorem ha_landB {a b : Int} {x1 y1 : Int64} (hF : haF x k d) (hE : abEtOk k e) (hpc : e.2.1 = pc) (ho : e.1 = 35) (ha : a = x1.toInt) (hb : b = y1.toInt) (h : haW x mu (pc + 1) ls (haL (x1 &&& y1).toInt :: st)) : haW x mu pc ls (haL b :: haL a :: st) := by
  obtain ⟨D, z, sb, RG, w0, p, l, ev, R, s, m, args, below, meth, c, cc, cs, Q⟩ := x
  intro rh H locs ws A xs hH hX hL hS
  obtain ⟨⟨hx, hbb, -⟩, hw0, hRG⟩ := hF
  obtain ⟨o, pc2, a1, a2, xx, ps⟩ := e
  have ho' : o = 35 := ho
  have hpc' : pc2 = pc := hpc
  subst ho'; subst hpc'
  have hd := abEt_dec hE (show ¬ (35 : Nat) = 85 by decide) rfl
  obtain ⟨y0, xr, rfl, gw, x0, xr', rfl, gv, hS'⟩ := hS
  obtain ⟨d1, x2, rfl, e1⟩ := avGv_l gv rfl
  obtain ⟨d2, y2, rfl, e2⟩ := avGv_l gw rfl
  have e1' : x2 = x1 := Int64.toInt_inj.mp (by rw [e1, ← ha]; exact haCst rh a)
  have e2' : y2 = y1 := Int64.toInt_inj.mp (by rw [e2, ← hb]; exact haCst rh b)
  subst e1'; subst e2'
  refine lv_land hx hbb hd ?_
  exact h rh H locs ws A _ hH hX hL ⟨_, _, rfl, ⟨afNil_D rh, _, rfl, (haCst rh _).symm⟩, hS'⟩
theorem ha_lorB {a b : Int} {x1 y1 : Int64} (hF : haF x k d) (hE : abEtOk k e) (hpc : e.2.1 = pc) (ho : e.1 = 36) (ha : a = x1.toInt) (hb : b = y1.toInt) (h : haW x mu (pc + 1) ls (haL (x1 ||| y1).toInt :: st)) : haW x mu pc ls (haL b :: haL a :: st) := by
  obtain ⟨D, z, sb, RG, w0, p, l, ev, R, s, m, args, below, meth, c, cc, cs, Q⟩ := x
  intro rh H locs ws A xs hH hX hL hS
  obtain ⟨⟨hx, hbb, -⟩, hw0, hRG⟩ := hF
  obtain ⟨o, pc2, a1, a2, xx, ps⟩ := e
  have ho' : o = 36 := ho
  have hpc' : pc2 = pc := hpc
  subst ho'; subst hpc'
  have hd := abEt_dec hE (show ¬ (36 : Nat) = 85 by decide) rfl
  obtain ⟨y0, xr, rfl, gw, x0, xr', rfl, gv, hS'⟩ := hS
  obtain ⟨d1, x2, rfl, e1⟩ := avGv_l gv rfl
  obtain ⟨d2, y2, rfl, e2⟩ := avGv_l gw rfl
  have e1' : x2 = x1 := Int64.toInt_inj.mp (by rw [e1, ← ha]; exact haCst rh a)
  have e2' : y2 = y1 := Int64.toInt_inj.mp (by rw [e2, ← hb]; exact haCst rh b)
  subst e1'; subst e2'
  refine lv_lor hx hbb hd ?_
  exact h rh H locs ws A _ hH hX hL ⟨_, _, rfl, ⟨afNil_D rh, _, rfl, (haCst rh _).symm⟩, hS'⟩
theorem lwTs {v : Int} {nx : Nat → avS → Bool} : ∀ {ps : List Nat} {i : Int}, (∀ (j t : Nat), ps[j]? = some t → v = i + j → nx t haS0 = true) → avTs haS0 ([], v) nx ps i = true
  | [], _, _ => rfl
  | t :: ps, i, h => by
    show abIf (avAsm haS0 ([], v - i) fun s => avAsm s ([], i - v) (nx t)) (avTs haS0 ([], v) nx ps (i + 1)) false = true
    rw [haAsm (z := v - i) (fun h1 => haAsm (z := i - v) (fun h2 => h 0 t rfl (by omega))), lwTs (ps := ps) (i := i + 1) (fun j t' hj hv => h (j + 1) t' hj (by omega))]
    rfl
theorem ha_tsw {v : Int} (hF : haF x k d) (hE : abEtOk k e) (hpc : e.2.1 = pc) (ho : e.1 = 59) (h1 : v < avX e ∨ avX e + e.2.2.2.2.2.length ≤ v → haW x mu e.2.2.1 ls st) (h2 : ∀ j t : Nat, e.2.2.2.2.2[j]? = some t → v = avX e + j → haW x mu t ls st) : haW x mu pc ls (haI v :: st) :=
  ha_op (F := avOsw) hF hE hpc (fun RG => by rw [ho]; exact avS59) (fun nx hn => by
    show abIf (avAsm haS0 ([], avX e - 1 - v) fun s => nx e.2.2.1 ls st s) (abIf (avAsm haS0 ([], v - (avX e + e.2.2.2.2.2.length)) fun s => nx e.2.2.1 ls st s) (avTs haS0 ([], v) (fun t s => nx t ls st s) e.2.2.2.2.2 (avX e)) false) false = true
    rw [haAsm (z := avX e - 1 - v) (fun q => hn _ _ _ (h1 (Or.inl (by omega)))), haAsm (z := v - (avX e + e.2.2.2.2.2.length)) (fun q => hn _ _ _ (h1 (Or.inr (by omega)))), lwTs (fun j t hj hv => hn _ _ _ (h2 j t hj hv))]
    rfl)
end LWS
/-- one int of the script, on to the stack -/
noncomputable def lwEq (pc : Nat) (e : abEy) : Bool := avEqE ((abMe 278).2.2.2.2.2.get pc) e
noncomputable def lwLd5 (pc k : Nat) : Bool := abIf (lwEq pc (13, pc, 0, 0, 0, [])) (abIf (lwEq (pc + 1) (9, pc + 1, 0, 3, 0, [])) (abIf (lwEq (pc + 2) (1, pc + 2, 0, 0, 9223372036854775808 + k, [])) (abIf (lwEq (pc + 3) (21, pc + 3, 0, 0, 0, [])) (lwEq (pc + 4) (87, pc + 4, 0, 0, 0, [])) false) false) false) false
noncomputable def lwLd6 (pc k : Nat) : Bool := abIf (lwEq pc (13, pc, 0, 0, 0, [])) (abIf (lwEq (pc + 1) (9, pc + 1, 0, 3, 0, [])) (abIf (lwEq (pc + 2) (2, pc + 2, 0, 0, 9223372036854775808 + k, [])) (abIf (lwEq (pc + 4) (21, pc + 4, 0, 0, 0, [])) (lwEq (pc + 5) (87, pc + 5, 0, 0, 0, [])) false) false) false) false
theorem lw_ld {x : haCx} {mu : haMu} {d pc k L : Nat} {V : Int → Int} {i : Int} {st : List avV} (hT : abTabs) (hF : haF x 278 d) (hSc : lwS x V L) (h0 : 0 ≤ i) (h1 : i + 7 ≤ (L : Int)) (hk : k < 7) (hc : lwLd5 pc k = true) (h : haW x mu (pc + 5) (lwL i) (haI (lwV V i k) :: st)) : haW x mu pc (lwL i) st := by
  have hL := lwS_L hSc
  obtain ⟨c1, hc⟩ := abIf_and hc
  obtain ⟨c2, hc⟩ := abIf_and hc
  obtain ⟨c3, hc⟩ := abIf_and hc
  obtain ⟨c4, c5⟩ := abIf_and hc
  refine ha_s (pc' := pc + 1) (ls' := lwL i) (st' := lwSv :: st) hF (haEt hT (by decide) c1 rfl) rfl (fun RG => avS13) (fun nx => rfl) ?_
  refine ha_s (pc' := pc + 1 + 1) (ls' := lwL i) (st' := haI i :: lwSv :: st) hF (haEt hT (by decide) c2 rfl) rfl (fun RG => avS9) (fun nx => rfl) ?_
  refine ha_s (pc' := pc + 2 + 1) (ls' := lwL i) (st' := haI (avX (1, pc + 2, 0, 0, 9223372036854775808 + k, [])) :: haI i :: lwSv :: st) hF (haEt hT (by decide) c3 rfl) rfl (fun RG => avS1) (fun nx => rfl) ?_
  rw [show avX (1, pc + 2, 0, 0, 9223372036854775808 + k, []) = (k : Int) from by show ((9223372036854775808 + k : Nat) : Int) - 9223372036854775808 = (k : Int); omega]
  refine ha_iadd hF (haEt hT (by decide) c4 rfl) rfl rfl (by omega) (by omega) ?_
  exact ha_sld hF (haEt hT (by decide) c5 rfl) rfl rfl hSc (by omega) (by omega) h
theorem lw_ldb {x : haCx} {mu : haMu} {d pc k L : Nat} {V : Int → Int} {i : Int} {st : List avV} (hT : abTabs) (hF : haF x 278 d) (hSc : lwS x V L) (h0 : 0 ≤ i) (h1 : i + 7 ≤ (L : Int)) (hk : k < 7) (hc : lwLd6 pc k = true) (h : haW x mu (pc + 6) (lwL i) (haI (lwV V i k) :: st)) : haW x mu pc (lwL i) st := by
  have hL := lwS_L hSc
  obtain ⟨c1, hc⟩ := abIf_and hc
  obtain ⟨c2, hc⟩ := abIf_and hc
  obtain ⟨c3, hc⟩ := abIf_and hc
  obtain ⟨c4, c5⟩ := abIf_and hc
  refine ha_s (pc' := pc + 1) (ls' := lwL i) (st' := lwSv :: st) hF (haEt hT (by decide) c1 rfl) rfl (fun RG => avS13) (fun nx => rfl) ?_
  refine ha_s (pc' := pc + 1 + 1) (ls' := lwL i) (st' := haI i :: lwSv :: st) hF (haEt hT (by decide) c2 rfl) rfl (fun RG => avS9) (fun nx => rfl) ?_
  refine ha_s (pc' := pc + 2 + 2) (ls' := lwL i) (st' := haI (avX (2, pc + 2, 0, 0, 9223372036854775808 + k, [])) :: haI i :: lwSv :: st) hF (haEt hT (by decide) c3 rfl) rfl (fun RG => avS2) (fun nx => rfl) ?_
  rw [show avX (2, pc + 2, 0, 0, 9223372036854775808 + k, []) = (k : Int) from by show ((9223372036854775808 + k : Nat) : Int) - 9223372036854775808 = (k : Int); omega]
  refine ha_iadd hF (haEt hT (by decide) c4 rfl) rfl rfl (by omega) (by omega) ?_
  exact ha_sld hF (haEt hT (by decide) c5 rfl) rfl rfl hSc (by omega) (by omega) h
/-- a contract of the engine over the law's invariant -/
theorem lwSp (hT : abTabs) {q n : Nat} (hq : q < abNM) {c : avCon} (hm : c ∈ avCCt.get q) (hi : c.2.2.1.1 = 9 ∨ c.2.2.1.1 ≤ 1) {as : List avV} {mu : haMu} (hJ : lwJr n mu) (hfit : avFit haS0 (avTheta haS0 c.2.1 as) c.2.1 as = true) (h5 : ∀ v ∈ as, v.1 ≤ 5) (hsm : avSm as ≤ (abMe q).1.2.2.1) : haSp q c.2.2.2.2 as mu (fun o mu' => haAns c.2.2.1 o ∧ lwJr n mu') := by
  intro D z sb RG l ws vs hRG hmu hlen hvs
  obtain ⟨g, J0, tx⟩ := RG
  have hg : g = avRG0 := hRG
  subst hg
  have hM := avCnT hT (c.2.2.2.2 + 1) D z sb n tx l q c as vs ws avNo haS0 (fun o s => @decide (haKA c.2.2.1 o s) (Classical.propDecidable _)) hq hm (Nat.lt_succ_self _) hfit (haKA_ok hi) (haSok (RG := (avRG0, J0, tx)) (RG' := lwG tx n) rfl rfl hvs) h5 hsm haSo (fun k hk => by cases hk)
  refine Jvm.Free.MetFree.mono hM (fun a s h => ?_) (fun _ _ _ _ _ h => h) (fun a s o t hP hQ => ?_)
  · obtain ⟨h0, ⟨⟨tys, k1, k2, k3, k4, k5⟩, k6, k7⟩, k8, k9⟩ := h
    have k4' : haAt ws = mu := k4
    exact ⟨h0, ⟨⟨tys, k1, k2, k3, ⟨hlen, by rw [k4']; exact hJ⟩, k5⟩, k6, k7⟩, k8, k9⟩
  · obtain ⟨⟨⟨rh', o', q', u, rv, e1, e2, -, e4, e5, ⟨⟨tys, k1, k2, k3, ⟨-, k4⟩, k5⟩, k6, k7⟩, e7, e8⟩, hFr⟩, hL⟩ := hQ
    have e2' : haKA c.2.2.1 o' q' := @of_decide_eq_true _ (Classical.propDecidable _) e2
    have mk : ∀ o2 : Option avV, haAns c.2.2.1 o2 → avRv (avRG0, J0, tx) u sb avNo o2 rv → (haPost D z sb (avRG0, J0, tx) ws (fun o mu' => haAns c.2.2.1 o ∧ lwJr n mu') a s o t ∧ ∃ L, FrameEnd s o t L 0 0 ∧ ∀ q ∈ L, z ≤ q.base) := fun o2 g1 g2 => ⟨⟨⟨u, rv, o2, e1, e4, g2, ⟨⟨tys, k1, k2, k3, rfl, k5⟩, k6, k7⟩, g1, k4⟩, hFr⟩, hL⟩
    generalize c.2.2.1 = ci at mk e2' ⊢
    obtain ⟨t9, lo, up⟩ := ci
    rcases e2' with ⟨a1, rfl⟩ | ⟨a1, a2, rfl⟩ | ⟨a1, rfl, rfl⟩
    · exact mk none ⟨fun _ => rfl, fun h => absurd h (by have a1' : t9 = 9 := a1; show ¬ t9 ≤ 1; omega)⟩ e5
    · have a1' : t9 ≤ 1 := a1
      rcases (show t9 = 0 ∨ t9 = 1 by omega) with e | e
      · subst e
        obtain ⟨y, rfl, gy⟩ := e5
        obtain ⟨-, yv, rfl, ey⟩ := avGv_i gy rfl
        have ez : yv.toInt = lo := by rw [ey]; exact haCst rh' lo
        refine mk (some (haI lo)) ⟨fun h => (by cases h), fun _ => ⟨lo, rfl, Int.le_refl _, Int.le_of_eq a2⟩⟩ ⟨_, rfl, afNil_D avNo, yv, rfl, ?_⟩
        rw [ez]; exact (haCst avNo lo).symm
      · subst e
        obtain ⟨y, rfl, gy⟩ := e5
        obtain ⟨-, yv, rfl, ey⟩ := avGv_l gy rfl
        have ez : yv.toInt = lo := by rw [ey]; exact haCst rh' lo
        refine mk (some (haL lo)) ⟨fun h => (by cases h), fun _ => ⟨lo, rfl, Int.le_refl _, Int.le_of_eq a2⟩⟩ ⟨_, rfl, afNil_D avNo, yv, rfl, ?_⟩
        rw [ez]; exact (haCst avNo lo).symm
    · have a1' : t9 ≤ 1 := a1
      obtain ⟨zz, hz1, hz2⟩ := e7.1.2.1 0 (Nat.zero_lt_one)
      have hb : lo ≤ zz ∧ zz ≤ up := hz2
      rcases (show t9 = 0 ∨ t9 = 1 by omega) with e | e
      · subst e
        obtain ⟨y, rfl, gy⟩ := e5
        obtain ⟨-, yv, rfl, ey⟩ := avGv_i gy rfl
        have ez : yv.toInt = zz := by rw [ey]; exact afN_V hz1
        refine mk (some (haI zz)) ⟨fun h => (by cases h), fun _ => ⟨zz, rfl, hb.1, hb.2⟩⟩ ⟨_, rfl, afNil_D avNo, yv, rfl, ?_⟩
        rw [ez]; exact (haCst avNo zz).symm
      · subst e
        obtain ⟨y, rfl, gy⟩ := e5
        obtain ⟨-, yv, rfl, ey⟩ := avGv_l gy rfl
        have ez : yv.toInt = zz := by rw [ey]; exact afN_V hz1
        refine mk (some (haL zz)) ⟨fun h => (by cases h), fun _ => ⟨zz, rfl, hb.1, hb.2⟩⟩ ⟨_, rfl, afNil_D avNo, yv, rfl, ?_⟩
        rw [ez]; exact (haCst avNo zz).symm
theorem lwQ1 (b : Int) : afQ (afAdd ([], 0) (afMul 1 ([], b))) ([], b) = true := by
  rw [haMul, show afAdd ([], 0) ([], 1 * b) = ([], 0 + 1 * b) from rfl, Int.one_mul, Int.zero_add, haQ]
theorem lwFit {r j : Nat}  : avFit haS0 (avTheta haS0 ([haR r j], [], [], []) [haR r j]) ([haR r j], [], [], []) [haR r j] = true := by
  show abIf true (abIf (abIf (abIf (Nat.beq r r) (afQ ([], (j : Int)) ([], (j : Int))) false) true false) (abIf true (abIf true true false) false) false) false = true
  rw [show Nat.beq r r = true from Nat.beq_refl r, haQ]
  rfl
theorem lwFitI {r j : Nat} {lo0 up0 b0 : Int} (h0 : lo0 ≤ b0) (g0 : b0 ≤ up0) : avFit haS0 (avTheta haS0 ([haR r j, (0, 0, [(0, 1)], 0)], [(lo0, up0)], [], []) [haR r j, haI b0]) ([haR r j, (0, 0, [(0, 1)], 0)], [(lo0, up0)], [], []) [haR r j, haI b0] = true := by
  have e : avTheta haS0 ([haR r j, (0, 0, [(0, 1)], 0)], [(lo0, up0)], [], []) [haR r j, haI b0] = [([], (b0 - 0) / 1)] := rfl
  rw [e]; simp only [Int.sub_zero, Int.ediv_one]
  have e1 : avVs [([], b0)] [haR r j, (0, 0, [(0, 1)], 0)] [haR r j, haI b0] = true := by
    show abIf (abIf (Nat.beq r r) (afQ ([], (j : Int)) ([], (j : Int))) false) (abIf (afQ (afAdd ([], 0) (afMul 1 ([], b0))) ([], b0)) (true) false) false = true
    rw [show Nat.beq r r = true from Nat.beq_refl r, haQ, lwQ1 b0]
    rfl
  have e2 : avBs haS0 [([], b0)] [(lo0, up0)] = true := by
    show abIf (avGe haS0 ([], b0 + -lo0)) (abIf (avGe haS0 ([], up0 - b0)) (true) false) false = true
    rw [haGe (s := haS0) (z := b0 + -lo0) (by omega), haGe (s := haS0) (z := up0 - b0) (by omega)]
    rfl
  show abIf true (abIf (avVs [([], b0)] _ _) (abIf (avBs haS0 [([], b0)] [(lo0, up0)]) (abIf true true false) false) false) false = true
  rw [e1, e2]
  rfl
theorem lwFitII {r j : Nat} {lo0 up0 b0 lo1 up1 b1 : Int} (h0 : lo0 ≤ b0) (g0 : b0 ≤ up0) (h1 : lo1 ≤ b1) (g1 : b1 ≤ up1) : avFit haS0 (avTheta haS0 ([haR r j, (0, 0, [(0, 1)], 0), (0, 0, [(1, 1)], 0)], [(lo0, up0), (lo1, up1)], [], []) [haR r j, haI b0, haI b1]) ([haR r j, (0, 0, [(0, 1)], 0), (0, 0, [(1, 1)], 0)], [(lo0, up0), (lo1, up1)], [], []) [haR r j, haI b0, haI b1] = true := by
  have e : avTheta haS0 ([haR r j, (0, 0, [(0, 1)], 0), (0, 0, [(1, 1)], 0)], [(lo0, up0), (lo1, up1)], [], []) [haR r j, haI b0, haI b1] = [([], (b0 - 0) / 1), ([], (b1 - 0) / 1)] := rfl
  rw [e]; simp only [Int.sub_zero, Int.ediv_one]
  have e1 : avVs [([], b0), ([], b1)] [haR r j, (0, 0, [(0, 1)], 0), (0, 0, [(1, 1)], 0)] [haR r j, haI b0, haI b1] = true := by
    show abIf (abIf (Nat.beq r r) (afQ ([], (j : Int)) ([], (j : Int))) false) (abIf (afQ (afAdd ([], 0) (afMul 1 ([], b0))) ([], b0)) (abIf (afQ (afAdd ([], 0) (afMul 1 ([], b1))) ([], b1)) (true) false) false) false = true
    rw [show Nat.beq r r = true from Nat.beq_refl r, haQ, lwQ1 b0, lwQ1 b1]
    rfl
  have e2 : avBs haS0 [([], b0), ([], b1)] [(lo0, up0), (lo1, up1)] = true := by
    show abIf (avGe haS0 ([], b0 + -lo0)) (abIf (avGe haS0 ([], up0 - b0)) (abIf (avGe haS0 ([], b1 + -lo1)) (abIf (avGe haS0 ([], up1 - b1)) (true) false) false) false) false = true
    rw [haGe (s := haS0) (z := b0 + -lo0) (by omega), haGe (s := haS0) (z := up0 - b0) (by omega), haGe (s := haS0) (z := b1 + -lo1) (by omega), haGe (s := haS0) (z := up1 - b1) (by omega)]
    rfl
  show abIf true (abIf (avVs [([], b0), ([], b1)] _ _) (abIf (avBs haS0 [([], b0), ([], b1)] [(lo0, up0), (lo1, up1)]) (abIf true true false) false) false) false = true
  rw [e1, e2]
  rfl
theorem lwFitIII {r j : Nat} {lo0 up0 b0 lo1 up1 b1 lo2 up2 b2 : Int} (h0 : lo0 ≤ b0) (g0 : b0 ≤ up0) (h1 : lo1 ≤ b1) (g1 : b1 ≤ up1) (h2 : lo2 ≤ b2) (g2 : b2 ≤ up2) : avFit haS0 (avTheta haS0 ([haR r j, (0, 0, [(0, 1)], 0), (0, 0, [(1, 1)], 0), (0, 0, [(2, 1)], 0)], [(lo0, up0), (lo1, up1), (lo2, up2)], [], []) [haR r j, haI b0, haI b1, haI b2]) ([haR r j, (0, 0, [(0, 1)], 0), (0, 0, [(1, 1)], 0), (0, 0, [(2, 1)], 0)], [(lo0, up0), (lo1, up1), (lo2, up2)], [], []) [haR r j, haI b0, haI b1, haI b2] = true := by
  have e : avTheta haS0 ([haR r j, (0, 0, [(0, 1)], 0), (0, 0, [(1, 1)], 0), (0, 0, [(2, 1)], 0)], [(lo0, up0), (lo1, up1), (lo2, up2)], [], []) [haR r j, haI b0, haI b1, haI b2] = [([], (b0 - 0) / 1), ([], (b1 - 0) / 1), ([], (b2 - 0) / 1)] := rfl
  rw [e]; simp only [Int.sub_zero, Int.ediv_one]
  have e1 : avVs [([], b0), ([], b1), ([], b2)] [haR r j, (0, 0, [(0, 1)], 0), (0, 0, [(1, 1)], 0), (0, 0, [(2, 1)], 0)] [haR r j, haI b0, haI b1, haI b2] = true := by
    show abIf (abIf (Nat.beq r r) (afQ ([], (j : Int)) ([], (j : Int))) false) (abIf (afQ (afAdd ([], 0) (afMul 1 ([], b0))) ([], b0)) (abIf (afQ (afAdd ([], 0) (afMul 1 ([], b1))) ([], b1)) (abIf (afQ (afAdd ([], 0) (afMul 1 ([], b2))) ([], b2)) (true) false) false) false) false = true
    rw [show Nat.beq r r = true from Nat.beq_refl r, haQ, lwQ1 b0, lwQ1 b1, lwQ1 b2]
    rfl
  have e2 : avBs haS0 [([], b0), ([], b1), ([], b2)] [(lo0, up0), (lo1, up1), (lo2, up2)] = true := by
    show abIf (avGe haS0 ([], b0 + -lo0)) (abIf (avGe haS0 ([], up0 - b0)) (abIf (avGe haS0 ([], b1 + -lo1)) (abIf (avGe haS0 ([], up1 - b1)) (abIf (avGe haS0 ([], b2 + -lo2)) (abIf (avGe haS0 ([], up2 - b2)) (true) false) false) false) false) false) false = true
    rw [haGe (s := haS0) (z := b0 + -lo0) (by omega), haGe (s := haS0) (z := up0 - b0) (by omega), haGe (s := haS0) (z := b1 + -lo1) (by omega), haGe (s := haS0) (z := up1 - b1) (by omega), haGe (s := haS0) (z := b2 + -lo2) (by omega), haGe (s := haS0) (z := up2 - b2) (by omega)]
    rfl
  show abIf true (abIf (avVs [([], b0), ([], b1), ([], b2)] _ _) (abIf (avBs haS0 [([], b0), ([], b1), ([], b2)] [(lo0, up0), (lo1, up1), (lo2, up2)]) (abIf true true false) false) false) false = true
  rw [e1, e2]
  rfl
theorem lwFitIIII {r j : Nat} {lo0 up0 b0 lo1 up1 b1 lo2 up2 b2 lo3 up3 b3 : Int} (h0 : lo0 ≤ b0) (g0 : b0 ≤ up0) (h1 : lo1 ≤ b1) (g1 : b1 ≤ up1) (h2 : lo2 ≤ b2) (g2 : b2 ≤ up2) (h3 : lo3 ≤ b3) (g3 : b3 ≤ up3) : avFit haS0 (avTheta haS0 ([haR r j, (0, 0, [(0, 1)], 0), (0, 0, [(1, 1)], 0), (0, 0, [(2, 1)], 0), (0, 0, [(3, 1)], 0)], [(lo0, up0), (lo1, up1), (lo2, up2), (lo3, up3)], [], []) [haR r j, haI b0, haI b1, haI b2, haI b3]) ([haR r j, (0, 0, [(0, 1)], 0), (0, 0, [(1, 1)], 0), (0, 0, [(2, 1)], 0), (0, 0, [(3, 1)], 0)], [(lo0, up0), (lo1, up1), (lo2, up2), (lo3, up3)], [], []) [haR r j, haI b0, haI b1, haI b2, haI b3] = true := by
  have e : avTheta haS0 ([haR r j, (0, 0, [(0, 1)], 0), (0, 0, [(1, 1)], 0), (0, 0, [(2, 1)], 0), (0, 0, [(3, 1)], 0)], [(lo0, up0), (lo1, up1), (lo2, up2), (lo3, up3)], [], []) [haR r j, haI b0, haI b1, haI b2, haI b3] = [([], (b0 - 0) / 1), ([], (b1 - 0) / 1), ([], (b2 - 0) / 1), ([], (b3 - 0) / 1)] := rfl
  rw [e]; simp only [Int.sub_zero, Int.ediv_one]
  have e1 : avVs [([], b0), ([], b1), ([], b2), ([], b3)] [haR r j, (0, 0, [(0, 1)], 0), (0, 0, [(1, 1)], 0), (0, 0, [(2, 1)], 0), (0, 0, [(3, 1)], 0)] [haR r j, haI b0, haI b1, haI b2, haI b3] = true := by
    show abIf (abIf (Nat.beq r r) (afQ ([], (j : Int)) ([], (j : Int))) false) (abIf (afQ (afAdd ([], 0) (afMul 1 ([], b0))) ([], b0)) (abIf (afQ (afAdd ([], 0) (afMul 1 ([], b1))) ([], b1)) (abIf (afQ (afAdd ([], 0) (afMul 1 ([], b2))) ([], b2)) (abIf (afQ (afAdd ([], 0) (afMul 1 ([], b3))) ([], b3)) (true) false) false) false) false) false = true
    rw [show Nat.beq r r = true from Nat.beq_refl r, haQ, lwQ1 b0, lwQ1 b1, lwQ1 b2, lwQ1 b3]
    rfl
  have e2 : avBs haS0 [([], b0), ([], b1), ([], b2), ([], b3)] [(lo0, up0), (lo1, up1), (lo2, up2), (lo3, up3)] = true := by
    show abIf (avGe haS0 ([], b0 + -lo0)) (abIf (avGe haS0 ([], up0 - b0)) (abIf (avGe haS0 ([], b1 + -lo1)) (abIf (avGe haS0 ([], up1 - b1)) (abIf (avGe haS0 ([], b2 + -lo2)) (abIf (avGe haS0 ([], up2 - b2)) (abIf (avGe haS0 ([], b3 + -lo3)) (abIf (avGe haS0 ([], up3 - b3)) (true) false) false) false) false) false) false) false) false = true
    rw [haGe (s := haS0) (z := b0 + -lo0) (by omega), haGe (s := haS0) (z := up0 - b0) (by omega), haGe (s := haS0) (z := b1 + -lo1) (by omega), haGe (s := haS0) (z := up1 - b1) (by omega), haGe (s := haS0) (z := b2 + -lo2) (by omega), haGe (s := haS0) (z := up2 - b2) (by omega), haGe (s := haS0) (z := b3 + -lo3) (by omega), haGe (s := haS0) (z := up3 - b3) (by omega)]
    rfl
  show abIf true (abIf (avVs [([], b0), ([], b1), ([], b2), ([], b3)] _ _) (abIf (avBs haS0 [([], b0), ([], b1), ([], b2), ([], b3)] [(lo0, up0), (lo1, up1), (lo2, up2), (lo3, up3)]) (abIf true true false) false) false) false = true
  rw [e1, e2]
  rfl
theorem lwFitIIIII {r j : Nat} {lo0 up0 b0 lo1 up1 b1 lo2 up2 b2 lo3 up3 b3 lo4 up4 b4 : Int} (h0 : lo0 ≤ b0) (g0 : b0 ≤ up0) (h1 : lo1 ≤ b1) (g1 : b1 ≤ up1) (h2 : lo2 ≤ b2) (g2 : b2 ≤ up2) (h3 : lo3 ≤ b3) (g3 : b3 ≤ up3) (h4 : lo4 ≤ b4) (g4 : b4 ≤ up4) : avFit haS0 (avTheta haS0 ([haR r j, (0, 0, [(0, 1)], 0), (0, 0, [(1, 1)], 0), (0, 0, [(2, 1)], 0), (0, 0, [(3, 1)], 0), (0, 0, [(4, 1)], 0)], [(lo0, up0), (lo1, up1), (lo2, up2), (lo3, up3), (lo4, up4)], [], []) [haR r j, haI b0, haI b1, haI b2, haI b3, haI b4]) ([haR r j, (0, 0, [(0, 1)], 0), (0, 0, [(1, 1)], 0), (0, 0, [(2, 1)], 0), (0, 0, [(3, 1)], 0), (0, 0, [(4, 1)], 0)], [(lo0, up0), (lo1, up1), (lo2, up2), (lo3, up3), (lo4, up4)], [], []) [haR r j, haI b0, haI b1, haI b2, haI b3, haI b4] = true := by
  have e : avTheta haS0 ([haR r j, (0, 0, [(0, 1)], 0), (0, 0, [(1, 1)], 0), (0, 0, [(2, 1)], 0), (0, 0, [(3, 1)], 0), (0, 0, [(4, 1)], 0)], [(lo0, up0), (lo1, up1), (lo2, up2), (lo3, up3), (lo4, up4)], [], []) [haR r j, haI b0, haI b1, haI b2, haI b3, haI b4] = [([], (b0 - 0) / 1), ([], (b1 - 0) / 1), ([], (b2 - 0) / 1), ([], (b3 - 0) / 1), ([], (b4 - 0) / 1)] := rfl
  rw [e]; simp only [Int.sub_zero, Int.ediv_one]
  have e1 : avVs [([], b0), ([], b1), ([], b2), ([], b3), ([], b4)] [haR r j, (0, 0, [(0, 1)], 0), (0, 0, [(1, 1)], 0), (0, 0, [(2, 1)], 0), (0, 0, [(3, 1)], 0), (0, 0, [(4, 1)], 0)] [haR r j, haI b0, haI b1, haI b2, haI b3, haI b4] = true := by
    show abIf (abIf (Nat.beq r r) (afQ ([], (j : Int)) ([], (j : Int))) false) (abIf (afQ (afAdd ([], 0) (afMul 1 ([], b0))) ([], b0)) (abIf (afQ (afAdd ([], 0) (afMul 1 ([], b1))) ([], b1)) (abIf (afQ (afAdd ([], 0) (afMul 1 ([], b2))) ([], b2)) (abIf (afQ (afAdd ([], 0) (afMul 1 ([], b3))) ([], b3)) (abIf (afQ (afAdd ([], 0) (afMul 1 ([], b4))) ([], b4)) (true) false) false) false) false) false) false = true
    rw [show Nat.beq r r = true from Nat.beq_refl r, haQ, lwQ1 b0, lwQ1 b1, lwQ1 b2, lwQ1 b3, lwQ1 b4]
    rfl
  have e2 : avBs haS0 [([], b0), ([], b1), ([], b2), ([], b3), ([], b4)] [(lo0, up0), (lo1, up1), (lo2, up2), (lo3, up3), (lo4, up4)] = true := by
    show abIf (avGe haS0 ([], b0 + -lo0)) (abIf (avGe haS0 ([], up0 - b0)) (abIf (avGe haS0 ([], b1 + -lo1)) (abIf (avGe haS0 ([], up1 - b1)) (abIf (avGe haS0 ([], b2 + -lo2)) (abIf (avGe haS0 ([], up2 - b2)) (abIf (avGe haS0 ([], b3 + -lo3)) (abIf (avGe haS0 ([], up3 - b3)) (abIf (avGe haS0 ([], b4 + -lo4)) (abIf (avGe haS0 ([], up4 - b4)) (true) false) false) false) false) false) false) false) false) false) false = true
    rw [haGe (s := haS0) (z := b0 + -lo0) (by omega), haGe (s := haS0) (z := up0 - b0) (by omega), haGe (s := haS0) (z := b1 + -lo1) (by omega), haGe (s := haS0) (z := up1 - b1) (by omega), haGe (s := haS0) (z := b2 + -lo2) (by omega), haGe (s := haS0) (z := up2 - b2) (by omega), haGe (s := haS0) (z := b3 + -lo3) (by omega), haGe (s := haS0) (z := up3 - b3) (by omega), haGe (s := haS0) (z := b4 + -lo4) (by omega), haGe (s := haS0) (z := up4 - b4) (by omega)]
    rfl
  show abIf true (abIf (avVs [([], b0), ([], b1), ([], b2), ([], b3), ([], b4)] _ _) (abIf (avBs haS0 [([], b0), ([], b1), ([], b2), ([], b3), ([], b4)] [(lo0, up0), (lo1, up1), (lo2, up2), (lo3, up3), (lo4, up4)]) (abIf true true false) false) false) false = true
  rw [e1, e2]
  rfl
theorem lwFitIIIIII {r j : Nat} {lo0 up0 b0 lo1 up1 b1 lo2 up2 b2 lo3 up3 b3 lo4 up4 b4 lo5 up5 b5 : Int} (h0 : lo0 ≤ b0) (g0 : b0 ≤ up0) (h1 : lo1 ≤ b1) (g1 : b1 ≤ up1) (h2 : lo2 ≤ b2) (g2 : b2 ≤ up2) (h3 : lo3 ≤ b3) (g3 : b3 ≤ up3) (h4 : lo4 ≤ b4) (g4 : b4 ≤ up4) (h5 : lo5 ≤ b5) (g5 : b5 ≤ up5) : avFit haS0 (avTheta haS0 ([haR r j, (0, 0, [(0, 1)], 0), (0, 0, [(1, 1)], 0), (0, 0, [(2, 1)], 0), (0, 0, [(3, 1)], 0), (0, 0, [(4, 1)], 0), (0, 0, [(5, 1)], 0)], [(lo0, up0), (lo1, up1), (lo2, up2), (lo3, up3), (lo4, up4), (lo5, up5)], [], []) [haR r j, haI b0, haI b1, haI b2, haI b3, haI b4, haI b5]) ([haR r j, (0, 0, [(0, 1)], 0), (0, 0, [(1, 1)], 0), (0, 0, [(2, 1)], 0), (0, 0, [(3, 1)], 0), (0, 0, [(4, 1)], 0), (0, 0, [(5, 1)], 0)], [(lo0, up0), (lo1, up1), (lo2, up2), (lo3, up3), (lo4, up4), (lo5, up5)], [], []) [haR r j, haI b0, haI b1, haI b2, haI b3, haI b4, haI b5] = true := by
  have e : avTheta haS0 ([haR r j, (0, 0, [(0, 1)], 0), (0, 0, [(1, 1)], 0), (0, 0, [(2, 1)], 0), (0, 0, [(3, 1)], 0), (0, 0, [(4, 1)], 0), (0, 0, [(5, 1)], 0)], [(lo0, up0), (lo1, up1), (lo2, up2), (lo3, up3), (lo4, up4), (lo5, up5)], [], []) [haR r j, haI b0, haI b1, haI b2, haI b3, haI b4, haI b5] = [([], (b0 - 0) / 1), ([], (b1 - 0) / 1), ([], (b2 - 0) / 1), ([], (b3 - 0) / 1), ([], (b4 - 0) / 1), ([], (b5 - 0) / 1)] := rfl
  rw [e]; simp only [Int.sub_zero, Int.ediv_one]
  have e1 : avVs [([], b0), ([], b1), ([], b2), ([], b3), ([], b4), ([], b5)] [haR r j, (0, 0, [(0, 1)], 0), (0, 0, [(1, 1)], 0), (0, 0, [(2, 1)], 0), (0, 0, [(3, 1)], 0), (0, 0, [(4, 1)], 0), (0, 0, [(5, 1)], 0)] [haR r j, haI b0, haI b1, haI b2, haI b3, haI b4, haI b5] = true := by
    show abIf (abIf (Nat.beq r r) (afQ ([], (j : Int)) ([], (j : Int))) false) (abIf (afQ (afAdd ([], 0) (afMul 1 ([], b0))) ([], b0)) (abIf (afQ (afAdd ([], 0) (afMul 1 ([], b1))) ([], b1)) (abIf (afQ (afAdd ([], 0) (afMul 1 ([], b2))) ([], b2)) (abIf (afQ (afAdd ([], 0) (afMul 1 ([], b3))) ([], b3)) (abIf (afQ (afAdd ([], 0) (afMul 1 ([], b4))) ([], b4)) (abIf (afQ (afAdd ([], 0) (afMul 1 ([], b5))) ([], b5)) (true) false) false) false) false) false) false) false = true
    rw [show Nat.beq r r = true from Nat.beq_refl r, haQ, lwQ1 b0, lwQ1 b1, lwQ1 b2, lwQ1 b3, lwQ1 b4, lwQ1 b5]
    rfl
  have e2 : avBs haS0 [([], b0), ([], b1), ([], b2), ([], b3), ([], b4), ([], b5)] [(lo0, up0), (lo1, up1), (lo2, up2), (lo3, up3), (lo4, up4), (lo5, up5)] = true := by
    show abIf (avGe haS0 ([], b0 + -lo0)) (abIf (avGe haS0 ([], up0 - b0)) (abIf (avGe haS0 ([], b1 + -lo1)) (abIf (avGe haS0 ([], up1 - b1)) (abIf (avGe haS0 ([], b2 + -lo2)) (abIf (avGe haS0 ([], up2 - b2)) (abIf (avGe haS0 ([], b3 + -lo3)) (abIf (avGe haS0 ([], up3 - b3)) (abIf (avGe haS0 ([], b4 + -lo4)) (abIf (avGe haS0 ([], up4 - b4)) (abIf (avGe haS0 ([], b5 + -lo5)) (abIf (avGe haS0 ([], up5 - b5)) (true) false) false) false) false) false) false) false) false) false) false) false) false = true
    rw [haGe (s := haS0) (z := b0 + -lo0) (by omega), haGe (s := haS0) (z := up0 - b0) (by omega), haGe (s := haS0) (z := b1 + -lo1) (by omega), haGe (s := haS0) (z := up1 - b1) (by omega), haGe (s := haS0) (z := b2 + -lo2) (by omega), haGe (s := haS0) (z := up2 - b2) (by omega), haGe (s := haS0) (z := b3 + -lo3) (by omega), haGe (s := haS0) (z := up3 - b3) (by omega), haGe (s := haS0) (z := b4 + -lo4) (by omega), haGe (s := haS0) (z := up4 - b4) (by omega), haGe (s := haS0) (z := b5 + -lo5) (by omega), haGe (s := haS0) (z := up5 - b5) (by omega)]
    rfl
  show abIf true (abIf (avVs [([], b0), ([], b1), ([], b2), ([], b3), ([], b4), ([], b5)] _ _) (abIf (avBs haS0 [([], b0), ([], b1), ([], b2), ([], b3), ([], b4), ([], b5)] [(lo0, up0), (lo1, up1), (lo2, up2), (lo3, up3), (lo4, up4), (lo5, up5)]) (abIf true true false) false) false) false = true
  rw [e1, e2]
  rfl
theorem lwFitIIL {r j : Nat} {lo0 up0 b0 lo1 up1 b1 lo2 up2 b2 : Int} (h0 : lo0 ≤ b0) (g0 : b0 ≤ up0) (h1 : lo1 ≤ b1) (g1 : b1 ≤ up1) (h2 : lo2 ≤ b2) (g2 : b2 ≤ up2) : avFit haS0 (avTheta haS0 ([haR r j, (0, 0, [(0, 1)], 0), (0, 0, [(1, 1)], 0), (1, 0, [(2, 1)], 0)], [(lo0, up0), (lo1, up1), (lo2, up2)], [], []) [haR r j, haI b0, haI b1, haL b2]) ([haR r j, (0, 0, [(0, 1)], 0), (0, 0, [(1, 1)], 0), (1, 0, [(2, 1)], 0)], [(lo0, up0), (lo1, up1), (lo2, up2)], [], []) [haR r j, haI b0, haI b1, haL b2] = true := by
  have e : avTheta haS0 ([haR r j, (0, 0, [(0, 1)], 0), (0, 0, [(1, 1)], 0), (1, 0, [(2, 1)], 0)], [(lo0, up0), (lo1, up1), (lo2, up2)], [], []) [haR r j, haI b0, haI b1, haL b2] = [([], (b0 - 0) / 1), ([], (b1 - 0) / 1), ([], (b2 - 0) / 1)] := rfl
  rw [e]; simp only [Int.sub_zero, Int.ediv_one]
  have e1 : avVs [([], b0), ([], b1), ([], b2)] [haR r j, (0, 0, [(0, 1)], 0), (0, 0, [(1, 1)], 0), (1, 0, [(2, 1)], 0)] [haR r j, haI b0, haI b1, haL b2] = true := by
    show abIf (abIf (Nat.beq r r) (afQ ([], (j : Int)) ([], (j : Int))) false) (abIf (afQ (afAdd ([], 0) (afMul 1 ([], b0))) ([], b0)) (abIf (afQ (afAdd ([], 0) (afMul 1 ([], b1))) ([], b1)) (abIf (afQ (afAdd ([], 0) (afMul 1 ([], b2))) ([], b2)) (true) false) false) false) false = true
    rw [show Nat.beq r r = true from Nat.beq_refl r, haQ, lwQ1 b0, lwQ1 b1, lwQ1 b2]
    rfl
  have e2 : avBs haS0 [([], b0), ([], b1), ([], b2)] [(lo0, up0), (lo1, up1), (lo2, up2)] = true := by
    show abIf (avGe haS0 ([], b0 + -lo0)) (abIf (avGe haS0 ([], up0 - b0)) (abIf (avGe haS0 ([], b1 + -lo1)) (abIf (avGe haS0 ([], up1 - b1)) (abIf (avGe haS0 ([], b2 + -lo2)) (abIf (avGe haS0 ([], up2 - b2)) (true) false) false) false) false) false) false = true
    rw [haGe (s := haS0) (z := b0 + -lo0) (by omega), haGe (s := haS0) (z := up0 - b0) (by omega), haGe (s := haS0) (z := b1 + -lo1) (by omega), haGe (s := haS0) (z := up1 - b1) (by omega), haGe (s := haS0) (z := b2 + -lo2) (by omega), haGe (s := haS0) (z := up2 - b2) (by omega)]
    rfl
  show abIf true (abIf (avVs [([], b0), ([], b1), ([], b2)] _ _) (abIf (avBs haS0 [([], b0), ([], b1), ([], b2)] [(lo0, up0), (lo1, up1), (lo2, up2)]) (abIf true true false) false) false) false = true
  rw [e1, e2]
  rfl
