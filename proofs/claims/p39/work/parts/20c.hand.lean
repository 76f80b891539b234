/-! bounds of slots; a method by hand: its ends, its contract, calls of it -/
section HAB
variable {x : haCx} {mu : haMu} {k d pc pc' : Nat} {ls st ls' st' : List avV} {e : abEy} {F : avPo}
/-- a row's number lies in its slot's bounds -/
theorem ha_bd {j r : Nat} {i lo up : Int} (hF : haF x k d) (hj : j < 887) (hg : avRG0 j = r) (hr : (avRT.get r).1 = 100 ∨ (avRT.get r).1 = 103) (h0 : 0 ≤ i) (hn : i < ((avRT.get r).2.1 : Int)) (hs : (avRT.get r).2.2.get i.toNat = (0, lo, up)) (h : lo ≤ mu j i → mu j i ≤ up → haW x mu pc ls st) : haW x mu pc ls st := by
  obtain ⟨D, z, sb, RG, w0, p, l, ev, R, s, m, args, below, meth, c, cc, cs, Q⟩ := x
  obtain ⟨hf, hw0, hRG⟩ := hF
  intro rh H locs ws A xs hH hX hL hS
  obtain ⟨⟨tys, hK, hC, hlen⟩, -⟩ := id hH
  have hw : w0[j]? = some w0[j] := List.getElem?_eq_getElem (by omega)
  obtain ⟨en, hj'⟩ := hX.1 j w0[j].1 w0[j].2 hw
  have hcell := hC j (List.getElem?_eq_some_iff.mp hj').1
  have er : (haJ RG mu).1 j = r := by show RG.1 j = r; rw [hRG]; exact hg
  rw [er] at hcell
  have hmu : haAt ws = mu := hlen.2.1
  have hlt : i.toNat < (avRT.get r).2.1 := by clear hlen hcell hC; omega
  have key : ∀ ty : FieldType, abTyA (avRT.get r).1 = some ty → lo ≤ mu j i ∧ mu j i ≤ up := by
    intro ty hty
    obtain ⟨a', cA, f, t0, e1, e2, e3, e4⟩ := hcell.2.1 ty hty
    rw [hj'] at e1
    cases e1
    have hm := e4 _ hlt
    rw [hs] at hm
    obtain ⟨y, hy, y1, y2⟩ := hm
    cases hy
    rw [← hmu, haAt_some h0 hj']
    have ea : avAt (.inl (cA, (avRT.get r).2.1, .inl f)) i.toNat = some (.int (f i.toNat)) := if_pos hlt
    rw [ea]
    exact ⟨y1, y2⟩
  obtain ⟨k1, k2⟩ : lo ≤ mu j i ∧ mu j i ≤ up := by
    rcases hr with q | q
    · exact key .int (by rw [q]; rfl)
    · exact key .boolean (by rw [q]; rfl)
  exact h k1 k2 rh H locs ws A xs hH hX hL hS
theorem ha_bdF {j r i : Nat} {lo up : Int} (hF : haF x k d) (hj : j < 887) (hg : avRG0 j = r) (hc : (avRT.get r).1 ≤ 90) (hn : i < (avRT.get r).2.1) (hs : (avRT.get r).2.2.get i = (0, lo, up)) (h : lo ≤ mu j i → mu j i ≤ up → haW x mu pc ls st) : haW x mu pc ls st := by
  obtain ⟨D, z, sb, RG, w0, p, l, ev, R, s, m, args, below, meth, c, cc, cs, Q⟩ := x
  obtain ⟨hf, hw0, hRG⟩ := hF
  intro rh H locs ws A xs hH hX hL hS
  obtain ⟨⟨tys, hK, hC, hlen⟩, -⟩ := id hH
  have hw : w0[j]? = some w0[j] := List.getElem?_eq_getElem (by omega)
  obtain ⟨en, hj'⟩ := hX.1 j w0[j].1 w0[j].2 hw
  have hcell := hC j (List.getElem?_eq_some_iff.mp hj').1
  have er : (haJ RG mu).1 j = r := by show RG.1 j = r; rw [hRG]; exact hg
  rw [er] at hcell
  have hmu : haAt ws = mu := hlen.2.1
  obtain ⟨a', fs, y, e1, e2, e3, e4, e5⟩ := hcell.1 hc
  rw [hj'] at e1
  cases e1
  obtain ⟨xv, hxv⟩ : ∃ xv, fs[i]? = some xv := ⟨_, List.getElem?_eq_getElem (by omega)⟩
  have hm := e5 i xv hxv
  rw [hs] at hm
  obtain ⟨yy, rfl, y1, y2⟩ := hm
  have ev2 : mu j i = yy.toInt := by
    rw [← hmu, haAt_some (Int.natCast_nonneg i) hj']
    show haNm (fs[i]?) = _
    rw [hxv]
    rfl
  exact h (by rw [ev2]; exact y1) (by rw [ev2]; exact y2) rh H locs ws A xs hH hX hL hS
end HAB
/-- the ends that go to the caller -/
def haRet (x : haCx) (k : Nat) (P : Option avV → haMu → Prop) : Prop := ∀ (pc : Nat) (ls st : List avV) (mu : haMu) (o : Option avV) (e : abEy), abEtOk k e → e.2.1 = pc → avRm e st haS0 o → P o mu → haW x mu pc ls st
def haPost (D : va_G) (z sb : Nat) (RG : avRJ) (ws : va_W) (P : Option avV → haMu → Prop) : Array Value → State → Outcome → State → Prop := fun _ st oc t =>
  (∃ (u : va_W) (rv : Option Value) (o : Option avV), oc = .returned rv ∧ abX ws u ∧ avRv RG u sb avNo o rv ∧ avWd D z avRT (haJ RG (haAt u)) u t ∧ P o (haAt u)) ∧ va_F (fun q : Nat => z ≤ q) st t
/-- a contract by hand: method, depth, arguments, the world's numbers, what comes -/
def haSp (q d : Nat) (as : List avV) (mu : haMu) (P : Option avV → haMu → Prop) : Prop := ∀ (D : va_G) (z sb : Nat) (RG : avRJ) (l : Launch) (ws : va_W) (vs : List Value), RG.1 = avRG0 → haAt ws = mu → 887 ≤ ws.length → avSok RG ws sb avNo as vs → Met l (abNm q) (abWs q) (abRoom q (d + 5)) (va_Pc vs (avPre D z avRT (haJ RG mu) ws)) (haPost D z sb RG ws P) 0 0 (fun a => z ≤ a)
theorem haGv {RG RG' : avRJ} {ws : va_W} {sb : Nat} {rh : afR} {v : avV} {y : Value} (h1 : RG.1 = RG'.1) (h2 : RG.2.2 = RG'.2.2) (h : avGv RG ws sb rh v y) : avGv RG' ws sb rh v y := by
  obtain ⟨g1, J, g2⟩ := RG
  obtain ⟨g1', J', g2'⟩ := RG'
  have e1 : g1 = g1' := h1
  have e2 : g2 = g2' := h2
  subst e1; subst e2
  exact h
theorem haSo : afSo avNo haS0.1 := ⟨⟨rfl, fun x hx => absurd hx (Nat.not_lt_zero x), fun _ _ => rfl⟩, fun f hf => by cases hf⟩
theorem haRh {rh : afR} (h : afSo rh haS0.1) : rh = avNo := by
  funext x
  exact h.1.2.2 x (Nat.zero_le x)
theorem haMet {q d : Nat} (hq : q < abNM) (hm : abMok q) {as : List avV} {mu : haMu} {P : Option avV → haMu → Prop} (h5 : ∀ v ∈ as, v.1 ≤ 5) (hsm : avSm as ≤ (abMe q).1.2.2.1)
    (hrun : ∀ x : haCx, haF x q d → haRet x q P → haW x mu 0 (avEn as (abMe q).1.2.2.1) []) : haSp q d as mu P := by
  intro D z sb RG l ws vs hRG hmu hlen887 hvs
  obtain ⟨m1, m2, m3, m4, m5⟩ := hm
  refine abOfW (cc := abBy q) (maxL := (abMe q).1.2.2.1) (ret := abRtT q) m1 rfl ?_
  intro p e s m args below meth c s₁ B hml hv
  obtain ⟨rfl, ⟨⟨tys, hK, hC, hlen⟩, hP, hD⟩, hz, hNl⟩ := hv
  have hx := B.exec
  have hb := B.bytes
  have hr := B.returns
  have hts := atoms_spec (ws := abWs q) B.pre
  have hown : s.vm.findClass (abOwn q) = some m.cls := findClass_of_methodNamed B.named
  have hin : meth.name = (abNm q).name := (name_of_methodNamed B.named B.method).1
  have hFr : avFr z q d p (headSpec (abWs q) (abRoom q (d + 5))).room s m vs.toArray meth c := ⟨hx, hb, hml, hown, abTa_hts (fun w hw => hts w (List.mem_cons_of_mem _ hw)) hNl, hin, hz, Nat.le_refl _, Nat.le_refl _⟩
  obtain ⟨g1, g2, g3⟩ := avEn_ok as vs (abMe q).1.2.2.1 0 hvs h5 hsm
  have hl := lv_entry vs (n := (abMe q).1.2.2.1) g2
  rw [lg_entry_eq]
  refine hrun (D, z, sb, RG, ws, p, l, e, (headSpec (abWs q) (abRoom q (d + 5))).room, s, m, vs.toArray, below, meth, c, 0, 0, _) ⟨hFr, ⟨hlen887, Nat.zero_le _, Nat.zero_le _⟩, hRG⟩ ?_ avNo s.heap [] ws _ [] ⟨⟨tys, hK, hC, hlen⟩, hP, hD, va_S.rf, haSo, fun k hk => (by cases hk)⟩ ⟨abX.rf ws, afLe.rf avNo⟩ ?_ rfl
  · intro pc ls st mu' o en hE hpc hrm hPo rh' H locs u A xs hH hX hL hS
    have erh := haRh hH.2.2.2.2.1
    subst erh
    obtain ⟨⟨tys', hK', hC', hlen'⟩, hP', hD', hSS', hso', hkn'⟩ := hH
    have hmu' : haAt u = mu' := hlen'.2.1
    have post : ∀ (rv : Option Value) (t : State), avRv RG u sb avNo o rv → t.heap = H → s.WarmedH t.vm → haPost D z sb RG ws P vs.toArray s (.returned rv) t := by
      intro rv t hrv ht hW
      refine ⟨⟨u, rv, o, rfl, hX.1, hrv, ⟨⟨tys', va_K.moved hW.alike hK', hC', hlen'.1, rfl, hlen'.2.2.to hW (fun a h1 h2 => by rw [ht]; exact hSS'.2.1 a h1 h2)⟩, by rw [ht]; exact hP', hD'⟩, by rw [hmu']; exact hPo⟩, hSS'.F ht⟩
    obtain ⟨oo, pc', a1, a2, xx, ps⟩ := en
    have hpc' : pc' = pc := hpc
    subst hpc'
    rcases hrm with ⟨o1, rfl, rfl⟩ | ⟨o1, v, rfl, rfl, kv⟩ | ⟨o1, v, rfl, rfl, kv, kz⟩
    · have o' : oo = 82 := o1
      subst o'
      have hd := abEt_dec hE (show ¬ (82 : Nat) = 85 by decide) rfl
      have hrt := of_decide_eq_true (show decide (abRtT q = none) = true from hE.2.2)
      rw [hrt] at hr
      have hxs : xs = [] := hS
      rw [hxs]
      exact W.vret hx hb hr (fun t ht hW => post none t rfl ht hW) hSS'.2.2 hd
    · have o' : oo = 84 := o1
      subst o'
      have hd := abEt_dec hE (show ¬ (84 : Nat) = 85 by decide) rfl
      have hrt := of_decide_eq_true (show decide (abRtT q = some .long) = true from hE.2.2)
      obtain ⟨y0, xr, hxs, gv, hnil⟩ := hS
      have hxr : xr = [] := hnil
      subst hxr
      have gv0 := gv
      obtain ⟨-, y, rfl, -⟩ := avGv_l gv kv
      rw [hrt] at hr
      rw [hxs]
      exact W.lret hx hb hr (fun t ht hW => post (some (.long y)) t ⟨_, rfl, haGv rfl rfl gv0⟩ ht hW) hSS'.2.2 hd
    · have o' : oo = 83 := o1
      subst o'
      have hd := abEt_dec hE (show ¬ (83 : Nat) = 85 by decide) rfl
      obtain ⟨y0, xr, hxs, gv, hnil⟩ := hS
      have hxr : xr = [] := hnil
      subst hxr
      have gv0 := gv
      obtain ⟨dv, y, rfl, ev⟩ := avGv_i gv kv
      have hsmk : (if a1 = 1 then decide (abRtT q = some .boolean) else decide (abRtT q = some .int)) = true := hE.2.2
      rw [hxs]
      by_cases h1 : a1 = 1
      · rw [if_pos h1] at hsmk
        have hrt := of_decide_eq_true hsmk
        rw [hrt] at hr
        obtain ⟨b1, b2⟩ := kz h1
        have b1 := avGe_ok hso' dv b1
        have b2 := avGe_ok hso' (afSub_D (f := ([], 1)) (afNil_D avNo) dv) b2
        rw [afSub_V, afK_V] at b2
        have n1 : narrow FieldType.boolean (Value.int y) = Value.int y := by
          rcases ab01 (y := y) (by clear hlen hlen'; omega) (by clear hlen hlen'; omega) with e | e
          · rw [e]; rfl
          · rw [e]; rfl
        exact W.zret (ty := .boolean) hx hb hr n1 (fun t ht hW => post (some (.int y)) t ⟨_, rfl, haGv rfl rfl gv0⟩ ht hW) hSS'.2.2 hd
      · rw [if_neg h1] at hsmk
        have hrt := of_decide_eq_true hsmk
        rw [hrt] at hr
        exact W.iret hx hb hr (fun t ht hW => post (some (.int y)) t ⟨_, rfl, haGv rfl rfl gv0⟩ ht hW) hSS'.2.2 hd
  · rw [hml]
    refine ⟨g1, _, hl, fun i v hi hv => ?_⟩
    obtain ⟨y, z1, z2⟩ := g3 i v hi hv
    rw [Nat.zero_add] at z1
    exact ⟨y, z1, haGv rfl rfl z2⟩
