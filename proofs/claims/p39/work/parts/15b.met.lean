/-! a method's contract out of a run of it -/
def avWd (D : va_G) (z : Nat) (RT : Lean.RArray avRg) (RG : avRJ) (ws : va_W) (U : State) : Prop := (∃ tys : List (ClassId × FieldType), va_K D abCls tys U ∧ (∀ j : Nat, j < ws.length → avCs1 tys RG ws ws[j]? (RT.get (RG.1 j))) ∧ ws.length ≤ 4096 ∧ RG.2.1 ws ∧ avStr RG z U) ∧ va_P D abCls ws U.heap ∧ va_D (fun q : Nat => z ≤ q) ws
def avPre (D : va_G) (z : Nat) (RT : Lean.RArray avRg) (RG : avRJ) (ws : va_W) (U : State) : Prop := avWd D z RT RG ws U ∧ z ≤ U.heap.size ∧ abNsw U
def avRv (RG : avRJ) (u : va_W) (sb : Nat) (rh : afR) (o : Option avV) (rv : Option Value) : Prop := match o with
  | none => rv = none
  | some v => ∃ x, rv = some x ∧ avGv RG u sb rh v x
/-- behind the call: some end that K goes on from -/
def avPost (D : va_G) (z sb : Nat) (RT : Lean.RArray avRg) (RG : avRJ) (rh : afR) (ws : va_W) (K : Option avV → avS → Bool) : Array Value → State → Outcome → State → Prop := fun _ st oc t =>
  (∃ (rh' : afR) (o : Option avV) (q' : avS) (u : va_W) (rv : Option Value), oc = .returned rv ∧ K o q' = true ∧ afLe rh rh' ∧ abX ws u ∧ avRv RG u sb rh' o rv ∧ avWd D z RT RG u t ∧ afSo rh' q'.1 ∧ ∀ k ∈ q'.2, avKn RG u sb rh' k) ∧ va_F (fun q : Nat => z ≤ q) st t
theorem avMet {D : va_G} {z sb : Nat} {RT : Lean.RArray avRg} {RG : avRJ} {TT : Nat → Lean.RArray abEy} {q d : Nat} (hq : q < abNM) (hm : abMok q) (hc0 : (abMe q).2.2.1 = 0 ∧ (abMe q).2.2.2.1 = 0) {as : List avV} {vs : List Value} {ws : va_W} {rh r0 : afR} (hr0 : afLe r0 rh) {s0 : avS} {K : Option avV → avS → Bool} (l : Launch)
    (hrun : ∀ (p : Program) (ev : Env) (R : Room) (s : State) (m : MethodId) (args : Array Value) (below : List Frame) (meth : Method) (c : Code) (Q : State → Prop), avFr z q d p R s m args meth c → avKo D z sb RT RG TT ws r0 p l ev R s m args below meth c 0 0 Q q K → avW D z sb RT RG ws r0 p l ev R s m args below meth c 0 0 Q 0 (avEn as (abMe q).1.2.2.1) [] s0)
    (hvs : avSok RG ws sb rh as vs) (h5 : ∀ v ∈ as, v.1 ≤ 5) (hsm : avSm as ≤ (abMe q).1.2.2.1) (hso : afSo rh s0.1) (hkn : ∀ k ∈ s0.2, avKn RG ws sb rh k) : Met l (abNm q) (abWs q) (abRoom q (d + 5)) (va_Pc vs (avPre D z RT RG ws)) (avPost D z sb RT RG r0 ws K) 0 0 (fun a => z ≤ a) := by
  obtain ⟨m1, m2, m3, m4, m5⟩ := hm
  refine abOfW (cc := abBy q) (maxL := (abMe q).1.2.2.1) (ret := abRtT q) m1 rfl ?_
  intro p e s m args below meth c s₁ B hml hv
  obtain ⟨rfl, ⟨⟨tys, hK, hC, hlen⟩, hP, hD⟩, hz, hNl⟩ := hv
  have hx := B.exec
  have hb := B.bytes
  have hr := B.returns
  have hts := atoms_spec (ws := abWs q) B.pre
  have hown : s.vm.findClass (abOwn q) = some m.cls := findClass_of_methodNamed B.named
  have hlocks := B.notSynchronized
  have hin : meth.name = (abNm q).name := (name_of_methodNamed B.named B.method).1
  have hFr : avFr z q d p (headSpec (abWs q) (abRoom q (d + 5))).room s m vs.toArray meth c := ⟨hx, hb, hml, hown, abTa_hts (fun w hw => hts w (List.mem_cons_of_mem _ hw)) hNl, hin, hz, Nat.le_refl _, Nat.le_refl _⟩
  obtain ⟨g1, g2, g3⟩ := avEn_ok as vs (abMe q).1.2.2.1 0 hvs h5 hsm
  have hl := lv_entry vs (n := (abMe q).1.2.2.1) g2
  rw [lg_entry_eq]
  have hLok : avLok RG ws sb rh (avEn as (abMe q).1.2.2.1) c.maxLocals ((lg_sl vs ++ List.replicate ((abMe q).1.2.2.1 - (lg_sl vs).length) Slot.unset).toArray) := by
    rw [hml]
    refine ⟨g1, _, hl, fun i v hi hv => ?_⟩
    obtain ⟨x, z1, z2⟩ := g3 i v hi hv
    rw [Nat.zero_add] at z1
    exact ⟨x, z1, z2⟩
  refine hrun p e _ s m vs.toArray below meth c _ hFr ?_ rh s.heap [] ws _ [] ⟨⟨tys, hK, hC, hlen⟩, hP, hD, va_S.rf, hso, hkn⟩ ⟨abX.rf ws, hr0⟩ hLok rfl
  intro pc ls st q' o hpc hE hrm hKq rh' H locs u A xs hH hX hL hS
  obtain ⟨⟨tys', hK', hC', hlen'⟩, hP', hD', hSS', hso', hkn'⟩ := hH
  have post : ∀ (rv : Option Value) (t : State), avRv RG u sb rh' o rv → t.heap = H → s.WarmedH t.vm → avPost D z sb RT RG r0 ws K vs.toArray s (.returned rv) t := by
    intro rv t hrv ht hW
    exact ⟨⟨rh', o, q', u, rv, rfl, hKq, hX.2, hX.1, hrv, ⟨⟨tys', va_K.moved hW.alike hK', hC', hlen'.1, hlen'.2.1, hlen'.2.2.to hW (fun a h1 h2 => by rw [ht]; exact hSS'.2.1 a h1 h2)⟩, by rw [ht]; exact hP', hD'⟩, hso', hkn'⟩, hSS'.F ht⟩
  generalize (TT q).get pc = en at hpc hE hrm
  obtain ⟨oo, pc', a1, a2, xx, ps⟩ := en
  have hpc' : pc' = pc := hpc
  subst hpc'
  rcases hrm with ⟨o1, rfl, rfl⟩ | ⟨o1, v, rfl, rfl, kv⟩ | ⟨o1, v, rfl, rfl, kv, kz⟩
  · have o' : oo = 82 := o1
    subst o'
    have hd := abEt_dec hE (show ¬ (82 : Nat) = 85 by decide) rfl
    have hrt := of_decide_eq_true (show decide (abRtT q = none) = true from hE.2.2)
    rw [hrt] at hr
    have hxs : xs = [] := hS
    rw [hxs]
    exact W.vret hx hb hr (fun t ht hW => post none t rfl ht hW) hSS'.2.2 hd
  · have o' : oo = 84 := o1
    subst o'
    have hd := abEt_dec hE (show ¬ (84 : Nat) = 85 by decide) rfl
    have hrt := of_decide_eq_true (show decide (abRtT q = some .long) = true from hE.2.2)
    obtain ⟨y0, xr, hxs, gv, hnil⟩ := hS
    have hxr : xr = [] := hnil
    subst hxr
    obtain ⟨-, y, rfl, -⟩ := avGv_l gv kv
    rw [hrt] at hr
    rw [hxs]
    exact W.lret hx hb hr (fun t ht hW => post (some (.long y)) t ⟨_, rfl, gv⟩ ht hW) hSS'.2.2 hd
  · have o' : oo = 83 := o1
    subst o'
    have hd := abEt_dec hE (show ¬ (83 : Nat) = 85 by decide) rfl
    obtain ⟨y0, xr, hxs, gv, hnil⟩ := hS
    have hxr : xr = [] := hnil
    subst hxr
    obtain ⟨dv, y, rfl, ev⟩ := avGv_i gv kv
    have hsmk : (if a1 = 1 then decide (abRtT q = some .boolean) else decide (abRtT q = some .int)) = true := hE.2.2
    rw [hxs]
    by_cases h1 : a1 = 1
    · rw [if_pos h1] at hsmk
      have hrt := of_decide_eq_true hsmk
      rw [hrt] at hr
      obtain ⟨b1, b2⟩ := kz h1
      have b1 := avGe_ok hso' dv b1
      have b2 := avGe_ok hso' (afSub_D (f := ([], 1)) (afNil_D rh') dv) b2
      rw [afSub_V, afK_V] at b2
      have n1 : narrow FieldType.boolean (Value.int y) = Value.int y := by
        rcases ab01 (y := y) (by omega) (by omega) with e | e
        · rw [e]; rfl
        · rw [e]; rfl
      exact W.zret (ty := .boolean) hx hb hr n1 (fun t ht hW => post (some (.int y)) t ⟨_, rfl, gv⟩ ht hW) hSS'.2.2 hd
    · rw [if_neg h1] at hsmk
      have hrt := of_decide_eq_true hsmk
      rw [hrt] at hr
      exact W.iret hx hb hr (fun t ht hW => post (some (.int y)) t ⟨_, rfl, gv⟩ ht hW) hSS'.2.2 hd
