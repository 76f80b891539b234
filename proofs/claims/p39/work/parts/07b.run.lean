/-- behind a call, whatever it gives -/
theorem abCallx {p : Program} {l : Launch} {ev : Env} {R : Room} {s : State} {m : MethodId} {args : Array Value} {below : List Frame} {meth : Method} {c : Code} {H : Heap} {locs : List Loc} {cells slots mc ms pc : Nat} {A : Array Slot} {st0 rest : List Value} {Q : State → Prop} {Qa : State → Outcome → State → Prop} {free : Addr → Prop} (hr : va_Run p l ev R s m args below meth c H locs cells slots mc ms (F0 m pc A st0) rest Qa free) (kk : ∀ (v : Option Value) (s0 t : State) (L : List Loc), s0.heap = H → s.vm.Alike t.vm → (∀ q ∈ L, free q.base) → Qa s0 (.returned v) t → W p l ev R s m args below meth c t.heap (locs ++ L) (cells + mc) (slots + ms) Q (F0 m (pc + 3) A (v.toList ++ rest))) : W p l ev R s m args below meth c H locs cells slots Q (F0 m pc A st0) := by
  intro T hT X
  obtain ⟨v, s0, t, T', L, h0, X', hL, e1, e2, hq, st⟩ := hr T hT X
  obtain ⟨t2, a1, b1⟩ := kk v s0 t L h0 (by rw [← e2]; exact X'.warmed.alike) hL hq T' e1 X'
  exact ⟨t2, st t2 a1, b1⟩
/-- a method's contract out of a walk through it, where no entry runs in its place -/
theorem abOfW {l : Launch} {y : MethodName} {ws ws' : List Cond} {rm : Room} {Pc : Array Value → State → Prop} {Qc : Array Value → State → Outcome → State → Prop} {mc ms : Nat} {free : Addr → Prop} {cc : ByteArray} {maxL : Nat} {ret : Option FieldType}
    (hy : plainFor y = true) (hw : ws = Cond.code y cc maxL ret :: ws')
    (body : ∀ p e s m args below meth c s₁, BodyLoose p l y (headSpec ws rm) cc maxL ret e s m args below meth c s₁ → c.maxLocals = maxL → Pc args s →
      W p l e (headSpec ws rm).room s m args below meth c s.heap [] 0 0 (MQ below Qc args s mc ms free) (entryFrame m args maxL)) : Met l y ws rm Pc Qc mc ms free := by
  refine Jvm.Free.MetFree.of_bodySF (code := cc) (maxLocals := maxL) (ret := ret) hy ?_ ?_
  · intro args s m h hn
    obtain ⟨meth, c, h1, h2, h3, h4, h5, h6, -, -⟩ := Cond.code_spec hn (atoms_spec (ws := ws) h _ (by rw [hw]; exact List.mem_cons_self))
    exact ⟨meth, c, h1, h2, h3, h4, h5, h6⟩
  · intro p e s m args below meth c s₁ B hml hP _
    have hh0 : s₁.heap = s.heap := by rw [B.state]; rfl
    obtain ⟨t, a1, o, b1, b2, b3⟩ := body p e s m args below meth c s₁ B hml hP s₁ hh0 (Stand.of_body B)
    exact ⟨t, o, a1, b1, b2, ⟨b3.1, b3.2⟩⟩
/-- the world at a call, and behind it -/
def abPre (D : va_G) (z sb sl : Nat) (rh : Nat → Int) (ws : va_W) (h : abH) (U : State) : Prop := (∃ tys, va_K D abCls tys U ∧ ∀ j : Nat, j < 4096 → abCs tys ws sb sl rh ws[j]? (h.get j)) ∧ va_P D abCls ws U.heap ∧ va_D (fun q : Nat => z ≤ q) ws ∧ z ≤ U.heap.size ∧ abNsw U
def abPost (D : va_G) (z sb sl : Nat) (rh : Nat → Int) (ws : va_W) (exs : List abF) : Array Value → State → Outcome → State → Prop := fun _ st oc t =>
  (∃ ex ∈ exs, ∃ (rv : Option Value) (u : va_W), oc = .returned rv ∧ abSok u sb sl rh ex.2.2.1 rv.toList ∧ abX ws u ∧ (∃ tys, va_K D abCls tys t ∧ ∀ j : Nat, j < 4096 → abCs tys u sb sl rh u[j]? (ex.2.2.2.1.get j)) ∧ va_P D abCls u t.heap ∧ va_D (fun q : Nat => z ≤ q) u ∧ u.length = ex.2.2.2.2.1 ∧ ex.2.2.2.2.1 ≤ 4096 ∧ abWf 12 0 ex.2.2.2.1 ∧ abEok rh ex.2.2.2.2.2.1) ∧ va_F (fun q : Nat => z ≤ q) st t
theorem abMet {D : va_G} {z sb sl : Nat} {rh : Nat → Int} {xs0 : Nat → Int32} (hT : abTabs) {n : Nat} (IH : abRuns D z sb sl rh xs0 n) (l : Launch) {q d : Nat} (hq : q < abNM) {as : List abV} {vs : List Value} {ws : va_W} {h : abH} {nn : Nat} {env : abE} {exs : List abF} (hrun : abRun n d q (abMe q).2.2.2.2.2 0 (abEn as (abMe q).1.2.2.1) [] (h, nn, env, 0, 0) = some exs) (hvs : abSok ws sb sl rh as vs) (h7 : ∀ v ∈ as, v.1 ≤ 7) (hsm : abSm as ≤ (abMe q).1.2.2.1) (hlen : ws.length = nn) (hnn : nn ≤ 4096) (hwf : abWf 12 0 h) (he : abEok rh env) (hroom : ∀ x ∈ exs, x.2.2.2.2.2.2.1 ≤ (abMe q).2.2.1 ∧ x.2.2.2.2.2.2.2 ≤ (abMe q).2.2.2.1) : Met l (abNm q) (abWs q) (abRoom q d) (va_Pc vs (abPre D z sb sl rh ws h)) (abPost D z sb sl rh ws exs) (abMe q).2.2.1 (abMe q).2.2.2.1 (fun a => z ≤ a) := by
  obtain ⟨t1, t2, t3⟩ := hT
  obtain ⟨m1, m2, m3, m4, m5⟩ := t1 q hq
  refine abOfW (cc := abBy q) (maxL := (abMe q).1.2.2.1) (ret := abRtT q) m1 rfl ?_
  intro p e s m args below meth c s₁ B hml hv
  obtain ⟨rfl, ⟨tys, hK, hC⟩, hP, hD, hz, hNl⟩ := hv
  have hx := B.exec
  have hb := B.bytes
  have hr := B.returns
  have hts := atoms_spec (ws := abWs q) B.pre
  have hown : s.vm.findClass (abOwn q) = some m.cls := findClass_of_methodNamed B.named
  have hlocks := B.notSynchronized
  have hin : meth.name = (abNm q).name := (name_of_methodNamed B.named B.method).1
  have hFr : abFr z sb sl rh xs0 q d p (headSpec (abWs q) (abRoom q d)).room s m vs.toArray meth c := ⟨hx, hb, hml, hown, abTa_hts (fun w hw => hts w (List.mem_cons_of_mem _ hw)) hNl, hin, hz, Nat.le_refl _, Nat.le_refl _, Nat.le_refl _, Nat.le_refl _, fun hk => absurd hq (by omega)⟩
  obtain ⟨g1, g2, g3⟩ := abEn_ok as vs (abMe q).1.2.2.1 0 hvs h7 hsm
  have hl := lv_entry vs (n := (abMe q).1.2.2.1) g2
  rw [lg_entry_eq]
  have hLok : abLok ws sb sl rh (abEn as (abMe q).1.2.2.1) c.maxLocals ((lg_sl vs ++ List.replicate ((abMe q).1.2.2.1 - (lg_sl vs).length) Slot.unset).toArray) := by
    rw [hml]
    refine ⟨g1, _, hl, fun i v hi hv => ?_⟩
    obtain ⟨x, z1, z2⟩ := g3 i v hi hv
    rw [Nat.zero_add] at z1
    exact ⟨x, z1, z2⟩
  refine IH ws p l e _ s m vs.toArray below meth c _ q d 0 _ [] (h, nn, env, 0, 0) exs hFr (by omega) hrun ?_ s.heap [] ws _ [] ⟨⟨tys, hK, hC⟩, hP, hD, va_S.rf, hlen, hnn, hwf, he⟩ (abX.rf ws) hLok rfl
  intro x hxm hxp H locs u A xs hH hX hL hS
  obtain ⟨x1, x2, x3, x4⟩ := hxp
  obtain ⟨r1, r2⟩ := hroom x hxm
  obtain ⟨hE, hop⟩ := t3 q x.1 (by omega) x1
  obtain ⟨⟨tys', hK', hC'⟩, hP', hD', hSS', hn', h4', hwf', he'⟩ := hH
  refine W.widen r1 r2 ?_
  have post : ∀ (rv : Option Value) (t : State), xs = rv.toList → t.heap = H → s.WarmedH t.vm → abPost D z sb sl rh ws exs vs.toArray s (.returned rv) t := by
    intro rv t hxs ht hW
    refine ⟨⟨x, hxm, rv, u, rfl, by rw [← hxs]; exact hS, hX, ⟨tys', va_K.moved hW.alike hK', hC'⟩, by rw [ht]; exact hP', hD', hn', h4', hwf', he'⟩, hSS'.F ht⟩
  rcases (show ((abMe q).2.2.2.2.2.get x.1).1 = 82 ∨ ((abMe q).2.2.2.2.2.get x.1).1 = 83 ∨ ((abMe q).2.2.2.2.2.get x.1).1 = 84 ∨ ((abMe q).2.2.2.2.2.get x.1).1 = 85 by omega) with o | o | o | o
  · -- return
    generalize (abMe q).2.2.2.2.2.get x.1 = en at hE x1 x4 o
    obtain ⟨oo, pc', a1, a2, xx, ps⟩ := en
    have o' : oo = 82 := o
    subst o'
    have hpc : pc' = x.1 := x1
    subst hpc
    have hd := abEt_dec hE (show ¬ (82 : Nat) = 85 by decide) rfl
    have hrt := of_decide_eq_true (show decide (abRtT q = none) = true from hE.2.2)
    rw [hrt] at hr
    have x4' : (List.rec (some [(x.1, x.2.1, x.2.2.1, x.2.2.2)]) (fun _ _ _ => none) x.2.2.1 : abR) = some [x] := x4
    cases hst : x.2.2.1 with
    | cons v s' => rw [hst] at x4'; cases x4'
    | nil =>
      rw [hst] at hS
      have hxs : xs = [] := hS
      rw [hxs]
      exact W.vret hx hb hr (fun t ht hW => post none t hxs ht hW) hSS'.2.2 hd
  · -- ireturn
    generalize (abMe q).2.2.2.2.2.get x.1 = en at hE x1 x4 o
    obtain ⟨oo, pc', a1, a2, xx, ps⟩ := en
    have o' : oo = 83 := o
    subst o'
    have hpc : pc' = x.1 := x1
    subst hpc
    have hd := abEt_dec hE (show ¬ (83 : Nat) = 85 by decide) rfl
    obtain ⟨v, s', hst, h1⟩ := abHd_some (show abHd x.2.2.1 (fun v r => List.rec (abIf (Nat.beq 83 84) (abFtl x.2.2.2.2.2.1 v (some [(x.1, x.2.1, x.2.2.1, x.2.2.2)])) (abIf (Nat.beq a1 1) (abFtz x.2.2.2.2.2.1 v (some [(x.1, x.2.1, x.2.2.1, x.2.2.2)])) (abFti x.2.2.2.2.2.1 v (some [(x.1, x.2.1, x.2.2.1, x.2.2.2)])))) (fun _ _ _ => none) r) = some [x] from x4)
    cases s' with
    | cons a b => cases h1
    | nil =>
      have h2 : abIf (Nat.beq a1 1) (abFtz x.2.2.2.2.2.1 v (some [(x.1, x.2.1, x.2.2.1, x.2.2.2)])) (abFti x.2.2.2.2.2.1 v (some [(x.1, x.2.1, x.2.2.1, x.2.2.2)])) = some [x] := h1
      have hsmk : (if a1 = 1 then decide (abRtT q = some .boolean) else decide (abRtT q = some .int)) = true := hE.2.2
      rw [hst] at hS
      obtain ⟨y0, xr, hxs, gv, hnil⟩ := hS
      have hxr : xr = [] := hnil
      subst hxr
      cases q1 : Nat.beq a1 1 with
      | true =>
        rw [abIf_t q1] at h2
        rw [if_pos (abBeq q1)] at hsmk
        have hrt := of_decide_eq_true hsmk
        obtain ⟨-, n1, n2⟩ := abFtz_ok u sb sl rh _ v _ _ y0 .boolean h2 he' gv rfl
        obtain ⟨-, -, y, -, rfl, -, -, -, -⟩ := abWi0 h2 he' gv
        rw [hrt] at hr
        rw [hxs]
        exact W.zret (ty := .boolean) hx hb hr n1 (fun t ht hW => post (some (.int y)) t hxs ht hW) hSS'.2.2 hd
      | false =>
        rw [abIf_f q1] at h2
        rw [if_neg (abBeq_f q1)] at hsmk
        have hrt := of_decide_eq_true hsmk
        obtain ⟨y, rfl⟩ := abG_i gv (by have := abBle (abIf_some h2).1; omega)
        rw [hrt] at hr
        rw [hxs]
        exact W.iret hx hb hr (fun t ht hW => post (some (.int y)) t hxs ht hW) hSS'.2.2 hd
  · -- lreturn
    generalize (abMe q).2.2.2.2.2.get x.1 = en at hE x1 x4 o
    obtain ⟨oo, pc', a1, a2, xx, ps⟩ := en
    have o' : oo = 84 := o
    subst o'
    have hpc : pc' = x.1 := x1
    subst hpc
    have hd := abEt_dec hE (show ¬ (84 : Nat) = 85 by decide) rfl
    have hrt := of_decide_eq_true (show decide (abRtT q = some .long) = true from hE.2.2)
    obtain ⟨v, s', hst, h1⟩ := abHd_some (show abHd x.2.2.1 (fun v r => List.rec (abIf (Nat.beq 84 84) (abFtl x.2.2.2.2.2.1 v (some [(x.1, x.2.1, x.2.2.1, x.2.2.2)])) (abIf (Nat.beq a1 1) (abFtz x.2.2.2.2.2.1 v (some [(x.1, x.2.1, x.2.2.1, x.2.2.2)])) (abFti x.2.2.2.2.2.1 v (some [(x.1, x.2.1, x.2.2.1, x.2.2.2)])))) (fun _ _ _ => none) r) = some [x] from x4)
    cases s' with
    | cons a b => cases h1
    | nil =>
      have h2 : abFtl x.2.2.2.2.2.1 v (some [(x.1, x.2.1, x.2.2.1, x.2.2.2)]) = some [x] := h1
      rw [hst] at hS
      obtain ⟨y0, xr, hxs, gv, hnil⟩ := hS
      have hxr : xr = [] := hnil
      subst hxr
      obtain ⟨y, rfl⟩ := abG_l gv (by have := abDiv (abIf_some h2).1; omega)
      rw [hrt] at hr
      rw [hxs]
      exact W.lret hx hb hr (fun t ht hW => post (some (.long y)) t hxs ht hW) hSS'.2.2 hd
  · -- a stop is in the law alone
    have hk : abSmk q ((abMe q).2.2.2.2.2.get x.1) = true := hE.2.2
    generalize (abMe q).2.2.2.2.2.get x.1 = en at hk o
    obtain ⟨oo, pc', a1, a2, xx, ps⟩ := en
    have o' : oo = 85 := o
    subst o'
    have := of_decide_eq_true (show decide (abNM ≤ q) = true from hk)
    omega
