/-! THE CLAIM OUT OF ONE WALK OF THE LAW'S BODY. Your part is whole_start (and what it stands on); all else here is the same for every law, but numbers. -/
def R_law : String := "TallBinsLaw"
def lw_P (b : Addr) (xs : List Int32) (args : Array Value) (s : State) : Prop := args = #[.ref b] ∧ s.IntsAt b xs ∧ xs.length ≤ 7 ∧ (Jvm.Cond.and given_1 narrow_1).before args s = true
def lw_Q (_ : Array Value) (s : State) (o : Outcome) (t : State) : Prop := o = .returned (some (.int 1)) ∧ Framed s o t [] 600000 7302249
def lw_Z (below : List Frame) (a : Array Value) (s : State) : State → Prop := fun t => ∃ o, t.status = .running ∧ Ended t below o ∧ lw_Q a s o t
/-- the law's own end, with 1 on the stack, nothing written that was there before, its room as the claim has it -/
theorem lw_ret {p : Program} {l : Launch} {e : Env} {s : State} {m : MethodId} {below : List Frame} {meth : Method} {c : Code} {b : Nat} (hx : p.tables.exec = Jvm.exec) (hb : c.code = code) (hr : meth.sig.returnType = ret) (hlocks : meth.locks = false) {pc : Nat} {H : Heap} {ls : Array Slot} (hdg : decode code pc = .ok (.ireturn, 1)) : W p l e room_1 s m #[Value.ref b] below meth c H [] 600000 7302249 (lw_Z below #[Value.ref b] s) (F0 m pc ls [.int 1]) := by
  intro T hT X
  obtain ⟨fs, hret, hrun, hended, hW, hframe⟩ := X.leave (v := some (.int 1)) (hlocks := hlocks) (fun h => by rw [hr] at h; cases h)
  have hmeth' : T.vm.method? m = some meth := X.method'
  refine ⟨T.setFrames fs, ?_, .returned (some (.int 1)), hrun, hended, rfl, ⟨_, rfl⟩, hW, hframe⟩
  jvm_step X.here [X.here.top, hx, hb, hdg, hmeth', hr, ret, narrow_b1]
  (try refine ⟨rfl, ?_⟩); (try refine ⟨rfl, ?_⟩)
  first | (intro acts; rw [hret _ acts rfl rfl rfl]) | rw [hret _ _ rfl rfl rfl]
  exact Steps.refl _
/-- what holds at the law's entry: the machine, the code, the tables' words (any of lw_tbl by 'hts w (by decide +kernel)'), the script of L ints xs at the cell b, what the Statement gives of the start (any of its parts by flat_of_before) -/
def lw_At (p : Program) (s : State) (m : MethodId) (meth : Method) (c : Code) (b L : Nat) (xs : Nat → Int32) : Prop :=
  p.tables.exec = Jvm.exec ∧ c.code = code ∧ meth.sig.returnType = ret ∧ c.maxLocals = 4 ∧ s.vm.findClass R_law = some m.cls ∧ (∀ w ∈ lw_tbl, w.before #[Value.ref b] s = true) ∧ va_X b L xs s s.heap ∧ b < s.heap.size ∧ meth.locks = false ∧ (Jvm.Cond.and given_1 narrow_1).before #[Value.ref b] s = true
theorem abLast {D : va_G} {z sb sl : Nat} {rh : Nat → Int} {w0 : va_W} {p : Program} {l : Launch} {ev : Env} {s : State} {m : MethodId} {below : List Frame} {meth : Method} {c : Code} {k : Nat} (hk : k < abNM + 3) (hx : p.tables.exec = Jvm.exec) (hb : c.code = code) (hby : abBy k = code) (hr : meth.sig.returnType = ret) (hlocks : meth.locks = false) {x : abF} (hxp : abXp (abMe k).2.2.2.2.2 x) (he : abEnd k x = true) (hz : s.heap.size ≤ z) : abW D z sb sl rh w0 p l ev room_1 s m #[Value.ref sb] below meth c (lw_Z below #[Value.ref sb] s) x.1 x.2.1 x.2.2.1 x.2.2.2 := by
  intro H locs u A xs hH hX hL hS
  obtain ⟨x1, x2, x3, x4⟩ := hxp
  obtain ⟨hE, hop⟩ := abTabsOk.2.2 k x.1 hk x1
  obtain ⟨e1, e2⟩ := abIf_and he
  obtain ⟨e3, e4⟩ := abIf_and e2
  obtain ⟨e5, e6⟩ := abIf_and e4
  have hst := abQl_ok abQv_ok _ _ e3
  have o := abBeq e1
  have hSS := hH.2.2.2.1
  refine W.widen (abBle e5) (abBle e6) ?_
  refine va_forget (fun q hq => Nat.le_trans hz (hSS.2.2 q hq)) ?_
  rw [hst] at hS
  obtain ⟨y0, xr, hxs, gv, hnil⟩ := hS
  have hxr : xr = [] := hnil
  obtain ⟨y, hy, h1, h2⟩ : ∃ y : Int32, y0 = .int y ∧ ((9223372036854775809 : Nat) : Int) ≤ y.toInt + abB ∧ y.toInt + abB ≤ ((9223372036854775809 : Nat) : Int) := gv
  have hy1 : y = 1 := Int32.toInt_inj.mp (by
    have h3 : y.toInt = 1 := by
      have : abB = 9223372036854775808 := rfl
      omega
    rw [h3]
    rfl)
  subst hxr
  rw [hxs, hy, hy1]
  generalize (abMe k).2.2.2.2.2.get x.1 = en at hE x1 o
  obtain ⟨oo, pc', a1, a2, xx, ps⟩ := en
  have o' : oo = 83 := o
  subst o'
  have hpc : pc' = x.1 := x1
  subst hpc
  have hd := abEt_dec hE (show ¬ (83 : Nat) = 85 by decide) rfl
  rw [hby] at hd
  exact lw_ret hx hb hr hlocks hd
theorem abNl_in : ∀ q ∈ abNl, Jvm.Cond.methodLinkNest q.1 q.2.1 q.2.2 "TallBins" ∈ lw_tbl := by decide +kernel
theorem abAo_in : ∀ C ∈ abAo, Jvm.Cond.arrayOver (.object C) ∈ lw_tbl := by decide +kernel
theorem abInst_in : ∀ (k : Nat) (q : vw_C), abCls[k]? = some q → Jvm.Cond.instantiable q.1 q.2.2 ∈ lw_tbl := by
  have h : ∀ q ∈ abCls, Jvm.Cond.instantiable q.1 q.2.2 ∈ lw_tbl := by decide +kernel
  exact fun k q hq => h q (List.mem_of_getElem? hq)
theorem abBy276 : abBy 276 = code := rfl
theorem abBy277 : abBy 277 = code := rfl
theorem abBy278 : abBy 278 = code := rfl
theorem abFull_ok (xs : Nat → Int32) : abEok (fun j => (xs j).toInt) abFull := by
  intro k q h
  have hq : q = (9223372034707292160, 9223372039002259455) := by
    have := List.mem_of_getElem? h
    simpa [abFull] using this
  have h1 := Int32.le_toInt (xs k)
  have h2 := Int32.toInt_lt (xs k)
  subst hq
  have h3 : abB = 9223372036854775808 := rfl
  constructor
  · show ((9223372034707292160 : Nat) : Int) ≤ (xs k).toInt + abB
    omega
  · show (xs k).toInt + abB ≤ ((9223372039002259455 : Nat) : Int)
    omega
theorem abFrL {p : Program} {s : State} {m : MethodId} {meth : Method} {c : Code} {b L : Nat} {xs : Nat → Int32} (hL : L ≤ 7) (C0 : lw_At p s m meth c b L xs) (hnm : meth.name = "law") {k : Nat} (hby : abBy k = code) (hown0 : abOwn k = "TallBinsLaw") (hnm0 : (abNm k).name = "law") (hml0 : (abMe k).1.2.2.1 = 4) (hmc : (abMe k).2.2.1 = 600000) (hms : (abMe k).2.2.2.1 = 7302249) : abFr s.heap.size b L (fun j => (xs j).toInt) xs k 40 p room_1 s m #[Value.ref b] meth c := by
  obtain ⟨hx, hb, hr, hml, hown, hts, hX, hbl, hlocks, hgv⟩ := C0
  refine ⟨hx, hb.trans hby.symm, hml.trans hml0.symm, ?_, fun w hw => ?_, hnm.trans hnm0.symm, Nat.le_refl _, ?_, ?_, by decide, by decide, fun _ => ⟨hX, hbl, by omega, fun _ => rfl⟩⟩
  · rw [hown0]; exact hown
  · exact abTa_hts (fun w h => hts w (List.mem_filter.mp h).1) ⟨fun q hq => va_Nw.of rfl (hts _ (abNl_in q hq)), fun C hC => va_AO.of (hts _ (abAo_in C hC))⟩ w hw
  · rw [hmc]; exact Nat.le_refl _
  · rw [hms]; exact Nat.le_refl _
/-- bounds of the arguments that hold may take the place of others -/
theorem abW_env {D : va_G} {z sb sl : Nat} {rh : Nat → Int} {w0 : va_W} {p : Program} {l : Launch} {ev : Env} {R : Room} {s : State} {m : MethodId} {args : Array Value} {below : List Frame} {meth : Method} {c : Code} {Q : State → Prop} {pc : Nat} {ls st : List abV} {g : abSt} {env : abE} (he : abEok rh env) (h : abW D z sb sl rh w0 p l ev R s m args below meth c Q pc ls st (abSe g env)) : abW D z sb sl rh w0 p l ev R s m args below meth c Q pc ls st g := by
  intro H locs ws A xs hH hX hL hS
  obtain ⟨h1, h2, h3, h4, h5, h6, h7, h8⟩ := hH
  exact h H locs ws A xs ⟨h1, h2, h3, h4, h5, h6, h7, he⟩ hX hL hS
/-- from the entry, for every script of at most 7 ints, the law comes to its end with true -/
theorem whole_start {p : Program} {e : Env} {s : State} {m : MethodId} {below : List Frame} {meth : Method} {c : Code} (l : Launch) (hflags : l.flags = flags0) {b L : Nat} {xs : Nat → Int32} (hL : L ≤ 7) (C0 : lw_At p s m meth c b L xs) (hnm : meth.name = "law") : W p l e room_1 s m #[Value.ref b] below meth c s.heap [] 0 0 (lw_Z below #[Value.ref b] s) (entryFrame m ([Value.ref b] : List Value).toArray 4) := by
  obtain ⟨hx, hb, hr, hml, hown, hts, hX, hbl, hlocks, hgv⟩ := id C0
  have hta : ∀ w ∈ abTw, w.before #[Value.ref b] s = true := abTa_hts (fun w h => hts w (List.mem_filter.mp h).1) ⟨fun q hq => va_Nw.of rfl (hts _ (abNl_in q hq)), fun C hC => va_AO.of (hts _ (abAo_in C hC))⟩
  have hKn : ∀ k : Nat, ∃ y : ClassId × (Nat → Nat), ∀ q : vw_C, abCls[k]? = some q → u_Kn s q.1 q.2.1 q.2.2 y.1 y.2 := fun k => by
    cases h : abCls[k]? with
    | none => exact ⟨(m.cls, fun _ => 0), fun q hq => by cases hq⟩
    | some q0 =>
      obtain ⟨c0, i0, hc⟩ := u_known hta (abCls_ok k q0 h).1 (hts _ (abInst_in k q0 h))
      exact ⟨(c0, i0), fun q hq => by cases hq; exact hc⟩
  obtain ⟨D, hKc⟩ : ∃ D : va_G, ∀ (k : Nat) (q : vw_C), abCls[k]? = some q → u_Kn s q.1 q.2.1 q.2.2 (D.1 k) (D.2 k) := ⟨(fun k => (Classical.choose (hKn k)).1, fun k => (Classical.choose (hKn k)).2), fun k q h => Classical.choose_spec (hKn k) q h⟩
  have hK : va_K D abCls [] s := ⟨hKc, fun k q h => by simp at h⟩
  have hP : va_P D abCls [] s.heap := fun k q h => by simp at h
  have hD : va_D (fun q : Nat => s.heap.size ≤ q) [] := ⟨fun i j p q h => by simp at h, fun k q h => by simp at h⟩
  have F6 := abFrL (k := 276) hL C0 hnm abBy276 rfl rfl rfl rfl rfl
  have F7 := abFrL (k := 277) hL C0 hnm abBy277 rfl rfl rfl rfl rfl
  have F8 := abFrL (k := 278) hL C0 hnm abBy278 rfl rfl rfl rfl rfl
  have hl := lv_entry ([.ref b]) (n := 4) (Nat.le_of_ble_eq_true rfl)
  rw [lg_entry_eq]
  generalize (lg_sl ([.ref b]) ++ List.replicate (4 - (lg_sl ([.ref b])).length) Slot.unset).toArray = A0 at hl ⊢
  have hl : lv_has A0 4 [(0, .ref b)] := hl
  have hLok : abLok [] b L (fun j => (xs j).toInt) [(5, L, 0), abJ, abJ, abJ] c.maxLocals A0 := by
    refine ⟨hml.symm, _, hml.symm ▸ hl, fun i v hi hv => ?_⟩
    match i, hi with
    | 0, hi => cases hi; exact ⟨.ref b, List.mem_cons_self, rfl, rfl⟩
    | 1, hi => cases hi; exact absurd hv (by decide)
    | 2, hi => cases hi; exact absurd hv (by decide)
    | 3, hi => cases hi; exact absurd hv (by decide)
    | _ + 4, hi => cases hi
  have hC : ∀ j : Nat, j < 4096 → abCs [] [] b L (fun j => (xs j).toInt) ([] : va_W)[j]? ((Lean.RArray.leaf ((99, 0, .leaf abJ) : abCel)).get j) := fun j _ => by
    show abCs [] [] b L (fun j => (xs j).toInt) (([] : va_W)[j]?) ((99, 0, .leaf abJ) : abCel)
    refine ⟨?_, fun h => ?_, fun ty h => ?_, fun h => ?_, fun h => ?_⟩
    · show abWf (abD 0) 0 (.leaf abJ)
      generalize abD 0 = d
      cases d <;> trivial
    · have h' : (99 : Nat) ≤ 90 := h
      omega
    · have h' : (none : Option FieldType) = some ty := h
      cases h'
    · have h' : (99 : Nat) = 101 := h
      omega
    · have h' : 200 ≤ (99 : Nat) := h
      omega
  obtain ⟨r0, q0, q1⟩ := abAll_ok (abCs_run L hL)
  refine abRun_ok (D := D) (z := s.heap.size) (sb := b) (sl := L) (rh := fun j => (xs j).toInt) (xs0 := xs) abTabsOk 2500 [] p l e room_1 s m _ below meth c _ 276 40 0 _ [] _ r0 F6 (by decide) q0 ?_ s.heap [] [] A0 [] ⟨⟨[], hK, hC⟩, hP, hD, va_S.rf, rfl, by decide, trivial, abFull_ok xs⟩ (abX.rf []) hLok rfl
  intro x0 hx0 _
  have e0 := abQf_ok _ _ (q1 x0 hx0)
  rw [e0]
  rcases Nat.lt_or_ge L 7 with hL7 | hL7
  · obtain ⟨r1, q2, q3⟩ := abAll_ok (abU_run L hL7)
    exact abRun_ok abTabsOk 2500 [] p l e room_1 s m _ below meth c _ 277 40 18 _ [] _ r1 F7 (by decide) q2 (fun x1 hx1 hp1 => abLast (by decide) hx hb abBy277 hr hlocks hp1 (q3 x1 hx1) (Nat.le_refl _))
  · have e7 : L = 7 := by omega
    subst e7
    obtain ⟨r1, q2, q3⟩ := abAll_ok abU7
    refine abRun_ok abTabsOk 2500 [] p l e room_1 s m _ below meth c _ 277 40 18 _ [] _ r1 F7 (by decide) q2 (fun x1 hx1 hp1 => ?_)
    have h7 := q3 x1 hx1
    unfold abEnd7 at h7
    cases q85 : Nat.beq ((abMe 277).2.2.2.2.2.get x1.1).1 85 with
    | false =>
      rw [abIf_f q85] at h7
      exact abLast (by decide) hx hb abBy277 hr hlocks hp1 h7 (Nat.le_refl _)
    | true =>
      rw [abIf_t q85] at h7
      obtain ⟨g1, g2⟩ := abIf_and h7
      obtain ⟨g3, g4⟩ := abIf_and g2
      obtain ⟨g5, g6⟩ := abIf_and g4
      obtain ⟨t1, l1, s1, w1⟩ := x1
      have ht := abMem_ok (show abMem abPcs t1 = true from g1)
      have hl1 : l1 = abL0 7 := abQl_ok abQv_ok _ _ g3
      have hs1 : s1 = [] := abQl_ok abQv_ok _ _ g5
      have hw1 : w1 = abG0 := abQg_ok _ _ g6
      subst hl1 hs1 hw1
      obtain ⟨n2, env2, he2, hn2⟩ := abVs t1 ht (fun j => (xs j).toInt) (abFull_ok xs)
      obtain ⟨r2, q4, q5⟩ := abAll_ok hn2
      exact abW_env he2 (abRun_ok abTabsOk n2 [] p l e room_1 s m _ below meth c _ 278 40 t1 _ [] _ r2 F8 (by decide) q4 (fun x2 hx2 hp2 => abLast (by decide) hx hb abBy278 hr hlocks hp2 (q5 x2 hx2) (Nat.le_refl _)))
set_option maxHeartbeats 4000000 in
theorem lw_walk (l : Launch) (hflags : l.flags = flags0) (b : Addr) (xs : List Int32) : MetFree l x (headSpec (Jvm.Cond.code x code maxLocals ret :: tables_1) room_1) (lw_P b xs) (fun _ _ _ _ _ => True) lw_Q := by
  refine MetFree.of_bodyS (code := code) (maxLocals := maxLocals) (ret := ret) (by decide) ?_ ?_
  · intro args s m h hn
    obtain ⟨meth, c, h1, h2, h3, h4, h5, h6, -, -⟩ := Cond.code_spec hn (atoms_spec (ws := Jvm.Cond.code x code maxLocals ret :: tables_1) h _ List.mem_cons_self)
    exact ⟨meth, c, h1, h2, h3, h4, h5, h6⟩
  · intro p e s m args below meth c s₁ B hml0 hP _
    obtain ⟨rfl, hx, hbd, hgv⟩ := hP
    obtain ⟨scr, harrAt, hlist, hof, hsmall⟩ := hx
    obtain ⟨hcb, hkn, -, -⟩ := State.arrayAt?_spec harrAt
    have hown : s.vm.findClass R_law = some m.cls := findClass_of_methodNamed B.named
    have hts0 : ∀ c ∈ (Jvm.Cond.code x code maxLocals ret :: tables_1), c.before #[Value.ref b] s = true := atoms_spec (ws := Jvm.Cond.code x code maxLocals ret :: tables_1) B.pre
    have hts : ∀ w ∈ lw_tbl, w.before #[Value.ref b] s = true := k2_hts_sels lw_privs (fun w hw => hts0 w (List.mem_cons_of_mem _ hw)) lw_privs_ok
    have hml : c.maxLocals = 4 := B.maxLocals_eq (hts0 _ List.mem_cons_self)
    have X₀ : Stand p l e room_1 s m #[Value.ref b] below meth c s₁ [] 0 0 := Stand.of_body B
    have hh0 : s₁.heap = s.heap := by rw [B.state]; rfl
    have hsz : scr.slots.size = xs.length := by rw [← Array.length_toList, hlist, List.length_map]
    have hval : ∀ j : Nat, j < xs.length → scr.slots[j]? = some (.int (xs.getD j 0)) := fun j hj => by
      rw [← Array.getElem?_toList, hlist]
      simp [hj]
    have hbl : b < s.heap.size := (Array.getElem?_eq_some_iff.mp hcb).1
    have hX : va_X b xs.length (fun j => xs.getD j 0) s s.heap := ⟨scr, hcb, hof, hkn, hsz, hval⟩
    have K : W p l e room_1 s m #[Value.ref b] below meth c s₁.heap [] 0 0 (lw_Z below #[Value.ref b] s) (entryFrame m ([Value.ref b] : List Value).toArray 4) := by
      rw [hh0]
      exact whole_start l hflags hbd ⟨B.exec, B.bytes, B.returns, hml, hown, hts, hX, hbl, B.notSynchronized, hgv⟩ (name_of_methodNamed B.named B.method).1
    obtain ⟨t, a1, o, b1, b2, b3⟩ := K s₁ rfl X₀
    exact ⟨t, o, a1, b1, b2, b3⟩
theorem lw_pre_spec {args : Array Value} {s : State} (h : (Jvm.Cond.and given_1 narrow_1).before args s = true) (hr : rest_1_c.before args s = true) : ∃ (b : Addr) (xs : List Int32), lw_P b xs args s := by
  have hs := flat_of_before _ h
  have hq := flat_of_before _ hr
  have hc : (Cond.count 1).before args s = true := hs _ (by decide +kernel)
  have harr : (Cond.arrayOf (.arg 0) .int).before args s = true := hs _ (by decide +kernel)
  have hle : (Cond.le (.length (.arg 0)) (.int 7)).before args s = true := hs _ (by decide +kernel)
  have hlen : (Cond.isInt (.length (.arg 0))).before args s = true := hq _ (by decide +kernel)
  have hall : (Cond.all (.arg 0) (.isInt (.elem (.arg 0) (.index 0)))).before args s = true := hq _ (by decide +kernel)
  obtain ⟨b, xs, hb, hx⟩ := State.ints_of_pre rfl harr hlen hall
  have hsm : xs.length < 2 ^ 31 := hx.choose_spec.2.2.2
  have hev : (Term.length (.arg 0)).eval args s none [] s = some (.int xs.length.toInt32) := hx.length_eval hb
  have hv := Cond.le_ints hev (show (Term.int 7).eval args s none [] s = some (.int 7) from rfl)
  have hd : xs.length.toInt32 ≤ 7 := by
    simpa [Cond.before, Cond.holds, hv] using hle
  have hN : xs.length ≤ 7 := (Int32.ofNat_le_ofNat hsm (by decide)).mp (show Int32.ofNat xs.length ≤ Int32.ofNat 7 from hd)
  exact ⟨b, xs, Cond.one_arg hc (show args[0]? = some (.ref b) from hb), hx, hN, h⟩
theorem lw_comes (l : Launch) (hflags : l.flags = flags0) : Comes l x (Jvm.Cond.code x code maxLocals ret :: tables_1) room_1 (fun tb e args s => Calls_1 tb e args s ∧ rest_1 tb e args s ∧ Pre_1 tb e args s)
    (fun _ _ args s o t => lw_Q args s o t) := by
  intro p e ha hc hk s m args below hf hfit hheap happ hpre
  obtain ⟨b, xs, hP⟩ := lw_pre_spec hpre.2.2 hpre.2.1
  obtain ⟨k, o, h1, h2, h3, hQ⟩ := lw_walk l hflags b xs p e ha hc hk s m args below hf ((Spec.applies_iff_loose hf).mp happ).1 hP trivial
  exact ⟨k, o, h1, h2, h3, hQ⟩
theorem lw_frame {s t : State} {o : Outcome} {args : Array Value} (h : Framed s o t [] 600000 7302249) :
    Framed s o t (fieldLocs frame_1_writes args s ++ arrayLocs frame_1_arrays args s ++ staticLocs frame_1_statics s) 600000 7302249 := h
theorem lw_limb (L : Cond) (hL : ∀ (args : Array Value) (s t : State), L.after args s (.returned (some (.int 1))) t = true) :
    ArmFor flags0 classFile x code maxLocals ret World_1 tables_1 room_1 Calls_1 rest_1 Pre_1
      (fun tb e a s o t => postC L tb e a s o t ∧ Framed s o t (fieldLocs frame_1_writes a s ++ arrayLocs frame_1_arrays a s ++ staticLocs frame_1_statics s) 600000 7302249) := by
  intro l hflags _ _ p e ha hc hk s m args below hf hfit hheap happ hpre
  obtain ⟨k, o, h1, h2, h3, rfl, hF⟩ := lw_comes l hflags p e ha hc hk s m args below hf hfit hheap happ hpre
  exact ⟨k, _, h1, h2, h3, hL args s _, lw_frame hF⟩
theorem i_vc : Claimed_1_1 ∧ Claimed_1_2 := ⟨lw_limb limb_1_1 (fun args s t => by simp [limb_1_1, Cond.after, Cond.holds, Cond.value]), lw_limb limb_1_2 (fun args s t => Cond.after_iff.mpr (by
  first | (rw [show limb_1_2 = Cond.eq .result (.int 1) from rfl, Cond.eq_ints (x := 1) (y := 1) rfl rfl]; simp; done) | (simp [limb_1_2, Cond.value, Term.eval]; done)))⟩
