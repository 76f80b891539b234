/-! THE CLAIM OUT OF ONE WALK OF THE LAW'S BODY. whole_start: the constructors, the world, the loop. -/
def R_law : String := "TallBinsLaw"
def lw_P (b : Addr) (xs : List Int32) (args : Array Value) (s : State) : Prop := args = #[.ref b] ∧ s.IntsAt b xs ∧ xs.length ≤ 3584 ∧ (Jvm.Cond.and given_1 narrow_1).before args s = true
def lw_Q (_ : Array Value) (s : State) (o : Outcome) (t : State) : Prop := o = .returned (some (.int 1)) ∧ Framed s o t [] 600000 7302249
def lw_Z (below : List Frame) (a : Array Value) (s : State) : State → Prop := fun t => ∃ o, t.status = .running ∧ Ended t below o ∧ lw_Q a s o t
/-- the law's own end, with 1 on the stack, nothing written that was there before, its room as the claim has it -/
theorem lw_ret {p : Program} {l : Launch} {e : Env} {s : State} {m : MethodId} {below : List Frame} {meth : Method} {c : Code} {b : Nat} (hx : p.tables.exec = Jvm.exec) (hb : c.code = code) (hr : meth.sig.returnType = ret) (hlocks : meth.locks = false) {pc : Nat} {H : Heap} {ls : Array Slot} (hdg : decode code pc = .ok (.ireturn, 1)) : W p l e room_1 s m #[Value.ref b] below meth c H [] 600000 7302249 (lw_Z below #[Value.ref b] s) (F0 m pc ls [.int 1]) := by
  intro T hT X
  obtain ⟨fs, hret, hrun, hended, hW, hframe⟩ := X.leave (v := some (.int 1)) (hlocks := hlocks) (fun h => by rw [hr] at h; cases h)
  have hmeth' : T.vm.method? m = some meth := X.method'
  refine ⟨T.setFrames fs, ?_, .returned (some (.int 1)), hrun, hended, rfl, ⟨_, rfl⟩, hW, hframe⟩
  jvm_step X.here [X.here.top, hx, hb, hdg, hmeth', hr, ret, narrow_b1]
  (try refine ⟨rfl, ?_⟩); (try refine ⟨rfl, ?_⟩)
  first | (intro acts; rw [hret _ acts rfl rfl rfl]) | rw [hret _ _ rfl rfl rfl]
  exact Steps.refl _
/-- what holds at the law's entry: the machine, the code, the tables' words (any of lw_tbl by 'hts w (by decide +kernel)'), the script of L ints xs at the cell b, what the Statement gives of the start (any of its parts by flat_of_before) -/
def lw_At (p : Program) (s : State) (m : MethodId) (meth : Method) (c : Code) (b L : Nat) (xs : Nat → Int32) : Prop :=
  p.tables.exec = Jvm.exec ∧ c.code = code ∧ meth.sig.returnType = ret ∧ c.maxLocals = 4 ∧ s.vm.findClass R_law = some m.cls ∧ (∀ w ∈ lw_tbl, w.before #[Value.ref b] s = true) ∧ va_X b L xs s s.heap ∧ b < s.heap.size ∧ meth.locks = false ∧ (Jvm.Cond.and given_1 narrow_1).before #[Value.ref b] s = true
theorem abNl_in : ∀ q ∈ abNl, Jvm.Cond.methodLinkNest q.1 q.2.1 q.2.2 "TallBins" ∈ lw_tbl := by decide +kernel
theorem abAo_in : ∀ C ∈ abAo, Jvm.Cond.arrayOver (.object C) ∈ lw_tbl := by decide +kernel
theorem abInst_in : ∀ (k : Nat) (q : vw_C), abCls[k]? = some q → Jvm.Cond.instantiable q.1 q.2.2 ∈ lw_tbl := by
  have h : ∀ q ∈ abCls, Jvm.Cond.instantiable q.1 q.2.2 ∈ lw_tbl := by decide +kernel
  exact fun k q hq => h q (List.mem_of_getElem? hq)
theorem abBy276 : abBy 276 = code := rfl
theorem abBy277 : abBy 277 = code := rfl
theorem abBy278 : abBy 278 = code := rfl
theorem abFull_ok (xs : Nat → Int32) : abEok (fun j => (xs j).toInt) abFull := by
  intro k q h
  have hq : q = (9223372034707292160, 9223372039002259455) := by
    have := List.mem_of_getElem? h
    simpa [abFull] using this
  have h1 := Int32.le_toInt (xs k)
  have h2 := Int32.toInt_lt (xs k)
  subst hq
  have h3 : abB = 9223372036854775808 := rfl
  constructor
  · show ((9223372034707292160 : Nat) : Int) ≤ (xs k).toInt + abB
    omega
  · show (xs k).toInt + abB ≤ ((9223372039002259455 : Nat) : Int)
    omega
theorem abFrL {p : Program} {s : State} {m : MethodId} {meth : Method} {c : Code} {b L : Nat} {xs : Nat → Int32} (hL : L ≤ 3584) (C0 : lw_At p s m meth c b L xs) (hnm : meth.name = "law") {k : Nat} (hby : abBy k = code) (hown0 : abOwn k = "TallBinsLaw") (hnm0 : (abNm k).name = "law") (hml0 : (abMe k).1.2.2.1 = 4) (hmc : (abMe k).2.2.1 = 600000) (hms : (abMe k).2.2.2.1 = 7302249) : abFr s.heap.size b L (fun j => (xs j).toInt) xs k 40 p room_1 s m #[Value.ref b] meth c := by
  obtain ⟨hx, hb, hr, hml, hown, hts, hX, hbl, hlocks, hgv⟩ := C0
  refine ⟨hx, hb.trans hby.symm, hml.trans hml0.symm, ?_, fun w hw => ?_, hnm.trans hnm0.symm, Nat.le_refl _, ?_, ?_, by decide, by decide, fun _ => ⟨hX, hbl, by omega, fun _ => rfl⟩⟩
  · rw [hown0]; exact hown
  · exact abTa_hts (fun w h => hts w (List.mem_filter.mp h).1) ⟨fun q hq => va_Nw.of rfl (hts _ (abNl_in q hq)), fun C hC => va_AO.of (hts _ (abAo_in C hC))⟩ w hw
  · rw [hmc]; exact Nat.le_refl _
  · rw [hms]; exact Nat.le_refl _
/-- from the entry, for every script, the law comes to its end with true -/
theorem whole_start {p : Program} {e : Env} {s : State} {m : MethodId} {below : List Frame} {meth : Method} {c : Code} (l : Launch) (hflags : l.flags = flags0) {b L : Nat} {xs : Nat → Int32} (hL : L ≤ 3584) (C0 : lw_At p s m meth c b L xs) (hnm : meth.name = "law") : W p l e room_1 s m #[Value.ref b] below meth c s.heap [] 0 0 (lw_Z below #[Value.ref b] s) (entryFrame m ([Value.ref b] : List Value).toArray 4) := by
  obtain ⟨hx, hb, hr, hml, hown, hts, hX, hbl, hlocks, hgv⟩ := id C0
  have hta : ∀ w ∈ abTw, w.before #[Value.ref b] s = true := abTa_hts (fun w h => hts w (List.mem_filter.mp h).1) ⟨fun q hq => va_Nw.of rfl (hts _ (abNl_in q hq)), fun C hC => va_AO.of (hts _ (abAo_in C hC))⟩
  have hKn : ∀ k : Nat, ∃ y : ClassId × (Nat → Nat), ∀ q : vw_C, abCls[k]? = some q → u_Kn s q.1 q.2.1 q.2.2 y.1 y.2 := fun k => by
    cases h : abCls[k]? with
    | none => exact ⟨(m.cls, fun _ => 0), fun q hq => by cases hq⟩
    | some q0 =>
      obtain ⟨c0, i0, hc⟩ := u_known hta (abCls_ok k q0 h).1 (hts _ (abInst_in k q0 h))
      exact ⟨(c0, i0), fun q hq => by cases hq; exact hc⟩
  obtain ⟨D, hKc⟩ : ∃ D : va_G, ∀ (k : Nat) (q : vw_C), abCls[k]? = some q → u_Kn s q.1 q.2.1 q.2.2 (D.1 k) (D.2 k) := ⟨(fun k => (Classical.choose (hKn k)).1, fun k => (Classical.choose (hKn k)).2), fun k q h => Classical.choose_spec (hKn k) q h⟩
  have hK : va_K D abCls [] s := ⟨hKc, fun k q h => by simp at h⟩
  have hP : va_P D abCls [] s.heap := fun k q h => by simp at h
  have hD : va_D (fun q : Nat => s.heap.size ≤ q) [] := ⟨fun i j p q h => by simp at h, fun k q h => by simp at h⟩
  have F6 := abFrL (k := 276) hL C0 hnm abBy276 rfl rfl rfl rfl rfl
  have F8 := abFrL (k := 278) hL C0 hnm abBy278 rfl rfl rfl rfl rfl
  have hl := lv_entry ([.ref b]) (n := 4) (Nat.le_of_ble_eq_true rfl)
  rw [lg_entry_eq]
  generalize (lg_sl ([.ref b]) ++ List.replicate (4 - (lg_sl ([.ref b])).length) Slot.unset).toArray = A0 at hl ⊢
  have hl : lv_has A0 4 [(0, .ref b)] := hl
  have hLok : abLok [] b L (fun j => (xs j).toInt) [(5, 0, 1), abJ, abJ, abJ] c.maxLocals A0 := by
    refine ⟨hml.symm, _, hml.symm ▸ hl, fun i v hi hv => ?_⟩
    match i, hi with
    | 0, hi => cases hi; exact ⟨.ref b, List.mem_cons_self, rfl, fun q => by cases q⟩
    | 1, hi => cases hi; exact absurd hv (by decide)
    | 2, hi => cases hi; exact absurd hv (by decide)
    | 3, hi => cases hi; exact absurd hv (by decide)
    | _ + 4, hi => cases hi
  have hC : ∀ j : Nat, j < 4096 → abCs [] [] b L (fun j => (xs j).toInt) ([] : va_W)[j]? ((Lean.RArray.leaf ((99, 0, .leaf abJ) : abCel)).get j) := fun j _ => by
    show abCs [] [] b L (fun j => (xs j).toInt) (([] : va_W)[j]?) ((99, 0, .leaf abJ) : abCel)
    refine ⟨?_, fun h => ?_, fun ty h => ?_, fun h => ?_, fun h => ?_⟩
    · show abWf (abD 0) 0 (.leaf abJ)
      generalize abD 0 = d
      cases d <;> trivial
    · have h' : (99 : Nat) ≤ 90 := h
      omega
    · have h' : (none : Option FieldType) = some ty := h
      cases h'
    · have h' : (99 : Nat) = 101 := h
      omega
    · have h' : 200 ≤ (99 : Nat) := h
      omega
  obtain ⟨r0, q0, q1⟩ := abAll_ok abCm
  refine abRun_ok (D := D) (z := s.heap.size) (sb := b) (sl := L) (rh := fun j => (xs j).toInt) (xs0 := xs) abTabsOk 2500 [] p l e room_1 s m _ below meth c _ 276 40 0 _ [] _ r0 F6 (by decide) q0 ?_ s.heap [] [] A0 [] ⟨⟨[], hK, hC⟩, hP, hD, va_S.rf, rfl, by decide, trivial, abFull_ok xs⟩ (abX.rf []) hLok rfl
  intro x0 hx0 _
  have e0 := abQf_ok _ _ (q1 x0 hx0)
  rw [e0]
  intro H locs ws A ys hH hXw hLk hS
  obtain ⟨tx, hstr⟩ := lwStr_of hts hgv
  obtain ⟨⟨tys, hK1, hC1⟩, hP1, hD1, hSS, hn, h4096, hwf, he⟩ := hH
  have hn' : ws.length = 887 := hn
  have hC1' : ∀ j : Nat, j < 4096 → abCs tys ws b L (fun j => (xs j).toInt) ws[j]? (abH0.get j) := hC1
  refine W.widen (k := 600000) (n := 7302249) (show 887 ≤ 600000 by decide) (show 19560 ≤ 7302249 by decide) ?_
  have hys : ys = [] := hS
  have hT := abTabsOk
  have hF : haF (D, s.heap.size, b, (avRG0, fun _ => True, tx), ws, p, l, e, room_1, s, m, #[Value.ref b], below, meth, c, 600000, 7302249, lw_Z below #[Value.ref b] s) 278 60 := by
    refine ⟨⟨hx, hb.trans abBy278.symm, hml, hown, hta, hnm, Nat.le_refl _, show 60 + 6 ≤ 2048 by decide, show 60 * (60 + 6) ≤ 84000 by decide⟩, ⟨by omega, show 600000 ≤ 600000 by decide, show 7302249 ≤ 7302249 by decide⟩, rfl⟩
  have hSc : lwS (D, s.heap.size, b, (avRG0, fun _ => True, tx), ws, p, l, e, room_1, s, m, #[Value.ref b], below, meth, c, 600000, 7302249, lw_Z below #[Value.ref b] s) (fun j => (xs j.toNat).toInt) L := ⟨xs, hX, hbl, hbl, hL, fun j _ => rfl⟩
  have hfin : ∀ (mu : haMu) (i : Int), haW (D, s.heap.size, b, (avRG0, fun _ => True, tx), ws, p, l, e, room_1, s, m, #[Value.ref b], below, meth, c, 600000, 7302249, lw_Z below #[Value.ref b] s) mu 1662 (lwL i) [haI 1] := by
    intro mu i rh H1 locs1 u A1 zs hH1 _ _ hS1
    have hSS1 := hH1.2.2.2.1
    refine va_forget (fun q hq => hSS1.2.2 q hq) ?_
    obtain ⟨y0, xr, hzs, gv, hnil⟩ := hS1
    have hxr : xr = [] := hnil
    obtain ⟨-, y, hy, ey⟩ := avGv_i gv rfl
    have ey' : y.toInt = 1 := by rw [ey]; exact haCst rh 1
    have hy1 : y = 1 := Int32.toInt_inj.mp (by rw [ey']; rfl)
    rw [hzs, hxr, hy, hy1]
    exact lw_ret hx hb hr hlocks (by decide +kernel)
  have hJ : lwJr 0 (haAt ws) := lwJ0r hC1'
  have hW := lw_loop hT hF hSc hfin 600 0 (haAt ws) hJ (by omega) (by omega)
  have hA : avLok (haJ (avRG0, fun _ => True, tx) (haAt ws)) ws b avNo (lwL (7 * ((0 : Nat) : Int))) c.maxLocals A := by
    obtain ⟨l1, lv, l2, l3⟩ := hLk
    refine ⟨hml.symm, lv, l2, fun i v hi hv => ?_⟩
    match i, hi with
    | 0, hi =>
      cases hi
      obtain ⟨x, g1, g2, -⟩ := l3 0 _ rfl (by decide)
      exact ⟨x, g1, afNil_D _, g2⟩
    | 1, hi =>
      cases hi
      obtain ⟨x, g1, a, en, g2, g3⟩ := l3 1 _ rfl (by decide)
      exact ⟨x, g1, afNil_D _, 0, a, en, g2, g3, (by decide +kernel : avRG0 0 = 0), (haCst _ _).symm⟩
    | 2, hi =>
      cases hi
      obtain ⟨x, g1, a, en, g2, g3⟩ := l3 2 _ rfl (by decide)
      exact ⟨x, g1, afNil_D _, 860, a, en, g2, g3, (by decide +kernel : avRG0 860 = 51), (haCst _ _).symm⟩
    | 3, hi =>
      cases hi
      obtain ⟨x, g1, y, g2, g3, g4⟩ := l3 3 _ rfl (by decide)
      have hB : abB = 9223372036854775808 := rfl
      have g3' : ((9223372036854775808 : Nat) : Int) ≤ y.toInt + abB := g3
      have g4' : y.toInt + abB ≤ ((9223372036854775808 : Nat) : Int) := g4
      refine ⟨x, g1, afNil_D _, y, g2, ?_⟩
      rw [show afV avNo (haI (7 * ((0 : Nat) : Int))).2.2 = 7 * ((0 : Nat) : Int) from haCst avNo _]
      omega
    | _ + 4, hi => cases hi
  rw [hys]
  exact hW avNo H locs ws A [] ⟨⟨tys, hK1, fun j hj => lwFitC_ok rfl (lwAllN_ok lwFitAll j (by omega)) (hC1' j (by omega)), by omega, rfl, hstr _ _⟩, hP1, hD1, hSS, haSo, fun k hk => by cases hk⟩ ⟨abX.rf ws, afLe.rf avNo⟩ hA rfl
set_option maxHeartbeats 4000000 in
theorem lw_walk (l : Launch) (hflags : l.flags = flags0) (b : Addr) (xs : List Int32) : MetFree l x (headSpec (Jvm.Cond.code x code maxLocals ret :: tables_1) room_1) (lw_P b xs) (fun _ _ _ _ _ => True) lw_Q := by
  refine MetFree.of_bodyS (code := code) (maxLocals := maxLocals) (ret := ret) (by decide) ?_ ?_
  · intro args s m h hn
    obtain ⟨meth, c, h1, h2, h3, h4, h5, h6, -, -⟩ := Cond.code_spec hn (atoms_spec (ws := Jvm.Cond.code x code maxLocals ret :: tables_1) h _ List.mem_cons_self)
    exact ⟨meth, c, h1, h2, h3, h4, h5, h6⟩
  · intro p e s m args below meth c s₁ B hml0 hP _
    obtain ⟨rfl, hx, hbd, hgv⟩ := hP
    obtain ⟨scr, harrAt, hlist, hof, hsmall⟩ := hx
    obtain ⟨hcb, hkn, -, -⟩ := State.arrayAt?_spec harrAt
    have hown : s.vm.findClass R_law = some m.cls := findClass_of_methodNamed B.named
    have hts0 : ∀ c ∈ (Jvm.Cond.code x code maxLocals ret :: tables_1), c.before #[Value.ref b] s = true := atoms_spec (ws := Jvm.Cond.code x code maxLocals ret :: tables_1) B.pre
    have hts : ∀ w ∈ lw_tbl, w.before #[Value.ref b] s = true := k2_hts_sels lw_privs (fun w hw => hts0 w (List.mem_cons_of_mem _ hw)) lw_privs_ok
    have hml : c.maxLocals = 4 := B.maxLocals_eq (hts0 _ List.mem_cons_self)
    have X₀ : Stand p l e room_1 s m #[Value.ref b] below meth c s₁ [] 0 0 := Stand.of_body B
    have hh0 : s₁.heap = s.heap := by rw [B.state]; rfl
    have hsz : scr.slots.size = xs.length := by rw [← Array.length_toList, hlist, List.length_map]
    have hval : ∀ j : Nat, j < xs.length → scr.slots[j]? = some (.int (xs.getD j 0)) := fun j hj => by
      rw [← Array.getElem?_toList, hlist]
      simp [hj]
    have hbl : b < s.heap.size := (Array.getElem?_eq_some_iff.mp hcb).1
    have hX : va_X b xs.length (fun j => xs.getD j 0) s s.heap := ⟨scr, hcb, hof, hkn, hsz, hval⟩
    have K : W p l e room_1 s m #[Value.ref b] below meth c s₁.heap [] 0 0 (lw_Z below #[Value.ref b] s) (entryFrame m ([Value.ref b] : List Value).toArray 4) := by
      rw [hh0]
      exact whole_start l hflags hbd ⟨B.exec, B.bytes, B.returns, hml, hown, hts, hX, hbl, B.notSynchronized, hgv⟩ (name_of_methodNamed B.named B.method).1
    obtain ⟨t, a1, o, b1, b2, b3⟩ := K s₁ rfl X₀
    exact ⟨t, o, a1, b1, b2, b3⟩
theorem lw_pre_spec {args : Array Value} {s : State} (h : (Jvm.Cond.and given_1 narrow_1).before args s = true) (hr : rest_1_c.before args s = true) : ∃ (b : Addr) (xs : List Int32), lw_P b xs args s := by
  have hs := flat_of_before _ h
  have hq := flat_of_before _ hr
  have hc : (Cond.count 1).before args s = true := hs _ (by decide +kernel)
  have harr : (Cond.arrayOf (.arg 0) .int).before args s = true := hs _ (by decide +kernel)
  have hle : (Cond.le (.length (.arg 0)) (.int 3584)).before args s = true := hs _ (by decide +kernel)
  have hlen : (Cond.isInt (.length (.arg 0))).before args s = true := hq _ (by decide +kernel)
  have hall : (Cond.all (.arg 0) (.isInt (.elem (.arg 0) (.index 0)))).before args s = true := hq _ (by decide +kernel)
  obtain ⟨b, xs, hb, hx⟩ := State.ints_of_pre rfl harr hlen hall
  have hsm : xs.length < 2 ^ 31 := hx.choose_spec.2.2.2
  have hev : (Term.length (.arg 0)).eval args s none [] s = some (.int xs.length.toInt32) := hx.length_eval hb
  have hv := Cond.le_ints hev (show (Term.int 3584).eval args s none [] s = some (.int 3584) from rfl)
  have hd : xs.length.toInt32 ≤ 3584 := by
    simpa [Cond.before, Cond.holds, hv] using hle
  have hN : xs.length ≤ 3584 := (Int32.ofNat_le_ofNat hsm (by decide)).mp (show Int32.ofNat xs.length ≤ Int32.ofNat 3584 from hd)
  exact ⟨b, xs, Cond.one_arg hc (show args[0]? = some (.ref b) from hb), hx, hN, h⟩
theorem lw_comes (l : Launch) (hflags : l.flags = flags0) : Comes l x (Jvm.Cond.code x code maxLocals ret :: tables_1) room_1 (fun tb e args s => Calls_1 tb e args s ∧ rest_1 tb e args s ∧ Pre_1 tb e args s)
    (fun _ _ args s o t => lw_Q args s o t) := by
  intro p e ha hc hk s m args below hf hfit hheap happ hpre
  obtain ⟨b, xs, hP⟩ := lw_pre_spec hpre.2.2 hpre.2.1
  obtain ⟨k, o, h1, h2, h3, hQ⟩ := lw_walk l hflags b xs p e ha hc hk s m args below hf ((Spec.applies_iff_loose hf).mp happ).1 hP trivial
  exact ⟨k, o, h1, h2, h3, hQ⟩
theorem lw_frame {s t : State} {o : Outcome} {args : Array Value} (h : Framed s o t [] 600000 7302249) :
    Framed s o t (fieldLocs frame_1_writes args s ++ arrayLocs frame_1_arrays args s ++ staticLocs frame_1_statics s) 600000 7302249 := h
theorem lw_limb (L : Cond) (hL : ∀ (args : Array Value) (s t : State), L.after args s (.returned (some (.int 1))) t = true) :
    ArmFor flags0 classFile x code maxLocals ret World_1 tables_1 room_1 Calls_1 rest_1 Pre_1
      (fun tb e a s o t => postC L tb e a s o t ∧ Framed s o t (fieldLocs frame_1_writes a s ++ arrayLocs frame_1_arrays a s ++ staticLocs frame_1_statics s) 600000 7302249) := by
  intro l hflags _ _ p e ha hc hk s m args below hf hfit hheap happ hpre
  obtain ⟨k, o, h1, h2, h3, rfl, hF⟩ := lw_comes l hflags p e ha hc hk s m args below hf hfit hheap happ hpre
  exact ⟨k, _, h1, h2, h3, hL args s _, lw_frame hF⟩
theorem i_vc : Claimed_1_1 ∧ Claimed_1_2 := ⟨lw_limb limb_1_1 (fun args s t => by simp [limb_1_1, Cond.after, Cond.holds, Cond.value]), lw_limb limb_1_2 (fun args s t => Cond.after_iff.mpr (by
  first | (rw [show limb_1_2 = Cond.eq .result (.int 1) from rfl, Cond.eq_ints (x := 1) (y := 1) rfl rfl]; simp; done) | (simp [limb_1_2, Cond.value, Term.eval]; done)))⟩
