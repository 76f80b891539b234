theorem abSok_app {ws : va_W} {sb sl : Nat} {rh : Nat → Int} {rr : List abV} {rx : List Value} (h2 : abSok ws sb sl rh rr rx) : ∀ {st : List abV} {xs : List Value}, abSok ws sb sl rh st xs → abSok ws sb sl rh (st ++ rr) (xs ++ rx)
  | [], xs, h => by
    have e : xs = [] := h
    subst e
    exact h2
  | v :: st, _, h => by
    obtain ⟨x, xr, rfl, g, h'⟩ := h
    exact ⟨x, xr ++ rx, rfl, g, abSok_app h2 h'⟩
theorem abGo_ok {D : va_G} {z sb sl : Nat} {rh : Nat → Int} {xs0 : Nat → Int32} (hT : abTabs) {n : Nat} (IH : abRuns D z sb sl rh xs0 n) {w0 : va_W} {p : Program} {l : Launch} {ev : Env} {R : Room} {s : State} {m : MethodId} {args : Array Value} {below : List Frame} {meth : Method} {c : Code} {Q : State → Prop} {k d q pc : Nat} {ls as rr : List abV} {g : abSt} {r : List abF} (hF : abFr z sb sl rh xs0 k d p R s m args meth c) (hk : k < abNM + 3) (hq : q < abNM) (h : abGo (abRun n) d k (abMe k).2.2.2.2.2 q pc ls as rr g = some r) (hSd : abSd D z sb sl rh w0 p l ev R s m args below meth c Q (abMe k).2.2.2.2.2 r) {H : Heap} {locs : List Loc} {ws : va_W} {A : Array Slot} {vs rx xs : List Value} (hH : abHok D z sb sl rh s ws H locs g) (hX : abX w0 ws) (hL : abLok ws sb sl rh ls c.maxLocals A) (hvs : abSok ws sb sl rh as vs) (h7 : ∀ v ∈ as, v.1 ≤ 7) (hrx : abSok ws sb sl rh rr rx)
    (hrun : ∀ (d' : Nat) (exs : List abF), d = d' + 1 → Met l (abNm q) (abWs q) (abRoom q d') (va_Pc vs (abPre D z sb sl rh ws g.1)) (abPost D z sb sl rh ws exs) (abMe q).2.2.1 (abMe q).2.2.2.1 (fun a => z ≤ a) → (rx.map fun v => v.category).sum ≤ 8 → (g.2.2.2.1 + (abMe q).2.2.1 ≤ R.cells ∧ g.2.2.2.2 + (abMe q).2.2.2.1 ≤ R.slots) → va_Run p l ev R s m args below meth c H locs g.2.2.2.1 g.2.2.2.2 (abMe q).2.2.1 (abMe q).2.2.2.1 (F0 m pc A xs) rx (abPost D z sb sl rh ws exs vs.toArray) (fun a => z ≤ a)) : W p l ev R s m args below meth c H locs g.2.2.2.1 g.2.2.2.2 Q (F0 m pc A xs) := by
  obtain ⟨c1, h1⟩ := abIf_some h
  obtain ⟨c2, h2⟩ := abIf_some h1
  obtain ⟨c3, h3⟩ := abIf_some h2
  obtain ⟨c4, h4⟩ := abIf_some h3
  cases d with
  | zero => cases h4
  | succ d' =>
    obtain ⟨exs, e1, e2⟩ := abBd_ok (show abBd (abRun n d' q (abMe q).2.2.2.2.2 0 (abEn as (abMe q).1.2.2.1) [] (g.1, g.2.1, g.2.2.1, 0, 0)) (abAf (abRun n) (d' + 1) k (abMe k).2.2.2.2.2 q pc ls rr g) = some r from h4)
    obtain ⟨⟨tys, hK, hC⟩, hP, hD, hSS, hn, h4096, hwf, he⟩ := id hH
    have hF0 := hF
    obtain ⟨hx, hb, hml, hown, hts, hnm, hz, hR1, hR2, hR3, hR4, hlaw⟩ := hF
    have hM := abMet (D := D) (z := z) (sb := sb) (sl := sl) (rh := rh) hT IH l hq e1 hvs h7 (abBle c4) hn h4096 hwf he (fun x hx => by
      obtain ⟨r', q1, -⟩ := e2 x hx
      obtain ⟨q2, q3⟩ := abIf_some q1
      obtain ⟨q4, q5⟩ := abIf_some q3
      exact ⟨abBle q2, abBle q4⟩)
    have b2 := abBle c2
    have b3 := abBle c3
    refine abCallx (hrun d' exs rfl hM (Nat.le_trans (abSm_ok hrx) (abBle c1)) ⟨by omega, by omega⟩) (fun v s0 t L h0 hal hLf hpost => ?_)
    obtain ⟨⟨ex, hex, rv, u, hoc, hS', hXu, ⟨tys', hK', hC'⟩, hP', hD', hn', h4', hwf', he'⟩, hFr⟩ := hpost
    cases hoc
    obtain ⟨r', q1, q6⟩ := e2 ex hex
    obtain ⟨q2, q3⟩ := abIf_some q1
    obtain ⟨q4, q5⟩ := abIf_some q3
    refine IH w0 p l ev R s m args below meth c Q k (d' + 1) (pc + 3) ls (ex.2.2.1 ++ rr) (ex.2.2.2.1, ex.2.2.2.2.1, ex.2.2.2.2.2.1, g.2.2.2.1 + (abMe q).2.2.1, g.2.2.2.2 + (abMe q).2.2.2.1) r' hF0 hk q5 (fun x hx => hSd x (q6 x hx)) t.heap (locs ++ L) u A _ ⟨⟨tys', va_K.moved hal.symm hK', hC'⟩, hP', hD', ?_, hn', h4', hwf', he'⟩ (hX.tr hXu) (hL.mono hXu) (abSok_app (hrx.mono hXu) hS')
    rw [← h0] at hSS
    refine ⟨Nat.le_trans hSS.1 hFr.1, fun j h1 h2 => ?_, fun j hj => ?_⟩
    · rw [hFr.2 j (Nat.lt_of_lt_of_le h1 hSS.1) h2]
      exact hSS.2.1 j h1 h2
    · rcases List.mem_append.mp hj with w | w
      · exact hSS.2.2 j w
      · exact hLf j w
theorem abBlind {D : va_G} {z sb sl : Nat} {rh : Nat → Int} {ws : va_W} {h : abH} {vs : List Value} : FrameBlind (va_Pc vs (abPre D z sb sl rh ws h)) := fun a U gg mk q => by
  obtain ⟨q0, ⟨tys, q1, q2⟩, q3, q4, q5, q6⟩ := q
  exact ⟨q0, ⟨tys, va_K.moved (u := U) (U := U.calling gg mk a) (Vm.Alike.refl U.vm) q1, q2⟩, q3, q4, q5, ⟨fun q hq => va_Nw.same rfl rfl (q6.1 q hq), fun C hC => va_AO.moved (u := U) (U := U.calling gg mk a) (Vm.Alike.refl U.vm) (q6.2 C hC)⟩⟩
theorem abCl_ok {D : va_G} {z sb sl : Nat} {rh : Nat → Int} {xs0 : Nat → Int32} (hT : abTabs) {n : Nat} (IH : abRuns D z sb sl rh xs0 n) {w0 : va_W} {p : Program} {l : Launch} {ev : Env} {R : Room} {s : State} {m : MethodId} {args : Array Value} {below : List Frame} {meth : Method} {c : Code} {Q : State → Prop} {k d pc : Nat} {e : abEy} {ls st : List abV} {g : abSt} {r : List abF} (hF : abFr z sb sl rh xs0 k d p R s m args meth c) (hk : k < abNM + 3) (hE : abEtOk k e) (hpc : e.2.1 = pc) (ho : 78 ≤ e.1 ∧ e.1 ≤ 81) (h : abCl (abRun n) d k (abMe k).2.2.2.2.2 e pc ls st g = some r) (hSd : abSd D z sb sl rh w0 p l ev R s m args below meth c Q (abMe k).2.2.2.2.2 r) : abW D z sb sl rh w0 p l ev R s m args below meth c Q pc ls st g := by
  intro H locs ws A xs hH hX hL hS
  have hF0 := hF
  obtain ⟨hx, hb, hml, hown, hts, hnm, hz, hR1, hR2, hR3, hR4, hlaw⟩ := hF
  obtain ⟨o, pc', a1, a2, x, ps⟩ := e
  have hp : pc' = pc := hpc
  subst hp
  obtain ⟨⟨tys, hK, hC⟩, hP, hD, hSS, hn, h4096, hwf, he⟩ := id hH
  obtain ⟨as, rest, zs, rx, h1, rfl, hzl, hzs, hrest, h7⟩ := abTk_ok (abMe a1).2.1 [] st xs [] h hS rfl (fun v hv => by cases hv)
  rw [List.append_nil] at hzs
  have hAsz : A.size = c.maxLocals := by
    obtain ⟨l1, lv, l2, l3⟩ := hL
    exact l2.1
  have hG : ∀ q, q < abNM → GoodIn abTw (abWs q) := fun q hq w hw => by
    rcases List.mem_cons.mp hw with rfl | hw
    · exact ⟨abTaL (hT.1 q hq).2.1, good_of_word (hT.2.1 _ (hT.1 q hq).2.1)⟩
    · exact ⟨abTaL hw, good_of_word (hT.2.1 _ hw)⟩
  have pre : ∀ (vs : List Value) (U : State), U.heap = H → s.WarmedH U.vm → va_Pc vs (abPre D z sb sl rh ws g.1) vs.toArray U := fun vs U hU hW => ⟨rfl, ⟨tys, va_K.moved hW.alike hK, hC⟩, by rw [hU]; exact hP, hD, by rw [hU]; exact Nat.le_trans hz hSS.1, ⟨fun q hq => va_Nw.warmM hW ((abTa_nest hts).1 q hq), fun C hC => va_AO.moved hW.alike ((abTa_nest hts).2 C hC)⟩⟩
  have rm : ∀ (q d' : Nat), q < abNM → d = d' + 1 → (abRoom q d').frames + 1 ≤ R.frames ∧ 8 + ((abMe q).1.2.2.1 + 11) + (abRoom q d').locals ≤ R.locals := by
    intro q d' hq hd'
    have := (hT.1 q hq).2.2.2.2
    refine ⟨by show d' + 1 + 1 ≤ R.frames; omega, by show 8 + ((abMe q).1.2.2.1 + 11) + 60 * (d' + 1) ≤ R.locals; omega⟩
  have S : CallFix p m c (abBy k) c.maxLocals s args abTw (abOwn k) := ⟨hx, hb, rfl, hown, hts⟩
  rcases (show o = 78 ∨ o = 79 ∨ o = 80 ∨ o = 81 by have := ho.1; have := ho.2; simp only at *; omega) with rfl | rfl | rfl | rfl
  · have h2 : abHd rest (fun v r => abWr v fun j => abIf (Nat.beq (g.1.get j).1 (abMe a1).2.2.2.2.1) (abGo (abRun n) d k (abMe k).2.2.2.2.2 a1 pc' ls (v :: as) r g) none) = some r := h1
    obtain ⟨v, rr, rfl, h3⟩ := abHd_some h2
    obtain ⟨x0, xr, rfl, gv, hS'⟩ := hrest
    obtain ⟨a, en, h4, hj, rfl⟩ := abWr_ok h3 gv
    obtain ⟨h5, h6⟩ := abIf_some h4
    have hd := abEt_dec hE (show ¬ (78 : Nat) = 85 by decide) rfl
    have hsm : (decide (a1 < abNM) && decide ((abMe a1).2.2.2.2.1 < 90) && (match abCls[(abMe a1).2.2.2.2.1]? with | some q => decide (q.1 = abOwn a1) | none => false)) = true := hE.2.2
    obtain ⟨hsm1, hsm2⟩ := Bool.and_eq_true_iff.mp hsm
    obtain ⟨hsm3, hsm4⟩ := Bool.and_eq_true_iff.mp hsm1
    have hq := of_decide_eq_true hsm3
    have hco := of_decide_eq_true hsm4
    have hcell := hC v.2.1 (hH.lt hj)
    obtain ⟨a', fs, y, e1, e2, e3, e4, e5⟩ := hcell.2.1 (by rw [abBeq h5]; omega)
    rw [hj] at e1
    cases e1
    rw [← abBeq h5, e3] at hsm2
    have hyc := of_decide_eq_true hsm2
    refine abGo_ok hT IH hF0 hk hq h6 hSd hH hX hL (vs := .ref a :: zs) (rx := xr) ⟨_, _, rfl, gv, hzs⟩ (fun w hw => ?_) hS' (fun d' exs hd' hM hsum hroom => ?_)
    · rcases List.mem_cons.mp hw with rfl | hw
      · have := abBeq (abIf_some h3).1
        omega
      · exact h7 w hw
    · have hrecv := va_recv hK hP e3 hj
      rw [hyc] at hrecv
      exact va_runV (C := abOwn a1) (As := zs) (rest := xr) S hM ⟨callB_of (abMe a1).2.1 hts (hG a1 hq) rfl rfl rfl (hts _ (abTaL (hT.1 a1 hq).2.2.1)) (hts _ (hE.2.1 (.methodLink (abOwn k) x (abNm a1)) List.mem_cons_self)) (hT.1 a1 hq).2.2.2.1 (rm a1 d' hq hd'), hts _ (hE.2.1 (.instanceMethod (abNm a1)) (List.mem_cons_of_mem _ List.mem_cons_self)), hts _ (hE.2.1 (.selects (abOwn a1) (abNm a1) (abNm a1)) (List.mem_cons_of_mem _ (List.mem_cons_of_mem _ List.mem_cons_self)))⟩ ⟨abBlind, hrecv, fun U hU hW => pre (.ref a :: zs) U hU hW⟩ rfl hzl hAsz rfl (lv_room hsum) hd hroom
  · have h2 : abGo (abRun n) d k (abMe k).2.2.2.2.2 a1 pc' ls as rest g = some r := h1
    have hd := abEt_dec hE (show ¬ (79 : Nat) = 85 by decide) rfl
    have hq := of_decide_eq_true (show decide (a1 < abNM) = true from hE.2.2)
    refine abGo_ok hT IH hF0 hk hq h2 hSd hH hX hL (vs := zs) (rx := rx) hzs h7 hrest (fun d' exs hd' hM hsum hroom => ?_)
    exact va_runS (As := zs) (rest := rx) S hM ⟨callB_of (abMe a1).2.1 hts (hG a1 hq) rfl rfl rfl (hts _ (abTaL (hT.1 a1 hq).2.2.1)) (hts _ (hE.2.1 (.methodLink (abOwn k) x (abNm a1)) List.mem_cons_self)) (hT.1 a1 hq).2.2.2.1 (rm a1 d' hq hd'), hts _ (hE.2.1 (.static (abNm a1)) (List.mem_cons_of_mem _ List.mem_cons_self))⟩ ⟨abBlind, fun U hU hW => pre zs U hU hW⟩ rfl hzl hAsz rfl (lv_room hsum) hd hroom
  · have h2 : abHd rest (fun v r => abWr v fun j => abGo (abRun n) d k (abMe k).2.2.2.2.2 a1 pc' ls (v :: as) r g) = some r := h1
    obtain ⟨v, rr, rfl, h3⟩ := abHd_some h2
    obtain ⟨x0, xr, rfl, gv, hS'⟩ := hrest
    obtain ⟨a, en, h6, hj, rfl⟩ := abWr_ok h3 gv
    have hd := abEt_dec hE (show ¬ (80 : Nat) = 85 by decide) rfl
    have hsm : (decide (a1 < abNM) && decide ((abNm a1).name = "<init>") && decide (abRtT a1 = none)) = true := hE.2.2
    obtain ⟨hsm1, hsm2⟩ := Bool.and_eq_true_iff.mp hsm
    obtain ⟨hsm3, hsm4⟩ := Bool.and_eq_true_iff.mp hsm1
    have hq := of_decide_eq_true hsm3
    have hini := of_decide_eq_true hsm4
    have hrt := of_decide_eq_true hsm2
    refine abGo_ok hT IH hF0 hk hq h6 hSd hH hX hL (vs := .ref a :: zs) (rx := xr) ⟨_, _, rfl, gv, hzs⟩ (fun w hw => ?_) hS' (fun d' exs hd' hM hsum hroom => ?_)
    · rcases List.mem_cons.mp hw with rfl | hw
      · have := abBeq (abIf_some h3).1
        omega
      · exact h7 w hw
    · exact va_runI (As := zs) (rest := xr) S hM ⟨callB_of (bytes := abBy a1) (maxL := (abMe a1).1.2.2.1) (abMe a1).2.1 hts (hG a1 hq) (by unfold abWs; rw [hrt]) rfl rfl (hts _ (abTaL (hT.1 a1 hq).2.2.1)) (hts _ (hE.2.1 (.methodLink (abOwn k) x (abNm a1)) List.mem_cons_self)) (hT.1 a1 hq).2.2.2.1 (rm a1 d' hq hd'), hini, hts _ (hE.2.1 (.instanceMethod (abNm a1)) (List.mem_cons_of_mem _ List.mem_cons_self))⟩ ⟨abBlind, fun U hU hW => pre (.ref a :: zs) U hU hW⟩ rfl hzl hAsz rfl (lv_room hsum) hd hroom
  · have h2 : abHd rest (fun v r => abWr v fun j => abGo (abRun n) d k (abMe k).2.2.2.2.2 a1 pc' ls (v :: as) r g) = some r := h1
    obtain ⟨v, rr, rfl, h3⟩ := abHd_some h2
    obtain ⟨x0, xr, rfl, gv, hS'⟩ := hrest
    obtain ⟨a, en, h6, hj, rfl⟩ := abWr_ok h3 gv
    have hd := abEt_dec hE (show ¬ (81 : Nat) = 85 by decide) rfl
    have hsm : (decide (a1 < abNM) && decide ((abNm a1).name = "<init>") && decide (abRtT a1 = none)) = true := hE.2.2
    obtain ⟨hsm1, hsm2⟩ := Bool.and_eq_true_iff.mp hsm
    obtain ⟨hsm3, hsm4⟩ := Bool.and_eq_true_iff.mp hsm1
    have hq := of_decide_eq_true hsm3
    have hini := of_decide_eq_true hsm4
    have hrt := of_decide_eq_true hsm2
    refine abGo_ok hT IH hF0 hk hq h6 hSd hH hX hL (vs := .ref a :: zs) (rx := xr) ⟨_, _, rfl, gv, hzs⟩ (fun w hw => ?_) hS' (fun d' exs hd' hM hsum hroom => ?_)
    · rcases List.mem_cons.mp hw with rfl | hw
      · have := abBeq (abIf_some h3).1
        omega
      · exact h7 w hw
    · exact va_runIN (As := zs) (rest := xr) (host := "TallBins") S hM ⟨va_cnB (bytes := abBy a1) (maxL := (abMe a1).1.2.2.1) (abMe a1).2.1 hts (hG a1 hq) (by unfold abWs; rw [hrt]) rfl rfl (hts _ (hE.2.1 (.methodLinkNest (abOwn k) x (abNm a1) "TallBins") List.mem_cons_self)) (hts _ (abTaL (hT.1 a1 hq).2.2.1)) (hT.1 a1 hq).2.2.2.1 (rm a1 d' hq hd'), hini, hts _ (hE.2.1 (.instanceMethod (abNm a1)) (List.mem_cons_of_mem _ List.mem_cons_self))⟩ ⟨abBlind, fun U hU hW => pre (.ref a :: zs) U hU hW⟩ rfl hzl hAsz rfl (lv_room hsum) hd hroom
theorem abRun_ok {D : va_G} {z sb sl : Nat} {rh : Nat → Int} {xs0 : Nat → Int32} (hT : abTabs) : ∀ n, abRuns D z sb sl rh xs0 n
  | 0 => by
    intro w0 p l ev R s m args below meth c Q k d pc ls st g r hF hk h hSd
    cases h
  | n + 1 => by
    have IH := abRun_ok (D := D) (z := z) (sb := sb) (sl := sl) (rh := rh) (xs0 := xs0) hT n
    intro w0 p l ev R s m args below meth c Q k d pc ls st g r hF hk h hSd
    obtain ⟨q0, h0⟩ := abIf_some (show abIf (Nat.beq ((abMe k).2.2.2.2.2.get pc).2.1 pc) (abIf (Nat.ble 78 ((abMe k).2.2.2.2.2.get pc).1) (abIf (Nat.ble ((abMe k).2.2.2.2.2.get pc).1 81) (abCl (abRun n) d k (abMe k).2.2.2.2.2 ((abMe k).2.2.2.2.2.get pc) pc ls st g) (abIf (Nat.ble ((abMe k).2.2.2.2.2.get pc).1 85) (abRt ((abMe k).2.2.2.2.2.get pc) pc ls st g) ((abOps.get ((abMe k).2.2.2.2.2.get pc).1) (abRun n d k (abMe k).2.2.2.2.2) k ((abMe k).2.2.2.2.2.get pc) pc ls st g)))
    ((abOps.get ((abMe k).2.2.2.2.2.get pc).1) (abRun n d k (abMe k).2.2.2.2.2) k ((abMe k).2.2.2.2.2.get pc) pc ls st g)) none = some r from h)
    have hpc := abBeq q0
    obtain ⟨hE, hop⟩ := hT.2.2 k pc hk hpc
    have plain : (abOps.get ((abMe k).2.2.2.2.2.get pc).1) (abRun n d k (abMe k).2.2.2.2.2) k ((abMe k).2.2.2.2.2.get pc) pc ls st g = some r → abW D z sb sl rh w0 p l ev R s m args below meth c Q pc ls st g := fun hh => abOps_ok hop D z sb sl rh xs0 w0 p l ev R s m args below meth c Q k d _ _ pc ls st g r hF hE rfl hpc (fun pc' ls' st' g' r' hr hs => IH w0 p l ev R s m args below meth c Q k d pc' ls' st' g' r' hF hk hr (fun x hx => hSd x (hs x hx))) hh
    cases q1 : Nat.ble 78 ((abMe k).2.2.2.2.2.get pc).1 with
    | false => rw [abIf_f q1] at h0; exact plain h0
    | true =>
      rw [abIf_t q1] at h0
      cases q2 : Nat.ble ((abMe k).2.2.2.2.2.get pc).1 81 with
      | true =>
        rw [abIf_t q2] at h0
        exact abCl_ok hT IH hF hk hE hpc ⟨abBle q1, abBle q2⟩ h0 hSd
      | false =>
        rw [abIf_f q2] at h0
        cases q3 : Nat.ble ((abMe k).2.2.2.2.2.get pc).1 85 with
        | false => rw [abIf_f q3] at h0; exact plain h0
        | true =>
          rw [abIf_t q3] at h0
          have er := abRt_eq h0
          subst er
          exact hSd (pc, ls, st, g) List.mem_cons_self ⟨hpc, by have := abBle_f q2; show 82 ≤ ((abMe k).2.2.2.2.2.get pc).1; omega, abBle q3, h0⟩
