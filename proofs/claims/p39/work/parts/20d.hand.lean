/-! calls by hand -/
theorem haSplit {RG : avRJ} {ws : va_W} {sb : Nat} {rh : afR} : ∀ {a b : List avV} {xs : List Value}, avSok RG ws sb rh (a ++ b) xs → ∃ ya yb : List Value, xs = ya ++ yb ∧ avSok RG ws sb rh a ya ∧ avSok RG ws sb rh b yb ∧ ya.length = a.length
  | [], _, xs, h => ⟨[], xs, rfl, rfl, h, rfl⟩
  | v :: a, b, _, h => by
    obtain ⟨y, xr, rfl, g, h'⟩ := h
    obtain ⟨ya, yb, rfl, h1, h2, h3⟩ := haSplit h'
    exact ⟨y :: ya, yb, rfl, ⟨y, ya, rfl, g, h1⟩, h2, by rw [List.length_cons, List.length_cons, h3]⟩
theorem haApp {RG : avRJ} {ws : va_W} {sb : Nat} {rh : afR} : ∀ {a b : List avV} {xs ys : List Value}, avSok RG ws sb rh a xs → avSok RG ws sb rh b ys → avSok RG ws sb rh (a ++ b) (xs ++ ys)
  | [], _, xs, _, h, h2 => by
    have e : xs = [] := h
    subst e
    exact h2
  | v :: a, b, _, ys, h, h2 => by
    obtain ⟨y, xr, rfl, g, h'⟩ := h
    exact ⟨y, xr ++ ys, rfl, g, haApp h' h2⟩
theorem haRev {RG : avRJ} {ws : va_W} {sb : Nat} {rh : afR} : ∀ {a : List avV} {xs : List Value}, avSok RG ws sb rh a xs → avSok RG ws sb rh a.reverse xs.reverse
  | [], xs, h => by
    have e : xs = [] := h
    subst e
    rfl
  | v :: a, _, h => by
    obtain ⟨y, xr, rfl, g, h'⟩ := h
    rw [List.reverse_cons, List.reverse_cons]
    exact haApp (haRev h') ⟨y, [], rfl, g, rfl⟩
theorem haLen {w0 ws : va_W} (h : abX w0 ws) (hw : 887 ≤ w0.length) : 887 ≤ ws.length := by
  have h1 : w0[886]? = some w0[886] := List.getElem?_eq_getElem (by omega)
  obtain ⟨e', h2⟩ := h 886 w0[886].1 w0[886].2 h1
  have := (List.getElem?_eq_some_iff.mp h2).1
  omega
section HAC
variable {x : haCx} {mu : haMu} {k d pc pc' : Nat} {ls st ls' st' : List avV} {e : abEy} {F : avPo}
/-- behind a call -/
theorem ha_aft {D : va_G} {z sb : Nat} {RG : avRJ} {w0 : va_W} {p : Program} {l : Launch} {ev : Env} {R : Room} {s : State} {m : MethodId} {args : Array Value} {below : List Frame} {meth : Method} {c : Code} {cc cs : Nat} {Q : State → Prop} {rest : List avV} {P : Option avV → haMu → Prop} {H : Heap} {locs : List Loc} {ws : va_W} {A : Array Slot} {vs rx xs : List Value}
    (h : ∀ (o : Option avV) (mu' : haMu), P o mu' → haW (D, z, sb, RG, w0, p, l, ev, R, s, m, args, below, meth, c, cc, cs, Q) mu' (pc + 3) ls (avPush rest o))
    (hH : avHok D z sb avRT (haJ RG mu) avNo s ws H locs haS0) (hX : avXw w0 avNo ws avNo) (hL : avLok (haJ RG mu) ws sb avNo ls c.maxLocals A) (hrx : avSok RG ws sb avNo rest rx)
    (hrun : va_Run p l ev R s m args below meth c H locs cc cs 0 0 (F0 m pc A xs) rx (haPost D z sb RG ws P vs.toArray) (fun a => z ≤ a)) : W p l ev R s m args below meth c H locs cc cs Q (F0 m pc A xs) := by
  refine abCallx hrun (fun v s0 t L h0 hal hLf hpost => ?_)
  obtain ⟨⟨u, rv, o, hoc, hXu, hrv, ⟨⟨tys', hK', hC', h4'⟩, hP', hD'⟩, hPo⟩, hFr⟩ := hpost
  cases hoc
  obtain ⟨⟨tys, hK, hC, h4⟩, hP, hD, hSS, hso, hkn⟩ := hH
  refine h o (haAt u) hPo avNo t.heap (locs ++ L) u A _ ⟨⟨tys', va_K.moved hal.symm hK', hC', h4'.1, rfl, h4.2.2⟩, hP', hD', ?_, haSo, fun k hk => by cases hk⟩ ⟨hX.1.tr hXu, hX.2⟩ (hL.mono hXu (afLe.rf avNo)) ?_
  · rw [← h0] at hSS
    refine ⟨Nat.le_trans hSS.1 hFr.1, fun j h1 h2 => ?_, fun j hj => ?_⟩
    · rw [hFr.2 j (Nat.lt_of_lt_of_le h1 hSS.1) h2]
      exact hSS.2.1 j h1 h2
    · rcases List.mem_append.mp hj with w | w
      · exact hSS.2.2 j w
      · exact hLf j w
  · exact haSok (RG := RG) (RG' := haJ RG (haAt u)) rfl rfl (avPush_ok (hrx.mono hXu (afLe.rf avNo)) hrv)
theorem ha_callS {q d' : Nat} {as rest : List avV} {P : Option avV → haMu → Prop} (hT : abTabs) (hF : haF x k d) (hE : abEtOk k e) (hpc : e.2.1 = pc) (ho : e.1 = 79) (hq0 : e.2.2.1 = q) (hZ : (abMe q).2.2.1 = 0 ∧ (abMe q).2.2.2.1 = 0) (hSp : haSp q d' as mu P) (hd' : d' + 1 ≤ d) (hst : st = as.reverse ++ rest) (hnp : as.length = (abMe q).2.1) (hw : avSm rest + (abMe q).1.2.2.1 ≤ 49) (h : ∀ (o : Option avV) (mu' : haMu), P o mu' → haW x mu' (pc + 3) ls (avPush rest o)) : haW x mu pc ls st := by
  obtain ⟨D, z, sb, RG, w0, p, l, ev, R, s, m, args, below, meth, c, cc, cs, Q⟩ := x
  intro rh H locs ws A xs hH hX hL hS
  obtain ⟨⟨hx, hb, hml, hown, hts, hnm, hz, hR1, hR2⟩, hw0, hRG⟩ := hF
  have erh := haRh hH.2.2.2.2.1
  subst erh
  obtain ⟨o, pc2, a1, a2, xx, ps⟩ := e
  have ho' : o = 79 := ho
  have hpc' : pc2 = pc := hpc
  have hq1 : a1 = q := hq0
  subst ho'; subst hpc'; subst hq1
  obtain ⟨⟨tys, hK, hC, hlen⟩, hP, hD, hSS, hso, hkn⟩ := id hH
  have hmu : haAt ws = mu := hlen.2.1
  rw [hst] at hS
  obtain ⟨ya, rx, rfl, hya, hrx, hyl⟩ := haSplit hS
  have hvs : avSok RG ws sb avNo as ya.reverse := by
    have := haRev hya
    rw [List.reverse_reverse] at this
    exact haSok (RG := haJ RG mu) (RG' := RG) rfl rfl this
  have hrx' : avSok RG ws sb avNo rest rx := haSok (RG := haJ RG mu) (RG' := RG) rfl rfl hrx
  have hAsz : A.size = c.maxLocals := by
    obtain ⟨l1, lv, l2, l3⟩ := hL
    exact l2.1
  have hG : ∀ q, q < abNM → GoodIn abTw (abWs q) := fun q hq w hw => by
    rcases List.mem_cons.mp hw with rfl | hw
    · exact ⟨abTaL (hT.1 q hq).2.1, good_of_word (hT.2.1 _ (hT.1 q hq).2.1)⟩
    · exact ⟨abTaL hw, good_of_word (hT.2.1 _ hw)⟩
  have hM := hSp D z sb RG l ws ya.reverse hRG hmu (haLen hX.1 hw0.1) hvs
  have S : CallFix p m c (abBy k) c.maxLocals s args abTw (abOwn k) := ⟨hx, hb, rfl, hown, hts⟩
  have hd := abEt_dec hE (show ¬ (79 : Nat) = 85 by decide) rfl
  have hq := of_decide_eq_true (show decide (a1 < abNM) = true from hE.2.2)
  have pre : ∀ U : State, U.heap = H → s.WarmedH U.vm → va_Pc ya.reverse (avPre D z avRT (haJ RG mu) ws) ya.reverse.toArray U := fun U hU hW => ⟨rfl, ⟨⟨tys, va_K.moved hW.alike hK, hC, hlen.1, hlen.2.1, hlen.2.2.to hW (fun a h1 h2 => by rw [hU]; exact hSS.2.1 a h1 h2)⟩, by rw [hU]; exact hP, hD⟩, by rw [hU]; exact Nat.le_trans hz hSS.1, ⟨fun q hq => va_Nw.warmM hW ((abTa_nest hts).1 q hq), fun C hC => va_AO.moved hW.alike ((abTa_nest hts).2 C hC)⟩⟩
  refine ha_aft (vs := ya.reverse) h hH hX hL hrx' ?_
  exact avRunS (W := avSm rest) (As := ya.reverse) (rest := rx) S hM ⟨callB_of (abMe a1).2.1 hts (hG a1 hq) rfl hZ.1 hZ.2 (hts _ (abTaL (hT.1 a1 hq).2.2.1)) (hts _ (hE.2.1 (.methodLink (abOwn k) xx (abNm a1)) List.mem_cons_self)) (hT.1 a1 hq).2.2.2.1 ⟨avRmB hd' hR1, avRmA (hT.1 a1 hq).2.2.2.2 hd' hR2⟩, hts _ (hE.2.1 (.static (abNm a1)) (List.mem_cons_of_mem _ List.mem_cons_self))⟩ (avRmW hw hd' hR2) ⟨avBlind, pre⟩ rfl (by rw [List.length_reverse, hyl, List.length_reverse, hnp]) hAsz (by show ya ++ rx = ya.reverse.reverse ++ rx; rw [List.reverse_reverse]) (avRoomW (avSm_ok hrx')) hd hw0.2
theorem ha_callV {q d' r j : Nat} {as rest : List avV} {P : Option avV → haMu → Prop} (hT : abTabs) (hF : haF x k d) (hE : abEtOk k e) (hpc : e.2.1 = pc) (ho : e.1 = 78) (hq0 : e.2.2.1 = q) (hZ : (abMe q).2.2.1 = 0 ∧ (abMe q).2.2.2.1 = 0) (hcl : (avRT.get r).1 = (abMe q).2.2.2.2.1) (hSp : haSp q d' (haR r j :: as) mu P) (hd' : d' + 1 ≤ d) (hst : st = as.reverse ++ haR r j :: rest) (hnp : as.length = (abMe q).2.1) (hw : avSm rest + (abMe q).1.2.2.1 ≤ 49) (h : ∀ (o : Option avV) (mu' : haMu), P o mu' → haW x mu' (pc + 3) ls (avPush rest o)) : haW x mu pc ls st := by
  obtain ⟨D, z, sb, RG, w0, p, l, ev, R, s, m, args, below, meth, c, cc, cs, Q⟩ := x
  intro rh H locs ws A xs hH hX hL hS
  obtain ⟨⟨hx, hb, hml, hown, hts, hnm, hz, hR1, hR2⟩, hw0, hRG⟩ := hF
  have erh := haRh hH.2.2.2.2.1
  subst erh
  obtain ⟨o, pc2, a1, a2, xx, ps⟩ := e
  have ho' : o = 78 := ho
  have hpc' : pc2 = pc := hpc
  have hq1 : a1 = q := hq0
  subst ho'; subst hpc'; subst hq1
  obtain ⟨⟨tys, hK, hC, hlen⟩, hP, hD, hSS, hso, hkn⟩ := id hH
  have hmu : haAt ws = mu := hlen.2.1
  rw [hst] at hS
  obtain ⟨ya, rx0, rfl, hya, hrx0, hyl⟩ := haSplit hS
  obtain ⟨x0, rx, rfl, gv, hrx⟩ := hrx0
  obtain ⟨a, en, hj, rfl, er⟩ := haRf gv
  have hvs : avSok RG ws sb avNo (haR r j :: as) (.ref a :: ya.reverse) := by
    have := haRev hya
    rw [List.reverse_reverse] at this
    exact haSok (RG := haJ RG mu) (RG' := RG) rfl rfl ⟨_, _, rfl, gv, this⟩
  have hrx' : avSok RG ws sb avNo rest rx := haSok (RG := haJ RG mu) (RG' := RG) rfl rfl hrx
  have hAsz : A.size = c.maxLocals := by
    obtain ⟨l1, lv, l2, l3⟩ := hL
    exact l2.1
  have hG : ∀ q, q < abNM → GoodIn abTw (abWs q) := fun q hq w hw => by
    rcases List.mem_cons.mp hw with rfl | hw
    · exact ⟨abTaL (hT.1 q hq).2.1, good_of_word (hT.2.1 _ (hT.1 q hq).2.1)⟩
    · exact ⟨abTaL hw, good_of_word (hT.2.1 _ hw)⟩
  have hM := hSp D z sb RG l ws (.ref a :: ya.reverse) hRG hmu (haLen hX.1 hw0.1) hvs
  have S : CallFix p m c (abBy k) c.maxLocals s args abTw (abOwn k) := ⟨hx, hb, rfl, hown, hts⟩
  have hd := abEt_dec hE (show ¬ (78 : Nat) = 85 by decide) rfl
  have hsm : (decide (a1 < abNM) && decide ((abMe a1).2.2.2.2.1 < 90) && (match abCls[(abMe a1).2.2.2.2.1]? with | some q => decide (q.1 = abOwn a1) | none => false)) = true := hE.2.2
  obtain ⟨hsm1, hsm2⟩ := Bool.and_eq_true_iff.mp hsm
  obtain ⟨hsm3, hsm4⟩ := Bool.and_eq_true_iff.mp hsm1
  have hq := of_decide_eq_true hsm3
  have hco := of_decide_eq_true hsm4
  have hcell := hC j (List.getElem?_eq_some_iff.mp hj).1
  rw [show (haJ RG mu).1 j = r from er] at hcell
  obtain ⟨a', fs, y, i1, i2, i3, i4, i5⟩ := hcell.1 (by rw [hcl]; clear hlen hcell hC; omega)
  rw [hj] at i1
  cases i1
  rw [← hcl, i3] at hsm2
  have hyc := of_decide_eq_true hsm2
  have hrecv := va_recv hK hP i3 hj
  rw [hyc] at hrecv
  have pre : ∀ U : State, U.heap = H → s.WarmedH U.vm → va_Pc (.ref a :: ya.reverse) (avPre D z avRT (haJ RG mu) ws) (Value.ref a :: ya.reverse).toArray U := fun U hU hW => ⟨rfl, ⟨⟨tys, va_K.moved hW.alike hK, hC, hlen.1, hlen.2.1, hlen.2.2.to hW (fun a h1 h2 => by rw [hU]; exact hSS.2.1 a h1 h2)⟩, by rw [hU]; exact hP, hD⟩, by rw [hU]; exact Nat.le_trans hz hSS.1, ⟨fun q hq => va_Nw.warmM hW ((abTa_nest hts).1 q hq), fun C hC => va_AO.moved hW.alike ((abTa_nest hts).2 C hC)⟩⟩
  refine ha_aft (vs := .ref a :: ya.reverse) h hH hX hL hrx' ?_
  exact avRunV (W := avSm rest) (C := abOwn a1) (As := ya.reverse) (rest := rx) S hM ⟨callB_of (abMe a1).2.1 hts (hG a1 hq) rfl hZ.1 hZ.2 (hts _ (abTaL (hT.1 a1 hq).2.2.1)) (hts _ (hE.2.1 (.methodLink (abOwn k) xx (abNm a1)) List.mem_cons_self)) (hT.1 a1 hq).2.2.2.1 ⟨avRmB hd' hR1, avRmA (hT.1 a1 hq).2.2.2.2 hd' hR2⟩, hts _ (hE.2.1 (.instanceMethod (abNm a1)) (List.mem_cons_of_mem _ List.mem_cons_self)), hts _ (hE.2.1 (.selects (abOwn a1) (abNm a1) (abNm a1)) (List.mem_cons_of_mem _ (List.mem_cons_of_mem _ List.mem_cons_self)))⟩ (avRmW hw hd' hR2) ⟨avBlind, hrecv, pre⟩ rfl (by rw [List.length_reverse, hyl, List.length_reverse, hnp]) hAsz (by show ya ++ .ref a :: rx = ya.reverse.reverse ++ .ref a :: rx; rw [List.reverse_reverse]) (avRoomW (avSm_ok hrx')) hd hw0.2
end HAC
