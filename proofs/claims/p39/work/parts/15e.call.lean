/-! a call's entry -/
/-- the methods that are called out of the tables take no room of the heap -/
def avTabZ (TT : Nat → Lean.RArray abEy) : Prop := ∀ k pc : Nat, k < abNM → ((TT k).get pc).2.1 = pc → 78 ≤ ((TT k).get pc).1 → ((TT k).get pc).1 ≤ 81 → (abMe ((TT k).get pc).2.2.1).2.2.1 = 0 ∧ (abMe ((TT k).get pc).2.2.1).2.2.2.1 = 0
theorem avRmC {L a b c Lo : Nat} (h : L ≤ 41) (h1 : a + 60 ≤ b) (h2 : b + c ≤ Lo) : 8 + (L + 11) + (a + c) ≤ Lo := by omega
theorem avRmA {L d d' Lo : Nat} (h : L ≤ 41) (hd : d' + 1 ≤ d) (h2 : 60 * (d + 6) ≤ Lo) : 8 + (L + 11) + 60 * (d' + 5 + 1) ≤ Lo := by
  have e1 : 60 * (d + 6) = 60 * d + 360 := Nat.mul_add 60 d 6
  have e2 : 60 * (d' + 5 + 1) = 60 * d' + 360 := Nat.mul_add 60 d' 6
  have e3 : 60 * (d' + 1) ≤ 60 * d := Nat.mul_le_mul_left 60 hd
  have e4 : 60 * (d' + 1) = 60 * d' + 60 := Nat.mul_add 60 d' 1
  rw [e2]
  rw [e1] at h2
  rw [e4] at e3
  exact avRmC h e3 h2
theorem avRmD {L a b c Lo w : Nat} (h : w + L ≤ 49) (h1 : a + 60 ≤ b) (h2 : b + c ≤ Lo) : w + (L + 11) + (a + c) ≤ Lo := by omega
theorem avRmW {L w d d' Lo : Nat} (h : w + L ≤ 49) (hd : d' + 1 ≤ d) (h2 : 60 * (d + 6) ≤ Lo) : w + (L + 11) + 60 * (d' + 5 + 1) ≤ Lo := by
  have e1 : 60 * (d + 6) = 60 * d + 360 := Nat.mul_add 60 d 6
  have e2 : 60 * (d' + 5 + 1) = 60 * d' + 360 := Nat.mul_add 60 d' 6
  have e3 : 60 * (d' + 1) ≤ 60 * d := Nat.mul_le_mul_left 60 hd
  have e4 : 60 * (d' + 1) = 60 * d' + 60 := Nat.mul_add 60 d' 1
  rw [e2]
  rw [e1] at h2
  rw [e4] at e3
  exact avRmD h e3 h2
theorem avRoomW {st : List Value} {m : MethodId} {pc : Nat} {ls : Array Slot} {rest : List Value} {w : Nat} (h : (st.map fun v => v.category).sum ≤ w) : 2 * (F0 m pc ls rest).monitorRoom + (st.map fun v => v.category).sum ≤ w := by
  show 2 * 0 + _ ≤ w
  omega
theorem avRmB {d d' F : Nat} (hd : d' + 1 ≤ d) (h2 : d + 6 ≤ F) : d' + 5 + 1 + 1 ≤ F := by omega
theorem avCall_ok {D : va_G} {z sb : Nat} {RT : Lean.RArray avRg} {RG : avRJ} {TT : Nat → Lean.RArray abEy} {CC : Lean.RArray (List avCon)} {OP : Lean.RArray avPo} {N n : Nat} (hT : abTabs) (IH : avRuns D z sb RT RG TT CC OP N n) (hN : avCn D z sb RT RG CC N) {w0 : va_W} {r0 : afR} {p : Program} {l : Launch} {ev : Env} {R : Room} {s : State} {m : MethodId} {args : Array Value} {below : List Frame} {meth : Method} {c : Code} {cc cs : Nat} {Q : State → Prop} {C : List avCut} {M : Option afF} {k d pc : Nat} {e : abEy} {ls st : List avV} {g : avS} {K : Option avV → avS → Bool}
    (hF : avFr z k d p R s m args meth c) (hk : k < abNM) (hdN : d ≤ N) (hroom : cc ≤ R.cells ∧ cs ≤ R.slots) (hC2 : avCo2 D z sb RT RG w0 r0 p l ev R s m args below meth c cc cs Q C M) (hKo : avKo D z sb RT RG TT w0 r0 p l ev R s m args below meth c cc cs Q k K)
    (hE : abEtOk k e) (hpc : e.2.1 = pc) (hZ : (abMe e.2.2.1).2.2.1 = 0 ∧ (abMe e.2.2.1).2.2.2.1 = 0)
    (h : avCall RT TT CC (avRun RT TT CC OP n) C M d k e pc ls st g K = true) : avW D z sb RT RG w0 r0 p l ev R s m args below meth c cc cs Q pc ls st g := by
  intro rh H locs ws A xs hH hX hL hS
  have hF0 := hF
  obtain ⟨hx, hb, hml, hown, hts, hnm, hz, hR1, hR2⟩ := hF
  obtain ⟨o, pc', a1, a2, x, ps⟩ := e
  have hp : pc' = pc := hpc
  subst hp
  obtain ⟨⟨tys, hK, hC, hlen⟩, hP, hD, hSS, hso, hkn⟩ := id hH
  obtain ⟨as, rest, zs, rx, h1, rfl, hzl, hzs, hrest, h5⟩ := avTk_ok (abMe a1).2.1 [] st xs [] h hS rfl (fun v hv => by cases hv)
  rw [List.append_nil] at hzs
  have hAsz : A.size = c.maxLocals := by
    obtain ⟨l1, lv, l2, l3⟩ := hL
    exact l2.1
  have hG : ∀ q, q < abNM → GoodIn abTw (abWs q) := fun q hq w hw => by
    rcases List.mem_cons.mp hw with rfl | hw
    · exact ⟨abTaL (hT.1 q hq).2.1, good_of_word (hT.2.1 _ (hT.1 q hq).2.1)⟩
    · exact ⟨abTaL hw, good_of_word (hT.2.1 _ hw)⟩
  have pre : ∀ (vs : List Value) (U : State), U.heap = H → s.WarmedH U.vm → va_Pc vs (avPre D z RT RG ws) vs.toArray U := fun vs U hU hW => ⟨rfl, ⟨⟨tys, va_K.moved hW.alike hK, hC, hlen.1, hlen.2.1, hlen.2.2.to hW (fun a h1 h2 => by rw [hU]; exact hSS.2.1 a h1 h2)⟩, by rw [hU]; exact hP, hD⟩, by rw [hU]; exact Nat.le_trans hz hSS.1, ⟨fun q hq => va_Nw.warmM hW ((abTa_nest hts).1 q hq), fun C hC => va_AO.moved hW.alike ((abTa_nest hts).2 C hC)⟩⟩
  have rm : ∀ (q d' : Nat), q < abNM → d' + 1 ≤ d → (abRoom q (d' + 5)).frames + 1 ≤ R.frames ∧ 8 + ((abMe q).1.2.2.1 + 11) + (abRoom q (d' + 5)).locals ≤ R.locals := by
    intro q d' hq hd'
    have := (hT.1 q hq).2.2.2.2
    exact ⟨avRmB hd' hR1, avRmA this hd' hR2⟩
  have S : CallFix p m c (abBy k) c.maxLocals s args abTw (abOwn k) := ⟨hx, hb, rfl, hown, hts⟩
  have next : ∀ (pc : Nat) (rr : List avV) (o : Option avV) (q' : avS), avRun RT TT CC OP n C M false d k (pc + 3) ls (avPush rr o) q' K = true → avW D z sb RT RG w0 r0 p l ev R s m args below meth c cc cs Q (pc + 3) ls (avPush rr o) q' := fun pc rr o q' hh => IH w0 r0 p l ev R s m args below meth c cc cs Q k d C M false (pc + 3) ls (avPush rr o) q' K hF0 hk hdN hroom hC2 hKo hh
  obtain hb1 | ⟨hb1, hb2⟩ : (Nat.beq o 79 = true) ∨ (Nat.beq o 79 = false ∧ Nat.beq o 78 = true) := by
    cases q1 : Nat.beq o 79 with
    | true => exact Or.inl rfl
    | false =>
      have h2 := h1
      rw [show Nat.beq ((o, pc', a1, a2, x, ps) : abEy).1 79 = false from q1, abIf_f rfl] at h2
      exact Or.inr ⟨rfl, (abIf_and h2).1⟩
  · have o' := abBeq hb1
    subst o'
    have h2 : avGo TT CC (avRun RT TT CC OP n) C M d k a1 pc' ls as rest g K = true := h1
    have hd := abEt_dec hE (show ¬ (79 : Nat) = 85 by decide) rfl
    have hq := of_decide_eq_true (show decide (a1 < abNM) = true from hE.2.2)
    obtain ⟨r8, d', hd', hM⟩ := avGo_ok IH hN hdN hq (hT.1 a1 hq) hZ l h2 hzs h5 hso hkn
    refine avAf_ok (vs := zs) (next pc' rest) hH hX hL hrest ?_
    exact avRunS (W := avSm rest) (As := zs) (rest := rx) S hM ⟨callB_of (abMe a1).2.1 hts (hG a1 hq) rfl hZ.1 hZ.2 (hts _ (abTaL (hT.1 a1 hq).2.2.1)) (hts _ (hE.2.1 (.methodLink (abOwn k) x (abNm a1)) List.mem_cons_self)) (hT.1 a1 hq).2.2.2.1 (rm a1 d' hq hd'), hts _ (hE.2.1 (.static (abNm a1)) (List.mem_cons_of_mem _ List.mem_cons_self))⟩ (avRmW r8 hd' hR2) ⟨avBlind, fun U hU hW => pre zs U hU hW⟩ rfl hzl hAsz rfl (avRoomW (avSm_ok hrest)) hd hroom
  · have o' := abBeq hb2
    subst o'
    have h2 : avHd rest (fun v r => avRf v fun g' _ => abIf (Nat.beq (RT.get g').1 (abMe a1).2.2.2.2.1) (avGo TT CC (avRun RT TT CC OP n) C M d k a1 pc' ls (v :: as) r g K) false) = true := h1
    obtain ⟨v, rr, rfl, h3⟩ := avHd_some h2
    obtain ⟨x0, xr, rfl, gv, hS'⟩ := hrest
    obtain ⟨v2, h4⟩ := avRf_some h3
    obtain ⟨h6, h7⟩ := abIf_and h4
    have hd := abEt_dec hE (show ¬ (78 : Nat) = 85 by decide) rfl
    have hsm : (decide (a1 < abNM) && decide ((abMe a1).2.2.2.2.1 < 90) && (match abCls[(abMe a1).2.2.2.2.1]? with | some q => decide (q.1 = abOwn a1) | none => false)) = true := hE.2.2
    obtain ⟨hsm1, hsm2⟩ := Bool.and_eq_true_iff.mp hsm
    obtain ⟨hsm3, hsm4⟩ := Bool.and_eq_true_iff.mp hsm1
    have hq := of_decide_eq_true hsm3
    have hco := of_decide_eq_true hsm4
    obtain ⟨r8, d', hd', hM⟩ := avGo_ok IH hN hdN hq (hT.1 a1 hq) hZ l h7 (vs := x0 :: zs) ⟨x0, zs, rfl, gv, hzs⟩ (fun w hw => by
      rcases List.mem_cons.mp hw with rfl | hw
      · omega
      · exact h5 w hw) hso hkn
    have gv2 : ∃ (j a : Nat) (e : va_E), ws[j]? = some (a, e) ∧ x0 = .ref a ∧ RG.1 j = v.2.1 ∧ (j : Int) = afV rh v.2.2 := by
      obtain ⟨t, g0, f⟩ := v
      have t2 : t = 2 := v2
      subst t2
      exact gv.2
    obtain ⟨j, a, e1, hj, rfl, hg, -⟩ := gv2
    have hcell := hC j (List.getElem?_eq_some_iff.mp hj).1
    rw [hg] at hcell
    obtain ⟨a', fs, y, i1, i2, i3, i4, i5⟩ := hcell.1 (by rw [abBeq h6]; omega)
    rw [hj] at i1
    cases i1
    rw [← abBeq h6, i3] at hsm2
    have hyc := of_decide_eq_true hsm2
    refine avAf_ok (vs := .ref a :: zs) (next pc' rr) hH hX hL hS' ?_
    have hrecv := va_recv hK hP i3 hj
    rw [hyc] at hrecv
    exact avRunV (W := avSm rr) (C := abOwn a1) (As := zs) (rest := xr) S hM ⟨callB_of (abMe a1).2.1 hts (hG a1 hq) rfl hZ.1 hZ.2 (hts _ (abTaL (hT.1 a1 hq).2.2.1)) (hts _ (hE.2.1 (.methodLink (abOwn k) x (abNm a1)) List.mem_cons_self)) (hT.1 a1 hq).2.2.2.1 (rm a1 d' hq hd'), hts _ (hE.2.1 (.instanceMethod (abNm a1)) (List.mem_cons_of_mem _ List.mem_cons_self)), hts _ (hE.2.1 (.selects (abOwn a1) (abNm a1) (abNm a1)) (List.mem_cons_of_mem _ (List.mem_cons_of_mem _ List.mem_cons_self)))⟩ (avRmW r8 hd' hR2) ⟨avBlind, hrecv, fun U hU hW => pre (.ref a :: zs) U hU hW⟩ rfl hzl hAsz rfl (avRoomW (avSm_ok hS')) hd hroom
