/-! fields and rows -/
theorem abHok.lt {D : va_G} {z sb sl : Nat} {rh : Nat → Int} {s : State} {ws : va_W} {H : Heap} {locs : List Loc} {g : abSt} (h : abHok D z sb sl rh s ws H locs g) {j : Nat} {q : Nat × va_E} (hj : ws[j]? = some q) : j < 4096 := by
  have h1 := (List.getElem?_eq_some_iff.mp hj).1
  have h2 := h.2.2.2.2.1
  have h3 := h.2.2.2.2.2.1
  omega
theorem abHok.put {D : va_G} {z sb sl : Nat} {rh : Nat → Int} {s : State} {ws : va_W} {H H1 : Heap} {locs locs1 : List Loc} {g : abSt} {tys : List (ClassId × FieldType)} (h : abHok D z sb sl rh s ws H locs g) (hK : va_K D abCls tys s) (hC : ∀ j : Nat, j < 4096 → abCs tys ws sb sl rh ws[j]? (g.1.get j)) {j a : Nat} {e0 e1 : va_E} {c1 : abCel} (hj : ws[j]? = some (a, e0)) (hP1 : va_P D abCls (ws.set j (a, e1)) H1) (hD1 : va_D (fun q : Nat => z ≤ q) (ws.set j (a, e1))) (hS1 : va_S (fun q : Nat => z ≤ q) s.heap H1 locs1) (hc : abCs tys (ws.set j (a, e1)) sb sl rh (some (a, e1)) c1) : abHok D z sb sl rh s (ws.set j (a, e1)) H1 locs1 (abSh g (abSet j c1 g.1 12 0)) := by
  have hlt := h.lt hj
  obtain ⟨-, -, -, -, hn, h4, hw, he⟩ := h
  refine ⟨⟨tys, hK, fun i hi => ?_⟩, hP1, hD1, hS1, by rw [List.length_set]; exact hn, h4, abSet_wf _ _ _ _ _ hw, he⟩
  show abCs tys _ sb sl rh _ ((abSet j c1 g.1 12 0).get i)
  rw [abSet_get j c1 g.1 12 0 i hw (Nat.zero_le _) (by omega) (Nat.zero_le _) (by omega)]
  by_cases e : j = i
  · rw [if_pos e, ← e, List.getElem?_set_self (List.getElem?_eq_some_iff.mp hj).1]
    exact hc
  · rw [if_neg e, List.getElem?_set_ne e]
    exact (hC i hi).mono (abX.set hj) (fun _ _ q => q)
theorem abHok.push {D : va_G} {z sb sl : Nat} {rh : Nat → Int} {s : State} {ws : va_W} {H H1 : Heap} {locs locs1 : List Loc} {g : abSt} {tys tys' : List (ClassId × FieldType)} (h : abHok D z sb sl rh s ws H locs g) (hC : ∀ j : Nat, j < 4096 → abCs tys ws sb sl rh ws[j]? (g.1.get j)) (ht : ∀ (t0 : Nat) (y : ClassId × FieldType), tys[t0]? = some y → tys'[t0]? = some y) (hK : va_K D abCls tys' s) {a : Nat} {e1 : va_E} {c1 : abCel} (hn1 : g.2.1 + 1 ≤ 4096) (hP1 : va_P D abCls (ws ++ [(a, e1)]) H1) (hD1 : va_D (fun q : Nat => z ≤ q) (ws ++ [(a, e1)])) (hS1 : va_S (fun q : Nat => z ≤ q) s.heap H1 locs1) (hc : abCs tys' (ws ++ [(a, e1)]) sb sl rh (some (a, e1)) c1) : abHok D z sb sl rh s (ws ++ [(a, e1)]) H1 locs1 (abMk g c1) := by
  obtain ⟨-, -, -, -, hn, h4, hw, he⟩ := h
  refine ⟨⟨tys', hK, fun i hi => ?_⟩, hP1, hD1, hS1, by rw [List.length_append]; show ws.length + 1 = g.2.1 + 1; rw [hn], hn1, abSet_wf _ _ _ _ _ hw, he⟩
  show abCs tys' _ sb sl rh _ ((abSet g.2.1 c1 g.1 12 0).get i)
  rw [abSet_get g.2.1 c1 g.1 12 0 i hw (Nat.zero_le _) (by omega) (Nat.zero_le _) (by omega)]
  by_cases e : g.2.1 = i
  · rw [if_pos e, List.getElem?_append_right (by omega), show i - ws.length = 0 by omega]
    exact hc
  · rw [if_neg e]
    have hm := (hC i hi).mono (abX.app ws [(a, e1)]) ht
    by_cases hl : i < ws.length
    · rw [List.getElem?_append_left hl]
      exact hm
    · rw [List.getElem?_eq_none (by simp; omega)]
      rw [List.getElem?_eq_none (by omega)] at hm
      exact hm
theorem abG.last {ws : va_W} {sb sl : Nat} {rh : Nat → Int} {a n : Nat} {e : va_E} (hn : ws.length = n) : abG (ws ++ [(a, e)]) sb sl rh (4, n, 0) (.ref a) := ⟨a, e, by show (ws ++ [(a, e)])[n]? = _; rw [List.getElem?_append_right (by omega), hn, Nat.sub_self]; rfl, rfl⟩
theorem abS60 : abOk 60 abOgf := by
  intro D z sb sl rh xs0 w0 p l ev R s m args below meth c Q k d nx e pc ls st g r hF hE hop hpc hnx h
  obtain ⟨hx, hb, hml, hown, hts, hnm, hz, hR1, hR2, hR3, hR4, hlaw⟩ := hF
  obtain ⟨o, pc', a1, a2, x, ps⟩ := e
  have ho : o = 60 := hop
  have hp : pc' = pc := hpc
  subst ho; subst hp
  have hd := abEt_dec hE (show ¬ (60 : Nat) = 85 by decide) rfl
  have hsm : (match abCls[a1]? with | some q => decide (a2 < q.2.2) && decide (a1 < 90) | none => false) = true := hE.2.2
  have hwd : ∀ w ∈ (match abCls[a1]? with | some q => [Jvm.Cond.fieldLink (abOwn k) x q.1 (q.2.1 a2).2.1 (q.2.1 a2).2.2.1] | none => []), w ∈ abTw := hE.2.1
  obtain ⟨v, rr, rfl, h0⟩ := abHd_some h
  intro H locs ws A xs hH hX hL hS
  obtain ⟨x0, xr, rfl, gv, hS'⟩ := hS
  obtain ⟨a, en, h1, hj, rfl⟩ := abWr_ok h0 gv
  obtain ⟨h2, h3⟩ := abIf_some h1
  have ec : (g.1.get v.2.1).1 = a1 := abBeq h2
  cases hq : abCls[a1]? with
  | none => rw [hq] at hsm; cases hsm
  | some q =>
    rw [hq] at hsm hwd
    obtain ⟨q1, q2⟩ := Bool.and_eq_true_iff.mp hsm
    have q1 := of_decide_eq_true q1
    have q2 := of_decide_eq_true q2
    have hw := hts _ (hwd _ List.mem_cons_self)
    obtain ⟨c1, c2, c3, c4⟩ := abCls_ok a1 q hq
    obtain ⟨⟨tys, hK, hC⟩, hP, hD, hSS, hn, h4, hwf, he⟩ := id hH
    have hcell := hC v.2.1 (hH.lt hj)
    obtain ⟨a', fs, y, e1, e2, e3, e4, e5⟩ := hcell.2.1 (by omega)
    rw [hj] at e1
    cases e1
    rw [ec] at e3 hj
    rw [hq] at e3
    cases e3
    obtain ⟨xv, hxv⟩ : ∃ xv, fs[a2]? = some xv := ⟨_, List.getElem?_eq_getElem (by omega)⟩
    refine va_get (D := D) (cl := abCls) (tys := tys) (ws := ws) (ci := a1) (v := xv) (C := q.1) (T := q.2.1) (N := q.2.2) (ref := q.1) hx hb hts c1 hown hK hP v.2.1 hj hq a2 q1 hw (by rw [c4 a2 q1]; exact fun _ h9 => h9) hxv hd ?_
    exact hnx _ _ _ _ r h3 (fun _ q => q) H locs ws A _ hH hX hL ⟨_, _, rfl, e5 a2 xv hxv, hS'⟩
/-- what the store of a field asks of its value -/
def abFtk (T : FieldType → Prop) (F : abFt) : Prop := ∀ (ws : va_W) (sb sl : Nat) (rh : Nat → Int) (env : abE) (v : abV) (kk : abR) (r : List abF) (x : Value) (ty : FieldType), F env v kk = some r → abEok rh env → abG ws sb sl rh v x → T ty → kk = some r ∧ narrow ty x = x ∧ fits ty x = true
theorem ab01 {y : Int32} (h1 : 0 ≤ y.toInt) (h2 : y.toInt ≤ 1) : y = 0 ∨ y = 1 := by
  rcases (show y.toInt = 0 ∨ y.toInt = 1 by omega) with q | q
  · exact Or.inl (Int32.toInt_inj.mp (by rw [q]; rfl))
  · exact Or.inr (Int32.toInt_inj.mp (by rw [q]; rfl))
theorem abFti_ok : abFtk (fun ty => ty = .int) abFti := by
  intro ws sb sl rh env v kk r x ty h he g ht
  subst ht
  obtain ⟨h1, h2⟩ := abIf_some h
  have := abBle h1
  obtain ⟨y, rfl⟩ := abG_i g (by omega)
  exact ⟨h2, rfl, rfl⟩
theorem abFtz_ok : abFtk (fun ty => ty = .boolean) abFtz := by
  intro ws sb sl rh env v kk r x ty h he g ht
  subst ht
  obtain ⟨a, b, y, h1, rfl, p1, p2, -, -⟩ := abWi0 h he g
  obtain ⟨h2, h3⟩ := abIf_some h1
  obtain ⟨h4, h5⟩ := abIf_some h3
  have e1 := abBle h2
  have e2 := abBle h4
  simp only [abB] at p1 p2
  rcases ab01 (y := y) (by omega) (by omega) with rfl | rfl
  · exact ⟨h5, rfl, rfl⟩
  · exact ⟨h5, rfl, rfl⟩
theorem abFtr_ok : abFtk (fun ty => (∃ n, ty = .object n) ∨ ∃ t, ty = .array t) abFtr := by
  intro ws sb sl rh env v kk r x ty h he g ht
  have key : kk = some r ∧ (x = .null ∨ ∃ a, x = .ref a) := by
    unfold abFtr at h
    cases q1 : Nat.beq v.1 4 with
    | true =>
      rw [abIf_t q1] at h
      exact ⟨h, Or.inr (abG_a g (Or.inl (abBeq q1)))⟩
    | false =>
      rw [abIf_f q1] at h
      obtain ⟨h1, h2⟩ := abIf_some h
      obtain ⟨t, i, j⟩ := v
      have e : t = 6 := abBeq h1
      subst e
      exact ⟨h2, Or.inl g⟩
  rcases ht with ⟨n, rfl⟩ | ⟨t, rfl⟩ <;> rcases key.2 with rfl | ⟨a, rfl⟩ <;> exact ⟨key.1, rfl, rfl⟩
theorem abPf {op : Nat} {T : FieldType → Prop} {F : abFt} (h85 : ¬ op = 85) (hins : ∀ (pc a1 a2 x : Nat) (ps : List Nat), abIns (op, pc, a1, a2, x, ps) = some (.putfield x, 3)) (hwd : ∀ (k pc a1 a2 x : Nat) (ps : List Nat), abWds k (op, pc, a1, a2, x, ps) = match abCls[a1]? with | some q => [.fieldLink (abOwn k) x q.1 (q.2.1 a2).2.1 (q.2.1 a2).2.2.1] | none => []) (hsm : ∀ (k pc a1 a2 x : Nat) (ps : List Nat), abSmk k (op, pc, a1, a2, x, ps) = true → ∃ q, abCls[a1]? = some q ∧ a2 < q.2.2 ∧ a1 < 90 ∧ T (abTyp a1 a2) ∧ ((q.2.1 a2).2.2.2 = true → (abNm k).name = "<init>" ∧ abOwn k = q.1)) (hFt : abFtk T F) : abOk op (abOpf F) := by
  intro D z sb sl rh xs0 w0 p l ev R s m args below meth c Q k d nx e pc ls st g r hF hE hop hpc hnx h
  obtain ⟨hx, hb, hml, hown, hts, hnm, hz, hR1, hR2, hR3, hR4, hlaw⟩ := hF
  obtain ⟨o, pc', a1, a2, x, ps⟩ := e
  have ho : o = op := hop
  have hp : pc' = pc := hpc
  subst ho; subst hp
  have hd := abEt_dec hE h85 (hins _ _ _ _ _)
  obtain ⟨q, hq, q1, q2, q3, q4⟩ := hsm _ _ _ _ _ _ hE.2.2
  have hwd1 := hE.2.1
  rw [hwd, hq] at hwd1
  have hw := hts _ (hwd1 _ List.mem_cons_self)
  obtain ⟨c1, c2, c3, c4⟩ := abCls_ok a1 q hq
  obtain ⟨v, w, rr, rfl, h0⟩ := ab2_some h
  intro H locs ws A xs hH hX hL hS
  obtain ⟨x0, xr, rfl, gv, x1, xr', rfl, gw, hS'⟩ := hS
  obtain ⟨a, en, h1, hj, rfl⟩ := abWr_ok h0 gw
  obtain ⟨h2, h3⟩ := abIf_some h1
  have ec : (g.1.get w.2.1).1 = a1 := abBeq h2
  obtain ⟨h4, n1, n2⟩ := hFt ws sb sl rh _ v _ r x0 _ h3 hH.2.2.2.2.2.2.2 gv q3
  obtain ⟨⟨tys, hK, hC⟩, hP, hD, hSS, hn, h4096, hwf, he⟩ := id hH
  have hcell := hC w.2.1 (hH.lt hj)
  obtain ⟨a', fs, y, e1, e2, e3, e4, e5⟩ := hcell.2.1 (by omega)
  have hj0 := hj
  rw [hj] at e1
  cases e1
  rw [ec] at e3 hj
  rw [hq] at e3
  cases e3
  have fin : ∀ (H1 : Heap) (locs1 : List Loc), va_P D abCls (ws.set w.2.1 (a, .inr (a1, fs.set a2 x0))) H1 → va_D (fun q : Nat => z ≤ q) (ws.set w.2.1 (a, .inr (a1, fs.set a2 x0))) → va_S (fun q : Nat => z ≤ q) s.heap H1 locs1 → W p l ev R s m args below meth c H1 locs1 g.2.2.2.1 g.2.2.2.2 Q (F0 m (pc' + 3) A xr') := by
    intro H1 locs1 hP1 hD1 hS1
    have hX1 : abX ws (ws.set w.2.1 (a, .inr (a1, fs.set a2 x0))) := abX.set hj
    refine hnx _ _ _ _ r h4 (fun _ q => q) H1 locs1 (ws.set w.2.1 (a, .inr (a1, fs.set a2 x0))) A _ ?_ (hX.tr hX1) (hL.mono hX1) (hS'.mono hX1)
    refine hH.put hK hC hj hP1 hD1 hS1 ⟨abSet_wf _ _ _ _ _ hcell.1, fun _ => ⟨a, fs.set a2 x0, q, by rw [ec], by rw [List.length_set]; exact e2, by rw [ec]; exact hq, e4, fun kx xx hkx => ?_⟩, fun ty ht => ?_, fun hc => ?_, fun hc => ?_⟩
    · have hkl : kx < (fs.set a2 x0).length := (List.getElem?_eq_some_iff.mp hkx).1
      rw [List.length_set] at hkl
      show abG _ sb sl rh ((abSet a2 v (g.1.get w.2.1).2.2 (abD (g.1.get w.2.1).2.1) 0).get kx) xx
      rw [abSet_get _ _ _ _ _ _ hcell.1 (Nat.zero_le _) (abD_lt (by omega)) (Nat.zero_le _) (abD_lt (by omega))]
      by_cases e : a2 = kx
      · subst e
        rw [if_pos rfl]
        rw [List.getElem?_set_self hkl] at hkx
        cases hkx
        exact gv.mono hX1
      · rw [if_neg e]
        rw [List.getElem?_set_ne e] at hkx
        exact (e5 kx xx hkx).mono hX1
    · have : abTyA (g.1.get w.2.1).1 = some ty := ht
      rw [ec] at this
      unfold abTyA at this
      split at this <;> first | omega | cases this
    · have : (g.1.get w.2.1).1 = 101 := hc
      omega
    · have : 200 ≤ (g.1.get w.2.1).1 := hc
      omega
  by_cases hf : (q.2.1 a2).2.2.2 = true
  · obtain ⟨f1, f2⟩ := q4 hf
    exact va_putF (D := D) (cl := abCls) (tys := tys) (ws := ws) (ci := a1) (v := x0) (ty := abTyp a1 a2) (C := q.1) (T := q.2.1) (N := q.2.2) (ref := q.1) hx hb hts c1 (abTyp a1) c2 c3 hown hK hP hD hSS w.2.1 hj hq a2 q1 hw (by rw [c4 a2 q1]; exact fun _ h9 => h9) hf (by rw [hnm]; exact f1) (by rw [c4 a2 q1]; exact f2.symm) (c2 a2 q1) n1 n2 (by omega) hd fin
  · exact va_put (D := D) (cl := abCls) (tys := tys) (ws := ws) (ci := a1) (v := x0) (ty := abTyp a1 a2) (C := q.1) (T := q.2.1) (N := q.2.2) (ref := q.1) hx hb hts c1 (abTyp a1) c2 c3 hown hK hP hD hSS w.2.1 hj hq a2 q1 hw (by rw [c4 a2 q1]; exact fun _ h9 => h9) (by simpa using hf) (c2 a2 q1) n1 n2 (by omega) hd fin
theorem abS61 : abOk 61 (abOpf abFti) := by
  refine abPf (T := fun ty => ty = .int) (by decide) (fun _ _ _ _ _ => rfl) (fun _ _ _ _ _ _ => rfl) (fun k pc a1 a2 x ps h => ?_) abFti_ok
  have h' : (match abCls[a1]? with | some q => decide (a2 < q.2.2) && decide (a1 < 90) && decide (abTyp a1 a2 = .int) && (!(q.2.1 a2).2.2.2 || (decide ((abNm k).name = "<init>") && decide (abOwn k = q.1))) | none => false) = true := h
  cases hq : abCls[a1]? with
  | none => rw [hq] at h'; cases h'
  | some q =>
    rw [hq] at h'
    obtain ⟨h1, g4⟩ := Bool.and_eq_true_iff.mp h'
    obtain ⟨h2, g3⟩ := Bool.and_eq_true_iff.mp h1
    obtain ⟨g1, g2⟩ := Bool.and_eq_true_iff.mp h2
    refine ⟨q, rfl, of_decide_eq_true g1, of_decide_eq_true g2, ?_, fun hf => ?_⟩
    · exact of_decide_eq_true g3
    · rw [hf] at g4
      obtain ⟨g5, g6⟩ := Bool.and_eq_true_iff.mp (show (decide ((abNm k).name = "<init>") && decide (abOwn k = q.1)) = true from g4)
      exact ⟨of_decide_eq_true g5, of_decide_eq_true g6⟩
theorem abS62 : abOk 62 (abOpf abFtz) := by
  refine abPf (T := fun ty => ty = .boolean) (by decide) (fun _ _ _ _ _ => rfl) (fun _ _ _ _ _ _ => rfl) (fun k pc a1 a2 x ps h => ?_) abFtz_ok
  have h' : (match abCls[a1]? with | some q => decide (a2 < q.2.2) && decide (a1 < 90) && decide (abTyp a1 a2 = .boolean) && (!(q.2.1 a2).2.2.2 || (decide ((abNm k).name = "<init>") && decide (abOwn k = q.1))) | none => false) = true := h
  cases hq : abCls[a1]? with
  | none => rw [hq] at h'; cases h'
  | some q =>
    rw [hq] at h'
    obtain ⟨h1, g4⟩ := Bool.and_eq_true_iff.mp h'
    obtain ⟨h2, g3⟩ := Bool.and_eq_true_iff.mp h1
    obtain ⟨g1, g2⟩ := Bool.and_eq_true_iff.mp h2
    refine ⟨q, rfl, of_decide_eq_true g1, of_decide_eq_true g2, ?_, fun hf => ?_⟩
    · exact of_decide_eq_true g3
    · rw [hf] at g4
      obtain ⟨g5, g6⟩ := Bool.and_eq_true_iff.mp (show (decide ((abNm k).name = "<init>") && decide (abOwn k = q.1)) = true from g4)
      exact ⟨of_decide_eq_true g5, of_decide_eq_true g6⟩
theorem abS63 : abOk 63 (abOpf abFtr) := by
  refine abPf (T := fun ty => (∃ n, ty = .object n) ∨ ∃ t, ty = .array t) (by decide) (fun _ _ _ _ _ => rfl) (fun _ _ _ _ _ _ => rfl) (fun k pc a1 a2 x ps h => ?_) abFtr_ok
  have h' : (match abCls[a1]? with | some q => decide (a2 < q.2.2) && decide (a1 < 90) && (match abTyp a1 a2 with | .object _ => true | .array _ => true | _ => false) && (!(q.2.1 a2).2.2.2 || (decide ((abNm k).name = "<init>") && decide (abOwn k = q.1))) | none => false) = true := h
  cases hq : abCls[a1]? with
  | none => rw [hq] at h'; cases h'
  | some q =>
    rw [hq] at h'
    obtain ⟨h1, g4⟩ := Bool.and_eq_true_iff.mp h'
    obtain ⟨h2, g3⟩ := Bool.and_eq_true_iff.mp h1
    obtain ⟨g1, g2⟩ := Bool.and_eq_true_iff.mp h2
    refine ⟨q, rfl, of_decide_eq_true g1, of_decide_eq_true g2, ?_, fun hf => ?_⟩
    · cases ht : abTyp a1 a2 with
        | object n => exact Or.inl ⟨n, rfl⟩
        | array t => exact Or.inr ⟨t, rfl⟩
        | _ => rw [ht] at g3; cases g3
    · rw [hf] at g4
      obtain ⟨g5, g6⟩ := Bool.and_eq_true_iff.mp (show (decide ((abNm k).name = "<init>") && decide (abOwn k = q.1)) = true from g4)
      exact ⟨of_decide_eq_true g5, of_decide_eq_true g6⟩
