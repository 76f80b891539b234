/-! a field of numbers, written by hand -/
section HAPF
variable {x : haCx} {mu : haMu} {k d pc pc' : Nat} {ls st ls' st' : List avV} {e : abEy}
theorem ha_putG {z : Bool} {T : FieldType → Prop} {op : Nat} (h85 : ¬ op = 85) (hins : ∀ (pc a1 a2 x : Nat) (ps : List Nat), abIns (op, pc, a1, a2, x, ps) = some (.putfield x, 3)) (hwd : ∀ (k pc a1 a2 x : Nat) (ps : List Nat), abWds k (op, pc, a1, a2, x, ps) = match abCls[a1]? with | some q => [.fieldLink (abOwn k) x q.1 (q.2.1 a2).2.1 (q.2.1 a2).2.2.1] | none => []) (hsm : ∀ (k pc a1 a2 x : Nat) (ps : List Nat), abSmk k (op, pc, a1, a2, x, ps) = true → ∃ q, abCls[a1]? = some q ∧ a2 < q.2.2 ∧ a1 < 90 ∧ T (abTyp a1 a2)) (hFt : ∀ (y : Int32) (ty : FieldType), T ty → (z = true → 0 ≤ y.toInt ∧ y.toInt ≤ 1) → narrow ty (.int y) = .int y ∧ fits ty (.int y) = true)
    {r j i : Nat} {v lo up : Int} (hF : haF x k d) (hE : abEtOk k e) (hpc : e.2.1 = pc) (ho : e.1 = op) (hi : e.2.2.2.1 = i) (hr : (avRT.get r).1 = e.2.2.1) (hn : i < (avRT.get r).2.1) (hfin : ∀ q, abCls[e.2.2.1]? = some q → (q.2.1 i).2.2.2 = false) (hs : (avRT.get r).2.2.get i = (0, lo, up)) (h1 : lo ≤ v) (h2 : v ≤ up) (hz : z = true → 0 ≤ v ∧ v ≤ 1) (h : haW x (haUp mu j i v) (pc + 3) ls st) : haW x mu pc ls (haI v :: haR r j :: st) := by
  obtain ⟨D, z0, sb, RG, w0, p, l, ev, R, s, m, args, below, meth, c, cc, cs, Q⟩ := x
  intro rh H locs ws A xs hH hX hL hS
  obtain ⟨⟨hx, hb, hml, hown, hts, hnm, hzz, hR3, hR4⟩, hw0, hRG⟩ := hF
  obtain ⟨o, pc2, a1, a2, xx, ps⟩ := e
  have ho' : o = op := ho
  have hpc' : pc2 = pc := hpc
  have hi' : a2 = i := hi
  subst ho'; subst hpc'; subst hi'
  have hd := abEt_dec hE h85 (hins _ _ _ _ _)
  obtain ⟨q0, hq, q1, q2, q3⟩ := hsm _ _ _ _ _ _ hE.2.2
  have hwd1 := hE.2.1
  rw [hwd, hq] at hwd1
  have hw := hts _ (hwd1 _ List.mem_cons_self)
  obtain ⟨c1, c2, c3, c4⟩ := abCls_ok a1 q0 hq
  obtain ⟨x0, xr, rfl, gu, x1, xr', rfl, gv, hS'⟩ := hS
  obtain ⟨du, yv, rfl, eu⟩ := avGv_i gu rfl
  obtain ⟨a, en, hj, rfl, er⟩ := haRf gv
  have eu' : yv.toInt = v := by rw [eu]; exact haCst rh v
  obtain ⟨n1, n2⟩ := hFt yv (abTyp a1 a2) q3 (fun q => by rw [eu']; exact hz q)
  obtain ⟨⟨tys, hK, hC, hlen⟩, hP, hD, hSS, hso, hkn⟩ := id hH
  have hcell := hC j (List.getElem?_eq_some_iff.mp hj).1
  rw [show (haJ RG mu).1 j = r from er] at hcell
  have hr' : (avRT.get r).1 = a1 := hr
  obtain ⟨a', fs, y, e1, e2, e3, e4, e5⟩ := hcell.1 (by rw [hr']; clear hlen hcell hC; omega)
  rw [hj] at e1
  cases e1
  have hj0 := hj
  have e3' := e3
  rw [hr'] at e3 hj
  rw [hq] at e3
  cases e3
  have hal : a2 < fs.length := by rw [e2]; exact hn
  have hm : avM (haT RG) ws ((avRT.get r).2.2.get a2) (.int yv) := by
    rw [hs]
    exact ⟨yv, rfl, by rw [eu']; exact h1, by rw [eu']; exact h2⟩
  have fin : ∀ (H1 : Heap) (locs1 : List Loc), va_P D abCls (ws.set j (a, .inr (a1, fs.set a2 (.int yv)))) H1 → va_D (fun q : Nat => z0 ≤ q) (ws.set j (a, .inr (a1, fs.set a2 (.int yv)))) → va_S (fun q : Nat => z0 ≤ q) s.heap H1 locs1 → W p l ev R s m args below meth c H1 locs1 cc cs Q (F0 m (pc2 + 3) A xr') := by
    intro H1 locs1 hP1 hD1 hS1
    rw [← hr'] at hP1 hD1
    have hX1 := abX.via hj0 hP1
    have hc1 : avCs1 tys (haT RG) (ws.set j (a, .inr ((avRT.get r).1, fs.set a2 (.int yv)))) (some (a, .inr ((avRT.get r).1, fs.set a2 (.int yv)))) (avRT.get r) := avCs1.putF (RG := haT RG) hX1 (by rw [hr']; clear hlen hcell hC; omega) e2 e3' e4 (fun k' x' hk' => e5 k' x' hk') hm
    have hput := (haTo hH rfl).put (l := []) (j := j) (a := a) (e1 := .inr ((avRT.get r).1, fs.set a2 (.int yv))) hK hC hj0 hP1 hD1 hS1 (by rw [show (haT RG).1 j = r from er]; exact hc1) ⟨fun k hk => (by cases hk), trivial⟩
    have hmu : haAt ws = mu := hlen.2.1
    have hat : haAt (ws.set j (a, .inr ((avRT.get r).1, fs.set a2 (.int yv)))) = haUp mu j a2 v := by
      rw [haAt_set (i := (a2 : Int)) (v := v) (Int.natCast_nonneg a2) hj0 ?_ ?_, hmu]
      · show haNm ((fs.set a2 (Value.int yv))[a2]?) = v
        rw [List.getElem?_set_self hal]
        exact eu'
      · intro i' hi'
        show (fs.set a2 (Value.int yv))[i']? = fs[i']?
        exact List.getElem?_set_ne (fun q => hi' (by rw [← q]; rfl))
    exact h rh H1 locs1 _ A _ (haFrom hput rfl hat) (hX.tr hX1) (hL.mono hX1 (afLe.rf rh)) (haSok (RG := haJ RG mu) (RG' := haJ RG (haUp mu j a2 v)) rfl rfl (hS'.mono hX1 (afLe.rf rh)))
  exact va_put (D := D) (cl := abCls) (tys := tys) (ws := ws) (ci := a1) (v := .int yv) (ty := abTyp a1 a2) (C := q0.1) (T := q0.2.1) (N := q0.2.2) (ref := q0.1) hx hb hts c1 (abTyp a1) c2 c3 hown hK hP hD hSS j hj hq a2 q1 hw (by rw [c4 a2 q1]; exact fun _ h9 => h9) (hfin q0 hq) (c2 a2 q1) n1 n2 hal hd fin
theorem ha_putI {r j i : Nat} {v lo up : Int} (hF : haF x k d) (hE : abEtOk k e) (hpc : e.2.1 = pc) (ho : e.1 = 61) (hi : e.2.2.2.1 = i) (hr : (avRT.get r).1 = e.2.2.1) (hn : i < (avRT.get r).2.1) (hfin : ∀ q, abCls[e.2.2.1]? = some q → (q.2.1 i).2.2.2 = false) (hs : (avRT.get r).2.2.get i = (0, lo, up)) (h1 : lo ≤ v) (h2 : v ≤ up) (h : haW x (haUp mu j i v) (pc + 3) ls st) : haW x mu pc ls (haI v :: haR r j :: st) := by
  refine ha_putG (z := false) (T := fun ty => ty = .int) (op := 61) (by decide) (fun _ _ _ _ _ => rfl) (fun _ _ _ _ _ _ => rfl) (fun k pc a1 a2 x ps h => ?_) (fun y ty ht _ => by subst ht; exact ⟨rfl, rfl⟩) hF hE hpc ho hi hr hn hfin hs h1 h2 (fun q => by cases q) h
  have h' : (match abCls[a1]? with | some q => decide (a2 < q.2.2) && decide (a1 < 90) && decide (abTyp a1 a2 = .int) && (!(q.2.1 a2).2.2.2 || (decide ((abNm k).name = "<init>") && decide (abOwn k = q.1))) | none => false) = true := h
  cases hq : abCls[a1]? with
  | none => rw [hq] at h'; cases h'
  | some q =>
    rw [hq] at h'
    obtain ⟨h1, g4⟩ := Bool.and_eq_true_iff.mp h'
    obtain ⟨h2, g3⟩ := Bool.and_eq_true_iff.mp h1
    obtain ⟨g1, g2⟩ := Bool.and_eq_true_iff.mp h2
    exact ⟨q, rfl, of_decide_eq_true g1, of_decide_eq_true g2, of_decide_eq_true g3⟩
theorem ha_putZ {r j i : Nat} {v lo up : Int} (hF : haF x k d) (hE : abEtOk k e) (hpc : e.2.1 = pc) (ho : e.1 = 62) (hi : e.2.2.2.1 = i) (hr : (avRT.get r).1 = e.2.2.1) (hn : i < (avRT.get r).2.1) (hfin : ∀ q, abCls[e.2.2.1]? = some q → (q.2.1 i).2.2.2 = false) (hs : (avRT.get r).2.2.get i = (0, lo, up)) (h1 : lo ≤ v) (h2 : v ≤ up) (hv : 0 ≤ v ∧ v ≤ 1) (h : haW x (haUp mu j i v) (pc + 3) ls st) : haW x mu pc ls (haI v :: haR r j :: st) := by
  refine ha_putG (z := true) (T := fun ty => ty = .boolean) (op := 62) (by decide) (fun _ _ _ _ _ => rfl) (fun _ _ _ _ _ _ => rfl) (fun k pc a1 a2 x ps h => ?_) (fun y ty ht hz => ?_) hF hE hpc ho hi hr hn hfin hs h1 h2 (fun _ => hv) h
  · have h' : (match abCls[a1]? with | some q => decide (a2 < q.2.2) && decide (a1 < 90) && decide (abTyp a1 a2 = .boolean) && (!(q.2.1 a2).2.2.2 || (decide ((abNm k).name = "<init>") && decide (abOwn k = q.1))) | none => false) = true := h
    cases hq : abCls[a1]? with
    | none => rw [hq] at h'; cases h'
    | some q =>
      rw [hq] at h'
      obtain ⟨h1, g4⟩ := Bool.and_eq_true_iff.mp h'
      obtain ⟨h2, g3⟩ := Bool.and_eq_true_iff.mp h1
      obtain ⟨g1, g2⟩ := Bool.and_eq_true_iff.mp h2
      exact ⟨q, rfl, of_decide_eq_true g1, of_decide_eq_true g2, of_decide_eq_true g3⟩
  · subst ht
    obtain ⟨z1, z2⟩ := hz rfl
    rcases ab01 z1 z2 with rfl | rfl
    · exact ⟨rfl, rfl⟩
    · exact ⟨rfl, rfl⟩
end HAPF
