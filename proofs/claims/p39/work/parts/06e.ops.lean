/-! jumps, switches -/
theorem abS58 : abOk 58 abOgo := by
  intro D z sb sl rh xs0 w0 p l ev R s m args below meth c Q k d nx e pc ls st g r hF hE hop hpc hnx h
  obtain ⟨hx, hb, hml, hown, hts, hnm, hz, hR1, hR2, hR3, hR4, hlaw⟩ := hF
  obtain ⟨o, pc', a1, a2, x, ps⟩ := e
  have ho : o = 58 := hop
  have hp : pc' = pc := hpc
  subst ho; subst hp
  have hd := abEt_dec hE (show ¬ (58 : Nat) = 85 by decide) rfl
  intro H locs ws A xs hH hX hL hS
  refine lv_goto hx hb hd (show ((pc' : Nat) : Int) + ((a1 : Int) - pc') = ((a1 : Nat) : Int) by omega) ?_
  exact hnx _ _ _ _ r h (fun _ q => q) H locs ws A _ hH hX hL hS
theorem abPk_get (df : Nat) : ∀ (l : List Nat) (i : Nat), abPk l df i = (l[i]?).getD df
  | [], _ => rfl
  | _ :: _, 0 => rfl
  | _ :: l, i + 1 => by
    rw [List.getElem?_cons_succ]
    exact abPk_get df l i
theorem abTa_ok {f : Nat → abR} : ∀ {ps : List Nat} {r : List abF} {i t : Nat}, abTa f ps = some r → ps[i]? = some t → ∃ r', f t = some r' ∧ ∀ x ∈ r', x ∈ r
  | [], _, _, _, _, h => by cases h
  | p :: ps, r, 0, t, h, hi => by
    cases hi
    obtain ⟨x, y, hx, hy, rfl⟩ := abJn_some (show abJn (f p) (abTa f ps) = some r from h)
    exact ⟨x, hx, fun _ q => List.mem_append_left _ q⟩
  | p :: ps, r, i + 1, t, h, hi => by
    obtain ⟨x, y, hx, hy, rfl⟩ := abJn_some (show abJn (f p) (abTa f ps) = some r from h)
    obtain ⟨r', h1, h2⟩ := abTa_ok hy hi
    exact ⟨r', h1, fun z q => List.mem_append_right _ (h2 z q)⟩
theorem abTs_ok {f : Nat → abR} : ∀ {ps : List Nat} {r : List abF} {i i0 : Nat}, abTs f ps i0 = some r → i < ps.length → ∃ r', f (i0 + i) = some r' ∧ ∀ x ∈ r', x ∈ r
  | [], _, _, _, _, h => absurd h (Nat.not_lt_zero _)
  | p :: ps, r, 0, i0, h, _ => by
    obtain ⟨x, y, hx, hy, rfl⟩ := abJn_some (show abJn (f i0) (abTs f ps (i0 + 1)) = some r from h)
    exact ⟨x, hx, fun _ q => List.mem_append_left _ q⟩
  | p :: ps, r, i + 1, i0, h, hi => by
    obtain ⟨x, y, hx, hy, rfl⟩ := abJn_some (show abJn (f i0) (abTs f ps (i0 + 1)) = some r from h)
    obtain ⟨r', h1, h2⟩ := abTs_ok (i := i) hy (by simpa using hi)
    exact ⟨r', by rw [← h1]; congr 1; omega, fun z q => List.mem_append_right _ (h2 z q)⟩
theorem abS59 : abOk 59 abOsw := by
  intro D z sb sl rh xs0 w0 p l ev R s m args below meth c Q k d nx e pc ls st g r hF hE hop hpc hnx h
  obtain ⟨hx, hb, hml, hown, hts, hnm, hz, hR1, hR2, hR3, hR4, hlaw⟩ := hF
  obtain ⟨o, pc', a1, a2, x, ps⟩ := e
  have ho : o = 59 := hop
  have hp : pc' = pc := hpc
  subst ho; subst hp
  have hd := abEt_dec hE (show ¬ (59 : Nat) = 85 by decide) rfl
  have hlen := of_decide_eq_true (show decide (0 < ps.length) = true from hE.2.2)
  obtain ⟨v, rr, rfl, h0⟩ := abHd_some h
  intro H locs ws A xs hH hX hL hS
  have hS0 := hS
  obtain ⟨x0, xr, rfl, gv, hS'⟩ := hS
  obtain ⟨a, b, y, h1, rfl, p1, p2, -, -⟩ := abWi0 h0 hH.2.2.2.2.2.2.2 gv
  dsimp only at h1 hd
  have he := hH.2.2.2.2.2.2.2
  have out : (y.toInt + abB < (x : Int) ∨ (x : Int) + ps.length ≤ y.toInt + abB) → ∀ r', nx a1 ls rr g = some r' → (∀ z ∈ r', z ∈ r) → W p l ev R s m args below meth c H locs g.2.2.2.1 g.2.2.2.2 Q (F0 m pc' A (.int y :: xr)) := by
    intro ho r' hr hs
    have ho2 : y.toInt < (x : Int) - abB ∨ (x : Int) - abB + ps.length - 1 < y.toInt := by
      rcases ho with q | q
      · exact Or.inl (by omega)
      · exact Or.inr (by omega)
    exact lv_tableOut hx hb hd ho2 (show ((pc' : Nat) : Int) + ((a1 : Int) - pc') = ((a1 : Nat) : Int) by omega) (hnx _ _ _ _ r' hr hs H locs ws A _ hH hX hL hS')
  have inn : ∀ i t : Nat, ps[i]? = some t → y.toInt + abB = (x : Int) + i → ∀ r', nx t ls rr g = some r' → (∀ z ∈ r', z ∈ r) → W p l ev R s m args below meth c H locs g.2.2.2.1 g.2.2.2.2 Q (F0 m pc' A (.int y :: xr)) := by
    intro i t hi hy r' hr hs
    have hil := (List.getElem?_eq_some_iff.mp hi).1
    refine lv_tableIn (off := (t : Int) - pc') hx hb hd (by omega) (by omega) ?_ (show ((pc' : Nat) : Int) + ((t : Int) - pc') = ((t : Nat) : Int) by omega) (hnx _ _ _ _ r' hr hs H locs ws A _ hH hX hL hS')
    rw [show (y.toInt - ((x : Int) - abB)).toNat = i by omega, List.getElem?_toArray, List.getElem?_map, hi]
    rfl
  cases q1 : Nat.beq a b with
  | true =>
    rw [abIf_t q1] at h1
    have e1 := abBeq q1
    cases q2 : Nat.ble x a with
    | false =>
      rw [abIf_f q2] at h1
      have e2 := abBle_f q2
      exact out (Or.inl (by omega)) r h1 (fun _ q => q)
    | true =>
      rw [abIf_t q2, abPk_get] at h1
      have e2 := abBle q2
      cases q3 : ps[a - x]? with
      | some t =>
        rw [q3] at h1
        exact inn (a - x) t q3 (by omega) r h1 (fun _ q => q)
      | none =>
        rw [q3] at h1
        have e3 := List.getElem?_eq_none_iff.mp q3
        exact out (Or.inr (by omega)) r h1 (fun _ q => q)
  | false =>
    rw [abIf_f q1] at h1
    cases q2 : Nat.ble (b + 1) x with
    | true =>
      rw [abIf_t q2] at h1
      have e2 := abBle q2
      exact out (Or.inl (by omega)) r h1 (fun _ q => q)
    | false =>
      rw [abIf_f q2] at h1
      cases q3 : Nat.ble (x + ps.length) a with
      | true =>
        rw [abIf_t q3] at h1
        have e3 := abBle q3
        exact out (Or.inr (by omega)) r h1 (fun _ q => q)
      | false =>
        rw [abIf_f q3] at h1
        cases q4 : Nat.beq (abTag v) 0 with
        | true =>
          rw [abIf_t q4] at h1
          obtain ⟨x1, y1, hx1, hy1, rfl⟩ := abJn_some h1
          by_cases z1 : y.toInt + abB < (x : Int) ∨ (x : Int) + ps.length ≤ y.toInt + abB
          · exact out z1 x1 hx1 (fun _ q => List.mem_append_left _ q)
          · obtain ⟨t, ht⟩ : ∃ t, ps[(y.toInt + abB - x).toNat]? = some t := ⟨_, List.getElem?_eq_getElem (by omega)⟩
            obtain ⟨r', h2, h3⟩ := abTa_ok hy1 ht
            exact inn _ t ht (by omega) r' h2 (fun z q => List.mem_append_right _ (h3 z q))
        | false =>
          rw [abIf_f q4] at h1
          obtain ⟨x1, y1, hx1, hy1, rfl⟩ := abJn_some h1
          obtain ⟨x2, y2, hx2, hy2, rfl⟩ := abJn_some hy1
          by_cases z1 : y.toInt + abB < (x : Int)
          · exact abHas_run hnx (abHas_l (fun w q => List.mem_append_left _ q) (abCut_ok hx1 he (abTag_i gv) p1 p2 p1 (by omega))) hH hX hL hS0
          · by_cases z2 : (x : Int) + ps.length ≤ y.toInt + abB
            · exact abHas_run hnx (abHas_l (fun w q => List.mem_append_right _ (List.mem_append_left _ q)) (abCut_ok hx2 he (abTag_i gv) p1 p2 (by omega) p2)) hH hX hL hS0
            · obtain ⟨r', h2, h3⟩ := abTs_ok (i := (y.toInt + abB - x).toNat) hy2 (by omega)
              exact abHas_run hnx (abHas_l (fun w q => List.mem_append_right _ (List.mem_append_right _ (h3 w q))) (abCut_ok h2 he (abTag_i gv) p1 p2 (by omega) (by omega))) hH hX hL hS0
