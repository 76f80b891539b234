/-! making, copying, the script -/
def abWfb {al : Type} : Nat → Nat → Lean.RArray al → Bool
  | _, _, .leaf _ => true
  | 0, _, .branch _ _ _ => false
  | d + 1, lo, .branch p l r => Nat.beq p (lo + 2 ^ d) && abWfb d lo l && abWfb d p r
theorem abWfb_ok {al : Type} : ∀ (d lo : Nat) (t : Lean.RArray al), abWfb d lo t = true → abWf d lo t
  | 0, _, .leaf _, _ => trivial
  | _ + 1, _, .leaf _, _ => trivial
  | 0, _, .branch _ _ _, h => by cases h
  | d + 1, lo, .branch p l r, h => by
    obtain ⟨h1, h2⟩ := Bool.and_eq_true_iff.mp (show (Nat.beq p (lo + 2 ^ d) && abWfb d lo l && abWfb d p r) = true from h)
    obtain ⟨h3, h4⟩ := Bool.and_eq_true_iff.mp h1
    exact ⟨abBeq h3, abWfb_ok d lo l h4, abWfb_ok d p r h2⟩
def abDv (ty : FieldType) : abV := match ty with
  | .int => (0, 9223372036854775808, 9223372036854775808)
  | .boolean => (0, 9223372036854775808, 9223372036854775808)
  | .long => (2, 9223372036854775808, 9223372036854775808)
  | .object _ => (6, 0, 0)
  | .array _ => (6, 0, 0)
  | _ => (8, 0, 0)
theorem abDv_ok {ws : va_W} {sb sl : Nat} {rh : Nat → Int} (ty : FieldType) : abG ws sb sl rh (abDv ty) (defaultValue ty) := by
  cases ty with
  | int => exact abSelfI (y := 0) rfl
  | boolean => exact abSelfI (y := 0) rfl
  | long => exact abSelfL (y := 0) rfl
  | object n => rfl
  | array t => rfl
  | _ => trivial
theorem abDw0 : abWf (abD 7) 0 abDf0 := abWfb_ok _ _ _ (by decide +kernel)
theorem abDg0 : ∀ k, k < 7 → abDf0.get k = abDv (abTyp 0 k) := by decide +kernel
theorem abDw1 : abWf (abD 11) 0 abDf1 := abWfb_ok _ _ _ (by decide +kernel)
theorem abDg1 : ∀ k, k < 11 → abDf1.get k = abDv (abTyp 1 k) := by decide +kernel
theorem abDw2 : abWf (abD 8) 0 abDf2 := abWfb_ok _ _ _ (by decide +kernel)
theorem abDg2 : ∀ k, k < 8 → abDf2.get k = abDv (abTyp 2 k) := by decide +kernel
theorem abDw3 : abWf (abD 5) 0 abDf3 := abWfb_ok _ _ _ (by decide +kernel)
theorem abDg3 : ∀ k, k < 5 → abDf3.get k = abDv (abTyp 3 k) := by decide +kernel
theorem abDw4 : abWf (abD 9) 0 abDf4 := abWfb_ok _ _ _ (by decide +kernel)
theorem abDg4 : ∀ k, k < 9 → abDf4.get k = abDv (abTyp 4 k) := by decide +kernel
theorem abDw5 : abWf (abD 3) 0 abDf5 := abWfb_ok _ _ _ (by decide +kernel)
theorem abDg5 : ∀ k, k < 3 → abDf5.get k = abDv (abTyp 5 k) := by decide +kernel
theorem abDw6 : abWf (abD 9) 0 abDf6 := abWfb_ok _ _ _ (by decide +kernel)
theorem abDg6 : ∀ k, k < 9 → abDf6.get k = abDv (abTyp 6 k) := by decide +kernel
theorem abDw7 : abWf (abD 9) 0 abDf7 := abWfb_ok _ _ _ (by decide +kernel)
theorem abDg7 : ∀ k, k < 9 → abDf7.get k = abDv (abTyp 7 k) := by decide +kernel
theorem abDw8 : abWf (abD 1) 0 abDf8 := abWfb_ok _ _ _ (by decide +kernel)
theorem abDg8 : ∀ k, k < 1 → abDf8.get k = abDv (abTyp 8 k) := by decide +kernel
theorem abDw9 : abWf (abD 3) 0 abDf9 := abWfb_ok _ _ _ (by decide +kernel)
theorem abDg9 : ∀ k, k < 3 → abDf9.get k = abDv (abTyp 9 k) := by decide +kernel
theorem abDw10 : abWf (abD 15) 0 abDf10 := abWfb_ok _ _ _ (by decide +kernel)
theorem abDg10 : ∀ k, k < 15 → abDf10.get k = abDv (abTyp 10 k) := by decide +kernel
theorem abDw11 : abWf (abD 13) 0 abDf11 := abWfb_ok _ _ _ (by decide +kernel)
theorem abDg11 : ∀ k, k < 13 → abDf11.get k = abDv (abTyp 11 k) := by decide +kernel
theorem abDw12 : abWf (abD 41) 0 abDf12 := abWfb_ok _ _ _ (by decide +kernel)
theorem abDg12 : ∀ k, k < 41 → abDf12.get k = abDv (abTyp 12 k) := by decide +kernel
theorem abDfl_ok : ∀ (ci : Nat) (q : vw_C), abCls[ci]? = some q → abWf (abD q.2.2) 0 (abDfl.get ci) ∧ ∀ k, k < q.2.2 → (abDfl.get ci).get k = abDv (abTyp ci k) := by
  intro ci q h
  match ci, h with
  | 0, h => cases h; exact ⟨abDw0, abDg0⟩
  | 1, h => cases h; exact ⟨abDw1, abDg1⟩
  | 2, h => cases h; exact ⟨abDw2, abDg2⟩
  | 3, h => cases h; exact ⟨abDw3, abDg3⟩
  | 4, h => cases h; exact ⟨abDw4, abDg4⟩
  | 5, h => cases h; exact ⟨abDw5, abDg5⟩
  | 6, h => cases h; exact ⟨abDw6, abDg6⟩
  | 7, h => cases h; exact ⟨abDw7, abDg7⟩
  | 8, h => cases h; exact ⟨abDw8, abDg8⟩
  | 9, h => cases h; exact ⟨abDw9, abDg9⟩
  | 10, h => cases h; exact ⟨abDw10, abDg10⟩
  | 11, h => cases h; exact ⟨abDw11, abDg11⟩
  | 12, h => cases h; exact ⟨abDw12, abDg12⟩
  | _ + 13, h => exact absurd h (by simp [abCls])
theorem abRm_ok {k : Nat} {g : abSt} {n : Nat} {r' : abR} {r : List abF} (h : abRm k g n r' = some r) : g.2.1 + 1 ≤ 4096 ∧ g.2.2.2.1 + 1 ≤ (abMe k).2.2.1 ∧ g.2.2.2.2 + n ≤ (abMe k).2.2.2.1 ∧ r' = some r := by
  obtain ⟨h1, h2⟩ := abIf_some h
  obtain ⟨h3, h4⟩ := abIf_some h2
  obtain ⟨h5, h6⟩ := abIf_some h4
  exact ⟨abBle h1, abBle h3, abBle h5, h6⟩
theorem abLg_ok {ws : va_W} {sb sl : Nat} {rh : Nat → Int} {v : abV} {g : abSt} {f : Nat → abR} {r : List abF} {x : Value} (h : abLg v g f = some r) (he : abEok rh g.2.2.1) (gv : abG ws sb sl rh v x) : ∃ y : Int32, x = .int y ∧ 0 ≤ y.toInt ∧ y.toInt ≤ 65536 ∧ f y.toNatClampNeg = some r := by
  obtain ⟨a, b, y, h1, rfl, p1, p2, -, -⟩ := abWi0 h he gv
  have hbB : (9223372036854775808 : Nat) = abB := rfl
  have hcB : (9223372036854841344 : Nat) = abB + 65536 := rfl
  generalize (9223372036854775808 : Nat) = B at h1 hbB
  generalize (9223372036854841344 : Nat) = B2 at h1 hcB
  obtain ⟨h2, h3⟩ := abIf_some h1
  obtain ⟨h4, h5⟩ := abIf_some h3
  obtain ⟨h6, h7⟩ := abIf_some h5
  have e1 := abBeq h2
  have e2 := abBle h4
  have e3 := abBle h6
  refine ⟨y, rfl, by omega, by omega, ?_⟩
  have ei : a - B = y.toNatClampNeg := by rw [abClamp]; omega
  rw [ei] at h7
  exact h7
theorem abNot0 {y : Int32} (h : 0 ≤ y.toInt) : ¬ y < 0 := fun q => by
  have := Int32.lt_iff_toInt_lt.mp q
  have e0 : (0 : Int32).toInt = 0 := rfl
  omega
theorem abSm_ok {ws : va_W} {sb sl : Nat} {rh : Nat → Int} : ∀ {st : List abV} {xs : List Value}, abSok ws sb sl rh st xs → (xs.map fun v => v.category).sum ≤ abSm st
  | [], xs, h => by
    have e : xs = [] := h
    subst e
    exact Nat.le_refl _
  | v :: st, _, h => by
    obtain ⟨x, xr, rfl, g, h'⟩ := h
    have ih := abSm_ok h'
    have hs : abSm (v :: st) = abIf (Nat.beq (v.1 / 2) 1) (abSm st + 2) (abIf (Nat.ble v.1 7) (abSm st + 1) (abSm st + 2)) := rfl
    rw [List.map_cons, List.sum_cons, hs]
    have hc := lv_cat x
    cases q1 : Nat.beq (v.1 / 2) 1 with
    | true => rw [abIf_t rfl]; omega
    | false =>
      rw [abIf_f rfl]
      cases q2 : Nat.ble v.1 7 with
      | false => rw [abIf_f rfl]; omega
      | true =>
        rw [abIf_t rfl]
        have := abCat_ok (abCat1 (abBle q2) (abBeq_f q1)) g
        omega
theorem abSetSame {ws : va_W} {j : Nat} {q : Nat × va_E} (h : ws[j]? = some q) : ws.set j q = ws := by
  apply List.ext_getElem?
  intro i
  by_cases e : j = i
  · subst e
    rw [List.getElem?_set_self (List.getElem?_eq_some_iff.mp h).1, h]
  · rw [List.getElem?_set_ne e]
theorem abS73 : abOk 73 abOnew := by
  intro D z sb sl rh xs0 w0 p l ev R s m args below meth c Q k d nx e pc ls st g r hF hE hop hpc hnx h
  obtain ⟨hx, hb, hml, hown, hts, hnm, hz, hR1, hR2, hR3, hR4, hlaw⟩ := hF
  obtain ⟨o, pc', a1, a2, x, ps⟩ := e
  have ho : o = 73 := hop
  have hp : pc' = pc := hpc
  subst ho; subst hp
  have hd := abEt_dec hE (show ¬ (73 : Nat) = 85 by decide) rfl
  have hsm : (match abCls[a1]? with | some q => decide (a2 = q.2.2) && decide (a1 < 90) | none => false) = true := hE.2.2
  have hwd : ∀ w ∈ (match abCls[a1]? with | some q => [Jvm.Cond.classLink (abOwn k) x q.1, .instantiable q.1 q.2.2, .initialized q.1] | none => []), w ∈ abTw := hE.2.1
  obtain ⟨m1, m2, m3, h1⟩ := abRm_ok h
  intro H locs ws A xs hH hX hL hS
  obtain ⟨⟨tys, hK, hC⟩, hP, hD, hSS, hn, h4096, hwf, he⟩ := id hH
  cases hq : abCls[a1]? with
  | none => rw [hq] at hsm; cases hsm
  | some q =>
    rw [hq] at hsm hwd
    obtain ⟨q1, q2⟩ := Bool.and_eq_true_iff.mp hsm
    have q1 := of_decide_eq_true q1
    have q2 := of_decide_eq_true q2
    subst q1
    obtain ⟨c1, c2, c3, c4⟩ := abCls_ok a1 q hq
    obtain ⟨d1, d2⟩ := abDfl_ok a1 q hq
    refine va_new (D := D) (cl := abCls) (tys := tys) (ws := ws) (ci := a1) (fs := (List.range q.2.2).map fun j => defaultValue (abTyp a1 j)) (C := q.1) (T := q.2.1) (N := q.2.2) hx hb hts c1 (abTyp a1) c2 hown (hts _ (hwd _ List.mem_cons_self)) (hts _ (hwd _ (List.mem_cons_of_mem _ List.mem_cons_self))) (hts _ (hwd _ (List.mem_cons_of_mem _ (List.mem_cons_of_mem _ List.mem_cons_self)))) hK hP hD hSS (fun z1 hz1 => Nat.le_trans hz hz1) hq (fun j hj => ?_) (by omega) (Nat.le_trans m3 hR2) hd (fun q0 H1 hP1 hD1 hS1 => ?_)
    · simp [vp_V, hj]
    · have hX1 : abX ws (ws ++ [(q0, .inr (a1, (List.range q.2.2).map fun j => defaultValue (abTyp a1 j)))]) := abX.app _ _
      refine hnx _ _ _ (abMk g (a1, q.2.2, abDfl.get a1)) r h1 (fun _ q => q) H1 locs _ A _ (hH.push hC (fun _ _ q => q) hK m1 hP1 hD1 hS1 ⟨d1, fun _ => ⟨q0, _, q, rfl, by simp, hq, rfl, fun kx xx hkx => ?_⟩, fun ty ht => ?_, fun hc => ?_, fun hc => ?_⟩) (hX.tr hX1) (hL.mono hX1) ⟨_, _, rfl, abG.last hn, hS.mono hX1⟩
      · have hkl := (List.getElem?_eq_some_iff.mp hkx).1
        rw [List.length_map, List.length_range] at hkl
        rw [List.getElem?_map, List.getElem?_range hkl] at hkx
        cases hkx
        show abG _ sb sl rh ((abDfl.get a1).get kx) _
        rw [d2 kx hkl]
        exact abDv_ok _
      · have hc := abTyA_c (show abTyA a1 = some ty from ht)
        omega
      · have : a1 = 101 := hc
        omega
      · have : 200 ≤ a1 := hc
        omega
theorem abZeroI {ws : va_W} {sb sl : Nat} {rh : Nat → Int} : abG ws sb sl rh (0, 9223372036854775808, 9223372036854775808) (.int 0) := abSelfI (y := 0) rfl
theorem abZeroL {ws : va_W} {sb sl : Nat} {rh : Nat → Int} : abG ws sb sl rh (2, 9223372036854775808, 9223372036854775808) (.long 0) := abSelfL (y := 0) rfl
theorem abS74 : abOk 74 abOna := by
  intro D z sb sl rh xs0 w0 p l ev R s m args below meth c Q k d nx e pc ls st g r hF hE hop hpc hnx h
  obtain ⟨hx, hb, hml, hown, hts, hnm, hz, hR1, hR2, hR3, hR4, hlaw⟩ := hF
  obtain ⟨o, pc', a1, a2, x, ps⟩ := e
  have ho : o = 74 := hop
  have hp : pc' = pc := hpc
  subst ho; subst hp
  obtain ⟨v, rr, rfl, h0⟩ := abHd_some h
  intro H locs ws A xs hH hX hL hS
  obtain ⟨x1, xr', rfl, gv, hS'⟩ := hS
  obtain ⟨⟨tys, hK, hC⟩, hP, hD, hSS, hn, h4096, hwf, he⟩ := id hH
  obtain ⟨y, rfl, y1, y2, h1⟩ := abLg_ok h0 he gv
  obtain ⟨m1, m2, m3, h2⟩ := abRm_ok h1
  have hsm : (abAty a1).isSome = true := hE.2.2
  have hcodes : a1 = 100 ∨ a1 = 101 ∨ a1 = 102 ∨ a1 = 103 := by
    unfold abAty at hsm
    split at hsm
    · exact Or.inl rfl
    · exact Or.inr (Or.inl rfl)
    · exact Or.inr (Or.inr (Or.inl rfl))
    · exact Or.inr (Or.inr (Or.inr rfl))
    · cases hsm
  rcases hcodes with hc0 | hc0 | hc0 | hc0
  · have ec : a1 = 100 := by omega
    subst ec
    have hd := abEt_dec hE (show ¬ (74 : Nat) = 85 by decide) rfl
    refine va_newa (atype := .int) (ty := .int) (a0 := (y.toNatClampNeg, .inl fun _ => 0)) (N' := y.toNatClampNeg) hx hb (hts _ (hE.2.1 _ List.mem_cons_self)) rfl hK hP hD hSS (fun z1 hz1 => Nat.le_trans hz hz1) (fun cA => rfl) (abNot0 y1) rfl (by show y.toNatClampNeg * 4 ≤ 536870912; rw [abClamp]; omega) (by omega) (Nat.le_trans m3 hR2) hd (fun q0 cA H1 hK1 hP1 hD1 hS1 => ?_)
    have hX1 : abX ws (ws ++ [(q0, .inl (cA, (y.toNatClampNeg, .inl fun _ => 0)))]) := abX.app _ _
    refine hnx _ _ _ (abMk g (100, y.toNatClampNeg, .leaf (0, 9223372036854775808, 9223372036854775808))) r h2 (fun _ q => q) H1 locs _ A _ (hH.push hC (fun t0 y0 q => by rw [List.getElem?_append_left (List.getElem?_eq_some_iff.mp q).1]; exact q) hK1 m1 hP1 hD1 hS1 ⟨by cases hz9 : abD y.toNatClampNeg <;> trivial, fun hc => absurd (show (100 : Nat) ≤ 90 from hc) (by decide), fun ty ht => ⟨q0, cA, fun _ => 0, tys.length, rfl, by cases ht; rw [List.getElem?_append_right (Nat.le_refl _), Nat.sub_self]; rfl, by show y.toNatClampNeg ≤ 65536; rw [abClamp]; omega, fun _ _ => abZeroI⟩, fun hc => absurd (show (100 : Nat) = 101 from hc) (by decide), fun hc => absurd (show 200 ≤ (100 : Nat) from hc) (by decide)⟩) (hX.tr hX1) (hL.mono hX1) ⟨_, _, rfl, abG.last hn, hS'.mono hX1⟩
  · have ec : a1 = 101 := by omega
    subst ec
    have hd := abEt_dec hE (show ¬ (74 : Nat) = 85 by decide) rfl
    refine va_newa (atype := .long) (ty := .long) (a0 := (y.toNatClampNeg, .inr (.inl fun _ => 0))) (N' := y.toNatClampNeg) hx hb (hts _ (hE.2.1 _ List.mem_cons_self)) rfl hK hP hD hSS (fun z1 hz1 => Nat.le_trans hz hz1) (fun cA => rfl) (abNot0 y1) rfl (by show y.toNatClampNeg * 8 ≤ 536870912; rw [abClamp]; omega) (by omega) (Nat.le_trans m3 hR2) hd (fun q0 cA H1 hK1 hP1 hD1 hS1 => ?_)
    have hX1 : abX ws (ws ++ [(q0, .inl (cA, (y.toNatClampNeg, .inr (.inl fun _ => 0))))]) := abX.app _ _
    refine hnx _ _ _ (abMk g (101, y.toNatClampNeg, .leaf (2, 9223372036854775808, 9223372036854775808))) r h2 (fun _ q => q) H1 locs _ A _ (hH.push hC (fun t0 y0 q => by rw [List.getElem?_append_left (List.getElem?_eq_some_iff.mp q).1]; exact q) hK1 m1 hP1 hD1 hS1 ⟨by cases hz9 : abD y.toNatClampNeg <;> trivial, fun hc => absurd (show (101 : Nat) ≤ 90 from hc) (by decide), fun ty ht => (by cases ht), fun _ => ⟨q0, cA, fun _ => 0, tys.length, rfl, by rw [List.getElem?_append_right (Nat.le_refl _), Nat.sub_self]; rfl, by show y.toNatClampNeg ≤ 65536; rw [abClamp]; omega, fun _ _ => abZeroL⟩, fun hc => absurd (show 200 ≤ (101 : Nat) from hc) (by decide)⟩) (hX.tr hX1) (hL.mono hX1) ⟨_, _, rfl, abG.last hn, hS'.mono hX1⟩
  · have ec : a1 = 102 := by omega
    subst ec
    have hd := abEt_dec hE (show ¬ (74 : Nat) = 85 by decide) rfl
    refine va_newa (atype := .byte) (ty := .byte) (a0 := (y.toNatClampNeg, .inl fun _ => 0)) (N' := y.toNatClampNeg) hx hb (hts _ (hE.2.1 _ List.mem_cons_self)) rfl hK hP hD hSS (fun z1 hz1 => Nat.le_trans hz hz1) (fun cA => rfl) (abNot0 y1) rfl (by show y.toNatClampNeg * 1 ≤ 536870912; rw [abClamp]; omega) (by omega) (Nat.le_trans m3 hR2) hd (fun q0 cA H1 hK1 hP1 hD1 hS1 => ?_)
    have hX1 : abX ws (ws ++ [(q0, .inl (cA, (y.toNatClampNeg, .inl fun _ => 0)))]) := abX.app _ _
    refine hnx _ _ _ (abMk g (102, y.toNatClampNeg, .leaf (0, 9223372036854775808, 9223372036854775808))) r h2 (fun _ q => q) H1 locs _ A _ (hH.push hC (fun t0 y0 q => by rw [List.getElem?_append_left (List.getElem?_eq_some_iff.mp q).1]; exact q) hK1 m1 hP1 hD1 hS1 ⟨by cases hz9 : abD y.toNatClampNeg <;> trivial, fun hc => absurd (show (102 : Nat) ≤ 90 from hc) (by decide), fun ty ht => ⟨q0, cA, fun _ => 0, tys.length, rfl, by cases ht; rw [List.getElem?_append_right (Nat.le_refl _), Nat.sub_self]; rfl, by show y.toNatClampNeg ≤ 65536; rw [abClamp]; omega, fun _ _ => abZeroI⟩, fun hc => absurd (show (102 : Nat) = 101 from hc) (by decide), fun hc => absurd (show 200 ≤ (102 : Nat) from hc) (by decide)⟩) (hX.tr hX1) (hL.mono hX1) ⟨_, _, rfl, abG.last hn, hS'.mono hX1⟩
  · have ec : a1 = 103 := by omega
    subst ec
    have hd := abEt_dec hE (show ¬ (74 : Nat) = 85 by decide) rfl
    refine va_newa (atype := .boolean) (ty := .boolean) (a0 := (y.toNatClampNeg, .inl fun _ => 0)) (N' := y.toNatClampNeg) hx hb (hts _ (hE.2.1 _ List.mem_cons_self)) rfl hK hP hD hSS (fun z1 hz1 => Nat.le_trans hz hz1) (fun cA => rfl) (abNot0 y1) rfl (by show y.toNatClampNeg * 1 ≤ 536870912; rw [abClamp]; omega) (by omega) (Nat.le_trans m3 hR2) hd (fun q0 cA H1 hK1 hP1 hD1 hS1 => ?_)
    have hX1 : abX ws (ws ++ [(q0, .inl (cA, (y.toNatClampNeg, .inl fun _ => 0)))]) := abX.app _ _
    refine hnx _ _ _ (abMk g (103, y.toNatClampNeg, .leaf (0, 9223372036854775808, 9223372036854775808))) r h2 (fun _ q => q) H1 locs _ A _ (hH.push hC (fun t0 y0 q => by rw [List.getElem?_append_left (List.getElem?_eq_some_iff.mp q).1]; exact q) hK1 m1 hP1 hD1 hS1 ⟨by cases hz9 : abD y.toNatClampNeg <;> trivial, fun hc => absurd (show (103 : Nat) ≤ 90 from hc) (by decide), fun ty ht => ⟨q0, cA, fun _ => 0, tys.length, rfl, by cases ht; rw [List.getElem?_append_right (Nat.le_refl _), Nat.sub_self]; rfl, by show y.toNatClampNeg ≤ 65536; rw [abClamp]; omega, fun _ _ => abZeroI⟩, fun hc => absurd (show (103 : Nat) = 101 from hc) (by decide), fun hc => absurd (show 200 ≤ (103 : Nat) from hc) (by decide)⟩) (hX.tr hX1) (hL.mono hX1) ⟨_, _, rfl, abG.last hn, hS'.mono hX1⟩
theorem abS75 : abOk 75 abOnr := by
  intro D z sb sl rh xs0 w0 p l ev R s m args below meth c Q k d nx e pc ls st g r hF hE hop hpc hnx h
  obtain ⟨hx, hb, hml, hown, hts, hnm, hz, hR1, hR2, hR3, hR4, hlaw⟩ := hF
  obtain ⟨o, pc', a1, a2, x, ps⟩ := e
  have ho : o = 75 := hop
  have hp : pc' = pc := hpc
  subst ho; subst hp
  have hd := abEt_dec hE (show ¬ (75 : Nat) = 85 by decide) rfl
  have hsm : (match abCls[a1]? with | some _ => decide (a1 < 90) | none => false) = true := hE.2.2
  have hwd : ∀ w ∈ (match abCls[a1]? with | some q => [Jvm.Cond.classLink (abOwn k) x q.1, .arrayOver (.object q.1)] | none => []), w ∈ abTw := hE.2.1
  obtain ⟨v, rr, rfl, h0⟩ := abHd_some h
  intro H locs ws A xs hH hX hL hS
  obtain ⟨x1, xr', rfl, gv, hS'⟩ := hS
  obtain ⟨⟨tys, hK, hC⟩, hP, hD, hSS, hn, h4096, hwf, he⟩ := id hH
  obtain ⟨y, rfl, y1, y2, h1⟩ := abLg_ok h0 he gv
  obtain ⟨m1, m2, m3, h2⟩ := abRm_ok h1
  cases hq : abCls[a1]? with
  | none => rw [hq] at hsm; cases hsm
  | some q =>
    rw [hq] at hsm hwd
    have q2 := of_decide_eq_true hsm
    refine va_newq (C := q.1) (N' := y.toNatClampNeg) hx hb hown (hts _ (hwd _ List.mem_cons_self)) (va_AO.of (hts _ (hwd _ (List.mem_cons_of_mem _ List.mem_cons_self)))) hK hP hD hSS (fun z1 hz1 => Nat.le_trans hz hz1) (abNot0 y1) rfl (by rw [abClamp]; omega) (by omega) (Nat.le_trans m3 hR2) hd (fun q0 cA H1 hK1 hP1 hD1 hS1 => ?_)
    have hX1 : abX ws (ws ++ [(q0, .inl (cA, y.toNatClampNeg, .inr (.inr (.inr (.inr (fun _ => none))))))]) := abX.app _ _
    refine hnx _ _ _ (abMk g (200 + a1, y.toNatClampNeg, .leaf (6, 0, 0))) r h2 (fun _ q => q) H1 locs _ A _ (hH.push hC (fun t0 y0 q => by rw [List.getElem?_append_left (List.getElem?_eq_some_iff.mp q).1]; exact q) hK1 m1 hP1 hD1 hS1 ⟨by cases hz9 : abD y.toNatClampNeg <;> trivial, fun hc => ?_, fun ty ht => ?_, fun hc => ?_, fun hc => ⟨q0, cA, fun _ => none, tys.length, q, rfl, by rw [show 200 + a1 - 200 = a1 by omega]; exact hq, by rw [List.getElem?_append_right (Nat.le_refl _), Nat.sub_self]; rfl, by show y.toNatClampNeg ≤ 65536; rw [abClamp]; omega, fun _ _ => rfl⟩⟩) (hX.tr hX1) (hL.mono hX1) ⟨_, _, rfl, abG.last hn, hS'.mono hX1⟩
    · have : 200 + a1 ≤ 90 := hc
      omega
    · have hc := abTyA_c (show abTyA (200 + a1) = some ty from ht)
      omega
    · have : 200 + a1 = 101 := hc
      omega
theorem abS76 : abOk 76 abOoi := by
  intro D z sb sl rh xs0 w0 p l ev R s m args below meth c Q k d nx e pc ls st g r hF hE hop hpc hnx h
  obtain ⟨hx, hb, hml, hown, hts, hnm, hz, hR1, hR2, hR3, hR4, hlaw⟩ := hF
  obtain ⟨o, pc', a1, a2, x, ps⟩ := e
  have ho : o = 76 := hop
  have hp : pc' = pc := hpc
  subst ho; subst hp
  have hd := abEt_dec hE (show ¬ (76 : Nat) = 85 by decide) rfl
  obtain ⟨v, rr, rfl, h0⟩ := abHd_some h
  intro H locs ws A xs hH hX hL hS
  obtain ⟨x1, xr', rfl, gv, hS'⟩ := hS
  obtain ⟨a, en, h2, hj, rfl⟩ := abWr_ok h0 gv
  obtain ⟨h3, h4⟩ := abIf_some h2
  have hsum := Nat.le_trans (abSm_ok hS') (abBle h3)
  refine W.objInit (c := c) hx hb hown (hts _ (hE.2.1 _ List.mem_cons_self)) (hts _ (hE.2.1 _ (List.mem_cons_of_mem _ List.mem_cons_self))) (hts _ (hE.2.1 _ (List.mem_cons_of_mem _ (List.mem_cons_of_mem _ List.mem_cons_self)))) (g := F0 m pc' A (.ref a :: xr')) rfl ?_ (a := a) (rest := xr') rfl hd (by omega) ?_ ?_
  · obtain ⟨l1, lv, l2, l3⟩ := hL
    exact l2.1
  · have := lv_room (m := m) (pc := pc') (ls := A) (rest := (.ref a :: xr' : List Value)) hsum
    omega
  · exact hnx _ _ _ _ r h4 (fun _ q => q) H locs ws A _ hH hX hL hS'
theorem abS86 : abOk 86 abOsl := by
  intro D z sb sl rh xs0 w0 p l ev R s m args below meth c Q k d nx e pc ls st g r hF hE hop hpc hnx h
  obtain ⟨hx, hb, hml, hown, hts, hnm, hz, hR1, hR2, hR3, hR4, hlaw⟩ := hF
  obtain ⟨o, pc', a1, a2, x, ps⟩ := e
  have ho : o = 86 := hop
  have hp : pc' = pc := hpc
  subst ho; subst hp
  have hd := abEt_dec hE (show ¬ (86 : Nat) = 85 by decide) rfl
  have hk := of_decide_eq_true (show decide (abNM ≤ k) = true from hE.2.2)
  obtain ⟨hXs, hsb, hsl, hrh⟩ := hlaw hk
  obtain ⟨v, rr, rfl, h0⟩ := abHd_some h
  obtain ⟨h1, h02⟩ := abIf_some h0
  obtain ⟨h1b, h2⟩ := abIf_some h02
  intro H locs ws A xs hH hX hL hS
  obtain ⟨x1, xr', rfl, gv, hS'⟩ := hS
  obtain ⟨⟨tys, hK, hC⟩, hP, hD, hSS, hn, h4096, hwf, he⟩ := id hH
  obtain ⟨t, i, j⟩ := v
  have ht : t = 5 := abBeq h1
  subst ht
  obtain ⟨rfl, hi⟩ := gv
  have hi' : i = sl := hi (abBeq h1b)
  subst hi'
  refine va_slen hx hb hXs (by omega) (Nat.not_le.mpr hsb) hSS hd ?_
  exact hnx _ _ _ _ r h2 (fun _ q => q) H locs ws A _ hH hX hL ⟨_, _, rfl, abLenG hsl, hS'⟩
theorem abS87 : abOk 87 abOsd := by
  intro D z sb sl rh xs0 w0 p l ev R s m args below meth c Q k d nx e pc ls st g r hF hE hop hpc hnx h
  obtain ⟨hx, hb, hml, hown, hts, hnm, hz, hR1, hR2, hR3, hR4, hlaw⟩ := hF
  obtain ⟨o, pc', a1, a2, x, ps⟩ := e
  have ho : o = 87 := hop
  have hp : pc' = pc := hpc
  subst ho; subst hp
  have hd := abEt_dec hE (show ¬ (87 : Nat) = 85 by decide) rfl
  have hk := of_decide_eq_true (show decide (abNM ≤ k) = true from hE.2.2)
  obtain ⟨hXs, hsb, hsl, hrh⟩ := hlaw hk
  obtain ⟨w, v, rr, rfl, h0⟩ := ab2_some h
  obtain ⟨h1, h02⟩ := abIf_some h0
  obtain ⟨h1b, h2⟩ := abIf_some h02
  intro H locs ws A xs hH hX hL hS
  obtain ⟨x0, xr, rfl, gw, x1, xr', rfl, gv, hS'⟩ := hS
  obtain ⟨⟨tys, hK, hC⟩, hP, hD, hSS, hn, h4096, hwf, he⟩ := id hH
  obtain ⟨t, i, j⟩ := v
  have ht : t = 5 := abBeq h1
  subst ht
  obtain ⟨rfl, hi⟩ := gv
  have hi' : i = sl := hi (abBeq h1b)
  subst hi'
  obtain ⟨ia, ib, y, h3, rfl, p1, p2, -, -⟩ := abWi0 h2 he gw
  dsimp only at h3
  have hbB : (9223372036854775808 : Nat) = abB := rfl
  generalize (9223372036854775808 : Nat) = B at h3 hbB
  obtain ⟨h4, h5⟩ := abIf_some h3
  obtain ⟨h6, h7⟩ := abIf_some h5
  obtain ⟨h8, h9⟩ := abIf_some h7
  have e1 := abBeq h4
  have e2 := abBle h6
  have e3 := abBle h8
  have ei : ia - B = y.toNatClampNeg := by rw [abClamp]; omega
  rw [ei] at h9
  refine va_sld hx hb hXs (by omega) (Nat.not_le.mpr hsb) hSS (vp_in_iff.mpr ⟨by omega, by omega⟩) hd ?_
  exact hnx _ _ _ _ r h9 (fun _ q => q) H locs ws A _ hH hX hL ⟨_, _, rfl, ⟨_, rfl, (hrh _).symm⟩, hS'⟩
