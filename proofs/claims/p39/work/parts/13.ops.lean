/-! SOUNDNESS of the second engine: constants, locals -/
theorem avSelfI {RG : avRJ} {ws : va_W} {sb : Nat} {rh : afR} {x : Nat} {y : Int32} (h : y.toInt + abB = (x : Int)) : avGv RG ws sb rh (0, 0, [], (x : Int) - 9223372036854775808) (.int y) := by
  refine ⟨afNil_D rh, y, rfl, ?_⟩
  have h1 := afC_V rh ((x : Int) - 9223372036854775808)
  have h2 : abB = 9223372036854775808 := rfl
  show y.toInt = afV rh (afC ((x : Int) - 9223372036854775808))
  omega
theorem avSelfL {RG : avRJ} {ws : va_W} {sb : Nat} {rh : afR} {x : Nat} {y : Int64} (h : y.toInt + abB = (x : Int)) : avGv RG ws sb rh (1, 0, [], (x : Int) - 9223372036854775808) (.long y) := by
  refine ⟨afNil_D rh, y, rfl, ?_⟩
  have h1 := afC_V rh ((x : Int) - 9223372036854775808)
  have h2 : abB = 9223372036854775808 := rfl
  show y.toInt = afV rh (afC ((x : Int) - 9223372036854775808))
  omega
theorem avNth_get : ∀ (l : List avV) (i : Nat), avNth l i = (l[i]?).getD avJ
  | [], _ => rfl
  | _ :: _, 0 => rfl
  | _ :: l, i + 1 => by
    show avNth l i = _
    rw [avNth_get l i]
    rfl
theorem avUpd_set : ∀ (v : avV) (l : List avV) (i : Nat), avUpd v l i = l.set i v
  | _, [], _ => rfl
  | _, _ :: _, 0 => rfl
  | v, h :: l, i + 1 => by
    rw [List.set_cons_succ, ← avUpd_set v l i]
    rfl
theorem avLok.at {RG : avRJ} {ws : va_W} {sb : Nat} {rh : afR} {ls : List avV} {n : Nat} {A : Array Slot} (h : avLok RG ws sb rh ls n A) (i : Nat) (hv : ¬ (avNth ls i).1 = 6) : ∃ x : Value, A[i]? = some (.val x) ∧ avGv RG ws sb rh (avNth ls i) x := by
  obtain ⟨h1, lv, h2, h3⟩ := h
  rw [avNth_get] at hv ⊢
  cases hi : ls[i]? with
  | none => rw [hi] at hv; exact absurd rfl hv
  | some v =>
    rw [hi] at hv
    obtain ⟨x, q1, q2⟩ := h3 i v hi hv
    exact ⟨x, h2.2.2 _ q1, q2⟩
theorem avGv_i {RG : avRJ} {ws : va_W} {sb : Nat} {rh : afR} {v : avV} {x : Value} (g : avGv RG ws sb rh v x) (h : v.1 = 0) : afD rh v.2.2.1 ∧ ∃ y : Int32, x = .int y ∧ y.toInt = afV rh v.2.2 := by
  obtain ⟨t, a, b⟩ := v
  have h' : t = 0 := h
  subst h'
  exact g
theorem avGv_l {RG : avRJ} {ws : va_W} {sb : Nat} {rh : afR} {v : avV} {x : Value} (g : avGv RG ws sb rh v x) (h : v.1 = 1) : afD rh v.2.2.1 ∧ ∃ y : Int64, x = .long y ∧ y.toInt = afV rh v.2.2 := by
  obtain ⟨t, a, b⟩ := v
  have h' : t = 1 := h
  subst h'
  exact g
theorem avGv_r {RG : avRJ} {ws : va_W} {sb : Nat} {rh : afR} {v : avV} {x : Value} (g : avGv RG ws sb rh v x) (h : v.1 = 2) : afD rh v.2.2.1 ∧ ∃ (j a : Nat) (e : va_E), ws[j]? = some (a, e) ∧ x = .ref a ∧ RG.1 j = v.2.1 ∧ (j : Int) = afV rh v.2.2 := by
  obtain ⟨t, a, b⟩ := v
  have h' : t = 2 := h
  subst h'
  exact g
theorem avGv_a {RG : avRJ} {ws : va_W} {sb : Nat} {rh : afR} {v : avV} {x : Value} (g : avGv RG ws sb rh v x) (h : v.1 = 2 ∨ v.1 = 5 ∨ v.1 = 7) : ∃ y : Nat, x = .ref y := by
  obtain ⟨t, a, b⟩ := v
  obtain ⟨d, g⟩ := g
  rcases h with q | q | q
  · have q' : t = 2 := q
    subst q'
    obtain ⟨j, y, e, h1, h2, h3⟩ := g
    exact ⟨y, h2⟩
  · have q' : t = 5 := q
    subst q'
    exact ⟨_, g⟩
  · have q' : t = 7 := q
    subst q'
    exact ⟨sb, g⟩
/-- of one word -/
theorem avCat1 {RG : avRJ} {ws : va_W} {sb : Nat} {rh : afR} {w : avV} {x : Value} (h6 : ¬ w.1 = 6) (h2 : ¬ w.1 = 1) (g : avGv RG ws sb rh w x) : x.category = 1 := by
  obtain ⟨t, a, b⟩ := w
  obtain ⟨d, g⟩ := g
  match t, h6, h2, g with
  | 0, _, _, g =>
    obtain ⟨y, rfl, -⟩ := g
    rfl
  | 1, _, h2, _ => exact absurd rfl h2
  | 2, _, _, g =>
    obtain ⟨j, y, e, h1, rfl, -⟩ := g
    rfl
  | 3, _, _, g =>
    have g' : x = .null := g
    subst g'
    rfl
  | 4, _, _, g =>
    obtain ⟨y, rfl, -⟩ := g
    rfl
  | 5, _, _, g =>
    have g' : x = .ref (RG.2.2 a) := g
    subst g'
    rfl
  | 6, h6, _, _ => exact absurd rfl h6
  | 7, _, _, g =>
    have g' : x = .ref sb := g
    subst g'
    rfl
  | _ + 8, _, _, g => exact g.elim
theorem avSt1_get {ls : List avV} {i j : Nat} {v w : avV} (hj : j ≠ i) (h : (avSt1 ls i v)[j]? = some w) (hw : ¬ w.1 = 6) : ls[j]? = some w ∧ ¬ (j + 1 = i ∧ w.1 = 1) := by
  unfold avSt1 at h
  cases hc : Nat.beq (avNth ls (i - 1)).1 1 with
  | true =>
    rw [abIf_t hc, avUpd_set, avUpd_set, List.getElem?_set_ne (Ne.symm hj)] at h
    by_cases hq : i - 1 = j
    · subst hq
      by_cases hl : i - 1 < ls.length
      · rw [List.getElem?_set_self hl] at h
        cases h
        exact absurd rfl hw
      · rw [List.getElem?_eq_none (by simp; omega)] at h
        cases h
    · rw [List.getElem?_set_ne hq] at h
      exact ⟨h, fun q => hq (by omega)⟩
  | false =>
    rw [abIf_f hc, avUpd_set, List.getElem?_set_ne (Ne.symm hj)] at h
    refine ⟨h, fun q => ?_⟩
    have e : i - 1 = j := by omega
    rw [e, avNth_get, h] at hc
    exact abBeq_f hc q.2
theorem avSt1_len (ls : List avV) (i : Nat) (v : avV) : (avSt1 ls i v).length = ls.length := by
  unfold avSt1
  cases hc : Nat.beq (avNth ls (i - 1)).1 1 with
  | true => rw [abIf_t rfl, avUpd_set, avUpd_set, List.length_set, List.length_set]
  | false => rw [abIf_f rfl, avUpd_set, List.length_set]
theorem avSt1_self {ls : List avV} {i : Nat} {v w : avV} (h : (avSt1 ls i v)[i]? = some w) : w = v := by
  unfold avSt1 at h
  have key : ∀ l : List avV, (l.set i v)[i]? = some w → w = v := by
    intro l hl
    by_cases hi : i < l.length
    · rw [List.getElem?_set_self hi] at hl
      cases hl
      rfl
    · rw [List.getElem?_eq_none (by simp; omega)] at hl
      cases hl
  cases hc : Nat.beq (avNth ls (i - 1)).1 1 with
  | true => rw [abIf_t hc, avUpd_set] at h; exact key _ h
  | false => rw [abIf_f hc, avUpd_set] at h; exact key _ h
theorem avLok.st1 {RG : avRJ} {ws : va_W} {sb : Nat} {rh : afR} {ls : List avV} {n i : Nat} {A' : Array Slot} {v : avV} {x : Value} {lv : List (Nat × Value)} (h1 : ls.length = n) (h3 : ∀ (i : Nat) (v : avV), ls[i]? = some v → ¬ v.1 = 6 → ∃ x : Value, (i, x) ∈ lv ∧ avGv RG ws sb rh v x) (gv : avGv RG ws sb rh v x) (h : lv_has A' n ((i, x) :: lv.filter (fun q => !(q.1 == i) && !(q.1 + 1 == i && q.2.category == 2)))) : avLok RG ws sb rh (avSt1 ls i v) n A' := by
  refine ⟨by rw [avSt1_len]; exact h1, _, h, fun j w hj hw => ?_⟩
  by_cases e : j = i
  · subst e
    rw [avSt1_self hj]
    exact ⟨x, List.mem_cons_self, gv⟩
  · obtain ⟨q1, q2⟩ := avSt1_get e hj hw
    obtain ⟨y, q3, q4⟩ := h3 j w q1 hw
    refine ⟨y, List.mem_cons_of_mem _ (List.mem_filter.mpr ⟨q3, ?_⟩), q4⟩
    by_cases hi : j + 1 = i
    · have hc := avCat1 hw (fun z => q2 ⟨hi, z⟩) q4
      simp [e, hc]
    · simp [e, hi]
theorem avLok.st2 {RG : avRJ} {ws : va_W} {sb : Nat} {rh : afR} {ls : List avV} {n i : Nat} {A' : Array Slot} {v : avV} {x : Value} {lv : List (Nat × Value)} (h1 : ls.length = n) (h3 : ∀ (i : Nat) (v : avV), ls[i]? = some v → ¬ v.1 = 6 → ∃ x : Value, (i, x) ∈ lv ∧ avGv RG ws sb rh v x) (gv : avGv RG ws sb rh v x) (h : lv_has A' n ((i, x) :: lv.filter (fun q => !(q.1 == i) && (!(q.1 == i + 1) && !(q.1 + 1 == i && q.2.category == 2))))) : avLok RG ws sb rh (avSt2 ls i v) n A' := by
  refine ⟨by unfold avSt2; rw [avUpd_set, List.length_set, avSt1_len]; exact h1, _, h, fun j w hj hw => ?_⟩
  unfold avSt2 at hj
  rw [avUpd_set] at hj
  by_cases e2 : j = i + 1
  · subst e2
    by_cases hl : i + 1 < (avSt1 ls i v).length
    · rw [List.getElem?_set_self hl] at hj
      cases hj
      exact absurd rfl hw
    · rw [List.getElem?_eq_none (by simp; omega)] at hj
      cases hj
  · rw [List.getElem?_set_ne (Ne.symm e2)] at hj
    by_cases e : j = i
    · subst e
      rw [avSt1_self hj]
      exact ⟨x, List.mem_cons_self, gv⟩
    · obtain ⟨q1, q2⟩ := avSt1_get e hj hw
      obtain ⟨y, q3, q4⟩ := h3 j w q1 hw
      refine ⟨y, List.mem_cons_of_mem _ (List.mem_filter.mpr ⟨q3, ?_⟩), q4⟩
      by_cases hi : j + 1 = i
      · have hc := avCat1 hw (fun z => q2 ⟨hi, z⟩) q4
        simp [e, e2, hc]
      · simp [e, e2, hi]
theorem avS1 {RT : Lean.RArray avRg} {RG : avRJ} : avOk RT RG 1 (avOc 0 1) := by
  intro D z sb w0 r0 p l ev R s m args below meth c cc cs Q k d nx e pc ls st q hF hE hop hpc hnx h
  obtain ⟨hx, hb, hml, hown, hts, hnm, hz, hR3, hR4⟩ := hF
  obtain ⟨o, pc', a1, a2, x, ps⟩ := e
  have ho : o = 1 := hop
  have hp : pc' = pc := hpc
  subst ho; subst hp
  have hd := abEt_dec hE (show ¬ (1 : Nat) = 85 by decide) rfl
  have hs := of_decide_eq_true (show decide ((Int32.ofInt ((x : Int) - abB)).toInt + abB = x) = true from hE.2.2)
  intro rh H locs ws A xs hH hX hL hS
  refine lv_iconst hx hb hd rfl ?_
  exact hnx _ _ _ _ h rh H locs ws A _ hH hX hL ⟨_, _, rfl, avSelfI hs, hS⟩
theorem avS2 {RT : Lean.RArray avRg} {RG : avRJ} : avOk RT RG 2 (avOc 0 2) := by
  intro D z sb w0 r0 p l ev R s m args below meth c cc cs Q k d nx e pc ls st q hF hE hop hpc hnx h
  obtain ⟨hx, hb, hml, hown, hts, hnm, hz, hR3, hR4⟩ := hF
  obtain ⟨o, pc', a1, a2, x, ps⟩ := e
  have ho : o = 2 := hop
  have hp : pc' = pc := hpc
  subst ho; subst hp
  have hd := abEt_dec hE (show ¬ (2 : Nat) = 85 by decide) rfl
  have hs := of_decide_eq_true (show decide ((Int8.ofInt ((x : Int) - abB)).toInt32.toInt + abB = x) = true from hE.2.2)
  intro rh H locs ws A xs hH hX hL hS
  refine lv_bipush hx hb hd rfl ?_
  exact hnx _ _ _ _ h rh H locs ws A _ hH hX hL ⟨_, _, rfl, avSelfI hs, hS⟩
theorem avS3 {RT : Lean.RArray avRg} {RG : avRJ} : avOk RT RG 3 (avOc 0 3) := by
  intro D z sb w0 r0 p l ev R s m args below meth c cc cs Q k d nx e pc ls st q hF hE hop hpc hnx h
  obtain ⟨hx, hb, hml, hown, hts, hnm, hz, hR3, hR4⟩ := hF
  obtain ⟨o, pc', a1, a2, x, ps⟩ := e
  have ho : o = 3 := hop
  have hp : pc' = pc := hpc
  subst ho; subst hp
  have hd := abEt_dec hE (show ¬ (3 : Nat) = 85 by decide) rfl
  have hs := of_decide_eq_true (show decide ((Int16.ofInt ((x : Int) - abB)).toInt32.toInt + abB = x) = true from hE.2.2)
  intro rh H locs ws A xs hH hX hL hS
  refine lv_sipush hx hb hd rfl ?_
  exact hnx _ _ _ _ h rh H locs ws A _ hH hX hL ⟨_, _, rfl, avSelfI hs, hS⟩
theorem avS4 {RT : Lean.RArray avRg} {RG : avRJ} : avOk RT RG 4 (avOc 0 2) := by
  intro D z sb w0 r0 p l ev R s m args below meth c cc cs Q k d nx e pc ls st q hF hE hop hpc hnx h
  obtain ⟨hx, hb, hml, hown, hts, hnm, hz, hR3, hR4⟩ := hF
  obtain ⟨o, pc', a1, a2, x, ps⟩ := e
  have ho : o = 4 := hop
  have hp : pc' = pc := hpc
  subst ho; subst hp
  have hd := abEt_dec hE (show ¬ (4 : Nat) = 85 by decide) rfl
  have hs := of_decide_eq_true (show decide ((abOf x).toInt + abB = x) = true from hE.2.2)
  have hw := hts _ (hE.2.1 (.constant (abOwn k) a1 (abOf x)) List.mem_cons_self)
  intro rh H locs ws A xs hH hX hL hS
  refine lv_ldc hx hb hown hw hd ?_
  exact hnx _ _ _ _ h rh H locs ws A _ hH hX hL ⟨_, _, rfl, avSelfI hs, hS⟩
theorem avS5 {RT : Lean.RArray avRg} {RG : avRJ} : avOk RT RG 5 (avOc 0 3) := by
  intro D z sb w0 r0 p l ev R s m args below meth c cc cs Q k d nx e pc ls st q hF hE hop hpc hnx h
  obtain ⟨hx, hb, hml, hown, hts, hnm, hz, hR3, hR4⟩ := hF
  obtain ⟨o, pc', a1, a2, x, ps⟩ := e
  have ho : o = 5 := hop
  have hp : pc' = pc := hpc
  subst ho; subst hp
  have hd := abEt_dec hE (show ¬ (5 : Nat) = 85 by decide) rfl
  have hs := of_decide_eq_true (show decide ((abOf x).toInt + abB = x) = true from hE.2.2)
  have hw := hts _ (hE.2.1 (.constant (abOwn k) a1 (abOf x)) List.mem_cons_self)
  intro rh H locs ws A xs hH hX hL hS
  refine lv_ldcw hx hb hown hw hd ?_
  exact hnx _ _ _ _ h rh H locs ws A _ hH hX hL ⟨_, _, rfl, avSelfI hs, hS⟩
theorem avS7 {RT : Lean.RArray avRg} {RG : avRJ} : avOk RT RG 7 (avOc 1 3) := by
  intro D z sb w0 r0 p l ev R s m args below meth c cc cs Q k d nx e pc ls st q hF hE hop hpc hnx h
  obtain ⟨hx, hb, hml, hown, hts, hnm, hz, hR3, hR4⟩ := hF
  obtain ⟨o, pc', a1, a2, x, ps⟩ := e
  have ho : o = 7 := hop
  have hp : pc' = pc := hpc
  subst ho; subst hp
  have hd := abEt_dec hE (show ¬ (7 : Nat) = 85 by decide) rfl
  have hs := of_decide_eq_true (show decide ((Int64.ofInt ((x : Int) - abB)).toInt + abB = x) = true from hE.2.2)
  have hw := hts _ (hE.2.1 (.constantLong (abOwn k) a1 (Int64.ofInt ((x : Int) - abB))) List.mem_cons_self)
  intro rh H locs ws A xs hH hX hL hS
  refine lv_ldc2 hx hb hown hw hd ?_
  exact hnx _ _ _ _ h rh H locs ws A _ hH hX hL ⟨_, _, rfl, avSelfL hs, hS⟩
theorem avS6 {RT : Lean.RArray avRg} {RG : avRJ} : avOk RT RG 6 (avOc 1 1) := by
  intro D z sb w0 r0 p l ev R s m args below meth c cc cs Q k d nx e pc ls st q hF hE hop hpc hnx h
  obtain ⟨hx, hb, hml, hown, hts, hnm, hz, hR3, hR4⟩ := hF
  obtain ⟨o, pc', a1, a2, x, ps⟩ := e
  have ho : o = 6 := hop
  have hp : pc' = pc := hpc
  subst ho; subst hp
  have hs := of_decide_eq_true (show decide (x = 9223372036854775808 ∨ x = 9223372036854775809) = true from hE.2.2)
  intro rh H locs ws A xs hH hX hL hS
  rcases hs with rfl | rfl
  · have hd := abEt_dec hE (show ¬ (6 : Nat) = 85 by decide) rfl
    refine lv_lconst (v := 0) hx hb hd rfl ?_
    exact hnx _ _ _ _ h rh H locs ws A _ hH hX hL ⟨_, _, rfl, avSelfL rfl, hS⟩
  · have hd := abEt_dec hE (show ¬ (6 : Nat) = 85 by decide) rfl
    refine lv_lconst (v := 1) hx hb hd rfl ?_
    exact hnx _ _ _ _ h rh H locs ws A _ hH hX hL ⟨_, _, rfl, avSelfL rfl, hS⟩
theorem avS8 {RT : Lean.RArray avRg} {RG : avRJ} : avOk RT RG 8 (avOl 0 2) := by
  intro D z sb w0 r0 p l ev R s m args below meth c cc cs Q k d nx e pc ls st q hF hE hop hpc hnx h
  obtain ⟨hx, hb, hml, hown, hts, hnm, hz, hR3, hR4⟩ := hF
  obtain ⟨o, pc', a1, a2, x, ps⟩ := e
  have ho : o = 8 := hop
  have hp : pc' = pc := hpc
  subst ho; subst hp
  have hd := abEt_dec hE (show ¬ (8 : Nat) = 85 by decide) rfl
  obtain ⟨h1, h2⟩ := abIf_and h
  have h3 := abBeq h1
  intro rh H locs ws A xs hH hX hL hS
  obtain ⟨v, hv, gv⟩ := hL.at a2 (by dsimp only at h3; omega)
  obtain ⟨-, y, rfl, -⟩ := avGv_i gv h3
  refine lv_iload hx hb hd hv ?_
  exact hnx _ _ _ _ h2 rh H locs ws A _ hH hX hL ⟨_, _, rfl, gv, hS⟩
theorem avS9 {RT : Lean.RArray avRg} {RG : avRJ} : avOk RT RG 9 (avOl 0 1) := by
  intro D z sb w0 r0 p l ev R s m args below meth c cc cs Q k d nx e pc ls st q hF hE hop hpc hnx h
  obtain ⟨hx, hb, hml, hown, hts, hnm, hz, hR3, hR4⟩ := hF
  obtain ⟨o, pc', a1, a2, x, ps⟩ := e
  have ho : o = 9 := hop
  have hp : pc' = pc := hpc
  subst ho; subst hp
  obtain ⟨h4, hd⟩ := abEt_dec1 hE (show ¬ (9 : Nat) = 85 by decide) rfl
  obtain ⟨h1, h2⟩ := abIf_and h
  have h3 := abBeq h1
  intro rh H locs ws A xs hH hX hL hS
  obtain ⟨v, hv, gv⟩ := hL.at a2 (by dsimp only at h3; omega)
  obtain ⟨-, y, rfl, -⟩ := avGv_i gv h3
  refine lv_iload_n hx hb hd rfl hv ?_
  exact hnx _ _ _ _ h2 rh H locs ws A _ hH hX hL ⟨_, _, rfl, gv, hS⟩
theorem avS10 {RT : Lean.RArray avRg} {RG : avRJ} : avOk RT RG 10 (avOl 1 2) := by
  intro D z sb w0 r0 p l ev R s m args below meth c cc cs Q k d nx e pc ls st q hF hE hop hpc hnx h
  obtain ⟨hx, hb, hml, hown, hts, hnm, hz, hR3, hR4⟩ := hF
  obtain ⟨o, pc', a1, a2, x, ps⟩ := e
  have ho : o = 10 := hop
  have hp : pc' = pc := hpc
  subst ho; subst hp
  have hd := abEt_dec hE (show ¬ (10 : Nat) = 85 by decide) rfl
  obtain ⟨h1, h2⟩ := abIf_and h
  have h3 := abBeq h1
  intro rh H locs ws A xs hH hX hL hS
  obtain ⟨v, hv, gv⟩ := hL.at a2 (by dsimp only at h3; omega)
  obtain ⟨-, y, rfl, -⟩ := avGv_l gv h3
  refine lv_lload hx hb hd hv ?_
  exact hnx _ _ _ _ h2 rh H locs ws A _ hH hX hL ⟨_, _, rfl, gv, hS⟩
theorem avS11 {RT : Lean.RArray avRg} {RG : avRJ} : avOk RT RG 11 (avOl 1 1) := by
  intro D z sb w0 r0 p l ev R s m args below meth c cc cs Q k d nx e pc ls st q hF hE hop hpc hnx h
  obtain ⟨hx, hb, hml, hown, hts, hnm, hz, hR3, hR4⟩ := hF
  obtain ⟨o, pc', a1, a2, x, ps⟩ := e
  have ho : o = 11 := hop
  have hp : pc' = pc := hpc
  subst ho; subst hp
  obtain ⟨h4, hd⟩ := abEt_dec1 hE (show ¬ (11 : Nat) = 85 by decide) rfl
  obtain ⟨h1, h2⟩ := abIf_and h
  have h3 := abBeq h1
  intro rh H locs ws A xs hH hX hL hS
  obtain ⟨v, hv, gv⟩ := hL.at a2 (by dsimp only at h3; omega)
  obtain ⟨-, y, rfl, -⟩ := avGv_l gv h3
  refine lv_lload_n hx hb hd rfl hv ?_
  exact hnx _ _ _ _ h2 rh H locs ws A _ hH hX hL ⟨_, _, rfl, gv, hS⟩
theorem avS12 {RT : Lean.RArray avRg} {RG : avRJ} : avOk RT RG 12 (avOla 2) := by
  intro D z sb w0 r0 p l ev R s m args below meth c cc cs Q k d nx e pc ls st q hF hE hop hpc hnx h
  obtain ⟨hx, hb, hml, hown, hts, hnm, hz, hR3, hR4⟩ := hF
  obtain ⟨o, pc', a1, a2, x, ps⟩ := e
  have ho : o = 12 := hop
  have hp : pc' = pc := hpc
  subst ho; subst hp
  have hd := abEt_dec hE (show ¬ (12 : Nat) = 85 by decide) rfl
  have key : ((avNth ls a2).1 = 2 ∨ (avNth ls a2).1 = 5 ∨ (avNth ls a2).1 = 7) ∧ nx (pc' + 2) ls (avNth ls a2 :: st) q = true := by
    have h' : abIf (Nat.beq (avNth ls a2).1 2) (nx (pc' + 2) ls (avNth ls a2 :: st) q) (abIf (Nat.beq (avNth ls a2).1 5) (nx (pc' + 2) ls (avNth ls a2 :: st) q) (abIf (Nat.beq (avNth ls a2).1 7) (nx (pc' + 2) ls (avNth ls a2 :: st) q) false)) = true := h
    cases q1 : Nat.beq (avNth ls a2).1 2 with
    | true => rw [q1, abIf_t rfl] at h'; exact ⟨Or.inl (abBeq q1), h'⟩
    | false =>
      rw [q1, abIf_f rfl] at h'
      cases q2 : Nat.beq (avNth ls a2).1 5 with
      | true => rw [q2, abIf_t rfl] at h'; exact ⟨Or.inr (Or.inl (abBeq q2)), h'⟩
      | false =>
        rw [q2, abIf_f rfl] at h'
        obtain ⟨h1, h2⟩ := abIf_and h'
        exact ⟨Or.inr (Or.inr (abBeq h1)), h2⟩
  obtain ⟨h3, h2⟩ := key
  intro rh H locs ws A xs hH hX hL hS
  obtain ⟨v, hv, gv⟩ := hL.at a2 (by omega)
  obtain ⟨y, rfl⟩ := avGv_a gv h3
  refine lv_aload hx hb hd hv ?_
  exact hnx _ _ _ _ h2 rh H locs ws A _ hH hX hL ⟨_, _, rfl, gv, hS⟩
theorem avS13 {RT : Lean.RArray avRg} {RG : avRJ} : avOk RT RG 13 (avOla 1) := by
  intro D z sb w0 r0 p l ev R s m args below meth c cc cs Q k d nx e pc ls st q hF hE hop hpc hnx h
  obtain ⟨hx, hb, hml, hown, hts, hnm, hz, hR3, hR4⟩ := hF
  obtain ⟨o, pc', a1, a2, x, ps⟩ := e
  have ho : o = 13 := hop
  have hp : pc' = pc := hpc
  subst ho; subst hp
  obtain ⟨h4, hd⟩ := abEt_dec1 hE (show ¬ (13 : Nat) = 85 by decide) rfl
  have key : ((avNth ls a2).1 = 2 ∨ (avNth ls a2).1 = 5 ∨ (avNth ls a2).1 = 7) ∧ nx (pc' + 1) ls (avNth ls a2 :: st) q = true := by
    have h' : abIf (Nat.beq (avNth ls a2).1 2) (nx (pc' + 1) ls (avNth ls a2 :: st) q) (abIf (Nat.beq (avNth ls a2).1 5) (nx (pc' + 1) ls (avNth ls a2 :: st) q) (abIf (Nat.beq (avNth ls a2).1 7) (nx (pc' + 1) ls (avNth ls a2 :: st) q) false)) = true := h
    cases q1 : Nat.beq (avNth ls a2).1 2 with
    | true => rw [q1, abIf_t rfl] at h'; exact ⟨Or.inl (abBeq q1), h'⟩
    | false =>
      rw [q1, abIf_f rfl] at h'
      cases q2 : Nat.beq (avNth ls a2).1 5 with
      | true => rw [q2, abIf_t rfl] at h'; exact ⟨Or.inr (Or.inl (abBeq q2)), h'⟩
      | false =>
        rw [q2, abIf_f rfl] at h'
        obtain ⟨h1, h2⟩ := abIf_and h'
        exact ⟨Or.inr (Or.inr (abBeq h1)), h2⟩
  obtain ⟨h3, h2⟩ := key
  intro rh H locs ws A xs hH hX hL hS
  obtain ⟨v, hv, gv⟩ := hL.at a2 (by omega)
  obtain ⟨y, rfl⟩ := avGv_a gv h3
  refine lv_aload_n hx hb hd rfl hv ?_
  exact hnx _ _ _ _ h2 rh H locs ws A _ hH hX hL ⟨_, _, rfl, gv, hS⟩
theorem avS14 {RT : Lean.RArray avRg} {RG : avRJ} : avOk RT RG 14 (avOs 0 2) := by
  intro D z sb w0 r0 p l ev R s m args below meth c cc cs Q k d nx e pc ls st q hF hE hop hpc hnx h
  obtain ⟨hx, hb, hml, hown, hts, hnm, hz, hR3, hR4⟩ := hF
  obtain ⟨o, pc', a1, a2, x, ps⟩ := e
  have ho : o = 14 := hop
  have hp : pc' = pc := hpc
  subst ho; subst hp
  have hd := abEt_dec hE (show ¬ (14 : Nat) = 85 by decide) rfl
  have hi := of_decide_eq_true (show decide (a2 < (abMe k).1.2.2.1) = true from hE.2.2)
  rw [← hml] at hi
  obtain ⟨v, rr, rfl, h0⟩ := avHd_some h
  obtain ⟨h1, h2⟩ := abIf_and h0
  have h3 := abBeq h1
  intro rh H locs ws A xs hH hX hL hS
  obtain ⟨y0, xr, rfl, gv, hS2⟩ := hS
  obtain ⟨-, y, rfl, -⟩ := avGv_i gv h3
  obtain ⟨l1, lv, l2, l3⟩ := hL
  refine lv_istore hx hb hd l2 hi rfl (fun ls' hls' => ?_)
  exact hnx _ _ _ _ h2 rh H locs ws ls' _ hH hX (avLok.st1 l1 l3 gv hls') hS2
theorem avS15 {RT : Lean.RArray avRg} {RG : avRJ} : avOk RT RG 15 (avOs 0 1) := by
  intro D z sb w0 r0 p l ev R s m args below meth c cc cs Q k d nx e pc ls st q hF hE hop hpc hnx h
  obtain ⟨hx, hb, hml, hown, hts, hnm, hz, hR3, hR4⟩ := hF
  obtain ⟨o, pc', a1, a2, x, ps⟩ := e
  have ho : o = 15 := hop
  have hp : pc' = pc := hpc
  subst ho; subst hp
  obtain ⟨h4, hd⟩ := abEt_dec1 hE (show ¬ (15 : Nat) = 85 by decide) rfl
  have hi := of_decide_eq_true (show decide (a2 < (abMe k).1.2.2.1) = true from hE.2.2)
  rw [← hml] at hi
  obtain ⟨v, rr, rfl, h0⟩ := avHd_some h
  obtain ⟨h1, h2⟩ := abIf_and h0
  have h3 := abBeq h1
  intro rh H locs ws A xs hH hX hL hS
  obtain ⟨y0, xr, rfl, gv, hS2⟩ := hS
  obtain ⟨-, y, rfl, -⟩ := avGv_i gv h3
  obtain ⟨l1, lv, l2, l3⟩ := hL
  refine lv_istore_n hx hb hd rfl l2 hi rfl (fun ls' hls' => ?_)
  exact hnx _ _ _ _ h2 rh H locs ws ls' _ hH hX (avLok.st1 l1 l3 gv hls') hS2
theorem avS16 {RT : Lean.RArray avRg} {RG : avRJ} : avOk RT RG 16 (avOs2 2) := by
  intro D z sb w0 r0 p l ev R s m args below meth c cc cs Q k d nx e pc ls st q hF hE hop hpc hnx h
  obtain ⟨hx, hb, hml, hown, hts, hnm, hz, hR3, hR4⟩ := hF
  obtain ⟨o, pc', a1, a2, x, ps⟩ := e
  have ho : o = 16 := hop
  have hp : pc' = pc := hpc
  subst ho; subst hp
  have hd := abEt_dec hE (show ¬ (16 : Nat) = 85 by decide) rfl
  have hi := of_decide_eq_true (show decide (a2 + 1 < (abMe k).1.2.2.1) = true from hE.2.2)
  rw [← hml] at hi
  obtain ⟨v, rr, rfl, h0⟩ := avHd_some h
  obtain ⟨h1, h2⟩ := abIf_and h0
  have h3 := abBeq h1
  intro rh H locs ws A xs hH hX hL hS
  obtain ⟨y0, xr, rfl, gv, hS2⟩ := hS
  obtain ⟨-, y, rfl, -⟩ := avGv_l gv h3
  obtain ⟨l1, lv, l2, l3⟩ := hL
  refine lv_lstore hx hb hd l2 hi rfl (fun ls' hls' => ?_)
  exact hnx _ _ _ _ h2 rh H locs ws ls' _ hH hX (avLok.st2 l1 l3 gv hls') hS2
theorem avS17 {RT : Lean.RArray avRg} {RG : avRJ} : avOk RT RG 17 (avOs2 1) := by
  intro D z sb w0 r0 p l ev R s m args below meth c cc cs Q k d nx e pc ls st q hF hE hop hpc hnx h
  obtain ⟨hx, hb, hml, hown, hts, hnm, hz, hR3, hR4⟩ := hF
  obtain ⟨o, pc', a1, a2, x, ps⟩ := e
  have ho : o = 17 := hop
  have hp : pc' = pc := hpc
  subst ho; subst hp
  obtain ⟨h4, hd⟩ := abEt_dec1 hE (show ¬ (17 : Nat) = 85 by decide) rfl
  have hi := of_decide_eq_true (show decide (a2 + 1 < (abMe k).1.2.2.1) = true from hE.2.2)
  rw [← hml] at hi
  obtain ⟨v, rr, rfl, h0⟩ := avHd_some h
  obtain ⟨h1, h2⟩ := abIf_and h0
  have h3 := abBeq h1
  intro rh H locs ws A xs hH hX hL hS
  obtain ⟨y0, xr, rfl, gv, hS2⟩ := hS
  obtain ⟨-, y, rfl, -⟩ := avGv_l gv h3
  obtain ⟨l1, lv, l2, l3⟩ := hL
  refine lv_lstore_n hx hb hd rfl l2 hi rfl (fun ls' hls' => ?_)
  exact hnx _ _ _ _ h2 rh H locs ws ls' _ hH hX (avLok.st2 l1 l3 gv hls') hS2
theorem avS18 {RT : Lean.RArray avRg} {RG : avRJ} : avOk RT RG 18 (avOs 2 2) := by
  intro D z sb w0 r0 p l ev R s m args below meth c cc cs Q k d nx e pc ls st q hF hE hop hpc hnx h
  obtain ⟨hx, hb, hml, hown, hts, hnm, hz, hR3, hR4⟩ := hF
  obtain ⟨o, pc', a1, a2, x, ps⟩ := e
  have ho : o = 18 := hop
  have hp : pc' = pc := hpc
  subst ho; subst hp
  have hd := abEt_dec hE (show ¬ (18 : Nat) = 85 by decide) rfl
  have hi := of_decide_eq_true (show decide (a2 < (abMe k).1.2.2.1) = true from hE.2.2)
  rw [← hml] at hi
  obtain ⟨v, rr, rfl, h0⟩ := avHd_some h
  obtain ⟨h1, h2⟩ := abIf_and h0
  have h3 := abBeq h1
  intro rh H locs ws A xs hH hX hL hS
  obtain ⟨y0, xr, rfl, gv, hS2⟩ := hS
  obtain ⟨y, rfl⟩ := avGv_a gv (Or.inl h3)
  obtain ⟨l1, lv, l2, l3⟩ := hL
  refine lv_astore hx hb hd l2 hi rfl (fun ls' hls' => ?_)
  exact hnx _ _ _ _ h2 rh H locs ws ls' _ hH hX (avLok.st1 l1 l3 gv hls') hS2
theorem avS19 {RT : Lean.RArray avRg} {RG : avRJ} : avOk RT RG 19 (avOs 2 1) := by
  intro D z sb w0 r0 p l ev R s m args below meth c cc cs Q k d nx e pc ls st q hF hE hop hpc hnx h
  obtain ⟨hx, hb, hml, hown, hts, hnm, hz, hR3, hR4⟩ := hF
  obtain ⟨o, pc', a1, a2, x, ps⟩ := e
  have ho : o = 19 := hop
  have hp : pc' = pc := hpc
  subst ho; subst hp
  obtain ⟨h4, hd⟩ := abEt_dec1 hE (show ¬ (19 : Nat) = 85 by decide) rfl
  have hi := of_decide_eq_true (show decide (a2 < (abMe k).1.2.2.1) = true from hE.2.2)
  rw [← hml] at hi
  obtain ⟨v, rr, rfl, h0⟩ := avHd_some h
  obtain ⟨h1, h2⟩ := abIf_and h0
  have h3 := abBeq h1
  intro rh H locs ws A xs hH hX hL hS
  obtain ⟨y0, xr, rfl, gv, hS2⟩ := hS
  obtain ⟨y, rfl⟩ := avGv_a gv (Or.inl h3)
  obtain ⟨l1, lv, l2, l3⟩ := hL
  refine lv_astore_n hx hb hd rfl l2 hi rfl (fun ls' hls' => ?_)
  exact hnx _ _ _ _ h2 rh H locs ws ls' _ hH hX (avLok.st1 l1 l3 gv hls') hS2
