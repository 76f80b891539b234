/-! longs, conversions, the stack -/
theorem abCon {w : abV} {ws : va_W} {sb sl : Nat} {rh : Nat → Int} {x : Value} {k : abR} {r : List abF} (h : abOne w k = some r) (g : abG ws sb sl rh w x) : k = some r ∧ x.category = 1 := by
  unfold abOne at h
  cases q1 : Nat.beq (w.1 / 2) 1 with
  | true => rw [abIf_t q1] at h; cases h
  | false =>
    rw [abIf_f q1] at h
    obtain ⟨h1, h2⟩ := abIf_some h
    exact ⟨h2, abCat_ok (abCat1 (abBle h1) (abBeq_f q1)) g⟩
theorem abNeg_ok {ws : va_W} {sb sl : Nat} {rh : Nat → Int} {a b : Nat} {y : Int32} (p1 : (a : Int) ≤ y.toInt + abB) (p2 : y.toInt + abB ≤ (b : Int)) : abG ws sb sl rh (abBI (18446744073709551616 - b) (18446744073709551616 - a)) (.int (-y)) := by
  have hy := abI32 y
  obtain ⟨lo, hlo⟩ : ∃ lo : Nat, lo = 18446744073709551616 - b := ⟨_, rfl⟩
  obtain ⟨hi, hhi⟩ : ∃ hi : Nat, hi = 18446744073709551616 - a := ⟨_, rfl⟩
  have hs := Int32.toInt_neg y
  rw [← hlo, ← hhi]
  exact abBI_ok hs (by simp only [abB] at *; omega) (by simp only [abB] at *; omega)
theorem abGadd_ok {ws : va_W} {sb sl : Nat} {rh : Nat → Int} {a b c d : Nat} {x y : Int64} (a1 : (a : Int) ≤ x.toInt + abB) (a2 : x.toInt + abB ≤ (b : Int)) (c1 : (c : Int) ≤ y.toInt + abB) (c2 : y.toInt + abB ≤ (d : Int)) : abG ws sb sl rh (abGadd a b c d) (.long (x + y)) := by
  unfold abGadd
  have hs := Int64.toInt_add x y
  simp only [abB] at a1 a2 c1 c2
  generalize hB : (9223372036854775808 : Nat) = B at *
  have hBB : (B : Int) = abB := by rw [← hB]; rfl
  cases q : Nat.ble B (a + c) with
  | false => rw [abIf_f rfl]; exact abTL_ok _
  | true =>
    rw [abIf_t rfl]
    have := abBle q
    generalize hlo : a + c - B = lo at *
    generalize hhi : b + d - B = hi at *
    exact abBL_ok hs (by simp only [abB] at *; omega) (by simp only [abB] at *; omega) (by simp only [abB] at *; omega)
theorem abGsub_ok {ws : va_W} {sb sl : Nat} {rh : Nat → Int} {a b c d : Nat} {x y : Int64} (a1 : (a : Int) ≤ x.toInt + abB) (a2 : x.toInt + abB ≤ (b : Int)) (c1 : (c : Int) ≤ y.toInt + abB) (c2 : y.toInt + abB ≤ (d : Int)) : abG ws sb sl rh (abGsub a b c d) (.long (x - y)) := by
  unfold abGsub
  cases q : Nat.ble d (a + 9223372036854775808) with
  | false => rw [abIf_f rfl]; exact abTL_ok _
  | true =>
    rw [abIf_t rfl]
    have := abBle q
    obtain ⟨lo, hlo⟩ : ∃ lo : Nat, lo = a + 9223372036854775808 - d := ⟨_, rfl⟩
    obtain ⟨hi, hhi⟩ : ∃ hi : Nat, hi = b + 9223372036854775808 - c := ⟨_, rfl⟩
    have hs := Int64.toInt_sub x y
    rw [← hlo, ← hhi]
    exact abBL_ok hs (by simp only [abB] at *; omega) (by simp only [abB] at *; omega) (by simp only [abB] at *; omega)
theorem abSg_cmp (x y : Int64) : (lg_cmp x y).toInt = abSg x.toInt y.toInt := by
  unfold lg_cmp abSg
  by_cases h1 : x > y
  · have h1' := Int64.lt_iff_toInt_lt.mp h1
    rw [if_pos h1, if_neg (by omega), if_neg (by omega)]
    rfl
  · rw [if_neg h1]
    have h1' : ¬ y.toInt < x.toInt := fun q => h1 (Int64.lt_iff_toInt_lt.mpr q)
    by_cases h2 : x = y
    · rw [if_pos h2, h2, if_neg (by omega), if_pos rfl]
      rfl
    · have h2' : ¬ x.toInt = y.toInt := fun q => h2 (Int64.toInt_inj.mp q)
      rw [if_neg h2, if_pos (by omega)]
      rfl
theorem abS32 : abOk 32 (abOj abGadd) := by
  intro D z sb sl rh xs0 w0 p l ev R s m args below meth c Q k d nx e pc ls st g r hF hE hop hpc hnx h
  obtain ⟨hx, hb, hml, hown, hts, hnm, hz, hR1, hR2, hR3, hR4, hlaw⟩ := hF
  obtain ⟨o, pc', a1, a2, x, ps⟩ := e
  have ho : o = 32 := hop
  have hp : pc' = pc := hpc
  subst ho; subst hp
  have hd := abEt_dec hE (show ¬ (32 : Nat) = 85 by decide) rfl
  obtain ⟨w, v, rr, rfl, h0⟩ := ab2_some h
  intro H locs ws A xs hH hX hL hS
  obtain ⟨y0, xr, rfl, gw, x0, xr', rfl, gv, hS'⟩ := hS
  obtain ⟨a, b, y, h1, rfl, p1, p2, -, -⟩ := abWi2 h0 hH.2.2.2.2.2.2.2 gv
  obtain ⟨c0, d0, y', h2, rfl, p3, p4, -, -⟩ := abWi2 h1 hH.2.2.2.2.2.2.2 gw
  refine lv_ladd hx hb hd ?_
  exact hnx _ _ _ _ r h2 (fun _ q => q) H locs ws A _ hH hX hL ⟨_, _, rfl, abGadd_ok p1 p2 p3 p4, hS'⟩
theorem abS33 : abOk 33 (abOj abGsub) := by
  intro D z sb sl rh xs0 w0 p l ev R s m args below meth c Q k d nx e pc ls st g r hF hE hop hpc hnx h
  obtain ⟨hx, hb, hml, hown, hts, hnm, hz, hR1, hR2, hR3, hR4, hlaw⟩ := hF
  obtain ⟨o, pc', a1, a2, x, ps⟩ := e
  have ho : o = 33 := hop
  have hp : pc' = pc := hpc
  subst ho; subst hp
  have hd := abEt_dec hE (show ¬ (33 : Nat) = 85 by decide) rfl
  obtain ⟨w, v, rr, rfl, h0⟩ := ab2_some h
  intro H locs ws A xs hH hX hL hS
  obtain ⟨y0, xr, rfl, gw, x0, xr', rfl, gv, hS'⟩ := hS
  obtain ⟨a, b, y, h1, rfl, p1, p2, -, -⟩ := abWi2 h0 hH.2.2.2.2.2.2.2 gv
  obtain ⟨c0, d0, y', h2, rfl, p3, p4, -, -⟩ := abWi2 h1 hH.2.2.2.2.2.2.2 gw
  refine lv_lsub hx hb hd ?_
  exact hnx _ _ _ _ r h2 (fun _ q => q) H locs ws A _ hH hX hL ⟨_, _, rfl, abGsub_ok p1 p2 p3 p4, hS'⟩
theorem abS34 : abOk 34 (abOj abGtop) := by
  intro D z sb sl rh xs0 w0 p l ev R s m args below meth c Q k d nx e pc ls st g r hF hE hop hpc hnx h
  obtain ⟨hx, hb, hml, hown, hts, hnm, hz, hR1, hR2, hR3, hR4, hlaw⟩ := hF
  obtain ⟨o, pc', a1, a2, x, ps⟩ := e
  have ho : o = 34 := hop
  have hp : pc' = pc := hpc
  subst ho; subst hp
  have hd := abEt_dec hE (show ¬ (34 : Nat) = 85 by decide) rfl
  obtain ⟨w, v, rr, rfl, h0⟩ := ab2_some h
  intro H locs ws A xs hH hX hL hS
  obtain ⟨y0, xr, rfl, gw, x0, xr', rfl, gv, hS'⟩ := hS
  obtain ⟨a, b, y, h1, rfl, p1, p2, -, -⟩ := abWi2 h0 hH.2.2.2.2.2.2.2 gv
  obtain ⟨c0, d0, y', h2, rfl, p3, p4, -, -⟩ := abWi2 h1 hH.2.2.2.2.2.2.2 gw
  refine lv_lmul hx hb hd ?_
  exact hnx _ _ _ _ r h2 (fun _ q => q) H locs ws A _ hH hX hL ⟨_, _, rfl, abTL_ok _, hS'⟩
theorem abS35 : abOk 35 (abOj abGtop) := by
  intro D z sb sl rh xs0 w0 p l ev R s m args below meth c Q k d nx e pc ls st g r hF hE hop hpc hnx h
  obtain ⟨hx, hb, hml, hown, hts, hnm, hz, hR1, hR2, hR3, hR4, hlaw⟩ := hF
  obtain ⟨o, pc', a1, a2, x, ps⟩ := e
  have ho : o = 35 := hop
  have hp : pc' = pc := hpc
  subst ho; subst hp
  have hd := abEt_dec hE (show ¬ (35 : Nat) = 85 by decide) rfl
  obtain ⟨w, v, rr, rfl, h0⟩ := ab2_some h
  intro H locs ws A xs hH hX hL hS
  obtain ⟨y0, xr, rfl, gw, x0, xr', rfl, gv, hS'⟩ := hS
  obtain ⟨a, b, y, h1, rfl, p1, p2, -, -⟩ := abWi2 h0 hH.2.2.2.2.2.2.2 gv
  obtain ⟨c0, d0, y', h2, rfl, p3, p4, -, -⟩ := abWi2 h1 hH.2.2.2.2.2.2.2 gw
  refine lv_land hx hb hd ?_
  exact hnx _ _ _ _ r h2 (fun _ q => q) H locs ws A _ hH hX hL ⟨_, _, rfl, abTL_ok _, hS'⟩
theorem abS36 : abOk 36 (abOj abGtop) := by
  intro D z sb sl rh xs0 w0 p l ev R s m args below meth c Q k d nx e pc ls st g r hF hE hop hpc hnx h
  obtain ⟨hx, hb, hml, hown, hts, hnm, hz, hR1, hR2, hR3, hR4, hlaw⟩ := hF
  obtain ⟨o, pc', a1, a2, x, ps⟩ := e
  have ho : o = 36 := hop
  have hp : pc' = pc := hpc
  subst ho; subst hp
  have hd := abEt_dec hE (show ¬ (36 : Nat) = 85 by decide) rfl
  obtain ⟨w, v, rr, rfl, h0⟩ := ab2_some h
  intro H locs ws A xs hH hX hL hS
  obtain ⟨y0, xr, rfl, gw, x0, xr', rfl, gv, hS'⟩ := hS
  obtain ⟨a, b, y, h1, rfl, p1, p2, -, -⟩ := abWi2 h0 hH.2.2.2.2.2.2.2 gv
  obtain ⟨c0, d0, y', h2, rfl, p3, p4, -, -⟩ := abWi2 h1 hH.2.2.2.2.2.2.2 gw
  refine lv_lor hx hb hd ?_
  exact hnx _ _ _ _ r h2 (fun _ q => q) H locs ws A _ hH hX hL ⟨_, _, rfl, abTL_ok _, hS'⟩
theorem abS37 : abOk 37 (abOj abGtop) := by
  intro D z sb sl rh xs0 w0 p l ev R s m args below meth c Q k d nx e pc ls st g r hF hE hop hpc hnx h
  obtain ⟨hx, hb, hml, hown, hts, hnm, hz, hR1, hR2, hR3, hR4, hlaw⟩ := hF
  obtain ⟨o, pc', a1, a2, x, ps⟩ := e
  have ho : o = 37 := hop
  have hp : pc' = pc := hpc
  subst ho; subst hp
  have hd := abEt_dec hE (show ¬ (37 : Nat) = 85 by decide) rfl
  obtain ⟨w, v, rr, rfl, h0⟩ := ab2_some h
  intro H locs ws A xs hH hX hL hS
  obtain ⟨y0, xr, rfl, gw, x0, xr', rfl, gv, hS'⟩ := hS
  obtain ⟨a, b, y, h1, rfl, p1, p2, -, -⟩ := abWi2 h0 hH.2.2.2.2.2.2.2 gv
  obtain ⟨c0, d0, y', h2, rfl, p3, p4, -, -⟩ := abWi2 h1 hH.2.2.2.2.2.2.2 gw
  refine lv_lxor hx hb hd ?_
  exact hnx _ _ _ _ r h2 (fun _ q => q) H locs ws A _ hH hX hL ⟨_, _, rfl, abTL_ok _, hS'⟩
theorem abS38 : abOk 38 abOjs := by
  intro D z sb sl rh xs0 w0 p l ev R s m args below meth c Q k d nx e pc ls st g r hF hE hop hpc hnx h
  obtain ⟨hx, hb, hml, hown, hts, hnm, hz, hR1, hR2, hR3, hR4, hlaw⟩ := hF
  obtain ⟨o, pc', a1, a2, x, ps⟩ := e
  have ho : o = 38 := hop
  have hp : pc' = pc := hpc
  subst ho; subst hp
  have hd := abEt_dec hE (show ¬ (38 : Nat) = 85 by decide) rfl
  obtain ⟨w, v, rr, rfl, h0⟩ := ab2_some h
  intro H locs ws A xs hH hX hL hS
  obtain ⟨y0, xr, rfl, gw, x0, xr', rfl, gv, hS'⟩ := hS
  obtain ⟨a, b, y, h1, rfl, p1, p2, -, -⟩ := abWi0 h0 hH.2.2.2.2.2.2.2 gw
  obtain ⟨c0, d0, y', h2, rfl, p3, p4, -, -⟩ := abWi2 h1 hH.2.2.2.2.2.2.2 gv
  refine lv_lshl hx hb hd rfl ?_
  exact hnx _ _ _ _ r h2 (fun _ q => q) H locs ws A _ hH hX hL ⟨_, _, rfl, abTL_ok _, hS'⟩
theorem abS39 : abOk 39 abOjs := by
  intro D z sb sl rh xs0 w0 p l ev R s m args below meth c Q k d nx e pc ls st g r hF hE hop hpc hnx h
  obtain ⟨hx, hb, hml, hown, hts, hnm, hz, hR1, hR2, hR3, hR4, hlaw⟩ := hF
  obtain ⟨o, pc', a1, a2, x, ps⟩ := e
  have ho : o = 39 := hop
  have hp : pc' = pc := hpc
  subst ho; subst hp
  have hd := abEt_dec hE (show ¬ (39 : Nat) = 85 by decide) rfl
  obtain ⟨w, v, rr, rfl, h0⟩ := ab2_some h
  intro H locs ws A xs hH hX hL hS
  obtain ⟨y0, xr, rfl, gw, x0, xr', rfl, gv, hS'⟩ := hS
  obtain ⟨a, b, y, h1, rfl, p1, p2, -, -⟩ := abWi0 h0 hH.2.2.2.2.2.2.2 gw
  obtain ⟨c0, d0, y', h2, rfl, p3, p4, -, -⟩ := abWi2 h1 hH.2.2.2.2.2.2.2 gv
  refine lv_lshr hx hb hd rfl ?_
  exact hnx _ _ _ _ r h2 (fun _ q => q) H locs ws A _ hH hX hL ⟨_, _, rfl, abTL_ok _, hS'⟩
theorem abS31 : abOk 31 abOneg := by
  intro D z sb sl rh xs0 w0 p l ev R s m args below meth c Q k d nx e pc ls st g r hF hE hop hpc hnx h
  obtain ⟨hx, hb, hml, hown, hts, hnm, hz, hR1, hR2, hR3, hR4, hlaw⟩ := hF
  obtain ⟨o, pc', a1, a2, x, ps⟩ := e
  have ho : o = 31 := hop
  have hp : pc' = pc := hpc
  subst ho; subst hp
  have hd := abEt_dec hE (show ¬ (31 : Nat) = 85 by decide) rfl
  obtain ⟨v, rr, rfl, h0⟩ := abHd_some h
  intro H locs ws A xs hH hX hL hS
  obtain ⟨y0, xr, rfl, gv, hS'⟩ := hS
  obtain ⟨a, b, y, h1, rfl, p1, p2, -, -⟩ := abWi0 h0 hH.2.2.2.2.2.2.2 gv
  refine lv_ineg hx hb hd ?_
  exact hnx _ _ _ _ r h1 (fun _ q => q) H locs ws A _ hH hX hL ⟨_, _, rfl, abNeg_ok p1 p2, hS'⟩
theorem abS40 : abOk 40 abOi2l := by
  intro D z sb sl rh xs0 w0 p l ev R s m args below meth c Q k d nx e pc ls st g r hF hE hop hpc hnx h
  obtain ⟨hx, hb, hml, hown, hts, hnm, hz, hR1, hR2, hR3, hR4, hlaw⟩ := hF
  obtain ⟨o, pc', a1, a2, x, ps⟩ := e
  have ho : o = 40 := hop
  have hp : pc' = pc := hpc
  subst ho; subst hp
  have hd := abEt_dec hE (show ¬ (40 : Nat) = 85 by decide) rfl
  obtain ⟨v, rr, rfl, h0⟩ := abHd_some h
  obtain ⟨h1, h2⟩ := abIf_some h0
  have h3 := abBle h1
  intro H locs ws A xs hH hX hL hS
  obtain ⟨y0, xr, rfl, gv, hS'⟩ := hS
  obtain ⟨y, rfl⟩ := abG_i gv (by omega)
  refine lv_i2l hx hb hd rfl ?_
  refine hnx _ _ _ _ r h2 (fun _ q => q) H locs ws A _ hH hX hL ⟨_, _, rfl, ?_, hS'⟩
  obtain ⟨t, i, j⟩ := v
  rcases (show t = 0 ∨ t = 1 by have : t ≤ 1 := h3; omega) with rfl | rfl
  · obtain ⟨z1, hz1, q1, q2⟩ := gv
    cases hz1
    exact ⟨_, rfl, by rw [Int32.toInt_toInt64]; exact q1, by rw [Int32.toInt_toInt64]; exact q2⟩
  · obtain ⟨z1, hz1, q1⟩ := gv
    cases hz1
    exact ⟨_, rfl, by rw [Int32.toInt_toInt64]; exact q1⟩
theorem abS41 : abOk 41 abOl2i := by
  intro D z sb sl rh xs0 w0 p l ev R s m args below meth c Q k d nx e pc ls st g r hF hE hop hpc hnx h
  obtain ⟨hx, hb, hml, hown, hts, hnm, hz, hR1, hR2, hR3, hR4, hlaw⟩ := hF
  obtain ⟨o, pc', a1, a2, x, ps⟩ := e
  have ho : o = 41 := hop
  have hp : pc' = pc := hpc
  subst ho; subst hp
  have hd := abEt_dec hE (show ¬ (41 : Nat) = 85 by decide) rfl
  obtain ⟨v, rr, rfl, h0⟩ := abHd_some h
  intro H locs ws A xs hH hX hL hS
  obtain ⟨y0, xr, rfl, gv, hS'⟩ := hS
  obtain ⟨a, b, y, h1, rfl, p1, p2, -, -⟩ := abWi2 h0 hH.2.2.2.2.2.2.2 gv
  refine lv_l2i hx hb hd rfl ?_
  exact hnx _ _ _ _ r h1 (fun _ q => q) H locs ws A _ hH hX hL ⟨_, _, rfl, abBI_ok (Int64.toInt_toInt32 y) p1 p2, hS'⟩
theorem abS42 : abOk 42 abOi2b := by
  intro D z sb sl rh xs0 w0 p l ev R s m args below meth c Q k d nx e pc ls st g r hF hE hop hpc hnx h
  obtain ⟨hx, hb, hml, hown, hts, hnm, hz, hR1, hR2, hR3, hR4, hlaw⟩ := hF
  obtain ⟨o, pc', a1, a2, x, ps⟩ := e
  have ho : o = 42 := hop
  have hp : pc' = pc := hpc
  subst ho; subst hp
  have hd := abEt_dec hE (show ¬ (42 : Nat) = 85 by decide) rfl
  obtain ⟨v, rr, rfl, h0⟩ := abHd_some h
  intro H locs ws A xs hH hX hL hS
  obtain ⟨y0, xr, rfl, gv, hS'⟩ := hS
  obtain ⟨a, b, y, h1, rfl, p1, p2, -, -⟩ := abWi0 h0 hH.2.2.2.2.2.2.2 gv
  refine lv_i2b hx hb hd rfl ?_
  refine hnx _ _ _ _ r h1 (fun _ q => q) H locs ws A _ hH hX hL ⟨_, _, rfl, ⟨_, rfl, ?_, ?_⟩, hS'⟩
  · have := Int8.le_toInt y.toInt8
    rw [Int8.toInt_toInt32]
    show ((9223372036854775680 : Nat) : Int) ≤ _
    simp only [abB]
    omega
  · have := Int8.toInt_lt y.toInt8
    rw [Int8.toInt_toInt32]
    show _ ≤ ((9223372036854775935 : Nat) : Int)
    simp only [abB]
    omega
theorem abS43 : abOk 43 abOcmp := by
  intro D z sb sl rh xs0 w0 p l ev R s m args below meth c Q k d nx e pc ls st g r hF hE hop hpc hnx h
  obtain ⟨hx, hb, hml, hown, hts, hnm, hz, hR1, hR2, hR3, hR4, hlaw⟩ := hF
  obtain ⟨o, pc', a1, a2, x, ps⟩ := e
  have ho : o = 43 := hop
  have hp : pc' = pc := hpc
  subst ho; subst hp
  have hd := abEt_dec hE (show ¬ (43 : Nat) = 85 by decide) rfl
  obtain ⟨w, v, rr, rfl, h0⟩ := ab2_some h
  intro H locs ws A xs hH hX hL hS
  obtain ⟨y0, xr, rfl, gw, x0, xr', rfl, gv, hS'⟩ := hS
  obtain ⟨a, b, y, h1, rfl, p1, p2, pt, -⟩ := abWi2 h0 hH.2.2.2.2.2.2.2 gv
  obtain ⟨c0, d0, y', h2, rfl, p3, p4, -, -⟩ := abWi2 h1 hH.2.2.2.2.2.2.2 gw
  refine W.lcmp hx hb hd ?_
  have hc := abSg_cmp y y'
  have fin : ∀ u : abV, nx (pc' + 1) ls (u :: rr) g = some r → abG ws sb sl rh u (.int (lg_cmp y y')) → W p l ev R s m args below meth c H locs g.2.2.2.1 g.2.2.2.2 Q (F0 m (pc' + 1) A (.int (lg_cmp y y') :: xr')) := fun u hu gu => hnx _ _ _ _ r hu (fun _ q => q) H locs ws A _ hH hX hL ⟨_, _, rfl, gu, hS'⟩
  have any : abG ws sb sl rh (0, 9223372036854775807, 9223372036854775809) (.int (lg_cmp y y')) := by
    refine ⟨_, rfl, ?_, ?_⟩
    · show ((9223372036854775807 : Nat) : Int) ≤ _
      rw [hc]
      unfold abSg
      simp only [abB]
      split
      · omega
      · split <;> omega
    · show _ ≤ ((9223372036854775809 : Nat) : Int)
      rw [hc]
      unfold abSg
      simp only [abB]
      split
      · omega
      · split <;> omega
  cases q1 : Nat.ble c0 b with
  | false =>
    rw [abIf_f q1] at h2
    have e := abBle_f q1
    refine fin _ h2 (abSelfI ?_)
    rw [hc]
    unfold abSg
    rw [if_pos (by omega)]
    rfl
  | true =>
    rw [abIf_t q1] at h2
    cases q2 : Nat.ble a d0 with
    | false =>
      rw [abIf_f q2] at h2
      have e := abBle_f q2
      refine fin _ h2 (abSelfI ?_)
      rw [hc]
      unfold abSg
      rw [if_neg (by omega), if_neg (by omega)]
      rfl
    | true =>
      rw [abIf_t q2] at h2
      cases q3 : Nat.beq c0 d0 with
      | false => rw [abIf_f q3] at h2; exact fin _ h2 any
      | true =>
        rw [abIf_t q3] at h2
        have e3 := abBeq q3
        cases q4 : Nat.beq a b with
        | true =>
          rw [abIf_t q4] at h2
          have e4 := abBeq q4
          have e1 := abBle q1
          have e2 := abBle q2
          refine fin _ h2 (abSelfI ?_)
          rw [hc]
          unfold abSg
          rw [if_neg (by omega), if_pos (by omega)]
          rfl
        | false =>
          rw [abIf_f q4] at h2
          cases q5 : Nat.beq v.1 3 with
          | false => rw [abIf_f q5] at h2; exact fin _ h2 any
          | true =>
            rw [abIf_t q5] at h2
            refine fin _ h2 ⟨_, rfl, ?_⟩
            have e5 := (pt (abBeq q5)).1
            show (lg_cmp y y').toInt = abSg (rh v.2.1 + abB) (c0 : Int)
            rw [hc, ← e5]
            unfold abSg
            have e6 : y'.toInt + abB = (c0 : Int) := by omega
            by_cases z1 : y.toInt < y'.toInt
            · rw [if_pos z1, if_pos (show y.toInt + abB < (c0 : Int) by omega)]
            · rw [if_neg z1, if_neg (show ¬ y.toInt + abB < (c0 : Int) by omega)]
              by_cases z2 : y.toInt = y'.toInt
              · rw [if_pos z2, if_pos (show y.toInt + abB = (c0 : Int) by omega)]
              · rw [if_neg z2, if_neg (show ¬ y.toInt + abB = (c0 : Int) by omega)]
theorem abS44 : abOk 44 abOdup := by
  intro D z sb sl rh xs0 w0 p l ev R s m args below meth c Q k d nx e pc ls st g r hF hE hop hpc hnx h
  obtain ⟨hx, hb, hml, hown, hts, hnm, hz, hR1, hR2, hR3, hR4, hlaw⟩ := hF
  obtain ⟨o, pc', a1, a2, x, ps⟩ := e
  have ho : o = 44 := hop
  have hp : pc' = pc := hpc
  subst ho; subst hp
  have hd := abEt_dec hE (show ¬ (44 : Nat) = 85 by decide) rfl
  obtain ⟨v, rr, rfl, h0⟩ := abHd_some h
  intro H locs ws A xs hH hX hL hS
  obtain ⟨y0, xr, rfl, gv, hS'⟩ := hS
  obtain ⟨h1, hc⟩ := abCon h0 gv
  refine lv_dup hx hb hd hc ?_
  exact hnx _ _ _ _ r h1 (fun _ q => q) H locs ws A _ hH hX hL ⟨_, _, rfl, gv, _, _, rfl, gv, hS'⟩
theorem abS45 : abOk 45 abOdup2 := by
  intro D z sb sl rh xs0 w0 p l ev R s m args below meth c Q k d nx e pc ls st g r hF hE hop hpc hnx h
  obtain ⟨hx, hb, hml, hown, hts, hnm, hz, hR1, hR2, hR3, hR4, hlaw⟩ := hF
  obtain ⟨o, pc', a1, a2, x, ps⟩ := e
  have ho : o = 45 := hop
  have hp : pc' = pc := hpc
  subst ho; subst hp
  have hd := abEt_dec hE (show ¬ (45 : Nat) = 85 by decide) rfl
  obtain ⟨v, rr, rfl, h0⟩ := abHd_some h
  intro H locs ws A xs hH hX hL hS
  obtain ⟨y0, xr, rfl, gv, hS'⟩ := hS
  cases q1 : Nat.beq (v.1 / 2) 1 with
  | true =>
    rw [abIf_t q1] at h0
    have h3 := abDiv q1
    obtain ⟨y, rfl⟩ := abG_l gv (by omega)
    refine lv_dup2_2 hx hb hd rfl ?_
    exact hnx _ _ _ _ r h0 (fun _ q => q) H locs ws A _ hH hX hL ⟨_, _, rfl, gv, _, _, rfl, gv, hS'⟩
  | false =>
    rw [abIf_f q1] at h0
    obtain ⟨w, r2, rfl, h1⟩ := abHd_some h0
    obtain ⟨y1, xr1, rfl, gw, hS2⟩ := hS'
    obtain ⟨h2, hc1⟩ := abCon h1 gv
    obtain ⟨h3, hc2⟩ := abCon h2 gw
    refine lv_dup2_11 hx hb hd hc1 hc2 ?_
    exact hnx _ _ _ _ r h3 (fun _ q => q) H locs ws A _ hH hX hL ⟨_, _, rfl, gv, _, _, rfl, gw, _, _, rfl, gv, _, _, rfl, gw, hS2⟩
theorem abCe (x y : Int32) : x = y ↔ x.toInt = y.toInt := Int32.toInt_inj.symm
theorem abCl0 (x y : Int32) : x < y ↔ x.toInt < y.toInt := Int32.lt_iff_toInt_lt
theorem abCle (x y : Int32) : x ≤ y ↔ x.toInt ≤ y.toInt := Int32.le_iff_toInt_le
theorem abSg7 {n c : Int} : (abSg n c = 0 ↔ n = c) ∧ (abSg n c < 0 ↔ n < c) ∧ (0 < abSg n c ↔ c < n) := by
  unfold abSg
  by_cases h1 : n < c
  · rw [if_pos h1]
    refine ⟨⟨fun q => by omega, fun q => by omega⟩, ⟨fun _ => h1, fun _ => by omega⟩, ⟨fun q => by omega, fun q => by omega⟩⟩
  · rw [if_neg h1]
    by_cases h2 : n = c
    · rw [if_pos h2]
      refine ⟨⟨fun _ => h2, fun _ => rfl⟩, ⟨fun q => by omega, fun q => by omega⟩, ⟨fun q => by omega, fun q => by omega⟩⟩
    · rw [if_neg h2]
      refine ⟨⟨fun q => by omega, fun q => by omega⟩, ⟨fun q => by omega, fun q => by omega⟩, ⟨fun _ => by omega, fun _ => by omega⟩⟩
def abRowB2 (cd : Jvm.ClassFile.Cond) (P : Int → Int → Prop) : Prop := ∀ {p : Program} {l : Launch} {ev : Env} {R : Room} {s : State} {m : MethodId} {args : Array Value} {below : List Frame} {meth : Method} {c : Code} {H : Heap} {locs : List Loc} {cells slots : Nat} {Q : State → Prop} {cc : ByteArray} {pc tgt : Nat} {off : Int} {A : Array Slot} {rest : List Value} {x y : Int32}, p.tables.exec = Jvm.exec → c.code = cc → decode cc pc = .ok (.if_icmp cd off, 3) → (pc : Int) + off = (tgt : Int) → (P x.toInt y.toInt → W p l ev R s m args below meth c H locs cells slots Q (F0 m tgt A rest)) → (¬ P x.toInt y.toInt → W p l ev R s m args below meth c H locs cells slots Q (F0 m (pc + 3) A rest)) → W p l ev R s m args below meth c H locs cells slots Q (F0 m pc A (.int y :: .int x :: rest))
def abRowB1 (cd : Jvm.ClassFile.Cond) (P : Int → Int → Prop) : Prop := ∀ {p : Program} {l : Launch} {ev : Env} {R : Room} {s : State} {m : MethodId} {args : Array Value} {below : List Frame} {meth : Method} {c : Code} {H : Heap} {locs : List Loc} {cells slots : Nat} {Q : State → Prop} {cc : ByteArray} {pc tgt : Nat} {off : Int} {A : Array Slot} {rest : List Value} {x : Int32}, p.tables.exec = Jvm.exec → c.code = cc → decode cc pc = .ok (.ifCond cd off, 3) → (pc : Int) + off = (tgt : Int) → (P x.toInt 0 → W p l ev R s m args below meth c H locs cells slots Q (F0 m tgt A rest)) → (¬ P x.toInt 0 → W p l ev R s m args below meth c H locs cells slots Q (F0 m (pc + 3) A rest)) → W p l ev R s m args below meth c H locs cells slots Q (F0 m pc A (.int x :: rest))
theorem abIcmp {op : Nat} {cd : Jvm.ClassFile.Cond} {P : Int → Int → Prop} {BR : abBt abF} (h85 : ¬ op = 85) (hins : ∀ (pc a1 a2 x : Nat) (ps : List Nat), abIns (op, pc, a1, a2, x, ps) = some (.if_icmp cd ((a1 : Int) - pc), 3)) (row : abRowB2 cd P) (hB : abBrk P BR) : abOk op (abOic BR) := by
  intro D z sb sl rh xs0 w0 p l ev R s m args below meth c Q k d nx e pc ls st g r hF hE ho hpc hnx h
  obtain ⟨hx, hb, -⟩ := hF
  obtain ⟨o, pc', a1, a2, x, ps⟩ := e
  have ho : o = op := ho
  have hp : pc' = pc := hpc
  subst ho; subst hp
  have hd := abEt_dec hE h85 (hins _ _ _ _ _)
  obtain ⟨w, v, rr, rfl, h0⟩ := ab2_some h
  intro H locs ws A xs hH hX hL hS
  have hS0 := hS
  obtain ⟨y0, xr, rfl, gw, x0, xr', rfl, gv, hS'⟩ := hS
  obtain ⟨a, b, y, h1, rfl, p1, p2, -, -⟩ := abWi0 h0 hH.2.2.2.2.2.2.2 gv
  obtain ⟨c0, d0, y', h2, rfl, p3, p4, -, -⟩ := abWi0 h1 hH.2.2.2.2.2.2.2 gw
  rcases hB rh _ _ _ _ _ _ _ _ _ _ r y.toInt y'.toInt h2 hH.2.2.2.2.2.2.2 (abTag_i gv) (abTag_i gw) p1 p2 p3 p4 with q | ⟨q1, q2⟩
  · exact abHas_run hnx q hH hX hL hS0
  · exact row hx hb hd (show ((pc' : Nat) : Int) + ((a1 : Int) - pc') = ((a1 : Nat) : Int) by omega) (fun hp => abHas_run hnx (q1 hp) hH hX hL hS') (fun hp => abHas_run hnx (q2 hp) hH hX hL hS')
theorem abIf1 {op : Nat} {cd : Jvm.ClassFile.Cond} {P : Int → Int → Prop} {BR : abBt abF} (h85 : ¬ op = 85) (hins : ∀ (pc a1 a2 x : Nat) (ps : List Nat), abIns (op, pc, a1, a2, x, ps) = some (.ifCond cd ((a1 : Int) - pc), 3)) (row : abRowB1 cd P) (hB : abBrk P BR) (h7 : ∀ n c : Int, P (abSg n c) 0 ↔ P (n - abB) (c - abB)) : abOk op (abOif BR) := by
  intro D z sb sl rh xs0 w0 p l ev R s m args below meth c Q k d nx e pc ls st g r hF hE ho hpc hnx h
  obtain ⟨hx, hb, -⟩ := hF
  obtain ⟨o, pc', a1, a2, x, ps⟩ := e
  have ho : o = op := ho
  have hp : pc' = pc := hpc
  subst ho; subst hp
  have hd := abEt_dec hE h85 (hins _ _ _ _ _)
  obtain ⟨v, rr, rfl, h0⟩ := abHd_some h
  intro H locs ws A xs hH hX hL hS
  have hS0 := hS
  obtain ⟨x0, xr', rfl, gv, hS'⟩ := hS
  cases q7 : Nat.beq v.1 7 with
  | true =>
    rw [abIf_t q7] at h0
    obtain ⟨q, e1, h2⟩ := abWe_ok h0
    have hq := hH.2.2.2.2.2.2.2 _ _ e1
    obtain ⟨t, i, j⟩ := v
    have ht : t = 7 := abBeq q7
    subst ht
    obtain ⟨y, rfl, hy⟩ := gv
    have hy' : y.toInt = abSg (rh i + abB) (j : Int) := hy
    have hpq : P y.toInt 0 ↔ P (rh i) ((j : Int) - abB) := by
      rw [hy', h7, show rh i + abB - abB = rh i by omega]
    rcases hB rh _ _ _ _ _ _ _ _ _ _ r (rh i) ((j : Int) - abB) h2 hH.2.2.2.2.2.2.2 (fun k hk => by cases hk; rfl) (fun k hk => by cases hk) hq.1 hq.2 (by show (j : Int) ≤ _; omega) (by show _ ≤ (j : Int); omega) with q | ⟨q1, q2⟩
    · exact abHas_run hnx q hH hX hL hS0
    · exact row hx hb hd (show ((pc' : Nat) : Int) + ((a1 : Int) - pc') = ((a1 : Nat) : Int) by omega) (fun hp => abHas_run hnx (q1 (hpq.mp hp)) hH hX hL hS') (fun hp => abHas_run hnx (q2 (fun z => hp (hpq.mpr z))) hH hX hL hS')
  | false =>
    rw [abIf_f q7] at h0
    obtain ⟨a, b, y, h1, rfl, p1, p2, -, -⟩ := abWi0 h0 hH.2.2.2.2.2.2.2 gv
    rcases hB rh _ _ _ _ _ _ _ _ _ _ r y.toInt 0 h1 hH.2.2.2.2.2.2.2 (abTag_i gv) (fun k hk => by cases hk) p1 p2 (by show ((9223372036854775808 : Nat) : Int) ≤ _; simp only [abB]; omega) (by show _ ≤ ((9223372036854775808 : Nat) : Int); simp only [abB]; omega) with q | ⟨q1, q2⟩
    · exact abHas_run hnx q hH hX hL hS0
    · exact row hx hb hd (show ((pc' : Nat) : Int) + ((a1 : Int) - pc') = ((a1 : Nat) : Int) by omega) (fun hp => abHas_run hnx (q1 hp) hH hX hL hS') (fun hp => abHas_run hnx (q2 hp) hH hX hL hS')
theorem abR2eq : abRowB2 .eq (fun m n => m = n) := fun hx hb hd ht kt kf => lv_icmp_eq hx hb hd ht (fun q => kt (congrArg Int32.toInt q)) (fun q => kf (fun w => q (Int32.toInt_inj.mp w)))
theorem abR2ne : abRowB2 .ne (fun m n => ¬ m = n) := fun hx hb hd ht kt kf => lv_icmp_ne hx hb hd ht (fun q => kt (fun w => q (Int32.toInt_inj.mp w))) (fun q => kf (fun w => w (congrArg Int32.toInt q)))
theorem abR2lt : abRowB2 .lt (fun m n => m < n) := fun hx hb hd ht kt kf => lv_icmp_lt hx hb hd ht (fun q => kt (Int32.lt_iff_toInt_lt.mp q)) (fun q => kf (fun w => q (Int32.lt_iff_toInt_lt.mpr w)))
theorem abR2ge : abRowB2 .ge (fun m n => ¬ m < n) := fun hx hb hd ht kt kf => lv_icmp_ge hx hb hd ht (fun q => kt (Int.not_lt.mpr (Int32.le_iff_toInt_le.mp q))) (fun q => kf (fun w => q (Int32.le_iff_toInt_le.mpr (Int.not_lt.mp w))))
theorem abR2gt : abRowB2 .gt (fun m n => n < m) := fun hx hb hd ht kt kf => lv_icmp_gt hx hb hd ht (fun q => kt (Int32.lt_iff_toInt_lt.mp q)) (fun q => kf (fun w => q (Int32.lt_iff_toInt_lt.mpr w)))
theorem abR2le : abRowB2 .le (fun m n => ¬ n < m) := fun hx hb hd ht kt kf => lv_icmp_le hx hb hd ht (fun q => kt (Int.not_lt.mpr (Int32.le_iff_toInt_le.mp q))) (fun q => kf (fun w => q (Int32.le_iff_toInt_le.mpr (Int.not_lt.mp w))))
theorem abR1eq : abRowB1 .eq (fun m n => m = n) := fun hx hb hd ht kt kf => lv_if_eq hx hb hd ht (fun q => kt (congrArg Int32.toInt q)) (fun q => kf (fun w => q (Int32.toInt_inj.mp w)))
theorem abR1ne : abRowB1 .ne (fun m n => ¬ m = n) := fun hx hb hd ht kt kf => lv_if_ne hx hb hd ht (fun q => kt (fun w => q (Int32.toInt_inj.mp w))) (fun q => kf (fun w => w (congrArg Int32.toInt q)))
theorem abR1lt : abRowB1 .lt (fun m n => m < n) := fun hx hb hd ht kt kf => lv_if_lt hx hb hd ht (fun q => kt (Int32.lt_iff_toInt_lt.mp q)) (fun q => kf (fun w => q (Int32.lt_iff_toInt_lt.mpr w)))
theorem abR1ge : abRowB1 .ge (fun m n => ¬ m < n) := fun hx hb hd ht kt kf => lv_if_ge hx hb hd ht (fun q => kt (Int.not_lt.mpr (Int32.le_iff_toInt_le.mp q))) (fun q => kf (fun w => q (Int32.le_iff_toInt_le.mpr (Int.not_lt.mp w))))
theorem abR1gt : abRowB1 .gt (fun m n => n < m) := fun hx hb hd ht kt kf => lv_if_gt hx hb hd ht (fun q => kt (Int32.lt_iff_toInt_lt.mp q)) (fun q => kf (fun w => q (Int32.lt_iff_toInt_lt.mpr w)))
theorem abR1le : abRowB1 .le (fun m n => ¬ n < m) := fun hx hb hd ht kt kf => lv_if_le hx hb hd ht (fun q => kt (Int.not_lt.mpr (Int32.le_iff_toInt_le.mp q))) (fun q => kf (fun w => q (Int32.le_iff_toInt_le.mpr (Int.not_lt.mp w))))
theorem abS46 : abOk 46 (abOif abEq) := abIf1 (by decide) (fun _ _ _ _ _ => rfl) abR1eq abEq_ok (fun n c => by have := abSg7 (n := n) (c := c); constructor <;> intro q <;> omega)
theorem abS47 : abOk 47 (abOif (abSw abEq)) := abIf1 (by decide) (fun _ _ _ _ _ => rfl) abR1ne (abSw_ok abEq_ok) (fun n c => by have := abSg7 (n := n) (c := c); constructor <;> intro q <;> omega)
theorem abS48 : abOk 48 (abOif abLt) := abIf1 (by decide) (fun _ _ _ _ _ => rfl) abR1lt abLt_ok (fun n c => by have := abSg7 (n := n) (c := c); constructor <;> intro q <;> omega)
theorem abS49 : abOk 49 (abOif (abSw abLt)) := abIf1 (by decide) (fun _ _ _ _ _ => rfl) abR1ge (abSw_ok abLt_ok) (fun n c => by have := abSg7 (n := n) (c := c); constructor <;> intro q <;> omega)
theorem abS50 : abOk 50 (abOif abGt) := abIf1 (by decide) (fun _ _ _ _ _ => rfl) abR1gt abGt_ok (fun n c => by have := abSg7 (n := n) (c := c); constructor <;> intro q <;> omega)
theorem abS51 : abOk 51 (abOif (abSw abGt)) := abIf1 (by decide) (fun _ _ _ _ _ => rfl) abR1le (abSw_ok abGt_ok) (fun n c => by have := abSg7 (n := n) (c := c); constructor <;> intro q <;> omega)
theorem abS52 : abOk 52 (abOic abEq) := abIcmp (by decide) (fun _ _ _ _ _ => rfl) abR2eq abEq_ok
theorem abS53 : abOk 53 (abOic (abSw abEq)) := abIcmp (by decide) (fun _ _ _ _ _ => rfl) abR2ne (abSw_ok abEq_ok)
theorem abS54 : abOk 54 (abOic abLt) := abIcmp (by decide) (fun _ _ _ _ _ => rfl) abR2lt abLt_ok
theorem abS55 : abOk 55 (abOic (abSw abLt)) := abIcmp (by decide) (fun _ _ _ _ _ => rfl) abR2ge (abSw_ok abLt_ok)
theorem abS56 : abOk 56 (abOic abGt) := abIcmp (by decide) (fun _ _ _ _ _ => rfl) abR2gt abGt_ok
theorem abS57 : abOk 57 (abOic (abSw abGt)) := abIcmp (by decide) (fun _ _ _ _ _ => rfl) abR2le (abSw_ok abGt_ok)
