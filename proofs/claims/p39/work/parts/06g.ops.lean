/-! reading and writing rows -/
theorem abTyA_c {n : Nat} {ty : FieldType} (h : abTyA n = some ty) : (n = 100 ∧ ty = .int) ∨ (n = 102 ∧ ty = .byte) ∨ (n = 103 ∧ ty = .boolean) := by
  unfold abTyA at h
  split at h <;> cases h
  · exact Or.inl ⟨rfl, rfl⟩
  · exact Or.inr (Or.inl ⟨rfl, rfl⟩)
  · exact Or.inr (Or.inr ⟨rfl, rfl⟩)
theorem abHu_ok {ws : va_W} {sb sl : Nat} {rh : Nat → Int} {env : abE} {t : Lean.RArray abV} {K : abV → abR} {r : List abF} {f : Nat → Int32} {len : Nat} (he : abEok rh env) (hg : ∀ k : Nat, k < len → abG ws sb sl rh (t.get k) (.int (f k))) : ∀ (n i lo hi : Nat), abHu env t K n i lo hi = some r → i + n ≤ len → ∃ lo' hi' : Nat, K (0, lo', hi') = some r ∧ lo' ≤ lo ∧ hi ≤ hi' ∧ ∀ j, i ≤ j → j < i + n → (lo' : Int) ≤ (f j).toInt + abB ∧ (f j).toInt + abB ≤ (hi' : Int)
  | 0, i, lo, hi, h, _ => ⟨lo, hi, h, Nat.le_refl _, Nat.le_refl _, fun j h1 h2 => absurd h2 (by omega)⟩
  | n + 1, i, lo, hi, h, hl => by
    have h' : abWi 0 env (t.get i) (fun a b => abHu env t K n (i + 1) (abIf (Nat.ble a lo) a lo) (abIf (Nat.ble hi b) b hi)) = some r := h
    obtain ⟨a, b, y, h1, hy, p1, p2, -, -⟩ := abWi0 h' he (hg i (by omega))
    cases hy
    obtain ⟨lo', hi', q1, q2, q3, q4⟩ := abHu_ok he hg n (i + 1) _ _ h1 (by omega)
    have m1 : (abIf (Nat.ble a lo) a lo) ≤ lo ∧ (abIf (Nat.ble a lo) a lo) ≤ a := by
      cases z : Nat.ble a lo with
      | true => rw [abIf_t rfl]; exact ⟨abBle z, Nat.le_refl _⟩
      | false => rw [abIf_f rfl]; have := abBle_f z; exact ⟨Nat.le_refl _, by omega⟩
    have m2 : hi ≤ (abIf (Nat.ble hi b) b hi) ∧ b ≤ (abIf (Nat.ble hi b) b hi) := by
      cases z : Nat.ble hi b with
      | true => rw [abIf_t rfl]; exact ⟨abBle z, Nat.le_refl _⟩
      | false => rw [abIf_f rfl]; have := abBle_f z; exact ⟨Nat.le_refl _, by omega⟩
    refine ⟨lo', hi', q1, by omega, by omega, fun j j1 j2 => ?_⟩
    by_cases e : j = i
    · subst e
      exact ⟨by omega, by omega⟩
    · exact q4 j (by omega) (by omega)
theorem abClamp {y : Int32} : y.toNatClampNeg = y.toInt.toNat := rfl
theorem abAt_ok {ws : va_W} {sb sl : Nat} {rh : Nat → Int} {env : abE} {c : abCel} {K : abV → abR} {r : List abF} {f : Nat → Int32} {a b : Nat} {y : Int32} (h : abAt env c a b K = some r) (he : abEok rh env) (hg : ∀ k : Nat, k < c.2.1 → abG ws sb sl rh (c.2.2.get k) (.int (f k))) (p1 : (a : Int) ≤ y.toInt + abB) (p2 : y.toInt + abB ≤ (b : Int)) : vp_in y c.2.1 ∧ ∃ u : abV, K u = some r ∧ abG ws sb sl rh u (.int (f y.toNatClampNeg)) := by
  unfold abAt at h
  have hbB : (9223372036854775808 : Nat) = abB := rfl
  generalize (9223372036854775808 : Nat) = B at h hbB
  obtain ⟨h1, h2⟩ := abIf_some h
  obtain ⟨h3, h4⟩ := abIf_some h2
  have e1 := abBle h1
  have e3 := abBle h3
  have hi0 : 0 ≤ y.toInt ∧ y.toInt < (c.2.1 : Int) := ⟨by omega, by omega⟩
  refine ⟨vp_in_iff.mpr hi0, ?_⟩
  have hcl : (y.toNatClampNeg : Int) = y.toInt := by rw [abClamp]; omega
  cases q : Nat.beq a b with
  | true =>
    rw [abIf_t q] at h4
    have e := abBeq q
    have ei : a - B = y.toNatClampNeg := by omega
    rw [ei] at h4
    exact ⟨_, h4, hg _ (by omega)⟩
  | false =>
    rw [abIf_f q] at h4
    obtain ⟨h5, h6⟩ := abIf_some h4
    obtain ⟨lo, hi, y0, h7, hy0, p3, p4, -, -⟩ := abWi0 h6 he (hg (a - B) (by omega))
    cases hy0
    obtain ⟨lo', hi', q1, q2, q3, q4⟩ := abHu_ok he hg _ _ _ _ h7 (by omega)
    refine ⟨_, q1, ⟨_, rfl, ?_, ?_⟩⟩
    · show (lo' : Int) ≤ _
      by_cases e : y.toNatClampNeg = a - B
      · rw [e]; omega
      · exact (q4 _ (by omega) (by omega)).1
    · show _ ≤ (hi' : Int)
      by_cases e : y.toNatClampNeg = a - B
      · rw [e]; omega
      · exact (q4 _ (by omega) (by omega)).2
theorem abA1_ok {c : abCel} {a : Nat} {kk : Nat → abR} {r : List abF} {y : Int32} (h : abA1 c a kk = some r) (p : y.toInt + abB = (a : Int)) : vp_in y c.2.1 ∧ kk y.toNatClampNeg = some r := by
  unfold abA1 at h
  have hbB : (9223372036854775808 : Nat) = abB := rfl
  generalize (9223372036854775808 : Nat) = B at h hbB
  obtain ⟨h1, h2⟩ := abIf_some h
  obtain ⟨h3, h4⟩ := abIf_some h2
  have e1 := abBle h1
  have e3 := abBle h3
  refine ⟨vp_in_iff.mpr ⟨by omega, by omega⟩, ?_⟩
  have ei : a - B = y.toNatClampNeg := by rw [abClamp]; omega
  rw [ei] at h4
  exact h4
theorem abCs.putI {tys : List (ClassId × FieldType)} {ws ws' : va_W} {sb sl : Nat} {rh : Nat → Int} {c : abCel} {ty : FieldType} {a i : Nat} {cA : ClassId} {f : Nat → Int32} {t0 : Nat} {u : abV} {x : Int32} (hx : abX ws ws') (hwf : abWf (abD c.2.1) 0 c.2.2) (hty : abTyA c.1 = some ty) (ht : tys[t0]? = some (cA, ty)) (hl : c.2.1 ≤ 65536) (hg : ∀ k : Nat, k < c.2.1 → abG ws sb sl rh (c.2.2.get k) (.int (f k))) (hi : i < c.2.1) (gu : abG ws' sb sl rh u (.int x)) : abCs tys ws' sb sl rh (some (a, .inl (cA, c.2.1, .inl (upd f i x)))) (c.1, c.2.1, abSet i u c.2.2 (abD c.2.1) 0) := by
  have hc := abTyA_c hty
  refine ⟨abSet_wf _ _ _ _ _ hwf, fun h => ?_, fun ty' h => ?_, fun h => ?_, fun h => ?_⟩
  · have : c.1 ≤ 90 := h
    omega
  · have h' : abTyA c.1 = some ty' := h
    rw [hty] at h'
    cases h'
    refine ⟨a, cA, upd f i x, t0, rfl, ht, hl, fun k hk => ?_⟩
    show abG _ sb sl rh ((abSet i u c.2.2 (abD c.2.1) 0).get k) _
    have hk' : k < c.2.1 := hk
    rw [abSet_get _ _ _ _ _ _ hwf (Nat.zero_le _) (abD_lt hi) (Nat.zero_le _) (abD_lt hk')]
    by_cases e : i = k
    · subst e
      rw [if_pos rfl, pk_us]
      exact gu
    · rw [if_neg e, pk_un (Ne.symm e)]
      exact (hg k hk').mono hx
  · have : c.1 = 101 := h
    omega
  · have : 200 ≤ c.1 := h
    omega
theorem abCs.putL {tys : List (ClassId × FieldType)} {ws ws' : va_W} {sb sl : Nat} {rh : Nat → Int} {c : abCel} {a i : Nat} {cA : ClassId} {f : Nat → Int64} {t0 : Nat} {u : abV} {x : Int64} (hx : abX ws ws') (hwf : abWf (abD c.2.1) 0 c.2.2) (hty : c.1 = 101) (ht : tys[t0]? = some (cA, .long)) (hl : c.2.1 ≤ 65536) (hg : ∀ k : Nat, k < c.2.1 → abG ws sb sl rh (c.2.2.get k) (.long (f k))) (hi : i < c.2.1) (gu : abG ws' sb sl rh u (.long x)) : abCs tys ws' sb sl rh (some (a, .inl (cA, c.2.1, .inr (.inl (vp_updL f i x))))) (c.1, c.2.1, abSet i u c.2.2 (abD c.2.1) 0) := by
  refine ⟨abSet_wf _ _ _ _ _ hwf, fun h => ?_, fun ty' h => ?_, fun h => ?_, fun h => ?_⟩
  · have : c.1 ≤ 90 := h
    omega
  · have hc := abTyA_c (show abTyA c.1 = some ty' from h)
    omega
  · refine ⟨a, cA, vp_updL f i x, t0, rfl, ht, hl, fun k hk => ?_⟩
    show abG _ sb sl rh ((abSet i u c.2.2 (abD c.2.1) 0).get k) _
    have hk' : k < c.2.1 := hk
    rw [abSet_get _ _ _ _ _ _ hwf (Nat.zero_le _) (abD_lt hi) (Nat.zero_le _) (abD_lt hk')]
    by_cases e : i = k
    · subst e
      rw [if_pos rfl, pk_uLs]
      exact gu
    · rw [if_neg e, pk_uLn (Ne.symm e)]
      exact (hg k hk').mono hx
  · have : 200 ≤ c.1 := h
    omega
theorem abCs.putQ {tys : List (ClassId × FieldType)} {ws ws' : va_W} {sb sl : Nat} {rh : Nat → Int} {c : abCel} {a i : Nat} {cA : ClassId} {f : Nat → Option Nat} {t0 : Nat} {y : vw_C} {u : abV} {x : Nat} (hx : abX ws ws') (hwf : abWf (abD c.2.1) 0 c.2.2) (hty : 200 ≤ c.1) (hy : abCls[c.1 - 200]? = some y) (ht : tys[t0]? = some (cA, .object y.1)) (hl : c.2.1 ≤ 65536) (hg : ∀ k : Nat, k < c.2.1 → abG ws sb sl rh (c.2.2.get k) (va_rf (f k))) (hi : i < c.2.1) (gu : abG ws' sb sl rh u (.ref x)) : abCs tys ws' sb sl rh (some (a, .inl (cA, c.2.1, .inr (.inr (.inr (.inr (va_up f i (some x)))))))) (c.1, c.2.1, abSet i u c.2.2 (abD c.2.1) 0) := by
  refine ⟨abSet_wf _ _ _ _ _ hwf, fun h => ?_, fun ty' h => ?_, fun h => ?_, fun h => ?_⟩
  · have : c.1 ≤ 90 := h
    omega
  · have hc := abTyA_c (show abTyA c.1 = some ty' from h)
    omega
  · have : c.1 = 101 := h
    omega
  · refine ⟨a, cA, va_up f i (some x), t0, y, rfl, hy, ht, hl, fun k hk => ?_⟩
    show abG _ sb sl rh ((abSet i u c.2.2 (abD c.2.1) 0).get k) _
    have hk' : k < c.2.1 := hk
    rw [abSet_get _ _ _ _ _ _ hwf (Nat.zero_le _) (abD_lt hi) (Nat.zero_le _) (abD_lt hk')]
    by_cases e : i = k
    · subst e
      rw [if_pos rfl, va_up_self]
      exact gu
    · rw [if_neg e, va_up_ne _ _ (Ne.symm e)]
      exact (hg k hk').mono hx
theorem abNarB {y : Int32} (h1 : -128 ≤ y.toInt) (h2 : y.toInt ≤ 127) : vp_nar .byte y = y := by
  rw [vp_nar_byte]
  refine Int32.toInt_inj.mp ?_
  rw [Int8.toInt_toInt32, Int32.toInt_toInt8]
  exact Int.bmod_eq_of_le (by omega) (by omega)
theorem abNarZ {y : Int32} (h1 : 0 ≤ y.toInt) (h2 : y.toInt ≤ 1) : vp_nar .boolean y = y := by
  rcases ab01 h1 h2 with rfl | rfl <;> rfl
theorem abS64 : abOk 64 abOial := by
  intro D z sb sl rh xs0 w0 p l ev R s m args below meth c Q k d nx e pc ls st g r hF hE hop hpc hnx h
  obtain ⟨hx, hb, hml, hown, hts, hnm, hz, hR1, hR2, hR3, hR4, hlaw⟩ := hF
  obtain ⟨o, pc', a1, a2, x, ps⟩ := e
  have ho : o = 64 := hop
  have hp : pc' = pc := hpc
  subst ho; subst hp
  have hd := abEt_dec hE (show ¬ (64 : Nat) = 85 by decide) rfl
  obtain ⟨w, v, rr, rfl, h0⟩ := ab2_some h
  intro H locs ws A xs hH hX hL hS
  have hS0 := hS
  obtain ⟨x0, xr, rfl, gw, x1, xr', rfl, gv, hS'⟩ := hS
  obtain ⟨⟨tys, hK, hC⟩, hP, hD, hSS, hn, h4096, hwf, he⟩ := id hH
  obtain ⟨ia, ib, y, h1, rfl, p1, p2, -, -⟩ := abWi0 h0 he gw
  obtain ⟨a, en, h2, hj, rfl⟩ := abWr_ok h1 gv
  obtain ⟨h3, h4⟩ := abIf_some h2
  have hcell := hC v.2.1 (hH.lt hj)
  have ec := abBeq h3
  obtain ⟨a', cA, f, t0, e1, e2, e3, e4⟩ := hcell.2.2.1 .int (by rw [ec]; rfl)
  rw [hj] at e1
  cases e1
  obtain ⟨hin, u, h5, gu⟩ := abAt_ok h4 he e4 p1 p2
  refine va_iald hx hb hK hP v.2.1 t0 hj e2 hin hd ?_
  exact hnx _ _ _ _ r h5 (fun _ q => q) H locs ws A _ hH hX hL ⟨_, _, rfl, gu, hS'⟩
theorem abS65 : abOk 65 abObal := by
  intro D z sb sl rh xs0 w0 p l ev R s m args below meth c Q k d nx e pc ls st g r hF hE hop hpc hnx h
  obtain ⟨hx, hb, hml, hown, hts, hnm, hz, hR1, hR2, hR3, hR4, hlaw⟩ := hF
  obtain ⟨o, pc', a1, a2, x, ps⟩ := e
  have ho : o = 65 := hop
  have hp : pc' = pc := hpc
  subst ho; subst hp
  have hd := abEt_dec hE (show ¬ (65 : Nat) = 85 by decide) rfl
  obtain ⟨w, v, rr, rfl, h0⟩ := ab2_some h
  intro H locs ws A xs hH hX hL hS
  have hS0 := hS
  obtain ⟨x0, xr, rfl, gw, x1, xr', rfl, gv, hS'⟩ := hS
  obtain ⟨⟨tys, hK, hC⟩, hP, hD, hSS, hn, h4096, hwf, he⟩ := id hH
  obtain ⟨ia, ib, y, h1, rfl, p1, p2, -, -⟩ := abWi0 h0 he gw
  obtain ⟨a, en, h2, hj, rfl⟩ := abWr_ok h1 gv
  obtain ⟨h3, h4⟩ := abIf_some h2
  have hcell := hC v.2.1 (hH.lt hj)
  have ec := abDiv h3
  rcases ec with ec | ec
  · obtain ⟨a', cA, f, t0, e1, e2, e3, e4⟩ := hcell.2.2.1 .byte (by rw [ec]; rfl)
    rw [hj] at e1
    cases e1
    obtain ⟨hin, u, h5, gu⟩ := abAt_ok h4 he e4 p1 p2
    refine va_bald hx hb hK hP v.2.1 t0 hj e2 hin hd ?_
    exact hnx _ _ _ _ r h5 (fun _ q => q) H locs ws A _ hH hX hL ⟨_, _, rfl, gu, hS'⟩
  · obtain ⟨a', cA, f, t0, e1, e2, e3, e4⟩ := hcell.2.2.1 .boolean (by rw [ec]; rfl)
    rw [hj] at e1
    cases e1
    obtain ⟨hin, u, h5, gu⟩ := abAt_ok h4 he e4 p1 p2
    refine va_zald hx hb hK hP v.2.1 t0 hj e2 hin hd ?_
    exact hnx _ _ _ _ r h5 (fun _ q => q) H locs ws A _ hH hX hL ⟨_, _, rfl, gu, hS'⟩
theorem abS66 : abOk 66 abOlal := by
  intro D z sb sl rh xs0 w0 p l ev R s m args below meth c Q k d nx e pc ls st g r hF hE hop hpc hnx h
  obtain ⟨hx, hb, hml, hown, hts, hnm, hz, hR1, hR2, hR3, hR4, hlaw⟩ := hF
  obtain ⟨o, pc', a1, a2, x, ps⟩ := e
  have ho : o = 66 := hop
  have hp : pc' = pc := hpc
  subst ho; subst hp
  have hd := abEt_dec hE (show ¬ (66 : Nat) = 85 by decide) rfl
  obtain ⟨w, v, rr, rfl, h0⟩ := ab2_some h
  intro H locs ws A xs hH hX hL hS
  have hS0 := hS
  obtain ⟨x0, xr, rfl, gw, x1, xr', rfl, gv, hS'⟩ := hS
  obtain ⟨⟨tys, hK, hC⟩, hP, hD, hSS, hn, h4096, hwf, he⟩ := id hH
  obtain ⟨ia, ib, y, h1, rfl, p1, p2, -, -⟩ := abWi0 h0 he gw
  obtain ⟨a, en, h2, hj, rfl⟩ := abWr_ok h1 gv
  obtain ⟨h3, h4⟩ := abIf_some h2
  have hcell := hC v.2.1 (hH.lt hj)
  have ec := abBeq h3
  obtain ⟨h5, h6⟩ := abIf_some h4
  have eab := abBeq h5
  obtain ⟨a', cA, f, t0, e1, e2, e3, e4⟩ := hcell.2.2.2.1 ec
  rw [hj] at e1
  cases e1
  obtain ⟨hin, h7⟩ := abA1_ok (y := y) h6 (by omega)
  refine va_lald hx hb hK hP v.2.1 t0 hj e2 hin hd ?_
  exact hnx _ _ _ _ r h7 (fun _ q => q) H locs ws A _ hH hX hL ⟨_, _, rfl, e4 _ (Nat.not_le.mp fun q => hin (Or.inr q)), hS'⟩
theorem abS67 : abOk 67 abOaal := by
  intro D z sb sl rh xs0 w0 p l ev R s m args below meth c Q k d nx e pc ls st g r hF hE hop hpc hnx h
  obtain ⟨hx, hb, hml, hown, hts, hnm, hz, hR1, hR2, hR3, hR4, hlaw⟩ := hF
  obtain ⟨o, pc', a1, a2, x, ps⟩ := e
  have ho : o = 67 := hop
  have hp : pc' = pc := hpc
  subst ho; subst hp
  have hd := abEt_dec hE (show ¬ (67 : Nat) = 85 by decide) rfl
  obtain ⟨w, v, rr, rfl, h0⟩ := ab2_some h
  intro H locs ws A xs hH hX hL hS
  have hS0 := hS
  obtain ⟨x0, xr, rfl, gw, x1, xr', rfl, gv, hS'⟩ := hS
  obtain ⟨⟨tys, hK, hC⟩, hP, hD, hSS, hn, h4096, hwf, he⟩ := id hH
  obtain ⟨ia, ib, y, h1, rfl, p1, p2, -, -⟩ := abWi0 h0 he gw
  cases qab : Nat.beq ia ib with
  | false =>
    rw [abIf_f qab] at h1
    exact abHas_run hnx (abSpl_ok h1 he (abTag_i gw) p1 p2) hH hX hL hS0
  | true =>
    rw [abIf_t qab] at h1
    have eab := abBeq qab
    obtain ⟨a, en, h2, hj, rfl⟩ := abWr_ok h1 gv
    obtain ⟨h3, h4⟩ := abIf_some h2
    have hcell := hC v.2.1 (hH.lt hj)
    have ec := abBle h3
    obtain ⟨a', cA, f, t0, yc, e1, e0, e2, e3, e4⟩ := hcell.2.2.2.2 ec
    rw [hj] at e1
    cases e1
    obtain ⟨hin, h7⟩ := abA1_ok (y := y) h4 (by omega)
    refine va_aldq hx hb hK hP v.2.1 t0 hj e2 hin hd ?_
    exact hnx _ _ _ _ r h7 (fun _ q => q) H locs ws A _ hH hX hL ⟨_, _, rfl, e4 _ (Nat.not_le.mp fun q => hin (Or.inr q)), hS'⟩
theorem abLenI {n : Nat} (h : n ≤ 65536) : (Int32.ofNat n).toInt = (n : Int) := nI_toInt (by omega)
theorem abLenG {ws : va_W} {sb sl : Nat} {rh : Nat → Int} {n : Nat} (h : n ≤ 65536) : abG ws sb sl rh (0, 9223372036854775808 + n, 9223372036854775808 + n) (.int (Int32.ofNat n)) := by
  have e := abLenI h
  obtain ⟨m, hm⟩ : ∃ m : Nat, m = 9223372036854775808 + n := ⟨_, rfl⟩
  rw [← hm]
  refine abSelfI ?_
  rw [e, hm]
  simp only [abB]
  omega
theorem abS68 : abOk 68 abOlen := by
  intro D z sb sl rh xs0 w0 p l ev R s m args below meth c Q k d nx e pc ls st g r hF hE hop hpc hnx h
  obtain ⟨hx, hb, hml, hown, hts, hnm, hz, hR1, hR2, hR3, hR4, hlaw⟩ := hF
  obtain ⟨o, pc', a1, a2, x, ps⟩ := e
  have ho : o = 68 := hop
  have hp : pc' = pc := hpc
  subst ho; subst hp
  have hd := abEt_dec hE (show ¬ (68 : Nat) = 85 by decide) rfl
  obtain ⟨v, rr, rfl, h0⟩ := abHd_some h
  intro H locs ws A xs hH hX hL hS
  obtain ⟨x1, xr', rfl, gv, hS'⟩ := hS
  obtain ⟨⟨tys, hK, hC⟩, hP, hD, hSS, hn, h4096, hwf, he⟩ := id hH
  obtain ⟨a, en, h2, hj, rfl⟩ := abWr_ok h0 gv
  obtain ⟨h3, h3b⟩ := abIf_some h2
  obtain ⟨h3c, h4⟩ := abIf_some h3b
  have hcell := hC v.2.1 (hH.lt hj)
  have ec := abBle h3
  have ec2 := abBle h3c
  have fin : ∀ (t0 : Nat) (cA : ClassId) (xx : vp_A) (ty : FieldType), ws[v.2.1]? = some (a, .inl (cA, xx)) → tys[t0]? = some (cA, ty) → xx.1 = (g.1.get v.2.1).2.1 → (g.1.get v.2.1).2.1 ≤ 65536 → W p l ev R s m args below meth c H locs g.2.2.2.1 g.2.2.2.2 Q (F0 m pc' A (.ref a :: xr')) := by
    intro t0 cA xx ty g1 g2 g3 g4
    refine va_alen hx hb hK hP v.2.1 t0 g1 g2 rfl hd ?_
    exact hnx _ _ _ _ r h4 (fun _ q => q) H locs ws A _ hH hX hL ⟨_, _, rfl, by rw [g3]; exact abLenG g4, hS'⟩
  rcases (show (g.1.get v.2.1).1 = 100 ∨ (g.1.get v.2.1).1 = 101 ∨ (g.1.get v.2.1).1 = 102 ∨ (g.1.get v.2.1).1 = 103 by omega) with q | q | q | q
  · obtain ⟨a', cA, f, t0, e1, e2, e3, e4⟩ := hcell.2.2.1 .int (by rw [q]; rfl)
    rw [hj] at e1
    cases e1
    exact fin t0 cA _ _ hj e2 rfl e3
  · obtain ⟨a', cA, f, t0, e1, e2, e3, e4⟩ := hcell.2.2.2.1 q
    rw [hj] at e1
    cases e1
    exact fin t0 cA _ _ hj e2 rfl e3
  · obtain ⟨a', cA, f, t0, e1, e2, e3, e4⟩ := hcell.2.2.1 .byte (by rw [q]; rfl)
    rw [hj] at e1
    cases e1
    exact fin t0 cA _ _ hj e2 rfl e3
  · obtain ⟨a', cA, f, t0, e1, e2, e3, e4⟩ := hcell.2.2.1 .boolean (by rw [q]; rfl)
    rw [hj] at e1
    cases e1
    exact fin t0 cA _ _ hj e2 rfl e3
