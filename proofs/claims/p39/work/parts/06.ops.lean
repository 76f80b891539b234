/-! SOUNDNESS, 2: the instructions -/
def abOk (op : Nat) (F : abPo) : Prop := ∀ (D : va_G) (z sb sl : Nat) (rh : Nat → Int) (xs0 : Nat → Int32) (w0 : va_W) (p : Program) (l : Launch) (ev : Env) (R : Room) (s : State) (m : MethodId) (args : Array Value) (below : List Frame) (meth : Method) (c : Code) (Q : State → Prop) (k d : Nat) (nx : abNx) (e : abEy) (pc : Nat) (ls st : List abV) (g : abSt) (r : List abF), abFr z sb sl rh xs0 k d p R s m args meth c → abEtOk k e → e.1 = op → e.2.1 = pc → abNs D z sb sl rh w0 p l ev R s m args below meth c Q r nx → F nx k e pc ls st g = some r → abW D z sb sl rh w0 p l ev R s m args below meth c Q pc ls st g
theorem abSelfI {ws : va_W} {sb sl : Nat} {rh : Nat → Int} {x : Nat} {y : Int32} (h : y.toInt + abB = (x : Int)) : abG ws sb sl rh (0, x, x) (.int y) := ⟨y, rfl, by show (x : Int) ≤ _; omega, by show _ ≤ (x : Int); omega⟩
theorem abSelfL {ws : va_W} {sb sl : Nat} {rh : Nat → Int} {x : Nat} {y : Int64} (h : y.toInt + abB = (x : Int)) : abG ws sb sl rh (2, x, x) (.long y) := ⟨y, rfl, by show (x : Int) ≤ _; omega, by show _ ≤ (x : Int); omega⟩
theorem abS1 : abOk 1 (abOc 0 1) := by
  intro D z sb sl rh xs0 w0 p l ev R s m args below meth c Q k d nx e pc ls st g r hF hE hop hpc hnx h
  obtain ⟨hx, hb, -⟩ := hF
  obtain ⟨o, pc', a1, a2, x, ps⟩ := e
  have ho : o = 1 := hop
  have hp : pc' = pc := hpc
  subst ho; subst hp
  have hd := abEt_dec hE (show ¬ (1 : Nat) = 85 by decide) rfl
  have hs := of_decide_eq_true (show decide ((Int32.ofInt ((x : Int) - abB)).toInt + abB = x) = true from hE.2.2)
  intro H locs ws A xs hH hX hL hS
  refine lv_iconst hx hb hd rfl ?_
  exact hnx _ _ _ _ r h (fun _ q => q) H locs ws A _ hH hX hL ⟨_, _, rfl, abSelfI hs, hS⟩
theorem abS2 : abOk 2 (abOc 0 2) := by
  intro D z sb sl rh xs0 w0 p l ev R s m args below meth c Q k d nx e pc ls st g r hF hE hop hpc hnx h
  obtain ⟨hx, hb, -⟩ := hF
  obtain ⟨o, pc', a1, a2, x, ps⟩ := e
  have ho : o = 2 := hop
  have hp : pc' = pc := hpc
  subst ho; subst hp
  have hd := abEt_dec hE (show ¬ (2 : Nat) = 85 by decide) rfl
  have hs := of_decide_eq_true (show decide ((Int8.ofInt ((x : Int) - abB)).toInt32.toInt + abB = x) = true from hE.2.2)
  intro H locs ws A xs hH hX hL hS
  refine lv_bipush hx hb hd rfl ?_
  exact hnx _ _ _ _ r h (fun _ q => q) H locs ws A _ hH hX hL ⟨_, _, rfl, abSelfI hs, hS⟩
theorem abS3 : abOk 3 (abOc 0 3) := by
  intro D z sb sl rh xs0 w0 p l ev R s m args below meth c Q k d nx e pc ls st g r hF hE hop hpc hnx h
  obtain ⟨hx, hb, -⟩ := hF
  obtain ⟨o, pc', a1, a2, x, ps⟩ := e
  have ho : o = 3 := hop
  have hp : pc' = pc := hpc
  subst ho; subst hp
  have hd := abEt_dec hE (show ¬ (3 : Nat) = 85 by decide) rfl
  have hs := of_decide_eq_true (show decide ((Int16.ofInt ((x : Int) - abB)).toInt32.toInt + abB = x) = true from hE.2.2)
  intro H locs ws A xs hH hX hL hS
  refine lv_sipush hx hb hd rfl ?_
  exact hnx _ _ _ _ r h (fun _ q => q) H locs ws A _ hH hX hL ⟨_, _, rfl, abSelfI hs, hS⟩
theorem abS4 : abOk 4 (abOc 0 2) := by
  intro D z sb sl rh xs0 w0 p l ev R s m args below meth c Q k d nx e pc ls st g r hF hE hop hpc hnx h
  obtain ⟨hx, hb, hml, hown, hts, -⟩ := hF
  obtain ⟨o, pc', a1, a2, x, ps⟩ := e
  have ho : o = 4 := hop
  have hp : pc' = pc := hpc
  subst ho; subst hp
  have hd := abEt_dec hE (show ¬ (4 : Nat) = 85 by decide) rfl
  have hs := of_decide_eq_true (show decide ((abOf x).toInt + abB = x) = true from hE.2.2)
  have hw := hts _ (hE.2.1 (.constant (abOwn k) a1 (abOf x)) List.mem_cons_self)
  intro H locs ws A xs hH hX hL hS
  refine lv_ldc hx hb hown hw hd ?_
  exact hnx _ _ _ _ r h (fun _ q => q) H locs ws A _ hH hX hL ⟨_, _, rfl, abSelfI hs, hS⟩
theorem abS5 : abOk 5 (abOc 0 3) := by
  intro D z sb sl rh xs0 w0 p l ev R s m args below meth c Q k d nx e pc ls st g r hF hE hop hpc hnx h
  obtain ⟨hx, hb, hml, hown, hts, -⟩ := hF
  obtain ⟨o, pc', a1, a2, x, ps⟩ := e
  have ho : o = 5 := hop
  have hp : pc' = pc := hpc
  subst ho; subst hp
  have hd := abEt_dec hE (show ¬ (5 : Nat) = 85 by decide) rfl
  have hs := of_decide_eq_true (show decide ((abOf x).toInt + abB = x) = true from hE.2.2)
  have hw := hts _ (hE.2.1 (.constant (abOwn k) a1 (abOf x)) List.mem_cons_self)
  intro H locs ws A xs hH hX hL hS
  refine lv_ldcw hx hb hown hw hd ?_
  exact hnx _ _ _ _ r h (fun _ q => q) H locs ws A _ hH hX hL ⟨_, _, rfl, abSelfI hs, hS⟩
theorem abS7 : abOk 7 (abOc 2 3) := by
  intro D z sb sl rh xs0 w0 p l ev R s m args below meth c Q k d nx e pc ls st g r hF hE hop hpc hnx h
  obtain ⟨hx, hb, hml, hown, hts, -⟩ := hF
  obtain ⟨o, pc', a1, a2, x, ps⟩ := e
  have ho : o = 7 := hop
  have hp : pc' = pc := hpc
  subst ho; subst hp
  have hd := abEt_dec hE (show ¬ (7 : Nat) = 85 by decide) rfl
  have hs := of_decide_eq_true (show decide ((Int64.ofInt ((x : Int) - abB)).toInt + abB = x) = true from hE.2.2)
  have hw := hts _ (hE.2.1 (.constantLong (abOwn k) a1 (Int64.ofInt ((x : Int) - abB))) List.mem_cons_self)
  intro H locs ws A xs hH hX hL hS
  refine lv_ldc2 hx hb hown hw hd ?_
  exact hnx _ _ _ _ r h (fun _ q => q) H locs ws A _ hH hX hL ⟨_, _, rfl, abSelfL hs, hS⟩
theorem abS6 : abOk 6 (abOc 2 1) := by
  intro D z sb sl rh xs0 w0 p l ev R s m args below meth c Q k d nx e pc ls st g r hF hE hop hpc hnx h
  obtain ⟨hx, hb, -⟩ := hF
  obtain ⟨o, pc', a1, a2, x, ps⟩ := e
  have ho : o = 6 := hop
  have hp : pc' = pc := hpc
  subst ho; subst hp
  have hs := of_decide_eq_true (show decide (x = 9223372036854775808 ∨ x = 9223372036854775809) = true from hE.2.2)
  intro H locs ws A xs hH hX hL hS
  rcases hs with rfl | rfl
  · have hd := abEt_dec hE (show ¬ (6 : Nat) = 85 by decide) rfl
    refine lv_lconst (v := 0) hx hb hd rfl ?_
    exact hnx _ _ _ _ r h (fun _ q => q) H locs ws A _ hH hX hL ⟨_, _, rfl, abSelfL rfl, hS⟩
  · have hd := abEt_dec hE (show ¬ (6 : Nat) = 85 by decide) rfl
    refine lv_lconst (v := 1) hx hb hd rfl ?_
    exact hnx _ _ _ _ r h (fun _ q => q) H locs ws A _ hH hX hL ⟨_, _, rfl, abSelfL rfl, hS⟩
/-! loads -/
theorem abLok.at {ws : va_W} {sb sl : Nat} {rh : Nat → Int} {ls : List abV} {n : Nat} {A : Array Slot} (h : abLok ws sb sl rh ls n A) (i : Nat) (hv : (abNth ls i).1 ≤ 7) : ∃ x : Value, A[i]? = some (.val x) ∧ abG ws sb sl rh (abNth ls i) x := by
  obtain ⟨h1, lv, h2, h3⟩ := h
  rw [abNth_get] at hv ⊢
  cases hi : ls[i]? with
  | none => rw [hi] at hv; exact absurd hv (by decide)
  | some v =>
    rw [hi] at hv
    obtain ⟨x, q1, q2⟩ := h3 i v hi hv
    exact ⟨x, h2.2.2 _ q1, q2⟩
theorem abDiv {n c : Nat} (h : Nat.beq (n / 2) c = true) : n = 2 * c ∨ n = 2 * c + 1 := by
  have := abBeq h
  omega
theorem abG_i {ws : va_W} {sb sl : Nat} {rh : Nat → Int} {v : abV} {x : Value} (g : abG ws sb sl rh v x) (h : v.1 = 0 ∨ v.1 = 1) : ∃ y : Int32, x = .int y := by
  obtain ⟨t, a, b⟩ := v
  rcases h with q | q
  · have q' : t = 0 := q
    subst q'
    obtain ⟨y, hy, -⟩ := g
    exact ⟨y, hy⟩
  · have q' : t = 1 := q
    subst q'
    obtain ⟨y, hy, -⟩ := g
    exact ⟨y, hy⟩
theorem abG_l {ws : va_W} {sb sl : Nat} {rh : Nat → Int} {v : abV} {x : Value} (g : abG ws sb sl rh v x) (h : v.1 = 2 ∨ v.1 = 3) : ∃ y : Int64, x = .long y := by
  obtain ⟨t, a, b⟩ := v
  rcases h with q | q
  · have q' : t = 2 := q
    subst q'
    obtain ⟨y, hy, -⟩ := g
    exact ⟨y, hy⟩
  · have q' : t = 3 := q
    subst q'
    obtain ⟨y, hy, -⟩ := g
    exact ⟨y, hy⟩
theorem abG_a {ws : va_W} {sb sl : Nat} {rh : Nat → Int} {v : abV} {x : Value} (g : abG ws sb sl rh v x) (h : v.1 = 4 ∨ v.1 = 5) : ∃ y : Nat, x = .ref y := by
  obtain ⟨t, a, b⟩ := v
  rcases h with q | q
  · have q' : t = 4 := q
    subst q'
    obtain ⟨y, e, -, hy⟩ := g
    exact ⟨y, hy⟩
  · have q' : t = 5 := q
    subst q'
    exact ⟨sb, g.1⟩
theorem abIn1_some {f : Fin 4 → Jvm.ClassFile.Instr} {n : Nat} {i : Jvm.ClassFile.Instr × Nat} (h : abIn1 f n = some i) : ∃ (q : n < 4), i = (f ⟨n, q⟩, 1) := by
  unfold abIn1 abFn at h
  by_cases q : n < 4
  · rw [dif_pos q] at h
    cases h
    exact ⟨q, rfl⟩
  · rw [dif_neg q] at h
    cases h
theorem abEt_dec1 {k : Nat} {e : abEy} {f : Fin 4 → Jvm.ClassFile.Instr} {n : Nat} (h : abEtOk k e) (h85 : ¬ e.1 = 85) (hi : abIns e = abIn1 f n) : ∃ (q : n < 4), decode (abBy k) e.2.1 = .ok (f ⟨n, q⟩, 1) := by
  rcases h.1 with q | ⟨j, q1, q2⟩
  · exact absurd q h85
  · rw [hi] at q1
    obtain ⟨q, rfl⟩ := abIn1_some q1
    exact ⟨q, q2⟩
theorem abS8 : abOk 8 (abOl 0 2) := by
  intro D z sb sl rh xs0 w0 p l ev R s m args below meth c Q k d nx e pc ls st g r hF hE hop hpc hnx h
  obtain ⟨hx, hb, hml, hown, hts, hnm, hz, hR1, hR2, hR3, hR4, hlaw⟩ := hF
  obtain ⟨o, pc', a1, a2, x, ps⟩ := e
  have ho : o = 8 := hop
  have hp : pc' = pc := hpc
  subst ho; subst hp
  have hd := abEt_dec hE (show ¬ (8 : Nat) = 85 by decide) rfl
  obtain ⟨h1, h2⟩ := abIf_some h
  have h3 : (abNth ls a2).1 = 2 * 0 ∨ (abNth ls a2).1 = 2 * 0 + 1 := abDiv h1
  intro H locs ws A xs hH hX hL hS
  obtain ⟨v, hv, gv⟩ := hL.at a2 (by omega)
  obtain ⟨y, rfl⟩ := abG_i gv (by omega)
  refine lv_iload hx hb hd hv ?_
  exact hnx _ _ _ _ r h2 (fun _ q => q) H locs ws A _ hH hX hL ⟨_, _, rfl, gv, hS⟩
theorem abS9 : abOk 9 (abOl 0 1) := by
  intro D z sb sl rh xs0 w0 p l ev R s m args below meth c Q k d nx e pc ls st g r hF hE hop hpc hnx h
  obtain ⟨hx, hb, hml, hown, hts, hnm, hz, hR1, hR2, hR3, hR4, hlaw⟩ := hF
  obtain ⟨o, pc', a1, a2, x, ps⟩ := e
  have ho : o = 9 := hop
  have hp : pc' = pc := hpc
  subst ho; subst hp
  obtain ⟨h4, hd⟩ := abEt_dec1 hE (show ¬ (9 : Nat) = 85 by decide) rfl
  obtain ⟨h1, h2⟩ := abIf_some h
  have h3 : (abNth ls a2).1 = 2 * 0 ∨ (abNth ls a2).1 = 2 * 0 + 1 := abDiv h1
  intro H locs ws A xs hH hX hL hS
  obtain ⟨v, hv, gv⟩ := hL.at a2 (by omega)
  obtain ⟨y, rfl⟩ := abG_i gv (by omega)
  refine lv_iload_n hx hb hd rfl hv ?_
  exact hnx _ _ _ _ r h2 (fun _ q => q) H locs ws A _ hH hX hL ⟨_, _, rfl, gv, hS⟩
theorem abS10 : abOk 10 (abOl 1 2) := by
  intro D z sb sl rh xs0 w0 p l ev R s m args below meth c Q k d nx e pc ls st g r hF hE hop hpc hnx h
  obtain ⟨hx, hb, hml, hown, hts, hnm, hz, hR1, hR2, hR3, hR4, hlaw⟩ := hF
  obtain ⟨o, pc', a1, a2, x, ps⟩ := e
  have ho : o = 10 := hop
  have hp : pc' = pc := hpc
  subst ho; subst hp
  have hd := abEt_dec hE (show ¬ (10 : Nat) = 85 by decide) rfl
  obtain ⟨h1, h2⟩ := abIf_some h
  have h3 : (abNth ls a2).1 = 2 * 1 ∨ (abNth ls a2).1 = 2 * 1 + 1 := abDiv h1
  intro H locs ws A xs hH hX hL hS
  obtain ⟨v, hv, gv⟩ := hL.at a2 (by omega)
  obtain ⟨y, rfl⟩ := abG_l gv (by omega)
  refine lv_lload hx hb hd hv ?_
  exact hnx _ _ _ _ r h2 (fun _ q => q) H locs ws A _ hH hX hL ⟨_, _, rfl, gv, hS⟩
theorem abS11 : abOk 11 (abOl 1 1) := by
  intro D z sb sl rh xs0 w0 p l ev R s m args below meth c Q k d nx e pc ls st g r hF hE hop hpc hnx h
  obtain ⟨hx, hb, hml, hown, hts, hnm, hz, hR1, hR2, hR3, hR4, hlaw⟩ := hF
  obtain ⟨o, pc', a1, a2, x, ps⟩ := e
  have ho : o = 11 := hop
  have hp : pc' = pc := hpc
  subst ho; subst hp
  obtain ⟨h4, hd⟩ := abEt_dec1 hE (show ¬ (11 : Nat) = 85 by decide) rfl
  obtain ⟨h1, h2⟩ := abIf_some h
  have h3 : (abNth ls a2).1 = 2 * 1 ∨ (abNth ls a2).1 = 2 * 1 + 1 := abDiv h1
  intro H locs ws A xs hH hX hL hS
  obtain ⟨v, hv, gv⟩ := hL.at a2 (by omega)
  obtain ⟨y, rfl⟩ := abG_l gv (by omega)
  refine lv_lload_n hx hb hd rfl hv ?_
  exact hnx _ _ _ _ r h2 (fun _ q => q) H locs ws A _ hH hX hL ⟨_, _, rfl, gv, hS⟩
theorem abS12 : abOk 12 (abOl 2 2) := by
  intro D z sb sl rh xs0 w0 p l ev R s m args below meth c Q k d nx e pc ls st g r hF hE hop hpc hnx h
  obtain ⟨hx, hb, hml, hown, hts, hnm, hz, hR1, hR2, hR3, hR4, hlaw⟩ := hF
  obtain ⟨o, pc', a1, a2, x, ps⟩ := e
  have ho : o = 12 := hop
  have hp : pc' = pc := hpc
  subst ho; subst hp
  have hd := abEt_dec hE (show ¬ (12 : Nat) = 85 by decide) rfl
  obtain ⟨h1, h2⟩ := abIf_some h
  have h3 : (abNth ls a2).1 = 2 * 2 ∨ (abNth ls a2).1 = 2 * 2 + 1 := abDiv h1
  intro H locs ws A xs hH hX hL hS
  obtain ⟨v, hv, gv⟩ := hL.at a2 (by omega)
  obtain ⟨y, rfl⟩ := abG_a gv (by omega)
  refine lv_aload hx hb hd hv ?_
  exact hnx _ _ _ _ r h2 (fun _ q => q) H locs ws A _ hH hX hL ⟨_, _, rfl, gv, hS⟩
theorem abS13 : abOk 13 (abOl 2 1) := by
  intro D z sb sl rh xs0 w0 p l ev R s m args below meth c Q k d nx e pc ls st g r hF hE hop hpc hnx h
  obtain ⟨hx, hb, hml, hown, hts, hnm, hz, hR1, hR2, hR3, hR4, hlaw⟩ := hF
  obtain ⟨o, pc', a1, a2, x, ps⟩ := e
  have ho : o = 13 := hop
  have hp : pc' = pc := hpc
  subst ho; subst hp
  obtain ⟨h4, hd⟩ := abEt_dec1 hE (show ¬ (13 : Nat) = 85 by decide) rfl
  obtain ⟨h1, h2⟩ := abIf_some h
  have h3 : (abNth ls a2).1 = 2 * 2 ∨ (abNth ls a2).1 = 2 * 2 + 1 := abDiv h1
  intro H locs ws A xs hH hX hL hS
  obtain ⟨v, hv, gv⟩ := hL.at a2 (by omega)
  obtain ⟨y, rfl⟩ := abG_a gv (by omega)
  refine lv_aload_n hx hb hd rfl hv ?_
  exact hnx _ _ _ _ r h2 (fun _ q => q) H locs ws A _ hH hX hL ⟨_, _, rfl, gv, hS⟩
