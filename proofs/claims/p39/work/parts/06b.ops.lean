/-! stores -/
theorem abCat1 {w : abV} (h1 : w.1 ≤ 7) (h2 : ¬ w.1 / 2 = 1) : abCat w = 0 + 1 := by
  obtain ⟨t, a, b⟩ := w
  have h1' : t ≤ 7 := h1
  have h2' : ¬ t / 2 = 1 := h2
  rcases (show t = 0 ∨ t = 1 ∨ t = 4 ∨ t = 5 ∨ t = 6 ∨ t = 7 by omega) with rfl | rfl | rfl | rfl | rfl | rfl <;> rfl
theorem abSt1_get {ls : List abV} {i j : Nat} {v w : abV} (hj : j ≠ i) (h : (abSt1 ls i v)[j]? = some w) (hw : w.1 ≤ 7) : ls[j]? = some w ∧ ¬ (j + 1 = i ∧ w.1 / 2 = 1) := by
  unfold abSt1 at h
  cases hc : Nat.beq ((abNth ls (i - 1)).1 / 2) 1 with
  | true =>
    rw [abIf_t hc, abUpd_set, abUpd_set, List.getElem?_set_ne (Ne.symm hj)] at h
    by_cases hq : i - 1 = j
    · subst hq
      by_cases hl : i - 1 < ls.length
      · rw [List.getElem?_set_self hl] at h
        cases h
        exact absurd hw (by decide)
      · rw [List.getElem?_eq_none (by simp; omega)] at h
        cases h
    · rw [List.getElem?_set_ne hq] at h
      exact ⟨h, fun q => hq (by omega)⟩
  | false =>
    rw [abIf_f hc, abUpd_set, List.getElem?_set_ne (Ne.symm hj)] at h
    refine ⟨h, fun q => ?_⟩
    have e : i - 1 = j := by omega
    rw [e, abNth_get, h] at hc
    exact abBeq_f hc q.2
theorem abSt1_len (ls : List abV) (i : Nat) (v : abV) : (abSt1 ls i v).length = ls.length := by
  unfold abSt1
  cases hc : Nat.beq ((abNth ls (i - 1)).1 / 2) 1 with
  | true => rw [abIf_t rfl, abUpd_set, abUpd_set, List.length_set, List.length_set]
  | false => rw [abIf_f rfl, abUpd_set, List.length_set]
theorem abSt1_self {ls : List abV} {i : Nat} {v w : abV} (h : (abSt1 ls i v)[i]? = some w) : w = v := by
  unfold abSt1 at h
  have key : ∀ l : List abV, (l.set i v)[i]? = some w → w = v := by
    intro l hl
    by_cases hi : i < l.length
    · rw [List.getElem?_set_self hi] at hl
      cases hl
      rfl
    · rw [List.getElem?_eq_none (by simp; omega)] at hl
      cases hl
  cases hc : Nat.beq ((abNth ls (i - 1)).1 / 2) 1 with
  | true => rw [abIf_t hc, abUpd_set] at h; exact key _ h
  | false => rw [abIf_f hc, abUpd_set] at h; exact key _ h
theorem abLok.st1 {ws : va_W} {sb sl : Nat} {rh : Nat → Int} {ls : List abV} {n i : Nat} {A A' : Array Slot} {v : abV} {x : Value} {lv : List (Nat × Value)} (h1 : ls.length = n) (h3 : ∀ (i : Nat) (v : abV), ls[i]? = some v → v.1 ≤ 7 → ∃ x : Value, (i, x) ∈ lv ∧ abG ws sb sl rh v x) (gv : abG ws sb sl rh v x) (h : lv_has A' n ((i, x) :: lv.filter (fun q => !(q.1 == i) && !(q.1 + 1 == i && q.2.category == 2)))) : abLok ws sb sl rh (abSt1 ls i v) n A' := by
  refine ⟨by rw [abSt1_len]; exact h1, _, h, fun j w hj hw => ?_⟩
  by_cases e : j = i
  · subst e
    rw [abSt1_self hj]
    exact ⟨x, List.mem_cons_self, gv⟩
  · obtain ⟨q1, q2⟩ := abSt1_get e hj hw
    obtain ⟨y, q3, q4⟩ := h3 j w q1 hw
    refine ⟨y, List.mem_cons_of_mem _ (List.mem_filter.mpr ⟨q3, ?_⟩), q4⟩
    by_cases hi : j + 1 = i
    · have hc := abCat_ok (abCat1 hw (fun z => q2 ⟨hi, z⟩)) q4
      simp [e, hc]
    · simp [e, hi]
theorem abLok.st2 {ws : va_W} {sb sl : Nat} {rh : Nat → Int} {ls : List abV} {n i : Nat} {A A' : Array Slot} {v : abV} {x : Value} {lv : List (Nat × Value)} (h1 : ls.length = n) (h3 : ∀ (i : Nat) (v : abV), ls[i]? = some v → v.1 ≤ 7 → ∃ x : Value, (i, x) ∈ lv ∧ abG ws sb sl rh v x) (gv : abG ws sb sl rh v x) (h : lv_has A' n ((i, x) :: lv.filter (fun q => !(q.1 == i) && (!(q.1 == i + 1) && !(q.1 + 1 == i && q.2.category == 2))))) : abLok ws sb sl rh (abSt2 ls i v) n A' := by
  refine ⟨by unfold abSt2; rw [abUpd_set, List.length_set, abSt1_len]; exact h1, _, h, fun j w hj hw => ?_⟩
  unfold abSt2 at hj
  rw [abUpd_set] at hj
  by_cases e2 : j = i + 1
  · subst e2
    by_cases hl : i + 1 < (abSt1 ls i v).length
    · rw [List.getElem?_set_self hl] at hj
      cases hj
      exact absurd hw (by decide)
    · rw [List.getElem?_eq_none (by simp; omega)] at hj
      cases hj
  · rw [List.getElem?_set_ne (Ne.symm e2)] at hj
    by_cases e : j = i
    · subst e
      rw [abSt1_self hj]
      exact ⟨x, List.mem_cons_self, gv⟩
    · obtain ⟨q1, q2⟩ := abSt1_get e hj hw
      obtain ⟨y, q3, q4⟩ := h3 j w q1 hw
      refine ⟨y, List.mem_cons_of_mem _ (List.mem_filter.mpr ⟨q3, ?_⟩), q4⟩
      by_cases hi : j + 1 = i
      · have hc := abCat_ok (abCat1 hw (fun z => q2 ⟨hi, z⟩)) q4
        simp [e, e2, hc]
      · simp [e, e2, hi]
theorem abS14 : abOk 14 (abOs 0 2) := by
  intro D z sb sl rh xs0 w0 p l ev R s m args below meth c Q k d nx e pc ls st g r hF hE hop hpc hnx h
  obtain ⟨hx, hb, hml, hown, hts, hnm, hz, hR1, hR2, hR3, hR4, hlaw⟩ := hF
  obtain ⟨o, pc', a1, a2, x, ps⟩ := e
  have ho : o = 14 := hop
  have hp : pc' = pc := hpc
  subst ho; subst hp
  have hd := abEt_dec hE (show ¬ (14 : Nat) = 85 by decide) rfl
  have hi := of_decide_eq_true (show decide (a2 < (abMe k).1.2.2.1) = true from hE.2.2)
  rw [← hml] at hi
  obtain ⟨v, rr, rfl, h0⟩ := abHd_some h
  obtain ⟨h1, h2⟩ := abIf_some h0
  have h3 := abDiv h1
  intro H locs ws A xs hH hX hL hS
  obtain ⟨y0, xr, rfl, gv, hS'⟩ := hS
  obtain ⟨y, rfl⟩ := abG_i gv (by omega)
  obtain ⟨l1, lv, l2, l3⟩ := hL
  refine lv_istore hx hb hd l2 hi rfl (fun ls' hls' => ?_)
  exact hnx _ _ _ _ r h2 (fun _ q => q) H locs ws ls' _ hH hX (abLok.st1 (A := A) l1 l3 gv hls') hS'
theorem abS15 : abOk 15 (abOs 0 1) := by
  intro D z sb sl rh xs0 w0 p l ev R s m args below meth c Q k d nx e pc ls st g r hF hE hop hpc hnx h
  obtain ⟨hx, hb, hml, hown, hts, hnm, hz, hR1, hR2, hR3, hR4, hlaw⟩ := hF
  obtain ⟨o, pc', a1, a2, x, ps⟩ := e
  have ho : o = 15 := hop
  have hp : pc' = pc := hpc
  subst ho; subst hp
  obtain ⟨h4, hd⟩ := abEt_dec1 hE (show ¬ (15 : Nat) = 85 by decide) rfl
  have hi := of_decide_eq_true (show decide (a2 < (abMe k).1.2.2.1) = true from hE.2.2)
  rw [← hml] at hi
  obtain ⟨v, rr, rfl, h0⟩ := abHd_some h
  obtain ⟨h1, h2⟩ := abIf_some h0
  have h3 := abDiv h1
  intro H locs ws A xs hH hX hL hS
  obtain ⟨y0, xr, rfl, gv, hS'⟩ := hS
  obtain ⟨y, rfl⟩ := abG_i gv (by omega)
  obtain ⟨l1, lv, l2, l3⟩ := hL
  refine lv_istore_n hx hb hd rfl l2 hi rfl (fun ls' hls' => ?_)
  exact hnx _ _ _ _ r h2 (fun _ q => q) H locs ws ls' _ hH hX (abLok.st1 (A := A) l1 l3 gv hls') hS'
theorem abS18 : abOk 18 (abOs 2 2) := by
  intro D z sb sl rh xs0 w0 p l ev R s m args below meth c Q k d nx e pc ls st g r hF hE hop hpc hnx h
  obtain ⟨hx, hb, hml, hown, hts, hnm, hz, hR1, hR2, hR3, hR4, hlaw⟩ := hF
  obtain ⟨o, pc', a1, a2, x, ps⟩ := e
  have ho : o = 18 := hop
  have hp : pc' = pc := hpc
  subst ho; subst hp
  have hd := abEt_dec hE (show ¬ (18 : Nat) = 85 by decide) rfl
  have hi := of_decide_eq_true (show decide (a2 < (abMe k).1.2.2.1) = true from hE.2.2)
  rw [← hml] at hi
  obtain ⟨v, rr, rfl, h0⟩ := abHd_some h
  obtain ⟨h1, h2⟩ := abIf_some h0
  have h3 := abDiv h1
  intro H locs ws A xs hH hX hL hS
  obtain ⟨y0, xr, rfl, gv, hS'⟩ := hS
  obtain ⟨y, rfl⟩ := abG_a gv (by omega)
  obtain ⟨l1, lv, l2, l3⟩ := hL
  refine lv_astore hx hb hd l2 hi rfl (fun ls' hls' => ?_)
  exact hnx _ _ _ _ r h2 (fun _ q => q) H locs ws ls' _ hH hX (abLok.st1 (A := A) l1 l3 gv hls') hS'
theorem abS19 : abOk 19 (abOs 2 1) := by
  intro D z sb sl rh xs0 w0 p l ev R s m args below meth c Q k d nx e pc ls st g r hF hE hop hpc hnx h
  obtain ⟨hx, hb, hml, hown, hts, hnm, hz, hR1, hR2, hR3, hR4, hlaw⟩ := hF
  obtain ⟨o, pc', a1, a2, x, ps⟩ := e
  have ho : o = 19 := hop
  have hp : pc' = pc := hpc
  subst ho; subst hp
  obtain ⟨h4, hd⟩ := abEt_dec1 hE (show ¬ (19 : Nat) = 85 by decide) rfl
  have hi := of_decide_eq_true (show decide (a2 < (abMe k).1.2.2.1) = true from hE.2.2)
  rw [← hml] at hi
  obtain ⟨v, rr, rfl, h0⟩ := abHd_some h
  obtain ⟨h1, h2⟩ := abIf_some h0
  have h3 := abDiv h1
  intro H locs ws A xs hH hX hL hS
  obtain ⟨y0, xr, rfl, gv, hS'⟩ := hS
  obtain ⟨y, rfl⟩ := abG_a gv (by omega)
  obtain ⟨l1, lv, l2, l3⟩ := hL
  refine lv_astore_n hx hb hd rfl l2 hi rfl (fun ls' hls' => ?_)
  exact hnx _ _ _ _ r h2 (fun _ q => q) H locs ws ls' _ hH hX (abLok.st1 (A := A) l1 l3 gv hls') hS'
theorem abS16 : abOk 16 (abOs2 2) := by
  intro D z sb sl rh xs0 w0 p l ev R s m args below meth c Q k d nx e pc ls st g r hF hE hop hpc hnx h
  obtain ⟨hx, hb, hml, hown, hts, hnm, hz, hR1, hR2, hR3, hR4, hlaw⟩ := hF
  obtain ⟨o, pc', a1, a2, x, ps⟩ := e
  have ho : o = 16 := hop
  have hp : pc' = pc := hpc
  subst ho; subst hp
  have hd := abEt_dec hE (show ¬ (16 : Nat) = 85 by decide) rfl
  have hi := of_decide_eq_true (show decide (a2 + 1 < (abMe k).1.2.2.1) = true from hE.2.2)
  rw [← hml] at hi
  obtain ⟨v, rr, rfl, h0⟩ := abHd_some h
  obtain ⟨h1, h2⟩ := abIf_some h0
  have h3 := abDiv h1
  intro H locs ws A xs hH hX hL hS
  obtain ⟨y0, xr, rfl, gv, hS'⟩ := hS
  obtain ⟨y, rfl⟩ := abG_l gv (by omega)
  obtain ⟨l1, lv, l2, l3⟩ := hL
  refine lv_lstore hx hb hd l2 hi rfl (fun ls' hls' => ?_)
  exact hnx _ _ _ _ r h2 (fun _ q => q) H locs ws ls' _ hH hX (abLok.st2 (A := A) l1 l3 gv hls') hS'
theorem abS17 : abOk 17 (abOs2 1) := by
  intro D z sb sl rh xs0 w0 p l ev R s m args below meth c Q k d nx e pc ls st g r hF hE hop hpc hnx h
  obtain ⟨hx, hb, hml, hown, hts, hnm, hz, hR1, hR2, hR3, hR4, hlaw⟩ := hF
  obtain ⟨o, pc', a1, a2, x, ps⟩ := e
  have ho : o = 17 := hop
  have hp : pc' = pc := hpc
  subst ho; subst hp
  obtain ⟨h4, hd⟩ := abEt_dec1 hE (show ¬ (17 : Nat) = 85 by decide) rfl
  have hi := of_decide_eq_true (show decide (a2 + 1 < (abMe k).1.2.2.1) = true from hE.2.2)
  rw [← hml] at hi
  obtain ⟨v, rr, rfl, h0⟩ := abHd_some h
  obtain ⟨h1, h2⟩ := abIf_some h0
  have h3 := abDiv h1
  intro H locs ws A xs hH hX hL hS
  obtain ⟨y0, xr, rfl, gv, hS'⟩ := hS
  obtain ⟨y, rfl⟩ := abG_l gv (by omega)
  obtain ⟨l1, lv, l2, l3⟩ := hL
  refine lv_lstore_n hx hb hd rfl l2 hi rfl (fun ls' hls' => ?_)
  exact hnx _ _ _ _ r h2 (fun _ q => q) H locs ws ls' _ hH hX (abLok.st2 (A := A) l1 l3 gv hls') hS'
theorem abS20 : abOk 20 abOinc := by
  intro D z sb sl rh xs0 w0 p l ev R s m args below meth c Q k d nx e pc ls st g r hF hE hop hpc hnx h
  obtain ⟨hx, hb, hml, hown, hts, hnm, hz, hR1, hR2, hR3, hR4, hlaw⟩ := hF
  obtain ⟨o, pc', a1, a2, x, ps⟩ := e
  have ho : o = 20 := hop
  have hp : pc' = pc := hpc
  subst ho; subst hp
  have hd := abEt_dec hE (show ¬ (20 : Nat) = 85 by decide) rfl
  have hq := Bool.and_eq_true_iff.mp (show (decide (a2 < (abMe k).1.2.2.1) && decide ((Int32.ofInt ((x : Int) - abB)).toInt + abB = x)) = true from hE.2.2)
  have hi := of_decide_eq_true hq.1
  have hc := of_decide_eq_true hq.2
  rw [← hml] at hi
  intro H locs ws A xs hH hX hL hS
  obtain ⟨l1, lv, l2, l3⟩ := id hL
  have hcase : (abNth ls a2).1 ≤ 7 := by
    rcases Nat.lt_or_ge 7 (abNth ls a2).1 with q | q
    · exfalso
      have h' : abWi 0 g.2.2.1 (abNth ls a2) _ = some r := h
      unfold abWi at h'
      rw [abIf_f (by cases z : Nat.beq (abNth ls a2).1 0 with | false => rfl | true => have := abBeq z; omega), abIf_f (by cases z : Nat.beq (abNth ls a2).1 (0 + 1) with | false => rfl | true => have := abBeq z; omega)] at h'
      cases h'
    · exact q
  have hn : ls[a2]? = some (abNth ls a2) := by
    rw [abNth_get] at hcase ⊢
    cases z : ls[a2]? with
    | none => rw [z] at hcase; exact absurd hcase (by decide)
    | some v => rfl
  obtain ⟨y0, m0, gv⟩ := l3 a2 _ hn hcase
  obtain ⟨a, b, y, h1, rfl, p1, p2, -, -⟩ := abWi0 h hH.2.2.2.2.2.2.2 gv
  dsimp only at h1
  obtain ⟨kk, hkk⟩ := List.getElem?_of_mem m0
  obtain ⟨n0, hn0⟩ : ∃ n0 : Int32, n0 = Int32.ofInt ((x : Int) - abB) := ⟨_, rfl⟩
  rw [← hn0] at hc
  obtain ⟨lo, hlo⟩ : ∃ lo : Nat, lo = a + x - 9223372036854775808 := ⟨_, rfl⟩
  obtain ⟨hi2, hhi⟩ : ∃ hi2 : Nat, hi2 = b + x - 9223372036854775808 := ⟨_, rfl⟩
  rw [← hlo, ← hhi] at h1
  have hy := abI32 y
  have hz2 := abI32 n0
  have hs := Int32.toInt_add y n0
  have key : abG ws sb sl rh (abBI lo hi2) (.int (y + n0)) := abBI_ok hs (by simp only [abB] at *; omega) (by simp only [abB] at *; omega)
  refine lv_iinc (v := y + n0) hx hb hd l2 (k := kk) hkk (by rw [hn0]) hi rfl (fun ls' hls' => ?_)
  exact hnx _ _ _ _ r h1 (fun _ q => q) H locs ws ls' _ hH hX (abLok.st1 (A := A) l1 l3 key hls') hS
