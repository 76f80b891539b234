/-! THE LAW'S CALLS BY HAND, ITS CASES (printed by wip/gen/gen27.py) -/
theorem lwJp_le {n n' : Nat} {mu : haMu} (h : lwJp n mu) (hn : n ≤ n') : lwJp n' mu := lwJp_same h hn h.1 ⟨h.2.1.1, by have := h.2.1.2; omega⟩ (fun _ _ => rfl) (fun _ _ => rfl)
theorem lw_text (hT : abTabs) {n : Nat} {mu : haMu} (hJ : lwJp n mu) : haSp 180 6 [haR 51 860] mu (fun o mu' => (∃ z : Int, o = some (haI z)) ∧ lwJp (n + 1) mu') :=
  (hm_text hT (d := 0) hJ.1).mono (fun o mu' h => ⟨h.1, lwJp_le (lwJp_same hJ (Nat.le_refl _) h.2.1 (by rw [h.2.2.2]; exact hJ.2.1) (fun i hi => h.2.2.1 862 i (haGd_im hi) (by decide) (by decide) (by decide) (by decide)) (fun i hi => h.2.2.1 863 i (haGd_has hi) (by decide) (by decide) (by decide) (by decide))) (Nat.le_succ n)⟩)
theorem lw_fill (hT : abTabs) {n : Nat} {mu : haMu} (hn : n ≤ 8000) (hJ : lwJp n mu) {b g l u p w : Int} : haSp 200 3 [haR 51 860, haI b, haI g, haI l, haI u, haI p, haI w] mu (fun o mu' => (∃ z : Int, o = some (haI z)) ∧ lwJp (n + 1) mu') :=
  (hm_fill hT (d := 0) hJ.1 ⟨hJ.2.1.1, by have := hJ.2.1.2; omega⟩).mono (fun o mu' h => ⟨by obtain ⟨z, h1, -⟩ := h.1; exact ⟨z, h1⟩, lwJp_same hJ (Nat.le_succ n) h.2.1 (by have := hJ.2.1; rcases h.2.2.1 with q | q <;> rw [q] <;> omega) (fun i hi => h.2.2.2 862 i (haGd_im hi) (by decide) (by decide)) (fun i hi => h.2.2.2 863 i (haGd_has hi) (by decide) (by decide))⟩)
theorem lw_fills (hT : abTabs) {n : Nat} {mu : haMu} (hn : n ≤ 8000) (hJ : lwJp n mu) {b s : Int} : haSp 205 4 [haR 51 860, haI b, haI s] mu (fun o mu' => (∃ z : Int, o = some (haI z)) ∧ lwJp (n + 1) mu') :=
  (hm_fills hT (d := 0) hJ.1 ⟨hJ.2.1.1, by have := hJ.2.1.2; omega⟩).mono (fun o mu' h => ⟨by obtain ⟨z, h1, -⟩ := h.1; exact ⟨z, h1⟩, lwJp_same hJ (Nat.le_succ n) h.2.1 (by have := hJ.2.1; have := h.2.2.1; omega) (fun i hi => h.2.2.2 862 i (haGd_im hi) (by decide) (by decide)) (fun i hi => h.2.2.2 863 i (haGd_has hi) (by decide) (by decide))⟩)
theorem lw_turn (hT : abTabs) {n : Nat} {mu : haMu} (hJ : lwJp n mu) {f t : Int} : haSp 219 4 [haR 51 860, haI f, haI t] mu (fun o mu' => (∃ z : Int, o = some (haI z)) ∧ lwJp (n + 1) mu') :=
  (hm_turn hT (d := 0) hJ.1).mono (fun o mu' h => ⟨h.1, lwJp_le (lwJp_same hJ (Nat.le_refl _) h.2.1 (by rw [h.2.2.1]; exact hJ.2.1) (fun i hi => h.2.2.2 862 i (haGd_im hi) (by decide) (by decide) (by decide) (by decide)) (fun i hi => h.2.2.2 863 i (haGd_has hi) (by decide) (by decide) (by decide) (by decide))) (Nat.le_succ n)⟩)
theorem lw_keep (hT : abTabs) {n : Nat} {mu : haMu} (hJ : lwJp n mu) {k : Int} : haSp 175 1 [haR 51 860, haI k] mu (fun o mu' => (∃ z : Int, o = some (haI z) ∧ ((0 ≤ k ∧ k ≤ 2 ∧ z = 0) ∨ (¬ (0 ≤ k ∧ k ≤ 2) ∧ z = -2))) ∧ lwJp (n + 1) mu') := by
  refine (hm_keep hT (d := 0) (k := k) (mu := mu)).mono (fun o mu' h => ?_)
  obtain ⟨z, rfl, hz, h⟩ := h
  refine ⟨⟨z, rfl, hz⟩, lwJp_le ?_ (Nat.le_succ n)⟩
  rcases h with rfl | ⟨hk, f1, f2, f3, f4, f5, f6⟩
  · exact hJ
  · refine ⟨haWd_other hJ.1 (fun i => f1 861 i (by decide) (by decide)), by rw [f1 861 1504 (by decide) (by decide)]; exact hJ.2.1, fun k' k0 k2 hk' => ?_⟩
    by_cases e : k' = k
    · subst e
      exact ⟨f3, lwWd_of hJ.1 (fun i i0 i1 => by rw [lwSh_at]; exact f2 i i0 i1), by rw [f2 1504 (by omega) (by omega)]; exact hJ.2.1⟩
    · rw [f6 k' e] at hk'
      obtain ⟨g1, g2, g3⟩ := hJ.2.2 k' k0 k2 hk'
      exact ⟨haBw_same g1 (fun i i0 i1 => f4 _ (by omega)), lwWd_of g2 (fun i i0 i1 => by rw [lwSh_at, lwSh_at]; exact f4 _ (by omega)), by rw [f4 _ (by omega)]; exact g3⟩
theorem lw_back (hT : abTabs) {n : Nat} {mu : haMu} (hJ : lwJp n mu) {k : Int} : haSp 177 1 [haR 51 860, haI k] mu (fun o mu' => (∃ z : Int, o = some (haI z)) ∧ lwJp (n + 1) mu') := by
  refine (hm_back hT (d := 0) (k := k) (mu := mu) (fun k' k0 k2 hk => (hJ.2.2 k' k0 k2 hk).1)).mono (fun o mu' h => ?_)
  obtain ⟨z, rfl, -, h⟩ := h
  refine ⟨⟨z, rfl⟩, lwJp_le ?_ (Nat.le_succ n)⟩
  rcases h with rfl | ⟨hk, hk1, f1, f2⟩
  · exact hJ
  · obtain ⟨g1, g2, g3⟩ := hJ.2.2 k hk.1 hk.2 hk1
    exact lwJp_same hJ (Nat.le_refl _) (lwWd_of g2 (fun i i0 i1 => by rw [lwSh_at]; exact f1 i i0 i1)) (by rw [f1 1504 (by omega) (by omega)]; exact g3) (fun i _ => f2 862 i (by decide) (fun q => absurd q.1 (by decide))) (fun i _ => f2 863 i (by decide) (fun q => absurd q.1 (by decide)))
/-- != 0 -/
def lwZ (v : Int) : Int := if v = 0 then 0 else 1
theorem lwZ_b (v : Int) : 0 ≤ lwZ v ∧ lwZ v ≤ 1 := by
  unfold lwZ
  split <;> omega
noncomputable def lwNz (pc : Nat) : Bool := abIf (lwEq pc (46, pc, pc + 7, 0, 0, [])) (abIf (lwEq (pc + 3) (1, pc + 3, 0, 0, 9223372036854775809, [])) (abIf (lwEq (pc + 4) (58, pc + 4, pc + 8, 0, 0, [])) (lwEq (pc + 7) (1, pc + 7, 0, 0, 9223372036854775808, [])) false) false) false
theorem lw_nz {x : haCx} {mu : haMu} {d pc : Nat} {i v : Int} {st : List avV} (hT : abTabs) (hF : haF x 278 d) (hc : lwNz pc = true) (h : haW x mu (pc + 8) (lwL i) (haI (lwZ v) :: st)) : haW x mu pc (lwL i) (haI v :: st) := by
  obtain ⟨c1, hc⟩ := abIf_and hc
  obtain ⟨c2, hc⟩ := abIf_and hc
  obtain ⟨c3, c4⟩ := abIf_and hc
  refine ha_ifeq (t := pc + 7) hF (haEt hT (by decide) c1 rfl) rfl rfl rfl (fun q => ?_) (fun q => ?_)
  · have e : lwZ v = 0 := if_pos q
    rw [e] at h
    refine ha_s (pc' := pc + 7 + 1) (ls' := lwL i) (st' := haI (avX (1, pc + 7, 0, 0, 9223372036854775808, [])) :: st) hF (haEt hT (by decide) c4 rfl) rfl (fun RG => avS1) (fun nx => rfl) ?_
    rw [show avX (1, pc + 7, 0, 0, 9223372036854775808, []) = 0 from by show ((9223372036854775808 : Nat) : Int) - 9223372036854775808 = 0; omega]
    exact h
  · have e : lwZ v = 1 := if_neg q
    rw [e] at h
    refine ha_s (pc' := pc + 3 + 1) (ls' := lwL i) (st' := haI (avX (1, pc + 3, 0, 0, 9223372036854775809, [])) :: st) hF (haEt hT (by decide) c2 rfl) rfl (fun RG => avS1) (fun nx => rfl) ?_
    rw [show avX (1, pc + 3, 0, 0, 9223372036854775809, []) = 1 from by show ((9223372036854775809 : Nat) : Int) - 9223372036854775808 = 1; omega]
    exact ha_s (pc' := pc + 8) (ls' := lwL i) (st' := haI 1 :: st) hF (haEt hT (by decide) c3 rfl) rfl (fun RG => avS58) (fun nx => rfl) h
