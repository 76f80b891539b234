/-! THE LAW'S CALLS BY HAND, ITS CASES (printed by wip/gen/gen27.py) -/
theorem lwJp_le {n n' : Nat} {mu : haMu} (h : lwJp n mu) (hn : n ≤ n') : lwJp n' mu := lwJp_same h hn h.1 ⟨h.2.1.1, by have := h.2.1.2; omega⟩ (fun _ _ => rfl) (fun _ _ => rfl)
theorem lw_text (hT : abTabs) {n : Nat} {mu : haMu} (hJ : lwJr n mu) : haSp 180 6 [haR 51 860] mu (fun o mu' => (∃ z : Int, o = some (haI z)) ∧ lwJr (n + 1) mu') :=
  (hm_text hT (d := 0) hJ.1.1).mono (fun o mu' h => ⟨h.1, ⟨lwJp_le (lwJp_same hJ.1 (Nat.le_refl _) h.2.1 (by rw [h.2.2.2]; exact hJ.1.2.1) (fun i hi => h.2.2.1 862 i (haGd_im hi) (by decide) (by decide) (by decide) (by decide)) (fun i hi => h.2.2.1 863 i (haGd_has hi) (by decide) (by decide) (by decide) (by decide))) (Nat.le_succ n), lwRel_of hJ.2 (fun j i hg hi => h.2.2.1 j i hg (lwNe hi).1.2.1 (lwNe hi).1.2.2.2.1 (lwNe hi).1.2.2.2.2.1 (lwNe hi).1.1)⟩⟩)
theorem lw_fill (hT : abTabs) {n : Nat} {mu : haMu} (hn : n ≤ 8000) (hJ : lwJr n mu) {b g l u p w : Int} : haSp 200 3 [haR 51 860, haI b, haI g, haI l, haI u, haI p, haI w] mu (fun o mu' => (∃ z : Int, o = some (haI z)) ∧ lwJr (n + 1) mu') :=
  (hm_fill hT (d := 0) hJ.1.1 ⟨hJ.1.2.1.1, by have := hJ.1.2.1.2; omega⟩).mono (fun o mu' h => ⟨by obtain ⟨z, h1, -⟩ := h.1; exact ⟨z, h1⟩, ⟨lwJp_same hJ.1 (Nat.le_succ n) h.2.1 (by have := hJ.1.2.1; rcases h.2.2.1 with q | q <;> rw [q] <;> omega) (fun i hi => h.2.2.2 862 i (haGd_im hi) (by decide) (by decide)) (fun i hi => h.2.2.2 863 i (haGd_has hi) (by decide) (by decide)), lwRel_of hJ.2 (fun j i hg hi => h.2.2.2 j i hg (lwNe hi).1.2.1 (lwNe hi).1.1)⟩⟩)
theorem lw_fills (hT : abTabs) {n : Nat} {mu : haMu} (hn : n ≤ 8000) (hJ : lwJr n mu) {b s : Int} : haSp 205 4 [haR 51 860, haI b, haI s] mu (fun o mu' => (∃ z : Int, o = some (haI z)) ∧ lwJr (n + 1) mu') :=
  (hm_fills hT (d := 0) hJ.1.1 ⟨hJ.1.2.1.1, by have := hJ.1.2.1.2; omega⟩).mono (fun o mu' h => ⟨by obtain ⟨z, h1, -⟩ := h.1; exact ⟨z, h1⟩, ⟨lwJp_same hJ.1 (Nat.le_succ n) h.2.1 (by have := hJ.1.2.1; have := h.2.2.1; omega) (fun i hi => h.2.2.2 862 i (haGd_im hi) (by decide) (by decide)) (fun i hi => h.2.2.2 863 i (haGd_has hi) (by decide) (by decide)), lwRel_of hJ.2 (fun j i hg hi => h.2.2.2 j i hg (lwNe hi).1.2.1 (lwNe hi).1.1)⟩⟩)
theorem lw_turn (hT : abTabs) {n : Nat} {mu : haMu} (hJ : lwJr n mu) {f t : Int} : haSp 219 4 [haR 51 860, haI f, haI t] mu (fun o mu' => (∃ z : Int, o = some (haI z)) ∧ lwJr (n + 1) mu') :=
  (hm_turn hT (d := 0) hJ.1.1).mono (fun o mu' h => ⟨h.1, ⟨lwJp_le (lwJp_same hJ.1 (Nat.le_refl _) h.2.1 (by rw [h.2.2.1]; exact hJ.1.2.1) (fun i hi => h.2.2.2 862 i (haGd_im hi) (by decide) (by decide) (by decide) (by decide)) (fun i hi => h.2.2.2 863 i (haGd_has hi) (by decide) (by decide) (by decide) (by decide))) (Nat.le_succ n), lwRel_of hJ.2 (fun j i hg hi => h.2.2.2 j i hg (lwNe hi).1.2.1 (lwNe hi).1.2.2.2.2.2.1 (lwNe hi).1.2.2.2.2.2.2.1 (lwNe hi).1.1)⟩⟩)
theorem lwJr_le {n n' : Nat} {mu : haMu} (h : lwJr n mu) (hn : n ≤ n') : lwJr n' mu := ⟨lwJp_le h.1 hn, h.2⟩
theorem lwRc_ne {s t : Int} (hs : 0 ≤ s ∧ s ≤ 3) (ht : 0 ≤ t ∧ t ≤ 3) (h : ¬ s = t) : ¬ lwRc s = lwRc t := by
  have a := lwRcA hs
  have b := lwRcA ht
  omega
theorem lwRc_34 {s : Int} (hs : 0 ≤ s ∧ s ≤ 3) : (¬ lwRc s = 805 ∧ ¬ lwRc s = 861 ∧ ¬ lwRc s = 862 ∧ ¬ lwRc s = 863 ∧ ¬ lwRc s = 883 ∧ ¬ lwRc s = 884) := by
  have a := lwRcA hs
  omega
theorem lw_keep2 {n : Nat} {k z1 z2 : Int} {mu mu1 mu2 : haMu} (hJ : lwJr n mu)
    (hC : ((0 ≤ k ∧ k ≤ 2) ∧ z1 = 0 ∧ mu1 805 k = 1 ∧ ∀ (j : Nat) (i : Int), haGd j i → ¬ (j = 805 ∧ i = k) → mu1 j i = mu j i) ∨ (¬ (0 ≤ k ∧ k ≤ 2) ∧ z1 = -2 ∧ mu1 = mu))
    (hR : (¬ (0 ≤ k ∧ k ≤ 2) ∧ z2 = -2 ∧ mu2 = mu1) ∨ ((0 ≤ k ∧ k ≤ 2) ∧ z2 = 0 ∧ (∀ (j : Nat) (i : Int), ¬ j = 862 → ¬ j = 863 → mu2 j i = mu1 j i) ∧ (∀ i : Int, 0 ≤ i → i < 1745 → mu2 862 (1745 * k + i) = mu1 861 i) ∧ haBw mu2 k ∧ (∀ i : Int, ¬ (1745 * k ≤ i ∧ i < 1745 * k + 1745) → mu2 862 i = mu1 862 i) ∧ mu2 863 k = 1 ∧ ∀ i : Int, ¬ i = k → mu2 863 i = mu1 863 i)) : lwJr (n + 1) mu2 ∧ z1 = z2 := by
  rcases hC with ⟨hk, e1, c1, c2⟩ | ⟨hk, e1, c1⟩
  · rcases hR with ⟨hk2, -, -⟩ | ⟨-, e2, f1, f2, f3, f4, f5, f6⟩
    · exact absurd hk hk2
    · have h1 : lwJp n mu1 := lwJp_fr hJ.1 (fun j i hg hj => c2 j i hg (fun q => by omega))
      refine ⟨⟨lwJp_le ?_ (Nat.le_succ n), ?_, ?_⟩, by rw [e1, e2]⟩
      · refine ⟨haWd_other h1.1 (fun i => f1 861 i (by decide) (by decide)), by rw [f1 861 1504 (by decide) (by decide)]; exact h1.2.1, fun k' k0 k2 hk' => ?_⟩
        by_cases e : k' = k
        · subst e
          exact ⟨f3, lwWd_of h1.1 (fun i i0 i1 => by rw [lwSh_at]; exact f2 i i0 i1), by rw [f2 1504 (by omega) (by omega)]; exact h1.2.1⟩
        · rw [f6 k' e] at hk'
          obtain ⟨g1, g2, g3⟩ := h1.2.2 k' k0 k2 hk'
          exact ⟨haBw_same g1 (fun i i0 i1 => f4 _ (by omega)), lwWd_of g2 (fun i i0 i1 => by rw [lwSh_at, lwSh_at]; exact f4 _ (by omega)), by rw [f4 _ (by omega)]; exact g3⟩
      · intro s s0 s3
        have hs : 0 ≤ s ∧ s ≤ 3 := ⟨s0, s3⟩
        obtain ⟨n1, n2, n3, n4, n5, n6⟩ := lwRc_34 hs
        have hg := (lwRcG hs).1
        rw [f1 _ 1 n3 n4, f1 _ 0 n3 n4, f1 883 s (by decide) (by decide), f1 884 s (by decide) (by decide), c2 _ 1 (haGd_row hg (by decide)) (fun q => n1 q.1), c2 _ 0 (haGd_row hg (by decide)) (fun q => n1 q.1), c2 883 s (haGd_many s0) (fun q => absurd q.1 (by decide)), c2 884 s (haGd_width s0) (fun q => absurd q.1 (by decide))]
        exact hJ.2.1 s s0 s3
      · intro k' k0 k2
        rw [f1 805 k' (by decide) (by decide)]
        by_cases e : k' = k
        · subst e
          rw [c1, f5]
        · rw [f6 k' e, c2 805 k' (haGd_kept k0) (fun q => e q.2), c2 863 k' (haGd_has k0) (fun q => absurd q.1 (by decide))]
          exact hJ.2.2 k' k0 k2
  · rcases hR with ⟨-, e2, e3⟩ | ⟨hk2, -⟩
    · rw [e3, c1]
      exact ⟨lwJr_le hJ (Nat.le_succ n), by rw [e1, e2]⟩
    · exact absurd hk2 hk
theorem lw_row2 {n : Nat} {s w m z1 z2 : Int} {mu mu1 mu2 : haMu} (hJ : lwJr n mu)
    (hC : ((0 ≤ s ∧ s ≤ 3) ∧ (0 ≤ w ∧ w ≤ 3) ∧ (0 ≤ m ∧ m ≤ 60) ∧ z1 = 0 ∧ mu1 (lwRc s) 0 = w ∧ mu1 (lwRc s) 1 = m ∧ ∀ (j' : Nat) (i : Int), haGd j' i → ¬ (j' = lwRc s ∧ i = 0) → ¬ (j' = lwRc s ∧ i = 1) → mu1 j' i = mu j' i) ∨ (mu1 = mu ∧ (((0 ≤ s ∧ s ≤ 3) ∧ (0 ≤ w ∧ w ≤ 3) ∧ m < 0 ∧ z1 = -3) ∨ (¬ ((0 ≤ s ∧ s ≤ 3) ∧ (0 ≤ w ∧ w ≤ 3) ∧ m ≤ 60) ∧ z1 = -2))))
    (hR : ((0 ≤ s ∧ s ≤ 3) ∧ (0 ≤ w ∧ w ≤ 3) ∧ (0 ≤ m ∧ m ≤ 60) ∧ z2 = 0 ∧ mu2 884 s = w ∧ mu2 883 s = m ∧ ∀ (j' : Nat) (i : Int), haGd j' i → ¬ (j' = 884 ∧ i = s) → ¬ (j' = 883 ∧ i = s) → mu2 j' i = mu1 j' i) ∨ (mu2 = mu1 ∧ (((0 ≤ s ∧ s ≤ 3) ∧ (0 ≤ w ∧ w ≤ 3) ∧ m < 0 ∧ z2 = -3) ∨ (¬ ((0 ≤ s ∧ s ≤ 3) ∧ (0 ≤ w ∧ w ≤ 3) ∧ m ≤ 60) ∧ z2 = -2)))) : lwJr (n + 1) mu2 ∧ z1 = z2 := by
  rcases hC with ⟨hs, hw, hm, e1, c1, c2, c3⟩ | ⟨e1, hz1⟩
  · rcases hR with ⟨-, -, -, e2, f1, f2, f3⟩ | ⟨-, hz2⟩
    · obtain ⟨n1, n2, n3, n4, n5, n6⟩ := lwRc_34 hs
      refine ⟨⟨lwJp_le (lwJp_fr hJ.1 (fun j i hg hj => ?_)) (Nat.le_succ n), ?_, ?_⟩, by rw [e1, e2]⟩
      · rw [f3 j i hg (fun q => by omega) (fun q => by omega), c3 j i hg (fun q => by omega) (fun q => by omega)]
      · intro t t0 t3
        have ht : 0 ≤ t ∧ t ≤ 3 := ⟨t0, t3⟩
        obtain ⟨m1, m2, m3, m4, m5, m6⟩ := lwRc_34 ht
        have hg := (lwRcG ht).1
        rw [f3 _ 1 (haGd_row hg (by decide)) (fun q => m6 q.1) (fun q => m5 q.1), f3 _ 0 (haGd_row hg (by decide)) (fun q => m6 q.1) (fun q => m5 q.1)]
        by_cases e : t = s
        · subst e
          exact ⟨by rw [c2, f2], by rw [c1, f1]⟩
        · have hne := lwRc_ne ht hs e
          rw [c3 _ 1 (haGd_row hg (by decide)) (fun q => hne q.1) (fun q => hne q.1), c3 _ 0 (haGd_row hg (by decide)) (fun q => hne q.1) (fun q => hne q.1), f3 883 t (haGd_many t0) (fun q => absurd q.1 (by decide)) (fun q => e q.2), f3 884 t (haGd_width t0) (fun q => e q.2) (fun q => absurd q.1 (by decide)), c3 883 t (haGd_many t0) (fun q => n5 q.1.symm) (fun q => n5 q.1.symm), c3 884 t (haGd_width t0) (fun q => n6 q.1.symm) (fun q => n6 q.1.symm)]
          exact hJ.2.1 t t0 t3
      · intro k k0 k2
        rw [f3 805 k (haGd_kept k0) (fun q => absurd q.1 (by decide)) (fun q => absurd q.1 (by decide)), f3 863 k (haGd_has k0) (fun q => absurd q.1 (by decide)) (fun q => absurd q.1 (by decide)), c3 805 k (haGd_kept k0) (fun q => n1 q.1.symm) (fun q => n1 q.1.symm), c3 863 k (haGd_has k0) (fun q => n4 q.1.symm) (fun q => n4 q.1.symm)]
        exact hJ.2.2 k k0 k2
    · omega
  · rcases hR with ⟨hs2, hw2, hm2, e2, -⟩ | ⟨e3, hz2⟩
    · omega
    · rw [e3, e1]
      exact ⟨lwJr_le hJ (Nat.le_succ n), by omega⟩
theorem lw_back2 {n : Nat} {k z1 z2 : Int} {mu mu1 mu2 : haMu} (hJ : lwJr n mu)
    (hC : haFm mu mu1 ∧ ((¬ (0 ≤ k ∧ k ≤ 2) ∧ z1 = -2) ∨ ((0 ≤ k ∧ k ≤ 2) ∧ (0 ≤ mu 805 k ∧ mu 805 k ≤ 1) ∧ ((mu 805 k = 0 ∧ z1 = -6) ∨ (¬ mu 805 k = 0 ∧ z1 = 0)))))
    (hR : (¬ (0 ≤ k ∧ k ≤ 2) ∧ z2 = -2 ∧ mu2 = mu1) ∨ ((0 ≤ k ∧ k ≤ 2) ∧ ¬ mu1 863 k = 1 ∧ z2 = -6 ∧ mu2 = mu1) ∨ ((0 ≤ k ∧ k ≤ 2) ∧ z2 = 0 ∧ mu1 863 k = 1 ∧ (∀ i : Int, 0 ≤ i → i < 1745 → mu2 861 i = mu1 862 (1745 * k + i)) ∧ (∀ (j : Nat) (i : Int), ¬ j = 861 → ¬ (j = 860 ∧ i = 32) → mu2 j i = mu1 j i))) : lwJr (n + 1) mu2 ∧ z1 = z2 := by
  have h1 : lwJr n mu1 := lwJr_fm hJ hC.1
  refine ⟨?_, ?_⟩
  · refine lwJr_le ?_ (Nat.le_succ n)
    rcases hR with ⟨-, -, e⟩ | ⟨-, -, -, e⟩ | ⟨hk, -, hk1, f1, f2⟩
    · rw [e]; exact h1
    · rw [e]; exact h1
    · obtain ⟨g1, g2, g3⟩ := h1.1.2.2 k hk.1 hk.2 hk1
      exact ⟨lwJp_same h1.1 (Nat.le_refl _) (lwWd_of g2 (fun i i0 i1 => by rw [lwSh_at]; exact f1 i i0 i1)) (by rw [f1 1504 (by omega) (by omega)]; exact g3) (fun i _ => f2 862 i (by decide) (fun q => absurd q.1 (by decide))) (fun i _ => f2 863 i (by decide) (fun q => absurd q.1 (by decide))), lwRel_of h1.2 (fun j i hg hi => f2 j i (lwNe hi).1.2.1 (fun q => (lwNe hi).1.1 q.1))⟩
  · by_cases hk : 0 ≤ k ∧ k ≤ 2
    · have e1 : mu1 863 k = mu 863 k := hC.1 863 k (haGd_has hk.1)
      have e2 : mu 805 k = mu 863 k := hJ.2.2 k hk.1 hk.2
      have a := hC.2
      have b : (mu1 863 k = 1 ∧ z2 = 0) ∨ (¬ mu1 863 k = 1 ∧ z2 = -6) := by
        rcases hR with ⟨q, -, -⟩ | ⟨-, q, r, -⟩ | ⟨-, r, q, -⟩
        · exact absurd hk q
        · exact Or.inr ⟨q, r⟩
        · exact Or.inl ⟨q, r⟩
      rw [e1, ← e2] at b
      clear hJ hC hR h1 e1 e2
      omega
    · have a := hC.2
      have b : z2 = -2 := by
        rcases hR with ⟨-, r, -⟩ | ⟨q, -⟩ | ⟨q, -⟩
        · exact r
        · exact absurd q hk
        · exact absurd q hk
      clear hJ hC hR h1
      omega

/-- != 0 -/
def lwZ (v : Int) : Int := if v = 0 then 0 else 1
theorem lwZ_b (v : Int) : 0 ≤ lwZ v ∧ lwZ v ≤ 1 := by
  unfold lwZ
  split <;> omega
noncomputable def lwNz (pc : Nat) : Bool := abIf (lwEq pc (46, pc, pc + 7, 0, 0, [])) (abIf (lwEq (pc + 3) (1, pc + 3, 0, 0, 9223372036854775809, [])) (abIf (lwEq (pc + 4) (58, pc + 4, pc + 8, 0, 0, [])) (lwEq (pc + 7) (1, pc + 7, 0, 0, 9223372036854775808, [])) false) false) false
theorem lw_nz {x : haCx} {mu : haMu} {d pc : Nat} {i v : Int} {st : List avV} (hT : abTabs) (hF : haF x 278 d) (hc : lwNz pc = true) (h : haW x mu (pc + 8) (lwL i) (haI (lwZ v) :: st)) : haW x mu pc (lwL i) (haI v :: st) := by
  obtain ⟨c1, hc⟩ := abIf_and hc
  obtain ⟨c2, hc⟩ := abIf_and hc
  obtain ⟨c3, c4⟩ := abIf_and hc
  refine ha_ifeq (t := pc + 7) hF (haEt hT (by decide) c1 rfl) rfl rfl rfl (fun q => ?_) (fun q => ?_)
  · have e : lwZ v = 0 := if_pos q
    rw [e] at h
    refine ha_s (pc' := pc + 7 + 1) (ls' := lwL i) (st' := haI (avX (1, pc + 7, 0, 0, 9223372036854775808, [])) :: st) hF (haEt hT (by decide) c4 rfl) rfl (fun RG => avS1) (fun nx => rfl) ?_
    rw [show avX (1, pc + 7, 0, 0, 9223372036854775808, []) = 0 from by show ((9223372036854775808 : Nat) : Int) - 9223372036854775808 = 0; omega]
    exact h
  · have e : lwZ v = 1 := if_neg q
    rw [e] at h
    refine ha_s (pc' := pc + 3 + 1) (ls' := lwL i) (st' := haI (avX (1, pc + 3, 0, 0, 9223372036854775809, [])) :: st) hF (haEt hT (by decide) c2 rfl) rfl (fun RG => avS1) (fun nx => rfl) ?_
    rw [show avX (1, pc + 3, 0, 0, 9223372036854775809, []) = 1 from by show ((9223372036854775809 : Nat) : Int) - 9223372036854775808 = 1; omega]
    exact ha_s (pc' := pc + 8) (ls' := lwL i) (st' := haI 1 :: st) hF (haEt hT (by decide) c3 rfl) rfl (fun RG => avS58) (fun nx => rfl) h
