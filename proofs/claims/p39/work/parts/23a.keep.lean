/-! TallBinsModel keep, back -/
/-- every slot of world holds a number -/
theorem haWv0 : ∀ i : Nat, i < 1745 → ((avRT.get 77).2.2.get i).1 = 0 ∧ -2147483648 ≤ ((avRT.get 77).2.2.get i).2.1 ∧ ((avRT.get 77).2.2.get i).2.2 ≤ 2147483647 := by decide +kernel
theorem haWv {i : Int} (h : 0 ≤ i ∧ i < 1745) : (avRT.get 77).2.2.get i.toNat = (0, ((avRT.get 77).2.2.get i.toNat).2.1, ((avRT.get 77).2.2.get i.toNat).2.2) := Prod.ext (haWv0 i.toNat (by omega)).1 rfl
/-- image k lies in world's bounds -/
def haBw (mu : haMu) (k : Int) : Prop := ∀ i : Int, 0 ≤ i → i < 1745 → ((avRT.get 77).2.2.get i.toNat).2.1 ≤ mu 862 (1745 * k + i) ∧ mu 862 (1745 * k + i) ≤ ((avRT.get 77).2.2.get i.toNat).2.2
theorem hm_keep (hT : abTabs) {d : Nat} {k : Int} {mu : haMu} : haSp 175 (d + 1) [haR 51 860, haI k] mu (fun o mu' => ∃ z : Int, o = some (haI z) ∧ ((¬ (0 ≤ k ∧ k ≤ 2) ∧ z = -2 ∧ mu' = mu) ∨ ((0 ≤ k ∧ k ≤ 2) ∧ z = 0 ∧ (∀ (j : Nat) (i : Int), ¬ j = 862 → ¬ j = 863 → mu' j i = mu j i) ∧ (∀ i : Int, 0 ≤ i → i < 1745 → mu' 862 (1745 * k + i) = mu 861 i) ∧ haBw mu' k ∧ (∀ i : Int, ¬ (1745 * k ≤ i ∧ i < 1745 * k + 1745) → mu' 862 i = mu 862 i) ∧ mu' 863 k = 1 ∧ ∀ i : Int, ¬ i = k → mu' 863 i = mu 863 i))) := by
  refine haMet (by decide) (hT.1 175 (by decide)) (haLe5 rfl) (show 2 ≤ (abMe 175).1.2.2.1 from by decide +kernel) (fun x hF hR => ?_)
  refine ha_s (pc' := 1) (ls' := [haR 51 860, haI (k), avJ]) (st' := [haI (k)]) hF (haEt hT (e := (9, 0, 0, 1, 0, [])) (k := 175) (pc := 0) (by decide) (by decide +kernel) rfl) rfl (fun RG => avS9) (fun nx => rfl) ?_
  refine ha_s (pc' := 2) (ls' := [haR 51 860, haI (k), avJ]) (st' := [haL (k)]) hF (haEt hT (e := (40, 1, 0, 0, 0, [])) (k := 175) (pc := 1) (by decide) (by decide +kernel) rfl) rfl (fun RG => avS40) (fun nx => rfl) ?_
  refine ha_s (pc' := 3) (ls' := [haR 51 860, haI (k), avJ]) (st' := [haL (0), haL (k)]) hF (haEt hT (e := (6, 2, 0, 0, 9223372036854775808, [])) (k := 175) (pc := 2) (by decide) (by decide +kernel) rfl) rfl (fun RG => avS6) (fun nx => rfl) ?_
  refine ha_s (pc' := 6) (ls' := [haR 51 860, haI (k), avJ]) (st' := [haL (2), haL (0), haL (k)]) hF (haEt hT (e := (7, 3, 135, 0, 9223372036854775810, [1471])) (k := 175) (pc := 3) (by decide) (by decide +kernel) rfl) rfl (fun RG => avS7) (fun nx => rfl) ?_
  refine ha_callS (q := 176) (d' := d) (as := [haL k, haL 0, haL 2]) (rest := []) hT hF (haEt hT (e := (79, 6, 176, 0, 118, [1472, 1473])) (k := 175) (pc := 6) (by decide) (by decide +kernel) rfl) rfl rfl rfl (by decide +kernel) (hm_in hT) (Nat.le_refl _) rfl (show 3 = (abMe 176).2.1 from by decide +kernel) (show 0 + (abMe 176).1.2.2.1 ≤ 49 from by decide +kernel) (fun o ku h => ?_)
  obtain ⟨y, rfl, rfl, hy⟩ := h
  show haW x _ 9 [haR 51 860, haI (k), avJ] [haI y]
  refine ha_ifne hF (haEt hT (e := (47, 9, 15, 0, 0, [])) (k := 175) (pc := 9) (by decide) (by decide +kernel) rfl) rfl rfl rfl (fun q => ?_) (fun q => ?_)
  rotate_left
  · refine ha_s (pc' := 14) (ls' := [haR 51 860, haI (k), avJ]) (st' := [haI (-2)]) hF (haEt hT (e := (2, 12, 0, 0, 9223372036854775806, [])) (k := 175) (pc := 12) (by decide) (by decide +kernel) rfl) rfl (fun RG => avS2) (fun nx => rfl) ?_
    exact hR 14 _ _ _ _ (83, 14, 0, 0, 0, []) (haEt hT (e := (83, 14, 0, 0, 0, [])) (k := 175) (pc := 14) (by decide) (by decide +kernel) rfl) rfl (Or.inr (Or.inr ⟨rfl, _, rfl, rfl, rfl, fun h => by cases h⟩)) ⟨_, rfl, Or.inl ⟨by omega, rfl, rfl⟩⟩
  have hk : 0 ≤ k ∧ k ≤ 2 := by omega
  have loop : ∀ (nn : Nat) (i : Int) (nu : haMu), (nn : Int) = 1745 - i → 0 ≤ i → (∀ (j : Nat) (q : Int), ¬ j = 862 → nu j q = ku j q) → (∀ c : Int, 0 ≤ c → c < i → nu 862 (1745 * k + c) = ku 861 c ∧ ((avRT.get 77).2.2.get c.toNat).2.1 ≤ nu 862 (1745 * k + c) ∧ nu 862 (1745 * k + c) ≤ ((avRT.get 77).2.2.get c.toNat).2.2) → (∀ c : Int, ¬ (1745 * k ≤ c ∧ c < 1745 * k + 1745) → nu 862 c = ku 862 c) → haW x nu 17 [haR 51 860, haI (k), haI (i)] [] := by
    intro nn
    induction nn with
    | zero =>
      intro i nu hn h0 f1 f2 f3
      refine ha_s (pc' := 18) (ls' := [haR 51 860, haI (k), haI (i)]) (st' := [haI (i)]) hF (haEt hT (e := (9, 17, 0, 2, 0, [])) (k := 175) (pc := 17) (by decide) (by decide +kernel) rfl) rfl (fun RG => avS9) (fun nx => rfl) ?_
      refine ha_s (pc' := 21) (ls' := [haR 51 860, haI (k), haI (i)]) (st' := [haI (1745), haI (i)]) hF (haEt hT (e := (3, 18, 0, 0, 9223372036854777553, [])) (k := 175) (pc := 18) (by decide) (by decide +kernel) rfl) rfl (fun RG => avS3) (fun nx => rfl) ?_
      refine ha_icge hF (haEt hT (e := (55, 21, 48, 0, 0, [])) (k := 175) (pc := 21) (by decide) (by decide +kernel) rfl) rfl rfl rfl (fun _ => ?_) (fun q => by omega)
      refine ha_s (pc' := 49) (ls' := [haR 51 860, haI (k), haI (i)]) (st' := [haR 51 860]) hF (haEt hT (e := (13, 48, 0, 0, 0, [])) (k := 175) (pc := 48) (by decide) (by decide +kernel) rfl) rfl (fun RG => avS13) (fun nx => rfl) ?_
      refine ha_getR (r := 51) (j := 860) (i := 3) (r' := 57) (j' := 863) hF (haEt hT (e := (60, 49, 12, 3, 20, [1346])) (k := 175) (pc := 49) (by decide) (by decide +kernel) rfl) rfl rfl rfl (by decide +kernel) (by decide) (by decide +kernel) (by rfl) ?_
      refine ha_s (pc' := 53) (ls' := [haR 51 860, haI (k), haI (i)]) (st' := [haI (k), haR 57 863]) hF (haEt hT (e := (9, 52, 0, 1, 0, [])) (k := 175) (pc := 52) (by decide) (by decide +kernel) rfl) rfl (fun RG => avS9) (fun nx => rfl) ?_
      refine ha_s (pc' := 54) (ls' := [haR 51 860, haI (k), haI (i)]) (st' := [haI (1), haI (k), haR 57 863]) hF (haEt hT (e := (1, 53, 0, 0, 9223372036854775809, [])) (k := 175) (pc := 53) (by decide) (by decide +kernel) rfl) rfl (fun RG => avS1) (fun nx => rfl) ?_
      refine ha_bast (r := 57) hF (haEt hT (e := (70, 54, 0, 0, 0, [])) (k := 175) (pc := 54) (by decide) (by decide +kernel) rfl) rfl rfl (by decide +kernel) (by omega) (by show _ < (3 : Int); omega) (lo := 0) (up := 1) (by rfl) (by omega) (by omega) ⟨by omega, by omega⟩ ?_
      refine ha_s (pc' := 56) (ls' := [haR 51 860, haI (k), haI (i)]) (st' := [haI (0)]) hF (haEt hT (e := (1, 55, 0, 0, 9223372036854775808, [])) (k := 175) (pc := 55) (by decide) (by decide +kernel) rfl) rfl (fun RG => avS1) (fun nx => rfl) ?_
      refine hR 56 _ _ _ _ (83, 56, 0, 0, 0, []) (haEt hT (e := (83, 56, 0, 0, 0, [])) (k := 175) (pc := 56) (by decide) (by decide +kernel) rfl) rfl (Or.inr (Or.inr ⟨rfl, _, rfl, rfl, rfl, fun h => by cases h⟩)) ?_
      refine ⟨0, rfl, Or.inr ⟨hk, rfl, fun j i' a1 a2 => ?_, fun c c0 c1 => ?_, fun c c0 c1 => ?_, fun c hc => ?_, haUp_s, fun c hc => ?_⟩⟩
      · rw [haUp_n (fun z => a2 z.1)]
        exact f1 j i' a1
      · rw [haUp_n (fun z => absurd z.1 (by decide))]
        exact (f2 c c0 (by omega)).1
      · rw [haUp_n (fun z => absurd z.1 (by decide))]
        exact (f2 c c0 (by omega)).2
      · rw [haUp_n (fun z => absurd z.1 (by decide))]
        exact f3 c hc
      · rw [haUp_n (fun z => hc z.2)]
        exact f1 863 c (by decide)
    | succ nn ih =>
      intro i nu hn h0 f1 f2 f3
      refine ha_s (pc' := 18) (ls' := [haR 51 860, haI (k), haI (i)]) (st' := [haI (i)]) hF (haEt hT (e := (9, 17, 0, 2, 0, [])) (k := 175) (pc := 17) (by decide) (by decide +kernel) rfl) rfl (fun RG => avS9) (fun nx => rfl) ?_
      refine ha_s (pc' := 21) (ls' := [haR 51 860, haI (k), haI (i)]) (st' := [haI (1745), haI (i)]) hF (haEt hT (e := (3, 18, 0, 0, 9223372036854777553, [])) (k := 175) (pc := 18) (by decide) (by decide +kernel) rfl) rfl (fun RG => avS3) (fun nx => rfl) ?_
      refine ha_icge hF (haEt hT (e := (55, 21, 48, 0, 0, [])) (k := 175) (pc := 21) (by decide) (by decide +kernel) rfl) rfl rfl rfl (fun q => by omega) (fun q => ?_)
      refine ha_bd (j := 861) (r := 77) hF (by decide) (by decide +kernel) (Or.inl (by decide +kernel)) h0 (by show _ < (1745 : Int); omega) (haWv ⟨h0, q⟩) (fun w1 w2 => ?_)
      have v1 : -2147483648 ≤ nu 861 i := Int.le_trans (haWv0 i.toNat (by omega)).2.1 w1
      have v2 : nu 861 i ≤ 2147483647 := Int.le_trans w2 (haWv0 i.toNat (by omega)).2.2
      refine ha_s (pc' := 25) (ls' := [haR 51 860, haI (k), haI (i)]) (st' := [haR 51 860]) hF (haEt hT (e := (13, 24, 0, 0, 0, [])) (k := 175) (pc := 24) (by decide) (by decide +kernel) rfl) rfl (fun RG => avS13) (fun nx => rfl) ?_
      refine ha_getR (r := 51) (j := 860) (i := 2) (r' := 60) (j' := 862) hF (haEt hT (e := (60, 25, 12, 2, 17, [1345])) (k := 175) (pc := 25) (by decide) (by decide +kernel) rfl) rfl rfl rfl (by decide +kernel) (by decide) (by decide +kernel) (by rfl) ?_
      refine ha_s (pc' := 31) (ls' := [haR 51 860, haI (k), haI (i)]) (st' := [haI (1745), haR 60 862]) hF (haEt hT (e := (3, 28, 0, 0, 9223372036854777553, [])) (k := 175) (pc := 28) (by decide) (by decide +kernel) rfl) rfl (fun RG => avS3) (fun nx => rfl) ?_
      refine ha_s (pc' := 32) (ls' := [haR 51 860, haI (k), haI (i)]) (st' := [haI (k), haI (1745), haR 60 862]) hF (haEt hT (e := (9, 31, 0, 1, 0, [])) (k := 175) (pc := 31) (by decide) (by decide +kernel) rfl) rfl (fun RG => avS9) (fun nx => rfl) ?_
      refine ha_imul hF (haEt hT (e := (23, 32, 0, 0, 0, [])) (k := 175) (pc := 32) (by decide) (by decide +kernel) rfl) rfl rfl (by omega) (by omega) ?_
      refine ha_s (pc' := 34) (ls' := [haR 51 860, haI (k), haI (i)]) (st' := [haI (i), haI ((k) * (1745)), haR 60 862]) hF (haEt hT (e := (9, 33, 0, 2, 0, [])) (k := 175) (pc := 33) (by decide) (by decide +kernel) rfl) rfl (fun RG => avS9) (fun nx => rfl) ?_
      refine ha_iadd hF (haEt hT (e := (21, 34, 0, 0, 0, [])) (k := 175) (pc := 34) (by decide) (by decide +kernel) rfl) rfl rfl (by omega) (by omega) ?_
      refine ha_s (pc' := 36) (ls' := [haR 51 860, haI (k), haI (i)]) (st' := [haR 51 860, haI ((k) * (1745) + (i)), haR 60 862]) hF (haEt hT (e := (13, 35, 0, 0, 0, [])) (k := 175) (pc := 35) (by decide) (by decide +kernel) rfl) rfl (fun RG => avS13) (fun nx => rfl) ?_
      refine ha_getR (r := 51) (j := 860) (i := 1) (r' := 77) (j' := 861) hF (haEt hT (e := (60, 36, 12, 1, 13, [1344])) (k := 175) (pc := 36) (by decide) (by decide +kernel) rfl) rfl rfl rfl (by decide +kernel) (by decide) (by decide +kernel) (by rfl) ?_
      refine ha_s (pc' := 40) (ls' := [haR 51 860, haI (k), haI (i)]) (st' := [haI (i), haR 77 861, haI ((k) * (1745) + (i)), haR 60 862]) hF (haEt hT (e := (9, 39, 0, 2, 0, [])) (k := 175) (pc := 39) (by decide) (by decide +kernel) rfl) rfl (fun RG => avS9) (fun nx => rfl) ?_
      refine ha_iald (r := 77) hF (haEt hT (e := (64, 40, 0, 0, 0, [])) (k := 175) (pc := 40) (by decide) (by decide +kernel) rfl) rfl rfl (by decide +kernel) (by omega) (by show _ < (1745 : Int); omega) ?_
      refine ha_iast (r := 60) hF (haEt hT (e := (69, 41, 0, 0, 0, [])) (k := 175) (pc := 41) (by decide) (by decide +kernel) rfl) rfl rfl (by decide +kernel) (by omega) (by show _ < (5235 : Int); omega) (lo := -2147483648) (up := 2147483647) (by rfl) v1 v2 ?_
      refine ha_iinc (i := 2) (c := 1) hF (haEt hT (e := (20, 42, 0, 2, 9223372036854775809, [])) (k := 175) (pc := 42) (by decide) (by decide +kernel) rfl) rfl rfl rfl rfl rfl (by omega) (by omega) ?_
      show haW _ _ 45 [haR 51 860, haI (k), haI (i + 1)] []
      refine ha_s (pc' := 17) (ls' := [haR 51 860, haI (k), haI (i + 1)]) (st' := []) hF (haEt hT (e := (58, 45, 17, 0, 0, [])) (k := 175) (pc := 45) (by decide) (by decide +kernel) rfl) rfl (fun RG => avS58) (fun nx => rfl) ?_
      have e1 : 1745 * k + i = (k) * (1745) + (i) := by omega
      refine ih (i + 1) _ (by omega) (by omega) (fun j c hj => ?_) (fun c c0 c1 => ?_) (fun c hc => ?_)
      · rw [haUp_n (fun z => hj z.1)]
        exact f1 j c hj
      · by_cases hc : c = i
        · rw [hc, e1, haUp_s]
          exact ⟨f1 861 i (by decide), w1, w2⟩
        · rw [haUp_n (fun z => by omega)]
          exact f2 c c0 (by omega)
      · rw [haUp_n (fun z => by omega)]
        exact f3 c hc
  refine ha_s (pc' := 16) (ls' := [haR 51 860, haI (k), avJ]) (st' := [haI (0)]) hF (haEt hT (e := (1, 15, 0, 0, 9223372036854775808, [])) (k := 175) (pc := 15) (by decide) (by decide +kernel) rfl) rfl (fun RG => avS1) (fun nx => rfl) ?_
  refine ha_s (pc' := 17) (ls' := [haR 51 860, haI (k), haI (0)]) (st' := []) hF (haEt hT (e := (15, 16, 0, 2, 0, [])) (k := 175) (pc := 16) (by decide) (by decide +kernel) rfl) rfl (fun RG => avS15) (fun nx => rfl) ?_
  exact loop 1745 0 ku rfl (Int.le_refl 0) (fun _ _ _ => rfl) (fun c c0 c1 => by omega) (fun _ _ => rfl)
theorem hm_back (hT : abTabs) {d : Nat} {k : Int} {mu : haMu} (hB : ∀ k' : Int, 0 ≤ k' → k' ≤ 2 → mu 863 k' = 1 → haBw mu k') : haSp 177 (d + 1) [haR 51 860, haI k] mu (fun o mu' => ∃ z : Int, o = some (haI z) ∧ ((¬ (0 ≤ k ∧ k ≤ 2) ∧ z = -2 ∧ mu' = mu) ∨ ((0 ≤ k ∧ k ≤ 2) ∧ ¬ mu 863 k = 1 ∧ z = -6 ∧ mu' = mu) ∨ ((0 ≤ k ∧ k ≤ 2) ∧ z = 0 ∧ mu 863 k = 1 ∧ (∀ i : Int, 0 ≤ i → i < 1745 → mu' 861 i = mu 862 (1745 * k + i)) ∧ (∀ (j : Nat) (i : Int), ¬ j = 861 → ¬ (j = 860 ∧ i = 32) → mu' j i = mu j i)))) := by
  refine haMet (by decide) (hT.1 177 (by decide)) (haLe5 rfl) (show 2 ≤ (abMe 177).1.2.2.1 from by decide +kernel) (fun x hF hR => ?_)
  refine ha_s (pc' := 1) (ls' := [haR 51 860, haI (k), avJ]) (st' := [haI (k)]) hF (haEt hT (e := (9, 0, 0, 1, 0, [])) (k := 177) (pc := 0) (by decide) (by decide +kernel) rfl) rfl (fun RG => avS9) (fun nx => rfl) ?_
  refine ha_s (pc' := 2) (ls' := [haR 51 860, haI (k), avJ]) (st' := [haL (k)]) hF (haEt hT (e := (40, 1, 0, 0, 0, [])) (k := 177) (pc := 1) (by decide) (by decide +kernel) rfl) rfl (fun RG => avS40) (fun nx => rfl) ?_
  refine ha_s (pc' := 3) (ls' := [haR 51 860, haI (k), avJ]) (st' := [haL (0), haL (k)]) hF (haEt hT (e := (6, 2, 0, 0, 9223372036854775808, [])) (k := 177) (pc := 2) (by decide) (by decide +kernel) rfl) rfl (fun RG => avS6) (fun nx => rfl) ?_
  refine ha_s (pc' := 6) (ls' := [haR 51 860, haI (k), avJ]) (st' := [haL (2), haL (0), haL (k)]) hF (haEt hT (e := (7, 3, 135, 0, 9223372036854775810, [1471])) (k := 177) (pc := 3) (by decide) (by decide +kernel) rfl) rfl (fun RG => avS7) (fun nx => rfl) ?_
  refine ha_callS (q := 176) (d' := d) (as := [haL k, haL 0, haL 2]) (rest := []) hT hF (haEt hT (e := (79, 6, 176, 0, 118, [1472, 1473])) (k := 177) (pc := 6) (by decide) (by decide +kernel) rfl) rfl rfl rfl (by decide +kernel) (hm_in hT) (Nat.le_refl _) rfl (show 3 = (abMe 176).2.1 from by decide +kernel) (show 0 + (abMe 176).1.2.2.1 ≤ 49 from by decide +kernel) (fun o ku h => ?_)
  obtain ⟨y, rfl, rfl, hy⟩ := h
  show haW x _ 9 [haR 51 860, haI (k), avJ] [haI y]
  refine ha_ifne hF (haEt hT (e := (47, 9, 15, 0, 0, [])) (k := 177) (pc := 9) (by decide) (by decide +kernel) rfl) rfl rfl rfl (fun q => ?_) (fun q => ?_)
  rotate_left
  · refine ha_s (pc' := 14) (ls' := [haR 51 860, haI (k), avJ]) (st' := [haI (-2)]) hF (haEt hT (e := (2, 12, 0, 0, 9223372036854775806, [])) (k := 177) (pc := 12) (by decide) (by decide +kernel) rfl) rfl (fun RG => avS2) (fun nx => rfl) ?_
    exact hR 14 _ _ _ _ (83, 14, 0, 0, 0, []) (haEt hT (e := (83, 14, 0, 0, 0, [])) (k := 177) (pc := 14) (by decide) (by decide +kernel) rfl) rfl (Or.inr (Or.inr ⟨rfl, _, rfl, rfl, rfl, fun h => by cases h⟩)) ⟨_, rfl, Or.inl ⟨by omega, rfl, rfl⟩⟩
  have hk : 0 ≤ k ∧ k ≤ 2 := by omega
  refine ha_s (pc' := 16) (ls' := [haR 51 860, haI (k), avJ]) (st' := [haR 51 860]) hF (haEt hT (e := (13, 15, 0, 0, 0, [])) (k := 177) (pc := 15) (by decide) (by decide +kernel) rfl) rfl (fun RG => avS13) (fun nx => rfl) ?_
  refine ha_getR (r := 51) (j := 860) (i := 3) (r' := 57) (j' := 863) hF (haEt hT (e := (60, 16, 12, 3, 20, [1346])) (k := 177) (pc := 16) (by decide) (by decide +kernel) rfl) rfl rfl rfl (by decide +kernel) (by decide) (by decide +kernel) (by rfl) ?_
  refine ha_s (pc' := 20) (ls' := [haR 51 860, haI (k), avJ]) (st' := [haI (k), haR 57 863]) hF (haEt hT (e := (9, 19, 0, 1, 0, [])) (k := 177) (pc := 19) (by decide) (by decide +kernel) rfl) rfl (fun RG => avS9) (fun nx => rfl) ?_
  refine ha_bald (r := 57) hF (haEt hT (e := (65, 20, 0, 0, 0, [])) (k := 177) (pc := 20) (by decide) (by decide +kernel) rfl) rfl rfl (by decide +kernel) (by omega) (by show _ < (3 : Int); omega) ?_
  refine ha_ifne hF (haEt hT (e := (47, 21, 27, 0, 0, [])) (k := 177) (pc := 21) (by decide) (by decide +kernel) rfl) rfl rfl rfl (fun q1 => ?_) (fun q1 => ?_)
  rotate_left
  · refine ha_s (pc' := 26) (ls' := [haR 51 860, haI (k), avJ]) (st' := [haI (-6)]) hF (haEt hT (e := (2, 24, 0, 0, 9223372036854775802, [])) (k := 177) (pc := 24) (by decide) (by decide +kernel) rfl) rfl (fun RG => avS2) (fun nx => rfl) ?_
    refine hR 26 _ _ _ _ (83, 26, 0, 0, 0, []) (haEt hT (e := (83, 26, 0, 0, 0, [])) (k := 177) (pc := 26) (by decide) (by decide +kernel) rfl) rfl (Or.inr (Or.inr ⟨rfl, _, rfl, rfl, rfl, fun h => by cases h⟩)) ?_
    exact ⟨_, rfl, Or.inr (Or.inl ⟨hk, by omega, rfl, rfl⟩)⟩
  refine ha_bd (j := 863) (r := 57) (i := k) (lo := 0) (up := 1) hF (by decide) (by decide +kernel) (Or.inr (by decide +kernel)) hk.1 (by show _ < (3 : Int); omega) (by rfl) (fun u1 u2 => ?_)
  have hk1 : ku 863 k = 1 := by omega
  have hBk := hB k hk.1 hk.2 hk1
  have loop : ∀ (nn : Nat) (i : Int) (nu : haMu), (nn : Int) = 1745 - i → 0 ≤ i → (∀ (j : Nat) (q : Int), ¬ j = 861 → nu j q = ku j q) → (∀ c : Int, 0 ≤ c → c < i → nu 861 c = ku 862 (1745 * k + c)) → haW x nu 29 [haR 51 860, haI (k), haI (i)] [] := by
    intro nn
    induction nn with
    | zero =>
      intro i nu hn h0 f1 f2
      refine ha_s (pc' := 30) (ls' := [haR 51 860, haI (k), haI (i)]) (st' := [haI (i)]) hF (haEt hT (e := (9, 29, 0, 2, 0, [])) (k := 177) (pc := 29) (by decide) (by decide +kernel) rfl) rfl (fun RG => avS9) (fun nx => rfl) ?_
      refine ha_s (pc' := 33) (ls' := [haR 51 860, haI (k), haI (i)]) (st' := [haI (1745), haI (i)]) hF (haEt hT (e := (3, 30, 0, 0, 9223372036854777553, [])) (k := 177) (pc := 30) (by decide) (by decide +kernel) rfl) rfl (fun RG => avS3) (fun nx => rfl) ?_
      refine ha_icge hF (haEt hT (e := (55, 33, 60, 0, 0, [])) (k := 177) (pc := 33) (by decide) (by decide +kernel) rfl) rfl rfl rfl (fun _ => ?_) (fun q => by omega)
      refine ha_s (pc' := 61) (ls' := [haR 51 860, haI (k), haI (i)]) (st' := [haR 51 860]) hF (haEt hT (e := (13, 60, 0, 0, 0, [])) (k := 177) (pc := 60) (by decide) (by decide +kernel) rfl) rfl (fun RG => avS13) (fun nx => rfl) ?_
      refine ha_s (pc' := 62) (ls' := [haR 51 860, haI (k), haI (i)]) (st' := [haI (0), haR 51 860]) hF (haEt hT (e := (1, 61, 0, 0, 9223372036854775808, [])) (k := 177) (pc := 61) (by decide) (by decide +kernel) rfl) rfl (fun RG => avS1) (fun nx => rfl) ?_
      refine ha_putZ (r := 51) (j := 860) (i := 32) (lo := 0) (up := 1) hF (haEt hT (e := (62, 62, 12, 32, 137, [1375])) (k := 177) (pc := 62) (by decide) (by decide +kernel) rfl) rfl rfl rfl (by decide +kernel) (by decide +kernel) (fun q hq => by cases hq; rfl) (by rfl) (by omega) (by omega) ⟨by omega, by omega⟩ ?_
      refine ha_s (pc' := 66) (ls' := [haR 51 860, haI (k), haI (i)]) (st' := [haI (0)]) hF (haEt hT (e := (1, 65, 0, 0, 9223372036854775808, [])) (k := 177) (pc := 65) (by decide) (by decide +kernel) rfl) rfl (fun RG => avS1) (fun nx => rfl) ?_
      refine hR 66 _ _ _ _ (83, 66, 0, 0, 0, []) (haEt hT (e := (83, 66, 0, 0, 0, [])) (k := 177) (pc := 66) (by decide) (by decide +kernel) rfl) rfl (Or.inr (Or.inr ⟨rfl, _, rfl, rfl, rfl, fun h => by cases h⟩)) ?_
      refine ⟨0, rfl, Or.inr (Or.inr ⟨hk, rfl, hk1, fun c c0 c1 => ?_, fun j i' a1 a2 => ?_⟩)⟩
      · rw [haUp_n (fun z => absurd z.1 (by decide))]
        exact f2 c c0 (by omega)
      · refine (haUp_n (fun z => a2 ⟨z.1, z.2⟩)).trans ?_
        exact f1 j i' a1
    | succ nn ih =>
      intro i nu hn h0 f1 f2
      refine ha_s (pc' := 30) (ls' := [haR 51 860, haI (k), haI (i)]) (st' := [haI (i)]) hF (haEt hT (e := (9, 29, 0, 2, 0, [])) (k := 177) (pc := 29) (by decide) (by decide +kernel) rfl) rfl (fun RG => avS9) (fun nx => rfl) ?_
      refine ha_s (pc' := 33) (ls' := [haR 51 860, haI (k), haI (i)]) (st' := [haI (1745), haI (i)]) hF (haEt hT (e := (3, 30, 0, 0, 9223372036854777553, [])) (k := 177) (pc := 30) (by decide) (by decide +kernel) rfl) rfl (fun RG => avS3) (fun nx => rfl) ?_
      refine ha_icge hF (haEt hT (e := (55, 33, 60, 0, 0, [])) (k := 177) (pc := 33) (by decide) (by decide +kernel) rfl) rfl rfl rfl (fun q => by omega) (fun q => ?_)
      refine ha_s (pc' := 37) (ls' := [haR 51 860, haI (k), haI (i)]) (st' := [haR 51 860]) hF (haEt hT (e := (13, 36, 0, 0, 0, [])) (k := 177) (pc := 36) (by decide) (by decide +kernel) rfl) rfl (fun RG => avS13) (fun nx => rfl) ?_
      refine ha_getR (r := 51) (j := 860) (i := 1) (r' := 77) (j' := 861) hF (haEt hT (e := (60, 37, 12, 1, 13, [1344])) (k := 177) (pc := 37) (by decide) (by decide +kernel) rfl) rfl rfl rfl (by decide +kernel) (by decide) (by decide +kernel) (by rfl) ?_
      refine ha_s (pc' := 41) (ls' := [haR 51 860, haI (k), haI (i)]) (st' := [haI (i), haR 77 861]) hF (haEt hT (e := (9, 40, 0, 2, 0, [])) (k := 177) (pc := 40) (by decide) (by decide +kernel) rfl) rfl (fun RG => avS9) (fun nx => rfl) ?_
      refine ha_s (pc' := 42) (ls' := [haR 51 860, haI (k), haI (i)]) (st' := [haR 51 860, haI (i), haR 77 861]) hF (haEt hT (e := (13, 41, 0, 0, 0, [])) (k := 177) (pc := 41) (by decide) (by decide +kernel) rfl) rfl (fun RG => avS13) (fun nx => rfl) ?_
      refine ha_getR (r := 51) (j := 860) (i := 2) (r' := 60) (j' := 862) hF (haEt hT (e := (60, 42, 12, 2, 17, [1345])) (k := 177) (pc := 42) (by decide) (by decide +kernel) rfl) rfl rfl rfl (by decide +kernel) (by decide) (by decide +kernel) (by rfl) ?_
      refine ha_s (pc' := 48) (ls' := [haR 51 860, haI (k), haI (i)]) (st' := [haI (1745), haR 60 862, haI (i), haR 77 861]) hF (haEt hT (e := (3, 45, 0, 0, 9223372036854777553, [])) (k := 177) (pc := 45) (by decide) (by decide +kernel) rfl) rfl (fun RG => avS3) (fun nx => rfl) ?_
      refine ha_s (pc' := 49) (ls' := [haR 51 860, haI (k), haI (i)]) (st' := [haI (k), haI (1745), haR 60 862, haI (i), haR 77 861]) hF (haEt hT (e := (9, 48, 0, 1, 0, [])) (k := 177) (pc := 48) (by decide) (by decide +kernel) rfl) rfl (fun RG => avS9) (fun nx => rfl) ?_
      refine ha_imul hF (haEt hT (e := (23, 49, 0, 0, 0, [])) (k := 177) (pc := 49) (by decide) (by decide +kernel) rfl) rfl rfl (by omega) (by omega) ?_
      refine ha_s (pc' := 51) (ls' := [haR 51 860, haI (k), haI (i)]) (st' := [haI (i), haI ((k) * (1745)), haR 60 862, haI (i), haR 77 861]) hF (haEt hT (e := (9, 50, 0, 2, 0, [])) (k := 177) (pc := 50) (by decide) (by decide +kernel) rfl) rfl (fun RG => avS9) (fun nx => rfl) ?_
      refine ha_iadd hF (haEt hT (e := (21, 51, 0, 0, 0, [])) (k := 177) (pc := 51) (by decide) (by decide +kernel) rfl) rfl rfl (by omega) (by omega) ?_
      refine ha_iald (r := 60) hF (haEt hT (e := (64, 52, 0, 0, 0, [])) (k := 177) (pc := 52) (by decide) (by decide +kernel) rfl) rfl rfl (by decide +kernel) (by omega) (by show _ < (5235 : Int); omega) ?_
      have e1 : (k) * (1745) + (i) = 1745 * k + i := by omega
      have e2 : nu 862 ((k) * (1745) + (i)) = ku 862 (1745 * k + i) := by rw [e1]; exact f1 862 _ (by decide)
      rw [e2]
      refine ha_iast (r := 77) hF (haEt hT (e := (69, 53, 0, 0, 0, [])) (k := 177) (pc := 53) (by decide) (by decide +kernel) rfl) rfl rfl (by decide +kernel) (by omega) (by show _ < (1745 : Int); omega) (haWv ⟨h0, q⟩) (hBk i h0 q).1 (hBk i h0 q).2 ?_
      refine ha_iinc (i := 2) (c := 1) hF (haEt hT (e := (20, 54, 0, 2, 9223372036854775809, [])) (k := 177) (pc := 54) (by decide) (by decide +kernel) rfl) rfl rfl rfl rfl rfl (by omega) (by omega) ?_
      show haW _ _ 57 [haR 51 860, haI (k), haI (i + 1)] []
      refine ha_s (pc' := 29) (ls' := [haR 51 860, haI (k), haI (i + 1)]) (st' := []) hF (haEt hT (e := (58, 57, 29, 0, 0, [])) (k := 177) (pc := 57) (by decide) (by decide +kernel) rfl) rfl (fun RG => avS58) (fun nx => rfl) ?_
      refine ih (i + 1) _ (by omega) (by omega) (fun j c hj => ?_) (fun c c0 c1 => ?_)
      · rw [haUp_n (fun z => hj z.1)]
        exact f1 j c hj
      · by_cases hc : c = i
        · rw [hc, haUp_s]
        · rw [haUp_n (fun z => hc z.2)]
          exact f2 c c0 (by omega)
  refine ha_s (pc' := 28) (ls' := [haR 51 860, haI (k), avJ]) (st' := [haI (0)]) hF (haEt hT (e := (1, 27, 0, 0, 9223372036854775808, [])) (k := 177) (pc := 27) (by decide) (by decide +kernel) rfl) rfl (fun RG => avS1) (fun nx => rfl) ?_
  refine ha_s (pc' := 29) (ls' := [haR 51 860, haI (k), haI (0)]) (st' := []) hF (haEt hT (e := (15, 28, 0, 2, 0, [])) (k := 177) (pc := 28) (by decide) (by decide +kernel) rfl) rfl (fun RG => avS15) (fun nx => rfl) ?_
  exact loop 1745 0 ku rfl (Int.le_refl 0) (fun _ _ _ => rfl) (fun c c0 c1 => by omega)
