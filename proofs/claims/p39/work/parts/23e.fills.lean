/-! TallBinsModel isSlot, fills -/
section HAR
variable {x : haCx} {mu : haMu} {k d pc pc' : Nat} {ls st ls' st' : List avV} {e : abEy} {F : avPo}
theorem ha_lald {r j : Nat} {i : Int} (hF : haF x k d) (hE : abEtOk k e) (hpc : e.2.1 = pc) (ho : e.1 = 66) (hr : (avRT.get r).1 = 101) (h0 : 0 ≤ i) (hn : i < ((avRT.get r).2.1 : Int)) (h : haW x mu (pc + 1) ls (haL (mu j i) :: st)) : haW x mu pc ls (haI i :: haR r j :: st) := by
  refine ha_op1 (F := avOal avRT avCLt (fun n => Nat.beq n 101)) (kk := (r, ([], (j : Int)), ([], i), haL (mu j i))) hF hE hpc (fun RG => by rw [ho]; exact avS66 avCl_ok) ?_ (fun nx hn' => ?_)
  · obtain ⟨D, z, sb, RG, w0, p, l, ev, R, s, m, args, below, meth, c, cc, cs, Q⟩ := x
    intro rh H locs ws xs hH hS
    obtain ⟨x0, xr, rfl, gz, x1, xr', rfl, gv, hS'⟩ := hS
    obtain ⟨a, en, hj, -, er⟩ := haRf gv
    obtain ⟨⟨tys, hK, hC, hlen⟩, -⟩ := id hH
    have hcell := hC j (List.getElem?_eq_some_iff.mp hj).1
    rw [er] at hcell
    obtain ⟨a', cA, f, t0, e1, e2, e3, e4⟩ := hcell.2.2.1 hr
    rw [hj] at e1
    cases e1
    have hlt : i.toNat < (avRT.get r).2.1 := by clear hlen hcell hC; omega
    exact haKnL hH hj h0 (y := f i.toNat) (if_pos hlt) er
  · show abIf (Nat.beq (avRT.get r).1 101) (avIx1 _ ([], i) (avRT.get r).2.1 (avFind r ([], (j : Int)) ([], i) (fun v => nx (pc + 1) ls (v :: st) _) _ [(r, ([], (j : Int)), ([], i), haL (mu j i))])) false = true
    rw [hr, haIx h0 hn, haFind]
    exact hn' _ _ _ h
end HAR
theorem hm_isSlot (hT : abTabs) {d : Nat} {s : Int} {mu : haMu} : haSp 206 (d + 1) [haI s] mu (fun o mu' => ∃ z : Int, o = some (haI z) ∧ mu' = mu ∧ ((z = 1 ∧ 0 ≤ s ∧ s ≤ 3) ∨ z = 0)) := by
  refine haMet (by decide) (hT.1 206 (by decide)) (haLe5 rfl) (show 1 ≤ (abMe 206).1.2.2.1 from by decide +kernel) (fun x hF hR => ?_)
  refine ha_s (pc' := 1) (ls' := [haI (s)]) (st' := [haI (s)]) hF (haEt hT (e := (9, 0, 0, 0, 0, [])) (k := 206) (pc := 0) (by decide) (by decide +kernel) rfl) rfl (fun RG => avS9) (fun nx => rfl) ?_
  refine ha_s (pc' := 2) (ls' := [haI (s)]) (st' := [haL (s)]) hF (haEt hT (e := (40, 1, 0, 0, 0, [])) (k := 206) (pc := 1) (by decide) (by decide +kernel) rfl) rfl (fun RG => avS40) (fun nx => rfl) ?_
  refine ha_s (pc' := 3) (ls' := [haI (s)]) (st' := [haL (0), haL (s)]) hF (haEt hT (e := (6, 2, 0, 0, 9223372036854775808, [])) (k := 206) (pc := 2) (by decide) (by decide +kernel) rfl) rfl (fun RG => avS6) (fun nx => rfl) ?_
  refine ha_s (pc' := 6) (ls' := [haI (s)]) (st' := [haL (3), haL (0), haL (s)]) hF (haEt hT (e := (7, 3, 230, 0, 9223372036854775811, [1563])) (k := 206) (pc := 3) (by decide) (by decide +kernel) rfl) rfl (fun RG => avS7) (fun nx => rfl) ?_
  refine ha_callS (q := 176) (d' := d) (as := [haL s, haL 0, haL 3]) (rest := []) hT hF (haEt hT (e := (79, 6, 176, 0, 118, [1472, 1473])) (k := 206) (pc := 6) (by decide) (by decide +kernel) rfl) rfl rfl rfl (by decide +kernel) (hm_in hT) (by omega) rfl (show 3 = (abMe 176).2.1 from by decide +kernel) (show 0 + (abMe 176).1.2.2.1 ≤ 49 from by decide +kernel) (fun o ku h => ?_)
  obtain ⟨y, rfl, rfl, hy⟩ := h
  show haW x _ 9 [haI (s)] [haI y]
  exact hR 9 _ _ _ _ (83, 9, 1, 0, 0, []) (haEt hT (e := (83, 9, 1, 0, 0, [])) (k := 206) (pc := 9) (by decide) (by decide +kernel) rfl) rfl (Or.inr (Or.inr ⟨rfl, _, rfl, rfl, rfl, fun _ => ⟨haGe (by omega), haGe (s := haS0) (z := 1 - y) (by omega)⟩⟩)) ⟨_, rfl, rfl, by omega⟩
theorem hm_fills (hT : abTabs) {d : Nat} {b s : Int} {mu : haMu} (hW : haWd mu) (hF0 : 0 ≤ mu 861 1504 ∧ mu 861 1504 ≤ 999900) :
    haSp 205 (d + 4) [haR 51 860, haI b, haI s] mu (fun o mu' => (∃ z : Int, o = some (haI z) ∧ -6 ≤ z ∧ z ≤ 12) ∧ haWd mu' ∧ (mu 861 1504 ≤ mu' 861 1504 ∧ mu' 861 1504 ≤ mu 861 1504 + 12) ∧ ∀ (j : Nat) (i : Int), haGd j i → ¬ j = 861 → ¬ j = 860 → mu' j i = mu j i) := by
  refine haMet (by decide) (hT.1 205 (by decide)) (haLe5 rfl) (show 3 ≤ (abMe 205).1.2.2.1 from by decide +kernel) (fun x hF hR => ?_)
  have no : ∀ nu : haMu, nu = mu → haW x nu 15 [haR 51 860, haI (b), haI (s), avJ, avJ, avJ, avJ] [] := by
    intro nu hnu
    subst hnu
    refine ha_s (pc' := 17) (ls' := [haR 51 860, haI (b), haI (s), avJ, avJ, avJ, avJ]) (st' := [haI (-2)]) hF (haEt hT (e := (2, 15, 0, 0, 9223372036854775806, [])) (k := 205) (pc := 15) (by decide) (by decide +kernel) rfl) rfl (fun RG => avS2) (fun nx => rfl) ?_
    exact hR 17 _ _ _ _ (83, 17, 0, 0, 0, []) (haEt hT (e := (83, 17, 0, 0, 0, [])) (k := 205) (pc := 17) (by decide) (by decide +kernel) rfl) rfl (Or.inr (Or.inr ⟨rfl, _, rfl, rfl, rfl, fun h => by cases h⟩)) ⟨⟨_, rfl, by omega, by omega⟩, hW, ⟨by omega, by omega⟩, fun _ _ _ _ _ => rfl⟩
  have ret : ∀ (n : Int) (nu : haMu) (v4 v5 v6 : avV), 0 ≤ n → n ≤ 12 → haWd nu → (mu 861 1504 ≤ nu 861 1504 ∧ nu 861 1504 ≤ mu 861 1504 + 12) → (∀ (j : Nat) (i : Int), haGd j i → ¬ j = 861 → ¬ j = 860 → nu j i = mu j i) →  (haW x nu 170 [haR 51 860, haI (b), haI (s), haI (n), v4, v5, v6] [] ∧ haW x nu 181 [haR 51 860, haI (b), haI (s), haI (n), v4, v5, v6] []) := by
    intro n nu v4 v5 v6 n0 n1 f1 f2 f3
    constructor
    · refine ha_s (pc' := 171) (ls' := [haR 51 860, haI (b), haI (s), haI (n), v4, v5, v6]) (st' := [haI (n)]) hF (haEt hT (e := (9, 170, 0, 3, 0, [])) (k := 205) (pc := 170) (by decide) (by decide +kernel) rfl) rfl (fun RG => avS9) (fun nx => rfl) ?_
      exact hR 171 _ _ _ _ (83, 171, 0, 0, 0, []) (haEt hT (e := (83, 171, 0, 0, 0, [])) (k := 205) (pc := 171) (by decide) (by decide +kernel) rfl) rfl (Or.inr (Or.inr ⟨rfl, _, rfl, rfl, rfl, fun h => by cases h⟩)) ⟨⟨_, rfl, by omega, by omega⟩, f1, ⟨f2.1, by omega⟩, f3⟩
    · refine ha_s (pc' := 182) (ls' := [haR 51 860, haI (b), haI (s), haI (n), v4, v5, v6]) (st' := [haI (n)]) hF (haEt hT (e := (9, 181, 0, 3, 0, [])) (k := 205) (pc := 181) (by decide) (by decide +kernel) rfl) rfl (fun RG => avS9) (fun nx => rfl) ?_
      exact hR 182 _ _ _ _ (83, 182, 0, 0, 0, []) (haEt hT (e := (83, 182, 0, 0, 0, [])) (k := 205) (pc := 182) (by decide) (by decide +kernel) rfl) rfl (Or.inr (Or.inr ⟨rfl, _, rfl, rfl, rfl, fun h => by cases h⟩)) ⟨⟨_, rfl, by omega, by omega⟩, f1, ⟨f2.1, by omega⟩, f3⟩
  refine ha_s (pc' := 1) (ls' := [haR 51 860, haI (b), haI (s), avJ, avJ, avJ, avJ]) (st' := [haR 51 860]) hF (haEt hT (e := (13, 0, 0, 0, 0, [])) (k := 205) (pc := 0) (by decide) (by decide +kernel) rfl) rfl (fun RG => avS13) (fun nx => rfl) ?_
  refine ha_s (pc' := 2) (ls' := [haR 51 860, haI (b), haI (s), avJ, avJ, avJ, avJ]) (st' := [haI (b), haR 51 860]) hF (haEt hT (e := (9, 1, 0, 1, 0, [])) (k := 205) (pc := 1) (by decide) (by decide +kernel) rfl) rfl (fun RG => avS9) (fun nx => rfl) ?_
  refine ha_callV (q := 202) (d' := d + 1) (r := 51) (j := 860) (as := [haI b]) (rest := []) hT hF (haEt hT (e := (78, 2, 202, 0, 122, [1606, 1608, 52])) (k := 205) (pc := 2) (by decide) (by decide +kernel) rfl) rfl rfl rfl (by decide +kernel) (by decide +kernel) (hm_isBin hT) (by omega) rfl (show 1 = (abMe 202).2.1 from by decide +kernel) (show 0 + (abMe 202).1.2.2.1 ≤ 49 from by decide +kernel) (fun o ku h => ?_)
  obtain ⟨y0, rfl, rfl, hy0⟩ := h
  show haW x _ 5 [haR 51 860, haI (b), haI (s), avJ, avJ, avJ, avJ] [haI y0]
  refine ha_ifeq hF (haEt hT (e := (46, 5, 15, 0, 0, [])) (k := 205) (pc := 5) (by decide) (by decide +kernel) rfl) rfl rfl rfl (fun _ => no _ rfl) (fun q0 => ?_)
  refine ha_s (pc' := 9) (ls' := [haR 51 860, haI (b), haI (s), avJ, avJ, avJ, avJ]) (st' := [haI (s)]) hF (haEt hT (e := (9, 8, 0, 2, 0, [])) (k := 205) (pc := 8) (by decide) (by decide +kernel) rfl) rfl (fun RG => avS9) (fun nx => rfl) ?_
  refine ha_callS (q := 206) (d' := d + 1) (as := [haI s]) (rest := []) hT hF (haEt hT (e := (79, 9, 206, 0, 307, [1629, 1630])) (k := 205) (pc := 9) (by decide) (by decide +kernel) rfl) rfl rfl rfl (by decide +kernel) (hm_isSlot hT) (by omega) rfl (show 1 = (abMe 206).2.1 from by decide +kernel) (show 0 + (abMe 206).1.2.2.1 ≤ 49 from by decide +kernel) (fun o mu h => ?_)
  obtain ⟨y1, rfl, rfl, hy1⟩ := h
  show haW x mu 12 [haR 51 860, haI (b), haI (s), avJ, avJ, avJ, avJ] [haI y1]
  refine ha_ifne hF (haEt hT (e := (47, 12, 18, 0, 0, [])) (k := 205) (pc := 12) (by decide) (by decide +kernel) rfl) rfl rfl rfl (fun q1 => ?_) (fun _ => no _ rfl)
  have hs : 0 ≤ s ∧ s ≤ 3 := by omega
  clear hy0 hy1 q0 q1
  have loop : ∀ (nn : Nat) (n : Int) (nu : haMu) (v5 v6 : avV), (nn : Int) = 12 - n → 0 ≤ n → haWd nu → (mu 861 1504 ≤ nu 861 1504 ∧ nu 861 1504 ≤ mu 861 1504 + n) → (∀ (j : Nat) (i : Int), haGd j i → ¬ j = 861 → ¬ j = 860 → nu j i = mu j i) →  haW x nu 39 [haR 51 860, haI (b), haI (s), haI (n), haI (60 * s + 5 * n), v5, v6] [] := by
    intro nn
    induction nn with
    | zero =>
      intro n nu v5 v6 hn h0 f1 f2 f3
      refine ha_bd (j := 883) (r := 63) (i := s) (lo := -1) (up := 60) hF (by decide) (by decide +kernel) (Or.inl (by decide +kernel)) hs.1 (by show _ < (4 : Int); omega) (by rfl) (fun u1 u2 => ?_)
      refine ha_s (pc' := 41) (ls' := [haR 51 860, haI (b), haI (s), haI (n), haI (60 * s + 5 * n), v5, v6]) (st' := [haI (60 * s + 5 * n)]) hF (haEt hT (e := (8, 39, 0, 4, 0, [])) (k := 205) (pc := 39) (by decide) (by decide +kernel) rfl) rfl (fun RG => avS8) (fun nx => rfl) ?_
      refine ha_s (pc' := 42) (ls' := [haR 51 860, haI (b), haI (s), haI (n), haI (60 * s + 5 * n), v5, v6]) (st' := [haI (5), haI (60 * s + 5 * n)]) hF (haEt hT (e := (1, 41, 0, 0, 9223372036854775813, [])) (k := 205) (pc := 41) (by decide) (by decide +kernel) rfl) rfl (fun RG => avS1) (fun nx => rfl) ?_
      refine ha_iadd hF (haEt hT (e := (21, 42, 0, 0, 0, [])) (k := 205) (pc := 42) (by decide) (by decide +kernel) rfl) rfl rfl (by omega) (by omega) ?_
      refine ha_s (pc' := 45) (ls' := [haR 51 860, haI (b), haI (s), haI (n), haI (60 * s + 5 * n), v5, v6]) (st' := [haI (60), haI (60 * s + 5 * n + (5))]) hF (haEt hT (e := (2, 43, 0, 0, 9223372036854775868, [])) (k := 205) (pc := 43) (by decide) (by decide +kernel) rfl) rfl (fun RG => avS2) (fun nx => rfl) ?_
      refine ha_s (pc' := 46) (ls' := [haR 51 860, haI (b), haI (s), haI (n), haI (60 * s + 5 * n), v5, v6]) (st' := [haI (s), haI (60), haI (60 * s + 5 * n + (5))]) hF (haEt hT (e := (9, 45, 0, 2, 0, [])) (k := 205) (pc := 45) (by decide) (by decide +kernel) rfl) rfl (fun RG => avS9) (fun nx => rfl) ?_
      refine ha_imul hF (haEt hT (e := (23, 46, 0, 0, 0, [])) (k := 205) (pc := 46) (by decide) (by decide +kernel) rfl) rfl rfl (by omega) (by omega) ?_
      refine ha_s (pc' := 48) (ls' := [haR 51 860, haI (b), haI (s), haI (n), haI (60 * s + 5 * n), v5, v6]) (st' := [haR 51 860, haI ((s) * (60)), haI (60 * s + 5 * n + (5))]) hF (haEt hT (e := (13, 47, 0, 0, 0, [])) (k := 205) (pc := 47) (by decide) (by decide +kernel) rfl) rfl (fun RG => avS13) (fun nx => rfl) ?_
      refine ha_getR (r := 51) (j := 860) (i := 37) (r' := 63) (j' := 883) hF (haEt hT (e := (60, 48, 12, 37, 92, [1380])) (k := 205) (pc := 48) (by decide) (by decide +kernel) rfl) rfl rfl rfl (by decide +kernel) (by decide) (by decide +kernel) (by rfl) ?_
      refine ha_s (pc' := 52) (ls' := [haR 51 860, haI (b), haI (s), haI (n), haI (60 * s + 5 * n), v5, v6]) (st' := [haI (s), haR 63 883, haI ((s) * (60)), haI (60 * s + 5 * n + (5))]) hF (haEt hT (e := (9, 51, 0, 2, 0, [])) (k := 205) (pc := 51) (by decide) (by decide +kernel) rfl) rfl (fun RG => avS9) (fun nx => rfl) ?_
      refine ha_iald (r := 63) hF (haEt hT (e := (64, 52, 0, 0, 0, [])) (k := 205) (pc := 52) (by decide) (by decide +kernel) rfl) rfl rfl (by decide +kernel) (by omega) (by show _ < (4 : Int); omega) ?_
      refine ha_iadd hF (haEt hT (e := (21, 53, 0, 0, 0, [])) (k := 205) (pc := 53) (by decide) (by decide +kernel) rfl) rfl rfl (by omega) (by omega) ?_
      exact ha_icgt hF (haEt hT (e := (56, 54, 181, 0, 0, [])) (k := 205) (pc := 54) (by decide) (by decide +kernel) rfl) rfl rfl rfl (fun _ => (ret n nu _ _ _ h0 (by omega) f1 ⟨f2.1, by omega⟩ f3).2) (fun q => by omega)
    | succ nn ih =>
      intro n nu v5 v6 hn h0 f1 f2 f3
      refine ha_bd (j := 883) (r := 63) (i := s) (lo := -1) (up := 60) hF (by decide) (by decide +kernel) (Or.inl (by decide +kernel)) hs.1 (by show _ < (4 : Int); omega) (by rfl) (fun u1 u2 => ?_)
      refine ha_s (pc' := 41) (ls' := [haR 51 860, haI (b), haI (s), haI (n), haI (60 * s + 5 * n), v5, v6]) (st' := [haI (60 * s + 5 * n)]) hF (haEt hT (e := (8, 39, 0, 4, 0, [])) (k := 205) (pc := 39) (by decide) (by decide +kernel) rfl) rfl (fun RG => avS8) (fun nx => rfl) ?_
      refine ha_s (pc' := 42) (ls' := [haR 51 860, haI (b), haI (s), haI (n), haI (60 * s + 5 * n), v5, v6]) (st' := [haI (5), haI (60 * s + 5 * n)]) hF (haEt hT (e := (1, 41, 0, 0, 9223372036854775813, [])) (k := 205) (pc := 41) (by decide) (by decide +kernel) rfl) rfl (fun RG => avS1) (fun nx => rfl) ?_
      refine ha_iadd hF (haEt hT (e := (21, 42, 0, 0, 0, [])) (k := 205) (pc := 42) (by decide) (by decide +kernel) rfl) rfl rfl (by omega) (by omega) ?_
      refine ha_s (pc' := 45) (ls' := [haR 51 860, haI (b), haI (s), haI (n), haI (60 * s + 5 * n), v5, v6]) (st' := [haI (60), haI (60 * s + 5 * n + (5))]) hF (haEt hT (e := (2, 43, 0, 0, 9223372036854775868, [])) (k := 205) (pc := 43) (by decide) (by decide +kernel) rfl) rfl (fun RG => avS2) (fun nx => rfl) ?_
      refine ha_s (pc' := 46) (ls' := [haR 51 860, haI (b), haI (s), haI (n), haI (60 * s + 5 * n), v5, v6]) (st' := [haI (s), haI (60), haI (60 * s + 5 * n + (5))]) hF (haEt hT (e := (9, 45, 0, 2, 0, [])) (k := 205) (pc := 45) (by decide) (by decide +kernel) rfl) rfl (fun RG => avS9) (fun nx => rfl) ?_
      refine ha_imul hF (haEt hT (e := (23, 46, 0, 0, 0, [])) (k := 205) (pc := 46) (by decide) (by decide +kernel) rfl) rfl rfl (by omega) (by omega) ?_
      refine ha_s (pc' := 48) (ls' := [haR 51 860, haI (b), haI (s), haI (n), haI (60 * s + 5 * n), v5, v6]) (st' := [haR 51 860, haI ((s) * (60)), haI (60 * s + 5 * n + (5))]) hF (haEt hT (e := (13, 47, 0, 0, 0, [])) (k := 205) (pc := 47) (by decide) (by decide +kernel) rfl) rfl (fun RG => avS13) (fun nx => rfl) ?_
      refine ha_getR (r := 51) (j := 860) (i := 37) (r' := 63) (j' := 883) hF (haEt hT (e := (60, 48, 12, 37, 92, [1380])) (k := 205) (pc := 48) (by decide) (by decide +kernel) rfl) rfl rfl rfl (by decide +kernel) (by decide) (by decide +kernel) (by rfl) ?_
      refine ha_s (pc' := 52) (ls' := [haR 51 860, haI (b), haI (s), haI (n), haI (60 * s + 5 * n), v5, v6]) (st' := [haI (s), haR 63 883, haI ((s) * (60)), haI (60 * s + 5 * n + (5))]) hF (haEt hT (e := (9, 51, 0, 2, 0, [])) (k := 205) (pc := 51) (by decide) (by decide +kernel) rfl) rfl (fun RG => avS9) (fun nx => rfl) ?_
      refine ha_iald (r := 63) hF (haEt hT (e := (64, 52, 0, 0, 0, [])) (k := 205) (pc := 52) (by decide) (by decide +kernel) rfl) rfl rfl (by decide +kernel) (by omega) (by show _ < (4 : Int); omega) ?_
      refine ha_iadd hF (haEt hT (e := (21, 53, 0, 0, 0, [])) (k := 205) (pc := 53) (by decide) (by decide +kernel) rfl) rfl rfl (by omega) (by omega) ?_
      refine ha_icgt hF (haEt hT (e := (56, 54, 181, 0, 0, [])) (k := 205) (pc := 54) (by decide) (by decide +kernel) rfl) rfl rfl rfl (fun _ => (ret n nu _ _ _ h0 (by omega) f1 ⟨f2.1, by omega⟩ f3).2) (fun q => ?_)
      clear q u1 u2
      have run : ∀ f i : Int, haW x nu 109 [haR 51 860, haI (b), haI (s), haI (n), haI (60 * s + 5 * n), haI (f), haI (i)] [] := by
        intro f i
        refine ha_s (pc' := 111) (ls' := [haR 51 860, haI (b), haI (s), haI (n), haI (60 * s + 5 * n), haI (f), haI (i)]) (st' := [haI (f)]) hF (haEt hT (e := (8, 109, 0, 5, 0, [])) (k := 205) (pc := 109) (by decide) (by decide +kernel) rfl) rfl (fun RG => avS8) (fun nx => rfl) ?_
        refine ha_ifeq hF (haEt hT (e := (46, 111, 170, 0, 0, [])) (k := 205) (pc := 111) (by decide) (by decide +kernel) rfl) rfl rfl rfl (fun _ => (ret n nu _ _ _ h0 (by omega) f1 ⟨f2.1, by omega⟩ f3).1) (fun _ => ?_)
        refine ha_s (pc' := 115) (ls' := [haR 51 860, haI (b), haI (s), haI (n), haI (60 * s + 5 * n), haI (f), haI (i)]) (st' := [haR 51 860]) hF (haEt hT (e := (13, 114, 0, 0, 0, [])) (k := 205) (pc := 114) (by decide) (by decide +kernel) rfl) rfl (fun RG => avS13) (fun nx => rfl) ?_
        refine ha_s (pc' := 116) (ls' := [haR 51 860, haI (b), haI (s), haI (n), haI (60 * s + 5 * n), haI (f), haI (i)]) (st' := [haI (b), haR 51 860]) hF (haEt hT (e := (9, 115, 0, 1, 0, [])) (k := 205) (pc := 115) (by decide) (by decide +kernel) rfl) rfl (fun RG => avS9) (fun nx => rfl) ?_
        refine ha_s (pc' := 117) (ls' := [haR 51 860, haI (b), haI (s), haI (n), haI (60 * s + 5 * n), haI (f), haI (i)]) (st' := [haR 51 860, haI (b), haR 51 860]) hF (haEt hT (e := (13, 116, 0, 0, 0, [])) (k := 205) (pc := 116) (by decide) (by decide +kernel) rfl) rfl (fun RG => avS13) (fun nx => rfl) ?_
        refine ha_getR (r := 51) (j := 860) (i := 39) (r' := 65) (j' := 885) hF (haEt hT (e := (60, 117, 12, 39, 98, [1382])) (k := 205) (pc := 117) (by decide) (by decide +kernel) rfl) rfl rfl rfl (by decide +kernel) (by decide) (by decide +kernel) (by rfl) ?_
        refine ha_s (pc' := 122) (ls' := [haR 51 860, haI (b), haI (s), haI (n), haI (60 * s + 5 * n), haI (f), haI (i)]) (st' := [haI (60 * s + 5 * n), haR 65 885, haI (b), haR 51 860]) hF (haEt hT (e := (8, 120, 0, 4, 0, [])) (k := 205) (pc := 120) (by decide) (by decide +kernel) rfl) rfl (fun RG => avS8) (fun nx => rfl) ?_
        refine ha_lald (r := 65) hF (haEt hT (e := (66, 122, 0, 0, 0, [])) (k := 205) (pc := 122) (by decide) (by decide +kernel) rfl) rfl rfl (by decide +kernel) (by omega) (by show _ < (240 : Int); omega) ?_
        refine ha_l2iA hF (haEt hT (e := (41, 123, 0, 0, 0, [])) (k := 205) (pc := 123) (by decide) (by decide +kernel) rfl) rfl rfl (fun w0 w01 w02 w03 => ?_)
        refine ha_s (pc' := 125) (ls' := [haR 51 860, haI (b), haI (s), haI (n), haI (60 * s + 5 * n), haI (f), haI (i)]) (st' := [haR 51 860, haI (w0), haI (b), haR 51 860]) hF (haEt hT (e := (13, 124, 0, 0, 0, [])) (k := 205) (pc := 124) (by decide) (by decide +kernel) rfl) rfl (fun RG => avS13) (fun nx => rfl) ?_
        refine ha_getR (r := 51) (j := 860) (i := 39) (r' := 65) (j' := 885) hF (haEt hT (e := (60, 125, 12, 39, 98, [1382])) (k := 205) (pc := 125) (by decide) (by decide +kernel) rfl) rfl rfl rfl (by decide +kernel) (by decide) (by decide +kernel) (by rfl) ?_
        refine ha_s (pc' := 130) (ls' := [haR 51 860, haI (b), haI (s), haI (n), haI (60 * s + 5 * n), haI (f), haI (i)]) (st' := [haI (60 * s + 5 * n), haR 65 885, haI (w0), haI (b), haR 51 860]) hF (haEt hT (e := (8, 128, 0, 4, 0, [])) (k := 205) (pc := 128) (by decide) (by decide +kernel) rfl) rfl (fun RG => avS8) (fun nx => rfl) ?_
        refine ha_s (pc' := 131) (ls' := [haR 51 860, haI (b), haI (s), haI (n), haI (60 * s + 5 * n), haI (f), haI (i)]) (st' := [haI (1), haI (60 * s + 5 * n), haR 65 885, haI (w0), haI (b), haR 51 860]) hF (haEt hT (e := (1, 130, 0, 0, 9223372036854775809, [])) (k := 205) (pc := 130) (by decide) (by decide +kernel) rfl) rfl (fun RG => avS1) (fun nx => rfl) ?_
        refine ha_iadd hF (haEt hT (e := (21, 131, 0, 0, 0, [])) (k := 205) (pc := 131) (by decide) (by decide +kernel) rfl) rfl rfl (by omega) (by omega) ?_
        refine ha_lald (r := 65) hF (haEt hT (e := (66, 132, 0, 0, 0, [])) (k := 205) (pc := 132) (by decide) (by decide +kernel) rfl) rfl rfl (by decide +kernel) (by omega) (by show _ < (240 : Int); omega) ?_
        refine ha_l2iA hF (haEt hT (e := (41, 133, 0, 0, 0, [])) (k := 205) (pc := 133) (by decide) (by decide +kernel) rfl) rfl rfl (fun w1 w11 w12 w13 => ?_)
        refine ha_s (pc' := 135) (ls' := [haR 51 860, haI (b), haI (s), haI (n), haI (60 * s + 5 * n), haI (f), haI (i)]) (st' := [haR 51 860, haI (w1), haI (w0), haI (b), haR 51 860]) hF (haEt hT (e := (13, 134, 0, 0, 0, [])) (k := 205) (pc := 134) (by decide) (by decide +kernel) rfl) rfl (fun RG => avS13) (fun nx => rfl) ?_
        refine ha_getR (r := 51) (j := 860) (i := 39) (r' := 65) (j' := 885) hF (haEt hT (e := (60, 135, 12, 39, 98, [1382])) (k := 205) (pc := 135) (by decide) (by decide +kernel) rfl) rfl rfl rfl (by decide +kernel) (by decide) (by decide +kernel) (by rfl) ?_
        refine ha_s (pc' := 140) (ls' := [haR 51 860, haI (b), haI (s), haI (n), haI (60 * s + 5 * n), haI (f), haI (i)]) (st' := [haI (60 * s + 5 * n), haR 65 885, haI (w1), haI (w0), haI (b), haR 51 860]) hF (haEt hT (e := (8, 138, 0, 4, 0, [])) (k := 205) (pc := 138) (by decide) (by decide +kernel) rfl) rfl (fun RG => avS8) (fun nx => rfl) ?_
        refine ha_s (pc' := 141) (ls' := [haR 51 860, haI (b), haI (s), haI (n), haI (60 * s + 5 * n), haI (f), haI (i)]) (st' := [haI (2), haI (60 * s + 5 * n), haR 65 885, haI (w1), haI (w0), haI (b), haR 51 860]) hF (haEt hT (e := (1, 140, 0, 0, 9223372036854775810, [])) (k := 205) (pc := 140) (by decide) (by decide +kernel) rfl) rfl (fun RG => avS1) (fun nx => rfl) ?_
        refine ha_iadd hF (haEt hT (e := (21, 141, 0, 0, 0, [])) (k := 205) (pc := 141) (by decide) (by decide +kernel) rfl) rfl rfl (by omega) (by omega) ?_
        refine ha_lald (r := 65) hF (haEt hT (e := (66, 142, 0, 0, 0, [])) (k := 205) (pc := 142) (by decide) (by decide +kernel) rfl) rfl rfl (by decide +kernel) (by omega) (by show _ < (240 : Int); omega) ?_
        refine ha_l2iA hF (haEt hT (e := (41, 143, 0, 0, 0, [])) (k := 205) (pc := 143) (by decide) (by decide +kernel) rfl) rfl rfl (fun w2 w21 w22 w23 => ?_)
        refine ha_s (pc' := 145) (ls' := [haR 51 860, haI (b), haI (s), haI (n), haI (60 * s + 5 * n), haI (f), haI (i)]) (st' := [haR 51 860, haI (w2), haI (w1), haI (w0), haI (b), haR 51 860]) hF (haEt hT (e := (13, 144, 0, 0, 0, [])) (k := 205) (pc := 144) (by decide) (by decide +kernel) rfl) rfl (fun RG => avS13) (fun nx => rfl) ?_
        refine ha_getR (r := 51) (j := 860) (i := 39) (r' := 65) (j' := 885) hF (haEt hT (e := (60, 145, 12, 39, 98, [1382])) (k := 205) (pc := 145) (by decide) (by decide +kernel) rfl) rfl rfl rfl (by decide +kernel) (by decide) (by decide +kernel) (by rfl) ?_
        refine ha_s (pc' := 150) (ls' := [haR 51 860, haI (b), haI (s), haI (n), haI (60 * s + 5 * n), haI (f), haI (i)]) (st' := [haI (60 * s + 5 * n), haR 65 885, haI (w2), haI (w1), haI (w0), haI (b), haR 51 860]) hF (haEt hT (e := (8, 148, 0, 4, 0, [])) (k := 205) (pc := 148) (by decide) (by decide +kernel) rfl) rfl (fun RG => avS8) (fun nx => rfl) ?_
        refine ha_s (pc' := 151) (ls' := [haR 51 860, haI (b), haI (s), haI (n), haI (60 * s + 5 * n), haI (f), haI (i)]) (st' := [haI (3), haI (60 * s + 5 * n), haR 65 885, haI (w2), haI (w1), haI (w0), haI (b), haR 51 860]) hF (haEt hT (e := (1, 150, 0, 0, 9223372036854775811, [])) (k := 205) (pc := 150) (by decide) (by decide +kernel) rfl) rfl (fun RG => avS1) (fun nx => rfl) ?_
        refine ha_iadd hF (haEt hT (e := (21, 151, 0, 0, 0, [])) (k := 205) (pc := 151) (by decide) (by decide +kernel) rfl) rfl rfl (by omega) (by omega) ?_
        refine ha_lald (r := 65) hF (haEt hT (e := (66, 152, 0, 0, 0, [])) (k := 205) (pc := 152) (by decide) (by decide +kernel) rfl) rfl rfl (by decide +kernel) (by omega) (by show _ < (240 : Int); omega) ?_
        refine ha_l2iA hF (haEt hT (e := (41, 153, 0, 0, 0, [])) (k := 205) (pc := 153) (by decide) (by decide +kernel) rfl) rfl rfl (fun w3 w31 w32 w33 => ?_)
        refine ha_s (pc' := 155) (ls' := [haR 51 860, haI (b), haI (s), haI (n), haI (60 * s + 5 * n), haI (f), haI (i)]) (st' := [haR 51 860, haI (w3), haI (w2), haI (w1), haI (w0), haI (b), haR 51 860]) hF (haEt hT (e := (13, 154, 0, 0, 0, [])) (k := 205) (pc := 154) (by decide) (by decide +kernel) rfl) rfl (fun RG => avS13) (fun nx => rfl) ?_
        refine ha_getR (r := 51) (j := 860) (i := 39) (r' := 65) (j' := 885) hF (haEt hT (e := (60, 155, 12, 39, 98, [1382])) (k := 205) (pc := 155) (by decide) (by decide +kernel) rfl) rfl rfl rfl (by decide +kernel) (by decide) (by decide +kernel) (by rfl) ?_
        refine ha_s (pc' := 160) (ls' := [haR 51 860, haI (b), haI (s), haI (n), haI (60 * s + 5 * n), haI (f), haI (i)]) (st' := [haI (60 * s + 5 * n), haR 65 885, haI (w3), haI (w2), haI (w1), haI (w0), haI (b), haR 51 860]) hF (haEt hT (e := (8, 158, 0, 4, 0, [])) (k := 205) (pc := 158) (by decide) (by decide +kernel) rfl) rfl (fun RG => avS8) (fun nx => rfl) ?_
        refine ha_s (pc' := 161) (ls' := [haR 51 860, haI (b), haI (s), haI (n), haI (60 * s + 5 * n), haI (f), haI (i)]) (st' := [haI (4), haI (60 * s + 5 * n), haR 65 885, haI (w3), haI (w2), haI (w1), haI (w0), haI (b), haR 51 860]) hF (haEt hT (e := (1, 160, 0, 0, 9223372036854775812, [])) (k := 205) (pc := 160) (by decide) (by decide +kernel) rfl) rfl (fun RG => avS1) (fun nx => rfl) ?_
        refine ha_iadd hF (haEt hT (e := (21, 161, 0, 0, 0, [])) (k := 205) (pc := 161) (by decide) (by decide +kernel) rfl) rfl rfl (by omega) (by omega) ?_
        refine ha_lald (r := 65) hF (haEt hT (e := (66, 162, 0, 0, 0, [])) (k := 205) (pc := 162) (by decide) (by decide +kernel) rfl) rfl rfl (by decide +kernel) (by omega) (by show _ < (240 : Int); omega) ?_
        refine ha_l2iA hF (haEt hT (e := (41, 163, 0, 0, 0, [])) (k := 205) (pc := 163) (by decide) (by decide +kernel) rfl) rfl rfl (fun w4 w41 w42 w43 => ?_)
        refine ha_callV (q := 200) (d' := d + 3) (r := 51) (j := 860) (as := [haI b, haI w0, haI w1, haI w2, haI w3, haI w4]) (rest := []) hT hF (haEt hT (e := (78, 164, 200, 0, 316, [1634, 1599, 1600])) (k := 205) (pc := 164) (by decide) (by decide +kernel) rfl) rfl rfl rfl (by decide +kernel) (by decide +kernel) (hm_fill hT f1 ⟨by omega, by omega⟩) (by omega) rfl (show 6 = (abMe 200).2.1 from by decide +kernel) (show 0 + (abMe 200).1.2.2.1 ≤ 49 from by decide +kernel) (fun o ku h => ?_)
        obtain ⟨⟨y, rfl, y1, y2⟩, g1, g2, g3⟩ := h
        have g4 : ∀ (j : Nat) (i : Int), haGd j i → ¬ j = 861 → ¬ j = 860 → ku j i = mu j i := fun j i hg a1 a2 => (g3 j i hg a1 a2).trans (f3 j i hg a1 a2)
        show haW x ku 167 [haR 51 860, haI (b), haI (s), haI (n), haI (60 * s + 5 * n), haI (f), haI (i)] [haI y]
        refine ha_ifge hF (haEt hT (e := (49, 167, 172, 0, 0, [])) (k := 205) (pc := 167) (by decide) (by decide +kernel) rfl) rfl rfl rfl (fun _ => ?_) (fun _ => ?_)
        · refine ha_iinc (i := 3) (c := 1) hF (haEt hT (e := (20, 172, 0, 3, 9223372036854775809, [])) (k := 205) (pc := 172) (by decide) (by decide +kernel) rfl) rfl rfl rfl rfl rfl (by omega) (by omega) ?_
          show haW _ _ 175 [haR 51 860, haI (b), haI (s), haI (n + 1), haI (60 * s + 5 * n), haI (f), haI (i)] []
          refine ha_iinc (i := 4) (c := 5) hF (haEt hT (e := (20, 175, 0, 4, 9223372036854775813, [])) (k := 205) (pc := 175) (by decide) (by decide +kernel) rfl) rfl rfl rfl rfl rfl (by omega) (by omega) ?_
          show haW _ _ 178 [haR 51 860, haI (b), haI (s), haI (n + 1), haI (60 * s + 5 * n + 5), haI (f), haI (i)] []
          refine ha_s (pc' := 39) (ls' := [haR 51 860, haI (b), haI (s), haI (n + 1), haI (60 * s + 5 * n + 5), haI (f), haI (i)]) (st' := []) hF (haEt hT (e := (58, 178, 39, 0, 0, [])) (k := 205) (pc := 178) (by decide) (by decide +kernel) rfl) rfl (fun RG => avS58) (fun nx => rfl) ?_
          rw [show 60 * s + 5 * n + 5 = 60 * s + 5 * (n + 1) from by omega]
          exact ih (n + 1) ku _ _ (by omega) (by omega) g1 ⟨by omega, by omega⟩ g4
        · exact (ret n ku _ _ _ h0 (by omega) g1 ⟨by omega, by omega⟩ g4).1
      have inner : ∀ (mm : Nat) (f i : Int), (mm : Int) = 5 - i → 0 ≤ i → haW x nu 63 [haR 51 860, haI (b), haI (s), haI (n), haI (60 * s + 5 * n), haI (f), haI (i)] [] := by
        intro mm
        induction mm with
        | zero =>
          intro f i hm i0
          refine ha_s (pc' := 65) (ls' := [haR 51 860, haI (b), haI (s), haI (n), haI (60 * s + 5 * n), haI (f), haI (i)]) (st' := [haI (i)]) hF (haEt hT (e := (8, 63, 0, 6, 0, [])) (k := 205) (pc := 63) (by decide) (by decide +kernel) rfl) rfl (fun RG => avS8) (fun nx => rfl) ?_
          refine ha_s (pc' := 66) (ls' := [haR 51 860, haI (b), haI (s), haI (n), haI (60 * s + 5 * n), haI (f), haI (i)]) (st' := [haI (5), haI (i)]) hF (haEt hT (e := (1, 65, 0, 0, 9223372036854775813, [])) (k := 205) (pc := 65) (by decide) (by decide +kernel) rfl) rfl (fun RG => avS1) (fun nx => rfl) ?_
          exact ha_icge hF (haEt hT (e := (55, 66, 109, 0, 0, [])) (k := 205) (pc := 66) (by decide) (by decide +kernel) rfl) rfl rfl rfl (fun _ => run f i) (fun q => by omega)
        | succ mm ih2 =>
          intro f i hm i0
          have nxt : ∀ e : Int, haW x nu 101 [haR 51 860, haI (b), haI (s), haI (n), haI (60 * s + 5 * n), haI (f), haI (i)] [haI e] := by
            intro e
            refine ha_s (pc' := 103) (ls' := [haR 51 860, haI (b), haI (s), haI (n), haI (60 * s + 5 * n), haI (e), haI (i)]) (st' := []) hF (haEt hT (e := (14, 101, 0, 5, 0, [])) (k := 205) (pc := 101) (by decide) (by decide +kernel) rfl) rfl (fun RG => avS14) (fun nx => rfl) ?_
            refine ha_iinc (i := 6) (c := 1) hF (haEt hT (e := (20, 103, 0, 6, 9223372036854775809, [])) (k := 205) (pc := 103) (by decide) (by decide +kernel) rfl) rfl rfl rfl rfl rfl (by omega) (by omega) ?_
            show haW _ _ 106 [haR 51 860, haI (b), haI (s), haI (n), haI (60 * s + 5 * n), haI (e), haI (i + 1)] []
            refine ha_s (pc' := 63) (ls' := [haR 51 860, haI (b), haI (s), haI (n), haI (60 * s + 5 * n), haI (e), haI (i + 1)]) (st' := []) hF (haEt hT (e := (58, 106, 63, 0, 0, [])) (k := 205) (pc := 106) (by decide) (by decide +kernel) rfl) rfl (fun RG => avS58) (fun nx => rfl) ?_
            exact ih2 e (i + 1) (by omega) (by omega)
          have none : haW x nu 100 [haR 51 860, haI (b), haI (s), haI (n), haI (60 * s + 5 * n), haI (f), haI (i)] [] := by
            refine ha_s (pc' := 101) (ls' := [haR 51 860, haI (b), haI (s), haI (n), haI (60 * s + 5 * n), haI (f), haI (i)]) (st' := [haI (0)]) hF (haEt hT (e := (1, 100, 0, 0, 9223372036854775808, [])) (k := 205) (pc := 100) (by decide) (by decide +kernel) rfl) rfl (fun RG => avS1) (fun nx => rfl) ?_
            exact nxt 0
          refine ha_s (pc' := 65) (ls' := [haR 51 860, haI (b), haI (s), haI (n), haI (60 * s + 5 * n), haI (f), haI (i)]) (st' := [haI (i)]) hF (haEt hT (e := (8, 63, 0, 6, 0, [])) (k := 205) (pc := 63) (by decide) (by decide +kernel) rfl) rfl (fun RG => avS8) (fun nx => rfl) ?_
          refine ha_s (pc' := 66) (ls' := [haR 51 860, haI (b), haI (s), haI (n), haI (60 * s + 5 * n), haI (f), haI (i)]) (st' := [haI (5), haI (i)]) hF (haEt hT (e := (1, 65, 0, 0, 9223372036854775813, [])) (k := 205) (pc := 65) (by decide) (by decide +kernel) rfl) rfl (fun RG => avS1) (fun nx => rfl) ?_
          refine ha_icge hF (haEt hT (e := (55, 66, 109, 0, 0, [])) (k := 205) (pc := 66) (by decide) (by decide +kernel) rfl) rfl rfl rfl (fun q => by omega) (fun q => ?_)
          refine ha_s (pc' := 71) (ls' := [haR 51 860, haI (b), haI (s), haI (n), haI (60 * s + 5 * n), haI (f), haI (i)]) (st' := [haI (f)]) hF (haEt hT (e := (8, 69, 0, 5, 0, [])) (k := 205) (pc := 69) (by decide) (by decide +kernel) rfl) rfl (fun RG => avS8) (fun nx => rfl) ?_
          refine ha_ifeq hF (haEt hT (e := (46, 71, 100, 0, 0, [])) (k := 205) (pc := 71) (by decide) (by decide +kernel) rfl) rfl rfl rfl (fun _ => none) (fun _ => ?_)
          refine ha_s (pc' := 75) (ls' := [haR 51 860, haI (b), haI (s), haI (n), haI (60 * s + 5 * n), haI (f), haI (i)]) (st' := [haR 51 860]) hF (haEt hT (e := (13, 74, 0, 0, 0, [])) (k := 205) (pc := 74) (by decide) (by decide +kernel) rfl) rfl (fun RG => avS13) (fun nx => rfl) ?_
          refine ha_getR (r := 51) (j := 860) (i := 39) (r' := 65) (j' := 885) hF (haEt hT (e := (60, 75, 12, 39, 98, [1382])) (k := 205) (pc := 75) (by decide) (by decide +kernel) rfl) rfl rfl rfl (by decide +kernel) (by decide) (by decide +kernel) (by rfl) ?_
          refine ha_s (pc' := 80) (ls' := [haR 51 860, haI (b), haI (s), haI (n), haI (60 * s + 5 * n), haI (f), haI (i)]) (st' := [haI (60 * s + 5 * n), haR 65 885]) hF (haEt hT (e := (8, 78, 0, 4, 0, [])) (k := 205) (pc := 78) (by decide) (by decide +kernel) rfl) rfl (fun RG => avS8) (fun nx => rfl) ?_
          refine ha_s (pc' := 82) (ls' := [haR 51 860, haI (b), haI (s), haI (n), haI (60 * s + 5 * n), haI (f), haI (i)]) (st' := [haI (i), haI (60 * s + 5 * n), haR 65 885]) hF (haEt hT (e := (8, 80, 0, 6, 0, [])) (k := 205) (pc := 80) (by decide) (by decide +kernel) rfl) rfl (fun RG => avS8) (fun nx => rfl) ?_
          refine ha_iadd hF (haEt hT (e := (21, 82, 0, 0, 0, [])) (k := 205) (pc := 82) (by decide) (by decide +kernel) rfl) rfl rfl (by omega) (by omega) ?_
          refine ha_lald (r := 65) hF (haEt hT (e := (66, 83, 0, 0, 0, [])) (k := 205) (pc := 83) (by decide) (by decide +kernel) rfl) rfl rfl (by decide +kernel) (by omega) (by show _ < (240 : Int); omega) ?_
          refine ha_s (pc' := 87) (ls' := [haR 51 860, haI (b), haI (s), haI (n), haI (60 * s + 5 * n), haI (f), haI (i)]) (st' := [haL (-2147483648), haL (nu 885 (60 * s + 5 * n + (i)))]) hF (haEt hT (e := (7, 84, 312, 0, 9223372034707292160, [1632])) (k := 205) (pc := 84) (by decide) (by decide +kernel) rfl) rfl (fun RG => avS7) (fun nx => rfl) ?_
          refine ha_s (pc' := 90) (ls' := [haR 51 860, haI (b), haI (s), haI (n), haI (60 * s + 5 * n), haI (f), haI (i)]) (st' := [haL (2147483647), haL (-2147483648), haL (nu 885 (60 * s + 5 * n + (i)))]) hF (haEt hT (e := (7, 87, 314, 0, 9223372039002259455, [1633])) (k := 205) (pc := 87) (by decide) (by decide +kernel) rfl) rfl (fun RG => avS7) (fun nx => rfl) ?_
          refine ha_callS (q := 176) (d' := d) (as := [haL (nu 885 (60 * s + 5 * n + (i))), haL (-2147483648), haL 2147483647]) (rest := []) hT hF (haEt hT (e := (79, 90, 176, 0, 118, [1472, 1473])) (k := 205) (pc := 90) (by decide) (by decide +kernel) rfl) rfl rfl rfl (by decide +kernel) (hm_in hT) (by omega) rfl (show 3 = (abMe 176).2.1 from by decide +kernel) (show 0 + (abMe 176).1.2.2.1 ≤ 49 from by decide +kernel) (fun o ku h => ?_)
          obtain ⟨y, rfl, rfl, hy⟩ := h
          show haW x _ 93 [haR 51 860, haI (b), haI (s), haI (n), haI (60 * s + 5 * n), haI (f), haI (i)] [haI y]
          refine ha_ifeq hF (haEt hT (e := (46, 93, 100, 0, 0, [])) (k := 205) (pc := 93) (by decide) (by decide +kernel) rfl) rfl rfl rfl (fun _ => none) (fun _ => ?_)
          refine ha_s (pc' := 97) (ls' := [haR 51 860, haI (b), haI (s), haI (n), haI (60 * s + 5 * n), haI (f), haI (i)]) (st' := [haI (1)]) hF (haEt hT (e := (1, 96, 0, 0, 9223372036854775809, [])) (k := 205) (pc := 96) (by decide) (by decide +kernel) rfl) rfl (fun RG => avS1) (fun nx => rfl) ?_
          refine ha_s (pc' := 101) (ls' := [haR 51 860, haI (b), haI (s), haI (n), haI (60 * s + 5 * n), haI (f), haI (i)]) (st' := [haI (1)]) hF (haEt hT (e := (58, 97, 101, 0, 0, [])) (k := 205) (pc := 97) (by decide) (by decide +kernel) rfl) rfl (fun RG => avS58) (fun nx => rfl) ?_
          exact nxt 1
      refine ha_s (pc' := 58) (ls' := [haR 51 860, haI (b), haI (s), haI (n), haI (60 * s + 5 * n), v5, v6]) (st' := [haI (1)]) hF (haEt hT (e := (1, 57, 0, 0, 9223372036854775809, [])) (k := 205) (pc := 57) (by decide) (by decide +kernel) rfl) rfl (fun RG => avS1) (fun nx => rfl) ?_
      refine ha_s (pc' := 60) (ls' := [haR 51 860, haI (b), haI (s), haI (n), haI (60 * s + 5 * n), haI (1), v6]) (st' := []) hF (haEt hT (e := (14, 58, 0, 5, 0, [])) (k := 205) (pc := 58) (by decide) (by decide +kernel) rfl) rfl (fun RG => avS14) (fun nx => rfl) ?_
      refine ha_s (pc' := 61) (ls' := [haR 51 860, haI (b), haI (s), haI (n), haI (60 * s + 5 * n), haI (1), v6]) (st' := [haI (0)]) hF (haEt hT (e := (1, 60, 0, 0, 9223372036854775808, [])) (k := 205) (pc := 60) (by decide) (by decide +kernel) rfl) rfl (fun RG => avS1) (fun nx => rfl) ?_
      refine ha_s (pc' := 63) (ls' := [haR 51 860, haI (b), haI (s), haI (n), haI (60 * s + 5 * n), haI (1), haI (0)]) (st' := []) hF (haEt hT (e := (14, 61, 0, 6, 0, [])) (k := 205) (pc := 61) (by decide) (by decide +kernel) rfl) rfl (fun RG => avS14) (fun nx => rfl) ?_
      exact inner 5 1 0 rfl (Int.le_refl 0)
  refine ha_s (pc' := 19) (ls' := [haR 51 860, haI (b), haI (s), avJ, avJ, avJ, avJ]) (st' := [haR 51 860]) hF (haEt hT (e := (13, 18, 0, 0, 0, [])) (k := 205) (pc := 18) (by decide) (by decide +kernel) rfl) rfl (fun RG => avS13) (fun nx => rfl) ?_
  refine ha_getR (r := 51) (j := 860) (i := 37) (r' := 63) (j' := 883) hF (haEt hT (e := (60, 19, 12, 37, 92, [1380])) (k := 205) (pc := 19) (by decide) (by decide +kernel) rfl) rfl rfl rfl (by decide +kernel) (by decide) (by decide +kernel) (by rfl) ?_
  refine ha_s (pc' := 23) (ls' := [haR 51 860, haI (b), haI (s), avJ, avJ, avJ, avJ]) (st' := [haI (s), haR 63 883]) hF (haEt hT (e := (9, 22, 0, 2, 0, [])) (k := 205) (pc := 22) (by decide) (by decide +kernel) rfl) rfl (fun RG => avS9) (fun nx => rfl) ?_
  refine ha_iald (r := 63) hF (haEt hT (e := (64, 23, 0, 0, 0, [])) (k := 205) (pc := 23) (by decide) (by decide +kernel) rfl) rfl rfl (by decide +kernel) (by omega) (by show _ < (4 : Int); omega) ?_
  refine ha_s (pc' := 25) (ls' := [haR 51 860, haI (b), haI (s), avJ, avJ, avJ, avJ]) (st' := [haI (-1), haI (mu 883 (s))]) hF (haEt hT (e := (1, 24, 0, 0, 9223372036854775807, [])) (k := 205) (pc := 24) (by decide) (by decide +kernel) rfl) rfl (fun RG => avS1) (fun nx => rfl) ?_
  refine ha_icne hF (haEt hT (e := (53, 25, 31, 0, 0, [])) (k := 205) (pc := 25) (by decide) (by decide +kernel) rfl) rfl rfl rfl (fun _ => ?_) (fun _ => ?_)
  · refine ha_s (pc' := 32) (ls' := [haR 51 860, haI (b), haI (s), avJ, avJ, avJ, avJ]) (st' := [haI (0)]) hF (haEt hT (e := (1, 31, 0, 0, 9223372036854775808, [])) (k := 205) (pc := 31) (by decide) (by decide +kernel) rfl) rfl (fun RG => avS1) (fun nx => rfl) ?_
    refine ha_s (pc' := 33) (ls' := [haR 51 860, haI (b), haI (s), haI (0), avJ, avJ, avJ]) (st' := []) hF (haEt hT (e := (15, 32, 0, 3, 0, [])) (k := 205) (pc := 32) (by decide) (by decide +kernel) rfl) rfl (fun RG => avS15) (fun nx => rfl) ?_
    refine ha_s (pc' := 35) (ls' := [haR 51 860, haI (b), haI (s), haI (0), avJ, avJ, avJ]) (st' := [haI (60)]) hF (haEt hT (e := (2, 33, 0, 0, 9223372036854775868, [])) (k := 205) (pc := 33) (by decide) (by decide +kernel) rfl) rfl (fun RG => avS2) (fun nx => rfl) ?_
    refine ha_s (pc' := 36) (ls' := [haR 51 860, haI (b), haI (s), haI (0), avJ, avJ, avJ]) (st' := [haI (s), haI (60)]) hF (haEt hT (e := (9, 35, 0, 2, 0, [])) (k := 205) (pc := 35) (by decide) (by decide +kernel) rfl) rfl (fun RG => avS9) (fun nx => rfl) ?_
    refine ha_imul hF (haEt hT (e := (23, 36, 0, 0, 0, [])) (k := 205) (pc := 36) (by decide) (by decide +kernel) rfl) rfl rfl (by omega) (by omega) ?_
    refine ha_s (pc' := 39) (ls' := [haR 51 860, haI (b), haI (s), haI (0), haI ((s) * (60)), avJ, avJ]) (st' := []) hF (haEt hT (e := (14, 37, 0, 4, 0, [])) (k := 205) (pc := 37) (by decide) (by decide +kernel) rfl) rfl (fun RG => avS14) (fun nx => rfl) ?_
    rw [show (s) * (60) = 60 * s + 5 * 0 from by omega]
    exact loop 12 0 mu _ _ rfl (Int.le_refl 0) hW ⟨by omega, by omega⟩ (fun _ _ _ _ _ => rfl)
  · refine ha_s (pc' := 30) (ls' := [haR 51 860, haI (b), haI (s), avJ, avJ, avJ, avJ]) (st' := [haI (-6)]) hF (haEt hT (e := (2, 28, 0, 0, 9223372036854775802, [])) (k := 205) (pc := 28) (by decide) (by decide +kernel) rfl) rfl (fun RG => avS2) (fun nx => rfl) ?_
    exact hR 30 _ _ _ _ (83, 30, 0, 0, 0, []) (haEt hT (e := (83, 30, 0, 0, 0, [])) (k := 205) (pc := 30) (by decide) (by decide +kernel) rfl) rfl (Or.inr (Or.inr ⟨rfl, _, rfl, rfl, rfl, fun h => by cases h⟩)) ⟨⟨_, rfl, by omega, by omega⟩, hW, ⟨by omega, by omega⟩, fun _ _ _ _ _ => rfl⟩
