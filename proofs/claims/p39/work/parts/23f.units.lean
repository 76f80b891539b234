/-! unitsOf with its answer -/
theorem haS_s {f : Int → Int} {n : Nat} : haS f (n + 1) = haS f n + f (n : Int) := rfl
theorem haUb {a c h : Int} {n : Int} (h1 : 0 ≤ a ∧ a ≤ 1000 * n) (h2 : 0 ≤ c ∧ c ≤ h ∧ h ≤ 1000) (hn : n ≤ 11) : -2147483648 ≤ a + c ∧ a + c ≤ 2147483647 := by omega
/-- the units of BIN b's RINGS -/
def haRu (mu : haMu) (b : Int) (r : Int) : Int := mu 861 (540 + 164 * b + 12 * r)
theorem haRu_b {mu : haMu} (h : haWd mu) {b r : Int} (hb : 0 ≤ b ∧ b ≤ 5) (hr : 0 ≤ r ∧ r < 12) : 0 ≤ haRu mu b r ∧ haRu mu b r ≤ mu 861 (521 + 164 * b) ∧ mu 861 (521 + 164 * b) ≤ 1000 := by
  obtain ⟨h1, h2, -, -⟩ := h.2 b r hb.1 hb.2 hr.1 (by omega)
  exact ⟨h1, h2, (h.1 b hb.1 hb.2).2.2.2⟩
theorem haRu_s {mu : haMu} (h : haWd mu) {b : Int} (hb : 0 ≤ b ∧ b ≤ 5) {n : Nat} (hn : n ≤ 12) : 0 ≤ haS (haRu mu b) n ∧ haS (haRu mu b) n ≤ 1000 * (n : Int) := by
  refine ⟨haS_nn (fun i h0 h1 => (haRu_b h hb ⟨h0, by omega⟩).1), ?_⟩
  have h1 := haS_le (f := haRu mu b) (g := fun _ => 1000) (n := n) (fun i h0 h1 => by have := haRu_b h hb (r := i) ⟨h0, by omega⟩; omega)
  rw [haS_const] at h1
  omega
theorem hm_unitsX (hT : abTabs) {d : Nat} {b : Int} {mu : haMu} (hb : 0 ≤ b ∧ b ≤ 5) (hW : haWd mu) : haSp 181 (d + 2) [haR 51 860, haI b] mu (fun o mu' => o = some (haI (haS (haRu mu b) 12)) ∧ mu' = mu) := by
  refine haMet (by decide) (hT.1 181 (by decide)) (haLe5 rfl) (show 2 ≤ (abMe 181).1.2.2.1 from by decide +kernel) (fun x hF hR => ?_)
  have loop : ∀ (nn r : Nat), nn + r = 12 → haW x mu 4 [haR 51 860, haI (b), haI (haS (haRu mu b) r), haI ((r : Int))] [] := by
    intro nn
    induction nn with
    | zero =>
      intro r hn
      have hr : r = 12 := by omega
      refine ha_s (pc' := 5) (ls' := [haR 51 860, haI (b), haI (haS (haRu mu b) r), haI ((r : Int))]) (st' := [haI ((r : Int))]) hF (haEt hT (e := (9, 4, 0, 3, 0, [])) (k := 181) (pc := 4) (by decide) (by decide +kernel) rfl) rfl (fun RG => avS9) (fun nx => rfl) ?_
      refine ha_s (pc' := 7) (ls' := [haR 51 860, haI (b), haI (haS (haRu mu b) r), haI ((r : Int))]) (st' := [haI (12), haI ((r : Int))]) hF (haEt hT (e := (2, 5, 0, 0, 9223372036854775820, [])) (k := 181) (pc := 5) (by decide) (by decide +kernel) rfl) rfl (fun RG => avS2) (fun nx => rfl) ?_
      refine ha_icge hF (haEt hT (e := (55, 7, 29, 0, 0, [])) (k := 181) (pc := 7) (by decide) (by decide +kernel) rfl) rfl rfl rfl (fun _ => ?_) (fun q => by omega)
      refine ha_s (pc' := 30) (ls' := [haR 51 860, haI (b), haI (haS (haRu mu b) r), haI ((r : Int))]) (st' := [haI (haS (haRu mu b) r)]) hF (haEt hT (e := (9, 29, 0, 2, 0, [])) (k := 181) (pc := 29) (by decide) (by decide +kernel) rfl) rfl (fun RG => avS9) (fun nx => rfl) ?_
      rw [hr]
      exact hR 30 _ _ _ _ (83, 30, 0, 0, 0, []) (haEt hT (e := (83, 30, 0, 0, 0, [])) (k := 181) (pc := 30) (by decide) (by decide +kernel) rfl) rfl (Or.inr (Or.inr ⟨rfl, _, rfl, rfl, rfl, fun h => by cases h⟩)) ⟨rfl, rfl⟩
    | succ nn ih =>
      intro r hn
      have hr : 0 ≤ (r : Int) ∧ (r : Int) ≤ 11 := by omega
      refine ha_s (pc' := 5) (ls' := [haR 51 860, haI (b), haI (haS (haRu mu b) r), haI ((r : Int))]) (st' := [haI ((r : Int))]) hF (haEt hT (e := (9, 4, 0, 3, 0, [])) (k := 181) (pc := 4) (by decide) (by decide +kernel) rfl) rfl (fun RG => avS9) (fun nx => rfl) ?_
      refine ha_s (pc' := 7) (ls' := [haR 51 860, haI (b), haI (haS (haRu mu b) r), haI ((r : Int))]) (st' := [haI (12), haI ((r : Int))]) hF (haEt hT (e := (2, 5, 0, 0, 9223372036854775820, [])) (k := 181) (pc := 5) (by decide) (by decide +kernel) rfl) rfl (fun RG => avS2) (fun nx => rfl) ?_
      refine ha_icge hF (haEt hT (e := (55, 7, 29, 0, 0, [])) (k := 181) (pc := 7) (by decide) (by decide +kernel) rfl) rfl rfl rfl (fun q => by omega) (fun q => ?_)
      refine ha_s (pc' := 11) (ls' := [haR 51 860, haI (b), haI (haS (haRu mu b) r), haI ((r : Int))]) (st' := [haI (haS (haRu mu b) r)]) hF (haEt hT (e := (9, 10, 0, 2, 0, [])) (k := 181) (pc := 10) (by decide) (by decide +kernel) rfl) rfl (fun RG => avS9) (fun nx => rfl) ?_
      refine ha_s (pc' := 12) (ls' := [haR 51 860, haI (b), haI (haS (haRu mu b) r), haI ((r : Int))]) (st' := [haR 51 860, haI (haS (haRu mu b) r)]) hF (haEt hT (e := (13, 11, 0, 0, 0, [])) (k := 181) (pc := 11) (by decide) (by decide +kernel) rfl) rfl (fun RG => avS13) (fun nx => rfl) ?_
      refine ha_getR (r := 51) (j := 860) (i := 1) (r' := 77) (j' := 861) hF (haEt hT (e := (60, 12, 12, 1, 13, [1344])) (k := 181) (pc := 12) (by decide) (by decide +kernel) rfl) rfl rfl rfl (by decide +kernel) (by decide) (by decide +kernel) (by rfl) ?_
      refine ha_s (pc' := 16) (ls' := [haR 51 860, haI (b), haI (haS (haRu mu b) r), haI ((r : Int))]) (st' := [haI (b), haR 77 861, haI (haS (haRu mu b) r)]) hF (haEt hT (e := (9, 15, 0, 1, 0, [])) (k := 181) (pc := 15) (by decide) (by decide +kernel) rfl) rfl (fun RG => avS9) (fun nx => rfl) ?_
      refine ha_s (pc' := 17) (ls' := [haR 51 860, haI (b), haI (haS (haRu mu b) r), haI ((r : Int))]) (st' := [haI ((r : Int)), haI (b), haR 77 861, haI (haS (haRu mu b) r)]) hF (haEt hT (e := (9, 16, 0, 3, 0, [])) (k := 181) (pc := 16) (by decide) (by decide +kernel) rfl) rfl (fun RG => avS9) (fun nx => rfl) ?_
      refine ha_callS (q := 182) (d' := d + 1) (as := [haI b, haI (r : Int)]) (rest := [haR 77 861, haI (haS (haRu mu b) r)]) hT hF (haEt hT (e := (79, 17, 182, 0, 126, [1495, 1496])) (k := 181) (pc := 17) (by decide) (by decide +kernel) rfl) rfl rfl rfl (by decide +kernel) (hm_ringAt hT hb hr) (by omega) rfl (show 2 = (abMe 182).2.1 from by decide +kernel) (show 2 + (abMe 182).1.2.2.1 ≤ 49 from by decide +kernel) (fun o ku h => ?_)
      obtain ⟨rfl, rfl⟩ := h
      show haW x _ 20 [haR 51 860, haI (b), haI (haS (haRu ku b) r), haI ((r : Int))] [haI (540 + 164 * b + 12 * (r : Int)), haR 77 861, haI (haS (haRu _ b) r)]
      refine ha_iald (r := 77) hF (haEt hT (e := (64, 20, 0, 0, 0, [])) (k := 181) (pc := 20) (by decide) (by decide +kernel) rfl) rfl rfl (by decide +kernel) (by omega) (by show _ < (1745 : Int); omega) ?_
      have h1 := haRu_s hW hb (n := r) (by omega)
      have h2 := haRu_b hW hb (r := (r : Int)) ⟨hr.1, by omega⟩
      show haW x ku 21 [haR 51 860, haI (b), haI (haS (haRu ku b) r), haI ((r : Int))] [haI (haRu ku b (r : Int)), haI (haS (haRu ku b) r)]
      refine ha_iadd hF (haEt hT (e := (21, 21, 0, 0, 0, [])) (k := 181) (pc := 21) (by decide) (by decide +kernel) rfl) rfl rfl (haUb h1 h2 hr.2).1 (haUb h1 h2 hr.2).2 ?_
      rw [← haS_s (f := haRu ku b) (n := r)]
      clear h1 h2
      refine ha_s (pc' := 23) (ls' := [haR 51 860, haI (b), haI (haS (haRu ku b) (r + 1)), haI ((r : Int))]) (st' := []) hF (haEt hT (e := (15, 22, 0, 2, 0, [])) (k := 181) (pc := 22) (by decide) (by decide +kernel) rfl) rfl (fun RG => avS15) (fun nx => rfl) ?_
      refine ha_iinc (i := 3) (c := 1) hF (haEt hT (e := (20, 23, 0, 3, 9223372036854775809, [])) (k := 181) (pc := 23) (by decide) (by decide +kernel) rfl) rfl rfl rfl rfl rfl (by omega) (by omega) ?_
      show haW _ _ 26 [haR 51 860, haI (b), haI (haS (haRu ku b) (r + 1)), haI ((r : Int) + 1)] []
      refine ha_s (pc' := 4) (ls' := [haR 51 860, haI (b), haI (haS (haRu ku b) (r + 1)), haI ((r : Int) + 1)]) (st' := []) hF (haEt hT (e := (58, 26, 4, 0, 0, [])) (k := 181) (pc := 26) (by decide) (by decide +kernel) rfl) rfl (fun RG => avS58) (fun nx => rfl) ?_
      rw [show (r : Int) + 1 = ((r + 1 : Nat) : Int) from by omega]
      exact ih (r + 1) (by omega)
  refine ha_s (pc' := 1) (ls' := [haR 51 860, haI (b), avJ, avJ]) (st' := [haI (0)]) hF (haEt hT (e := (1, 0, 0, 0, 9223372036854775808, [])) (k := 181) (pc := 0) (by decide) (by decide +kernel) rfl) rfl (fun RG => avS1) (fun nx => rfl) ?_
  refine ha_s (pc' := 2) (ls' := [haR 51 860, haI (b), haI (0), avJ]) (st' := []) hF (haEt hT (e := (15, 1, 0, 2, 0, [])) (k := 181) (pc := 1) (by decide) (by decide +kernel) rfl) rfl (fun RG => avS15) (fun nx => rfl) ?_
  refine ha_s (pc' := 3) (ls' := [haR 51 860, haI (b), haI (0), avJ]) (st' := [haI (0)]) hF (haEt hT (e := (1, 2, 0, 0, 9223372036854775808, [])) (k := 181) (pc := 2) (by decide) (by decide +kernel) rfl) rfl (fun RG => avS1) (fun nx => rfl) ?_
  refine ha_s (pc' := 4) (ls' := [haR 51 860, haI (b), haI (0), haI (0)]) (st' := []) hF (haEt hT (e := (15, 3, 0, 3, 0, [])) (k := 181) (pc := 3) (by decide) (by decide +kernel) rfl) rfl (fun RG => avS15) (fun nx => rfl) ?_
  exact loop 12 0 rfl
