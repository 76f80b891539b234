/-! TallBinsModel.turn -/
theorem hm_isHung (hT : abTabs) {b : Int} {mu : haMu} (hb : 0 ≤ b ∧ b ≤ 5) : haSp 212 1 [haR 51 860, haI b] mu (fun o mu' => (∃ z : Int, o = some (haI z)) ∧ haFm mu mu') :=
  (haSp_con (N := 2) (fun D z sb RG hJ => avCn0 hT 2 D z sb RG hJ) (q := 212) (by decide) (c := avC212_0) (show avC212_0 ∈ [avC212_0] from List.mem_cons_self) (by decide) (Or.inr (by decide)) (haFit1 (r := 51) (j := 860) hb.1 hb.2) (haLe5 rfl) (show 2 ≤ (abMe 212).1.2.2.1 from by decide +kernel)).mono (fun o mu' h => by
    obtain ⟨z, h1, -, -⟩ := h.1.2 (by decide)
    exact ⟨⟨z, h1⟩, h.2⟩)
theorem hm_turn (hT : abTabs) {d : Nat} {f t : Int} {mu : haMu} (hW : haWd mu) :
    haSp 219 (d + 4) [haR 51 860, haI f, haI t] mu (fun o mu' => (∃ z : Int, o = some (haI z)) ∧ haWd mu' ∧ mu' 861 1504 = mu 861 1504 ∧ ∀ (j : Nat) (i : Int), haGd j i → ¬ j = 861 → ¬ j = 868 → ¬ j = 869 → ¬ j = 860 → mu' j i = mu j i) := by
  refine haMet (by decide) (hT.1 219 (by decide)) (haLe5 rfl) (show 3 ≤ (abMe 219).1.2.2.1 from by decide +kernel) (fun x hF hR => ?_)
  have m2 : haW x mu 21 [haR 51 860, haI (f), haI (t), avJ, avJ, avJ, avJ, avJ, avJ, avJ] [] := by
    refine ha_s (pc' := 23) (ls' := [haR 51 860, haI (f), haI (t), avJ, avJ, avJ, avJ, avJ, avJ, avJ]) (st' := [haI (-2)]) hF (haEt hT (e := (2, 21, 0, 0, 9223372036854775806, [])) (k := 219) (pc := 21) (by decide) (by decide +kernel) rfl) rfl (fun RG => avS2) (fun nx => rfl) ?_
    exact hR 23 _ _ _ _ (83, 23, 0, 0, 0, []) (haEt hT (e := (83, 23, 0, 0, 0, [])) (k := 219) (pc := 23) (by decide) (by decide +kernel) rfl) rfl (Or.inr (Or.inr ⟨rfl, _, rfl, rfl, rfl, fun h => by cases h⟩)) ⟨⟨_, rfl⟩, hW, rfl, fun j i hg _ _ _ _ => rfl⟩
  refine ha_s (pc' := 1) (ls' := [haR 51 860, haI (f), haI (t), avJ, avJ, avJ, avJ, avJ, avJ, avJ]) (st' := [haR 51 860]) hF (haEt hT (e := (13, 0, 0, 0, 0, [])) (k := 219) (pc := 0) (by decide) (by decide +kernel) rfl) rfl (fun RG => avS13) (fun nx => rfl) ?_
  refine ha_s (pc' := 2) (ls' := [haR 51 860, haI (f), haI (t), avJ, avJ, avJ, avJ, avJ, avJ, avJ]) (st' := [haI (f), haR 51 860]) hF (haEt hT (e := (9, 1, 0, 1, 0, [])) (k := 219) (pc := 1) (by decide) (by decide +kernel) rfl) rfl (fun RG => avS9) (fun nx => rfl) ?_
  refine ha_callV (q := 202) (d' := d + 1) (r := 51) (j := 860) (as := [haI f]) (rest := []) hT hF (haEt hT (e := (78, 2, 202, 0, 122, [1606, 1608, 52])) (k := 219) (pc := 2) (by decide) (by decide +kernel) rfl) rfl rfl rfl (by decide +kernel) (by decide +kernel) (hm_isBin hT) (by omega) rfl (show 1 = (abMe 202).2.1 from by decide +kernel) (show 0 + (abMe 202).1.2.2.1 ≤ 49 from by decide +kernel) (fun o ku h => ?_)
  obtain ⟨y0, rfl, e9, hy0⟩ := h
  have e9 := e9.symm
  subst e9
  show haW x mu 5 [haR 51 860, haI (f), haI (t), avJ, avJ, avJ, avJ, avJ, avJ, avJ] [haI y0]
  refine ha_ifeq hF (haEt hT (e := (46, 5, 21, 0, 0, [])) (k := 219) (pc := 5) (by decide) (by decide +kernel) rfl) rfl rfl rfl (fun _ => m2) (fun q0 => ?_)
  refine ha_s (pc' := 9) (ls' := [haR 51 860, haI (f), haI (t), avJ, avJ, avJ, avJ, avJ, avJ, avJ]) (st' := [haR 51 860]) hF (haEt hT (e := (13, 8, 0, 0, 0, [])) (k := 219) (pc := 8) (by decide) (by decide +kernel) rfl) rfl (fun RG => avS13) (fun nx => rfl) ?_
  refine ha_s (pc' := 10) (ls' := [haR 51 860, haI (f), haI (t), avJ, avJ, avJ, avJ, avJ, avJ, avJ]) (st' := [haI (t), haR 51 860]) hF (haEt hT (e := (9, 9, 0, 2, 0, [])) (k := 219) (pc := 9) (by decide) (by decide +kernel) rfl) rfl (fun RG => avS9) (fun nx => rfl) ?_
  refine ha_callV (q := 202) (d' := d + 1) (r := 51) (j := 860) (as := [haI t]) (rest := []) hT hF (haEt hT (e := (78, 10, 202, 0, 122, [1606, 1608, 52])) (k := 219) (pc := 10) (by decide) (by decide +kernel) rfl) rfl rfl rfl (by decide +kernel) (by decide +kernel) (hm_isBin hT) (by omega) rfl (show 1 = (abMe 202).2.1 from by decide +kernel) (show 0 + (abMe 202).1.2.2.1 ≤ 49 from by decide +kernel) (fun o ku h => ?_)
  obtain ⟨y1, rfl, e9, hy1⟩ := h
  have e9 := e9.symm
  subst e9
  show haW x mu 13 [haR 51 860, haI (f), haI (t), avJ, avJ, avJ, avJ, avJ, avJ, avJ] [haI y1]
  refine ha_ifeq hF (haEt hT (e := (46, 13, 21, 0, 0, [])) (k := 219) (pc := 13) (by decide) (by decide +kernel) rfl) rfl rfl rfl (fun _ => m2) (fun q1 => ?_)
  refine ha_s (pc' := 17) (ls' := [haR 51 860, haI (f), haI (t), avJ, avJ, avJ, avJ, avJ, avJ, avJ]) (st' := [haI (f)]) hF (haEt hT (e := (9, 16, 0, 1, 0, [])) (k := 219) (pc := 16) (by decide) (by decide +kernel) rfl) rfl (fun RG => avS9) (fun nx => rfl) ?_
  refine ha_s (pc' := 18) (ls' := [haR 51 860, haI (f), haI (t), avJ, avJ, avJ, avJ, avJ, avJ, avJ]) (st' := [haI (t), haI (f)]) hF (haEt hT (e := (9, 17, 0, 2, 0, [])) (k := 219) (pc := 17) (by decide) (by decide +kernel) rfl) rfl (fun RG => avS9) (fun nx => rfl) ?_
  refine ha_icne hF (haEt hT (e := (53, 18, 24, 0, 0, [])) (k := 219) (pc := 18) (by decide) (by decide +kernel) rfl) rfl rfl rfl (fun hft => ?_) (fun _ => m2)
  have hf : 0 ≤ f ∧ f ≤ 5 := by omega
  have ht : 0 ≤ t ∧ t ≤ 5 := by omega
  clear hy0 hy1 q0 q1 m2
  obtain ⟨U, hU⟩ : ∃ U : Int, U = haS (haRu mu f) 12 := ⟨_, rfl⟩
  have hU0 : 0 ≤ U ∧ U ≤ 12000 := by
    have := haRu_s hW hf (n := 12) (by omega)
    rw [← hU] at this
    omega
  refine ha_s (pc' := 25) (ls' := [haR 51 860, haI (f), haI (t), avJ, avJ, avJ, avJ, avJ, avJ, avJ]) (st' := [haR 51 860]) hF (haEt hT (e := (13, 24, 0, 0, 0, [])) (k := 219) (pc := 24) (by decide) (by decide +kernel) rfl) rfl (fun RG => avS13) (fun nx => rfl) ?_
  refine ha_s (pc' := 26) (ls' := [haR 51 860, haI (f), haI (t), avJ, avJ, avJ, avJ, avJ, avJ, avJ]) (st' := [haI (f), haR 51 860]) hF (haEt hT (e := (9, 25, 0, 1, 0, [])) (k := 219) (pc := 25) (by decide) (by decide +kernel) rfl) rfl (fun RG => avS9) (fun nx => rfl) ?_
  refine ha_callV (q := 181) (d' := d + 2) (r := 51) (j := 860) (as := [haI f]) (rest := []) hT hF (haEt hT (e := (78, 26, 181, 0, 273, [1491, 1493, 34])) (k := 219) (pc := 26) (by decide) (by decide +kernel) rfl) rfl rfl rfl (by decide +kernel) (by decide +kernel) (hm_unitsX hT hf hW) (by omega) rfl (show 1 = (abMe 181).2.1 from by decide +kernel) (show 0 + (abMe 181).1.2.2.1 ≤ 49 from by decide +kernel) (fun o ku h => ?_)
  obtain ⟨rfl, e9⟩ := h
  have e9 := e9.symm
  subst e9
  show haW x mu 29 [haR 51 860, haI (f), haI (t), avJ, avJ, avJ, avJ, avJ, avJ, avJ] [haI (haS (haRu mu f) 12)]
  rw [← hU]
  refine ha_s (pc' := 30) (ls' := [haR 51 860, haI (f), haI (t), haI (U), avJ, avJ, avJ, avJ, avJ, avJ]) (st' := []) hF (haEt hT (e := (15, 29, 0, 3, 0, [])) (k := 219) (pc := 29) (by decide) (by decide +kernel) rfl) rfl (fun RG => avS15) (fun nx => rfl) ?_
  refine ha_s (pc' := 31) (ls' := [haR 51 860, haI (f), haI (t), haI (U), avJ, avJ, avJ, avJ, avJ, avJ]) (st' := [haI (U)]) hF (haEt hT (e := (9, 30, 0, 3, 0, [])) (k := 219) (pc := 30) (by decide) (by decide +kernel) rfl) rfl (fun RG => avS9) (fun nx => rfl) ?_
  refine ha_ifne hF (haEt hT (e := (47, 31, 37, 0, 0, [])) (k := 219) (pc := 31) (by decide) (by decide +kernel) rfl) rfl rfl rfl (fun hne => ?_) (fun _ => ?_)
  rotate_left
  · refine ha_s (pc' := 36) (ls' := [haR 51 860, haI (f), haI (t), haI (U), avJ, avJ, avJ, avJ, avJ, avJ]) (st' := [haI (-6)]) hF (haEt hT (e := (2, 34, 0, 0, 9223372036854775802, [])) (k := 219) (pc := 34) (by decide) (by decide +kernel) rfl) rfl (fun RG => avS2) (fun nx => rfl) ?_
    exact hR 36 _ _ _ _ (83, 36, 0, 0, 0, []) (haEt hT (e := (83, 36, 0, 0, 0, [])) (k := 219) (pc := 36) (by decide) (by decide +kernel) rfl) rfl (Or.inr (Or.inr ⟨rfl, _, rfl, rfl, rfl, fun h => by cases h⟩)) ⟨⟨_, rfl⟩, hW, rfl, fun j i hg _ _ _ _ => rfl⟩
  have m5 : ∀ nu : haMu, haFm mu nu → haW x nu 80 [haR 51 860, haI (f), haI (t), haI (U), avJ, avJ, avJ, avJ, avJ, avJ] [] := by
    intro nu h1
    refine ha_s (pc' := 82) (ls' := [haR 51 860, haI (f), haI (t), haI (U), avJ, avJ, avJ, avJ, avJ, avJ]) (st' := [haI (-5)]) hF (haEt hT (e := (2, 80, 0, 0, 9223372036854775803, [])) (k := 219) (pc := 80) (by decide) (by decide +kernel) rfl) rfl (fun RG => avS2) (fun nx => rfl) ?_
    exact hR 82 _ _ _ _ (83, 82, 0, 0, 0, []) (haEt hT (e := (83, 82, 0, 0, 0, [])) (k := 219) (pc := 82) (by decide) (by decide +kernel) rfl) rfl (Or.inr (Or.inr ⟨rfl, _, rfl, rfl, rfl, fun h => by cases h⟩)) ⟨⟨_, rfl⟩, haWd_fm hW h1, h1 861 1504 haGd_fills, fun j i hg _ _ _ _ => h1 j i hg⟩
  refine ha_s (pc' := 38) (ls' := [haR 51 860, haI (f), haI (t), haI (U), avJ, avJ, avJ, avJ, avJ, avJ]) (st' := [haR 51 860]) hF (haEt hT (e := (13, 37, 0, 0, 0, [])) (k := 219) (pc := 37) (by decide) (by decide +kernel) rfl) rfl (fun RG => avS13) (fun nx => rfl) ?_
  refine ha_s (pc' := 39) (ls' := [haR 51 860, haI (f), haI (t), haI (U), avJ, avJ, avJ, avJ, avJ, avJ]) (st' := [haI (f), haR 51 860]) hF (haEt hT (e := (9, 38, 0, 1, 0, [])) (k := 219) (pc := 38) (by decide) (by decide +kernel) rfl) rfl (fun RG => avS9) (fun nx => rfl) ?_
  refine ha_callV (q := 212) (d' := 1) (r := 51) (j := 860) (as := [haI f]) (rest := []) hT hF (haEt hT (e := (78, 39, 212, 0, 344, [1656, 1658, 57])) (k := 219) (pc := 39) (by decide) (by decide +kernel) rfl) rfl rfl rfl (by decide +kernel) (by decide +kernel) (hm_isHung hT hf) (by omega) rfl (show 1 = (abMe 212).2.1 from by decide +kernel) (show 0 + (abMe 212).1.2.2.1 ≤ 49 from by decide +kernel) (fun o k1 h => ?_)
  obtain ⟨⟨u1, rfl⟩, h1⟩ := h
  show haW x k1 42 [haR 51 860, haI (f), haI (t), haI (U), avJ, avJ, avJ, avJ, avJ, avJ] [haI u1]
  refine ha_ifne hF (haEt hT (e := (47, 42, 80, 0, 0, [])) (k := 219) (pc := 42) (by decide) (by decide +kernel) rfl) rfl rfl rfl (fun _ => m5 k1 h1) (fun _ => ?_)
  refine ha_s (pc' := 46) (ls' := [haR 51 860, haI (f), haI (t), haI (U), avJ, avJ, avJ, avJ, avJ, avJ]) (st' := [haR 51 860]) hF (haEt hT (e := (13, 45, 0, 0, 0, [])) (k := 219) (pc := 45) (by decide) (by decide +kernel) rfl) rfl (fun RG => avS13) (fun nx => rfl) ?_
  refine ha_s (pc' := 47) (ls' := [haR 51 860, haI (f), haI (t), haI (U), avJ, avJ, avJ, avJ, avJ, avJ]) (st' := [haI (f), haR 51 860]) hF (haEt hT (e := (9, 46, 0, 1, 0, [])) (k := 219) (pc := 46) (by decide) (by decide +kernel) rfl) rfl (fun RG => avS9) (fun nx => rfl) ?_
  refine ha_callV (q := 208) (d' := 3) (r := 51) (j := 860) (as := [haI f]) (rest := []) hT hF (haEt hT (e := (78, 47, 208, 0, 327, [1639, 1641, 54])) (k := 219) (pc := 47) (by decide) (by decide +kernel) rfl) rfl rfl rfl (by decide +kernel) (by decide +kernel) (hm_flowOf hT hf) (by omega) rfl (show 1 = (abMe 208).2.1 from by decide +kernel) (show 0 + (abMe 208).1.2.2.1 ≤ 49 from by decide +kernel) (fun o k2 h => ?_)
  obtain ⟨⟨u2, rfl⟩, h2⟩ := h
  replace h2 := h1.tr h2
  show haW x k2 50 [haR 51 860, haI (f), haI (t), haI (U), avJ, avJ, avJ, avJ, avJ, avJ] [haI u2]
  refine ha_s (pc' := 51) (ls' := [haR 51 860, haI (f), haI (t), haI (U), avJ, avJ, avJ, avJ, avJ, avJ]) (st' := [haI (2), haI (u2)]) hF (haEt hT (e := (1, 50, 0, 0, 9223372036854775810, [])) (k := 219) (pc := 50) (by decide) (by decide +kernel) rfl) rfl (fun RG => avS1) (fun nx => rfl) ?_
  refine ha_iceq hF (haEt hT (e := (52, 51, 80, 0, 0, [])) (k := 219) (pc := 51) (by decide) (by decide +kernel) rfl) rfl rfl rfl (fun _ => m5 k2 h2) (fun _ => ?_)
  refine ha_s (pc' := 55) (ls' := [haR 51 860, haI (f), haI (t), haI (U), avJ, avJ, avJ, avJ, avJ, avJ]) (st' := [haR 51 860]) hF (haEt hT (e := (13, 54, 0, 0, 0, [])) (k := 219) (pc := 54) (by decide) (by decide +kernel) rfl) rfl (fun RG => avS13) (fun nx => rfl) ?_
  refine ha_s (pc' := 56) (ls' := [haR 51 860, haI (f), haI (t), haI (U), avJ, avJ, avJ, avJ, avJ, avJ]) (st' := [haI (t), haR 51 860]) hF (haEt hT (e := (9, 55, 0, 2, 0, [])) (k := 219) (pc := 55) (by decide) (by decide +kernel) rfl) rfl (fun RG => avS9) (fun nx => rfl) ?_
  refine ha_callV (q := 181) (d' := d + 2) (r := 51) (j := 860) (as := [haI t]) (rest := []) hT hF (haEt hT (e := (78, 56, 181, 0, 273, [1491, 1493, 34])) (k := 219) (pc := 56) (by decide) (by decide +kernel) rfl) rfl rfl rfl (by decide +kernel) (by decide +kernel) (hm_unitsX hT ht (haWd_fm hW h2)) (by omega) rfl (show 1 = (abMe 181).2.1 from by decide +kernel) (show 0 + (abMe 181).1.2.2.1 ≤ 49 from by decide +kernel) (fun o ku h => ?_)
  obtain ⟨rfl, e9⟩ := h
  have e9 := e9.symm
  subst e9
  show haW x k2 59 [haR 51 860, haI (f), haI (t), haI (U), avJ, avJ, avJ, avJ, avJ, avJ] [haI (haS (haRu k2 t) 12)]
  refine ha_ifgt hF (haEt hT (e := (50, 59, 80, 0, 0, [])) (k := 219) (pc := 59) (by decide) (by decide +kernel) rfl) rfl rfl rfl (fun _ => m5 k2 h2) (fun hz => ?_)
  have hz0 : ¬ 0 < haS (haRu mu t) 12 := by
    rw [haS_congr (f := haRu mu t) (g := haRu k2 t) (n := 12) (fun i i0 i1 => ?_)]
    · exact hz
    · have := h2 861 (540 + 164 * t + 12 * i + 0) (haGd_ring ht ⟨i0, by omega⟩ ⟨by omega, by omega⟩ (by omega))
      rw [Int.add_zero] at this
      exact this.symm
  refine ha_s (pc' := 63) (ls' := [haR 51 860, haI (f), haI (t), haI (U), avJ, avJ, avJ, avJ, avJ, avJ]) (st' := [haR 51 860]) hF (haEt hT (e := (13, 62, 0, 0, 0, [])) (k := 219) (pc := 62) (by decide) (by decide +kernel) rfl) rfl (fun RG => avS13) (fun nx => rfl) ?_
  refine ha_s (pc' := 64) (ls' := [haR 51 860, haI (f), haI (t), haI (U), avJ, avJ, avJ, avJ, avJ, avJ]) (st' := [haI (f), haR 51 860]) hF (haEt hT (e := (9, 63, 0, 1, 0, [])) (k := 219) (pc := 63) (by decide) (by decide +kernel) rfl) rfl (fun RG => avS9) (fun nx => rfl) ?_
  refine ha_callV (q := 183) (d' := 0) (r := 51) (j := 860) (as := [haI f]) (rest := []) hT hF (haEt hT (e := (78, 64, 183, 0, 276, [1498, 1500, 35])) (k := 219) (pc := 64) (by decide) (by decide +kernel) rfl) rfl rfl rfl (by decide +kernel) (by decide +kernel) (hm_manIn hT hf) (by omega) rfl (show 1 = (abMe 183).2.1 from by decide +kernel) (show 0 + (abMe 183).1.2.2.1 ≤ 49 from by decide +kernel) (fun o k3 h => ?_)
  obtain ⟨⟨u3, rfl⟩, h3⟩ := h
  replace h3 := h2.tr h3
  show haW x k3 67 [haR 51 860, haI (f), haI (t), haI (U), avJ, avJ, avJ, avJ, avJ, avJ] [haI u3]
  refine ha_s (pc' := 68) (ls' := [haR 51 860, haI (f), haI (t), haI (U), avJ, avJ, avJ, avJ, avJ, avJ]) (st' := [haI (-1), haI (u3)]) hF (haEt hT (e := (1, 67, 0, 0, 9223372036854775807, [])) (k := 219) (pc := 67) (by decide) (by decide +kernel) rfl) rfl (fun RG => avS1) (fun nx => rfl) ?_
  refine ha_icne hF (haEt hT (e := (53, 68, 80, 0, 0, [])) (k := 219) (pc := 68) (by decide) (by decide +kernel) rfl) rfl rfl rfl (fun _ => m5 k3 h3) (fun _ => ?_)
  refine ha_s (pc' := 72) (ls' := [haR 51 860, haI (f), haI (t), haI (U), avJ, avJ, avJ, avJ, avJ, avJ]) (st' := [haR 51 860]) hF (haEt hT (e := (13, 71, 0, 0, 0, [])) (k := 219) (pc := 71) (by decide) (by decide +kernel) rfl) rfl (fun RG => avS13) (fun nx => rfl) ?_
  refine ha_s (pc' := 73) (ls' := [haR 51 860, haI (f), haI (t), haI (U), avJ, avJ, avJ, avJ, avJ, avJ]) (st' := [haI (t), haR 51 860]) hF (haEt hT (e := (9, 72, 0, 2, 0, [])) (k := 219) (pc := 72) (by decide) (by decide +kernel) rfl) rfl (fun RG => avS9) (fun nx => rfl) ?_
  refine ha_callV (q := 183) (d' := 0) (r := 51) (j := 860) (as := [haI t]) (rest := []) hT hF (haEt hT (e := (78, 73, 183, 0, 276, [1498, 1500, 35])) (k := 219) (pc := 73) (by decide) (by decide +kernel) rfl) rfl rfl rfl (by decide +kernel) (by decide +kernel) (hm_manIn hT ht) (by omega) rfl (show 1 = (abMe 183).2.1 from by decide +kernel) (show 0 + (abMe 183).1.2.2.1 ≤ 49 from by decide +kernel) (fun o k4 h => ?_)
  obtain ⟨⟨u4, rfl⟩, h4⟩ := h
  replace h4 := h3.tr h4
  show haW x k4 76 [haR 51 860, haI (f), haI (t), haI (U), avJ, avJ, avJ, avJ, avJ, avJ] [haI u4]
  refine ha_s (pc' := 77) (ls' := [haR 51 860, haI (f), haI (t), haI (U), avJ, avJ, avJ, avJ, avJ, avJ]) (st' := [haI (-1), haI (u4)]) hF (haEt hT (e := (1, 76, 0, 0, 9223372036854775807, [])) (k := 219) (pc := 76) (by decide) (by decide +kernel) rfl) rfl (fun RG => avS1) (fun nx => rfl) ?_
  refine ha_iceq hF (haEt hT (e := (52, 77, 83, 0, 0, [])) (k := 219) (pc := 77) (by decide) (by decide +kernel) rfl) rfl rfl rfl (fun _ => ?_) (fun _ => m5 k4 h4)
  refine ha_s (pc' := 84) (ls' := [haR 51 860, haI (f), haI (t), haI (U), avJ, avJ, avJ, avJ, avJ, avJ]) (st' := [haI (f)]) hF (haEt hT (e := (9, 83, 0, 1, 0, [])) (k := 219) (pc := 83) (by decide) (by decide +kernel) rfl) rfl (fun RG => avS9) (fun nx => rfl) ?_
  refine ha_callS (q := 173) (d' := d) (as := [haI f]) (rest := []) hT hF (haEt hT (e := (79, 84, 173, 0, 108, [1337, 1338])) (k := 219) (pc := 84) (by decide) (by decide +kernel) rfl) rfl rfl rfl (by decide +kernel) (hm_binAt hT hf) (by omega) rfl (show 1 = (abMe 173).2.1 from by decide +kernel) (show 0 + (abMe 173).1.2.2.1 ≤ 49 from by decide +kernel) (fun o ku h => ?_)
  obtain ⟨rfl, e9⟩ := h
  have e9 := e9.symm
  subst e9
  show haW x k4 87 [haR 51 860, haI (f), haI (t), haI (U), avJ, avJ, avJ, avJ, avJ, avJ] [haI (520 + 164 * f)]
  refine ha_s (pc' := 89) (ls' := [haR 51 860, haI (f), haI (t), haI (U), haI (520 + 164 * f), avJ, avJ, avJ, avJ, avJ]) (st' := []) hF (haEt hT (e := (14, 87, 0, 4, 0, [])) (k := 219) (pc := 87) (by decide) (by decide +kernel) rfl) rfl (fun RG => avS14) (fun nx => rfl) ?_
  refine ha_s (pc' := 90) (ls' := [haR 51 860, haI (f), haI (t), haI (U), haI (520 + 164 * f), avJ, avJ, avJ, avJ, avJ]) (st' := [haI (t)]) hF (haEt hT (e := (9, 89, 0, 2, 0, [])) (k := 219) (pc := 89) (by decide) (by decide +kernel) rfl) rfl (fun RG => avS9) (fun nx => rfl) ?_
  refine ha_callS (q := 173) (d' := d) (as := [haI t]) (rest := []) hT hF (haEt hT (e := (79, 90, 173, 0, 108, [1337, 1338])) (k := 219) (pc := 90) (by decide) (by decide +kernel) rfl) rfl rfl rfl (by decide +kernel) (hm_binAt hT ht) (by omega) rfl (show 1 = (abMe 173).2.1 from by decide +kernel) (show 0 + (abMe 173).1.2.2.1 ≤ 49 from by decide +kernel) (fun o ku h => ?_)
  obtain ⟨rfl, e9⟩ := h
  have e9 := e9.symm
  subst e9
  show haW x k4 93 [haR 51 860, haI (f), haI (t), haI (U), haI (520 + 164 * f), avJ, avJ, avJ, avJ, avJ] [haI (520 + 164 * t)]
  refine ha_s (pc' := 95) (ls' := [haR 51 860, haI (f), haI (t), haI (U), haI (520 + 164 * f), haI (520 + 164 * t), avJ, avJ, avJ, avJ]) (st' := []) hF (haEt hT (e := (14, 93, 0, 5, 0, [])) (k := 219) (pc := 93) (by decide) (by decide +kernel) rfl) rfl (fun RG => avS14) (fun nx => rfl) ?_
  refine ha_s (pc' := 96) (ls' := [haR 51 860, haI (f), haI (t), haI (U), haI (520 + 164 * f), haI (520 + 164 * t), avJ, avJ, avJ, avJ]) (st' := [haR 51 860]) hF (haEt hT (e := (13, 95, 0, 0, 0, [])) (k := 219) (pc := 95) (by decide) (by decide +kernel) rfl) rfl (fun RG => avS13) (fun nx => rfl) ?_
  refine ha_getR (r := 51) (j := 860) (i := 1) (r' := 77) (j' := 861) hF (haEt hT (e := (60, 96, 12, 1, 13, [1344])) (k := 219) (pc := 96) (by decide) (by decide +kernel) rfl) rfl rfl rfl (by decide +kernel) (by decide) (by decide +kernel) (by rfl) ?_
  refine ha_s (pc' := 101) (ls' := [haR 51 860, haI (f), haI (t), haI (U), haI (520 + 164 * f), haI (520 + 164 * t), avJ, avJ, avJ, avJ]) (st' := [haI (520 + 164 * t), haR 77 861]) hF (haEt hT (e := (8, 99, 0, 5, 0, [])) (k := 219) (pc := 99) (by decide) (by decide +kernel) rfl) rfl (fun RG => avS8) (fun nx => rfl) ?_
  refine ha_iald (r := 77) hF (haEt hT (e := (64, 101, 0, 0, 0, [])) (k := 219) (pc := 101) (by decide) (by decide +kernel) rfl) rfl rfl (by decide +kernel) (by omega) (by show _ < (1745 : Int); omega) ?_
  refine ha_s (pc' := 103) (ls' := [haR 51 860, haI (f), haI (t), haI (U), haI (520 + 164 * f), haI (520 + 164 * t), avJ, avJ, avJ, avJ]) (st' := [haR 51 860, haI (k4 861 (520 + 164 * t))]) hF (haEt hT (e := (13, 102, 0, 0, 0, [])) (k := 219) (pc := 102) (by decide) (by decide +kernel) rfl) rfl (fun RG => avS13) (fun nx => rfl) ?_
  refine ha_getR (r := 51) (j := 860) (i := 1) (r' := 77) (j' := 861) hF (haEt hT (e := (60, 103, 12, 1, 13, [1344])) (k := 219) (pc := 103) (by decide) (by decide +kernel) rfl) rfl rfl rfl (by decide +kernel) (by decide) (by decide +kernel) (by rfl) ?_
  refine ha_s (pc' := 108) (ls' := [haR 51 860, haI (f), haI (t), haI (U), haI (520 + 164 * f), haI (520 + 164 * t), avJ, avJ, avJ, avJ]) (st' := [haI (520 + 164 * t), haR 77 861, haI (k4 861 (520 + 164 * t))]) hF (haEt hT (e := (8, 106, 0, 5, 0, [])) (k := 219) (pc := 106) (by decide) (by decide +kernel) rfl) rfl (fun RG => avS8) (fun nx => rfl) ?_
  refine ha_s (pc' := 109) (ls' := [haR 51 860, haI (f), haI (t), haI (U), haI (520 + 164 * f), haI (520 + 164 * t), avJ, avJ, avJ, avJ]) (st' := [haI (1), haI (520 + 164 * t), haR 77 861, haI (k4 861 (520 + 164 * t))]) hF (haEt hT (e := (1, 108, 0, 0, 9223372036854775809, [])) (k := 219) (pc := 108) (by decide) (by decide +kernel) rfl) rfl (fun RG => avS1) (fun nx => rfl) ?_
  refine ha_iadd hF (haEt hT (e := (21, 109, 0, 0, 0, [])) (k := 219) (pc := 109) (by decide) (by decide +kernel) rfl) rfl rfl (by omega) (by omega) ?_
  refine ha_iald (r := 77) hF (haEt hT (e := (64, 110, 0, 0, 0, [])) (k := 219) (pc := 110) (by decide) (by decide +kernel) rfl) rfl rfl (by decide +kernel) (by omega) (by show _ < (1745 : Int); omega) ?_
  have c0 := h4 861 (520 + 164 * t + 0) (haGd_hold ht ⟨by omega, by omega⟩)
  have c1 := h4 861 (520 + 164 * t + 1) (haGd_hold ht ⟨by omega, by omega⟩)
  rw [Int.add_zero] at c0
  rw [c0, c1, show 520 + 164 * t + 1 = 521 + 164 * t by omega]
  obtain ⟨b1, b2, b3, b4⟩ := hW.1 t ht.1 ht.2
  refine ha_imulA hF (haEt hT (e := (23, 111, 0, 0, 0, [])) (k := 219) (pc := 111) (by decide) (by decide +kernel) rfl) rfl rfl (fun w w1 w2 w3 => ?_)
  refine ha_s (pc' := 113) (ls' := [haR 51 860, haI (f), haI (t), haI (U), haI (520 + 164 * f), haI (520 + 164 * t), avJ, avJ, avJ, avJ]) (st' := [haI (U), haI (w)]) hF (haEt hT (e := (9, 112, 0, 3, 0, [])) (k := 219) (pc := 112) (by decide) (by decide +kernel) rfl) rfl (fun RG => avS9) (fun nx => rfl) ?_
  have hw := w3 (by rw [Int.mul_comm]; exact (haMulB ⟨b1, b2⟩ ⟨b3, b4⟩).1) (by rw [Int.mul_comm]; exact (haMulB ⟨b1, b2⟩ ⟨b3, b4⟩).2)
  refine ha_icge hF (haEt hT (e := (55, 113, 119, 0, 0, [])) (k := 219) (pc := 113) (by decide) (by decide +kernel) rfl) rfl rfl rfl (fun hge => ?_) (fun _ => ?_)
  rotate_left
  · refine ha_s (pc' := 118) (ls' := [haR 51 860, haI (f), haI (t), haI (U), haI (520 + 164 * f), haI (520 + 164 * t), avJ, avJ, avJ, avJ]) (st' := [haI (-3)]) hF (haEt hT (e := (2, 116, 0, 0, 9223372036854775805, [])) (k := 219) (pc := 116) (by decide) (by decide +kernel) rfl) rfl (fun RG => avS2) (fun nx => rfl) ?_
    exact hR 118 _ _ _ _ (83, 118, 0, 0, 0, []) (haEt hT (e := (83, 118, 0, 0, 0, [])) (k := 219) (pc := 118) (by decide) (by decide +kernel) rfl) rfl (Or.inr (Or.inr ⟨rfl, _, rfl, rfl, rfl, fun h => by cases h⟩)) ⟨⟨_, rfl⟩, haWd_fm hW h4, h4 861 1504 haGd_fills, fun j i hg _ _ _ _ => h4 j i hg⟩
  have hUR : U ≤ mu 861 (520 + 164 * t) * mu 861 (521 + 164 * t) := by
    rw [← hw]
    exact hge
  clear w1 w2 w3 hw hge c0 c1
  refine ha_s (pc' := 120) (ls' := [haR 51 860, haI (f), haI (t), haI (U), haI (520 + 164 * f), haI (520 + 164 * t), avJ, avJ, avJ, avJ]) (st' := [haR 51 860]) hF (haEt hT (e := (13, 119, 0, 0, 0, [])) (k := 219) (pc := 119) (by decide) (by decide +kernel) rfl) rfl (fun RG => avS13) (fun nx => rfl) ?_
  refine ha_s (pc' := 121) (ls' := [haR 51 860, haI (f), haI (t), haI (U), haI (520 + 164 * f), haI (520 + 164 * t), avJ, avJ, avJ, avJ]) (st' := [haI (f), haR 51 860]) hF (haEt hT (e := (9, 120, 0, 1, 0, [])) (k := 219) (pc := 120) (by decide) (by decide +kernel) rfl) rfl (fun RG => avS9) (fun nx => rfl) ?_
  refine ha_callV (q := 208) (d' := 3) (r := 51) (j := 860) (as := [haI f]) (rest := []) hT hF (haEt hT (e := (78, 121, 208, 0, 327, [1639, 1641, 54])) (k := 219) (pc := 121) (by decide) (by decide +kernel) rfl) rfl rfl rfl (by decide +kernel) (by decide +kernel) (hm_flowOf hT hf) (by omega) rfl (show 1 = (abMe 208).2.1 from by decide +kernel) (show 0 + (abMe 208).1.2.2.1 ≤ 49 from by decide +kernel) (fun o k5 h => ?_)
  obtain ⟨⟨u5, rfl⟩, h5⟩ := h
  replace h5 := h4.tr h5
  show haW x k5 124 [haR 51 860, haI (f), haI (t), haI (U), haI (520 + 164 * f), haI (520 + 164 * t), avJ, avJ, avJ, avJ] [haI u5]
  have go : ∀ al : Int, haW x k5 132 [haR 51 860, haI (f), haI (t), haI (U), haI (520 + 164 * f), haI (520 + 164 * t), avJ, avJ, avJ, avJ] [haI al] := by
    intro al
    refine ha_s (pc' := 134) (ls' := [haR 51 860, haI (f), haI (t), haI (U), haI (520 + 164 * f), haI (520 + 164 * t), haI (al), avJ, avJ, avJ]) (st' := []) hF (haEt hT (e := (14, 132, 0, 6, 0, [])) (k := 219) (pc := 132) (by decide) (by decide +kernel) rfl) rfl (fun RG => avS14) (fun nx => rfl) ?_
    refine ha_s (pc' := 135) (ls' := [haR 51 860, haI (f), haI (t), haI (U), haI (520 + 164 * f), haI (520 + 164 * t), haI (al), avJ, avJ, avJ]) (st' := [haR 51 860]) hF (haEt hT (e := (13, 134, 0, 0, 0, [])) (k := 219) (pc := 134) (by decide) (by decide +kernel) rfl) rfl (fun RG => avS13) (fun nx => rfl) ?_
    refine ha_getR (r := 51) (j := 860) (i := 1) (r' := 77) (j' := 861) hF (haEt hT (e := (60, 135, 12, 1, 13, [1344])) (k := 219) (pc := 135) (by decide) (by decide +kernel) rfl) rfl rfl rfl (by decide +kernel) (by decide) (by decide +kernel) (by rfl) ?_
    refine ha_s (pc' := 140) (ls' := [haR 51 860, haI (f), haI (t), haI (U), haI (520 + 164 * f), haI (520 + 164 * t), haI (al), avJ, avJ, avJ]) (st' := [haI (520 + 164 * t), haR 77 861]) hF (haEt hT (e := (8, 138, 0, 5, 0, [])) (k := 219) (pc := 138) (by decide) (by decide +kernel) rfl) rfl (fun RG => avS8) (fun nx => rfl) ?_
    refine ha_s (pc' := 141) (ls' := [haR 51 860, haI (f), haI (t), haI (U), haI (520 + 164 * f), haI (520 + 164 * t), haI (al), avJ, avJ, avJ]) (st' := [haI (4), haI (520 + 164 * t), haR 77 861]) hF (haEt hT (e := (1, 140, 0, 0, 9223372036854775812, [])) (k := 219) (pc := 140) (by decide) (by decide +kernel) rfl) rfl (fun RG => avS1) (fun nx => rfl) ?_
    refine ha_iadd hF (haEt hT (e := (21, 141, 0, 0, 0, [])) (k := 219) (pc := 141) (by decide) (by decide +kernel) rfl) rfl rfl (by omega) (by omega) ?_
    refine ha_s (pc' := 143) (ls' := [haR 51 860, haI (f), haI (t), haI (U), haI (520 + 164 * f), haI (520 + 164 * t), haI (al), avJ, avJ, avJ]) (st' := [haR 51 860, haI (520 + 164 * t + (4)), haR 77 861]) hF (haEt hT (e := (13, 142, 0, 0, 0, [])) (k := 219) (pc := 142) (by decide) (by decide +kernel) rfl) rfl (fun RG => avS13) (fun nx => rfl) ?_
    refine ha_getR (r := 51) (j := 860) (i := 1) (r' := 77) (j' := 861) hF (haEt hT (e := (60, 143, 12, 1, 13, [1344])) (k := 219) (pc := 143) (by decide) (by decide +kernel) rfl) rfl rfl rfl (by decide +kernel) (by decide) (by decide +kernel) (by rfl) ?_
    refine ha_s (pc' := 148) (ls' := [haR 51 860, haI (f), haI (t), haI (U), haI (520 + 164 * f), haI (520 + 164 * t), haI (al), avJ, avJ, avJ]) (st' := [haI (520 + 164 * f), haR 77 861, haI (520 + 164 * t + (4)), haR 77 861]) hF (haEt hT (e := (8, 146, 0, 4, 0, [])) (k := 219) (pc := 146) (by decide) (by decide +kernel) rfl) rfl (fun RG => avS8) (fun nx => rfl) ?_
    refine ha_s (pc' := 149) (ls' := [haR 51 860, haI (f), haI (t), haI (U), haI (520 + 164 * f), haI (520 + 164 * t), haI (al), avJ, avJ, avJ]) (st' := [haI (4), haI (520 + 164 * f), haR 77 861, haI (520 + 164 * t + (4)), haR 77 861]) hF (haEt hT (e := (1, 148, 0, 0, 9223372036854775812, [])) (k := 219) (pc := 148) (by decide) (by decide +kernel) rfl) rfl (fun RG => avS1) (fun nx => rfl) ?_
    refine ha_iadd hF (haEt hT (e := (21, 149, 0, 0, 0, [])) (k := 219) (pc := 149) (by decide) (by decide +kernel) rfl) rfl rfl (by omega) (by omega) ?_
    refine ha_iald (r := 77) hF (haEt hT (e := (64, 150, 0, 0, 0, [])) (k := 219) (pc := 150) (by decide) (by decide +kernel) rfl) rfl rfl (by decide +kernel) (by omega) (by show _ < (1745 : Int); omega) ?_
    refine ha_bd (j := 861) (r := 77) (i := 520 + 164 * f + 4) (lo := -1) (up := 3) hF (by decide) (by decide +kernel) (Or.inl (by decide +kernel)) (by omega) (by show _ < (1745 : Int); omega) (haSl4 hf) (fun g1 g2 => ?_)
    refine ha_iast (r := 77) hF (haEt hT (e := (69, 151, 0, 0, 0, [])) (k := 219) (pc := 151) (by decide) (by decide +kernel) rfl) rfl rfl (by decide +kernel) (by omega) (by show _ < (1745 : Int); omega) (haSl4 ht) g1 g2 ?_
    refine ha_s (pc' := 153) (ls' := [haR 51 860, haI (f), haI (t), haI (U), haI (520 + 164 * f), haI (520 + 164 * t), haI (al), avJ, avJ, avJ]) (st' := [haI (0)]) hF (haEt hT (e := (1, 152, 0, 0, 9223372036854775808, [])) (k := 219) (pc := 152) (by decide) (by decide +kernel) rfl) rfl (fun RG => avS1) (fun nx => rfl) ?_
    refine ha_s (pc' := 155) (ls' := [haR 51 860, haI (f), haI (t), haI (U), haI (520 + 164 * f), haI (520 + 164 * t), haI (al), haI (0), avJ, avJ]) (st' := []) hF (haEt hT (e := (14, 153, 0, 7, 0, [])) (k := 219) (pc := 153) (by decide) (by decide +kernel) rfl) rfl (fun RG => avS14) (fun nx => rfl) ?_
    refine ha_s (pc' := 156) (ls' := [haR 51 860, haI (f), haI (t), haI (U), haI (520 + 164 * f), haI (520 + 164 * t), haI (al), haI (0), avJ, avJ]) (st' := [haI (0)]) hF (haEt hT (e := (1, 155, 0, 0, 9223372036854775808, [])) (k := 219) (pc := 155) (by decide) (by decide +kernel) rfl) rfl (fun RG => avS1) (fun nx => rfl) ?_
    refine ha_s (pc' := 158) (ls' := [haR 51 860, haI (f), haI (t), haI (U), haI (520 + 164 * f), haI (520 + 164 * t), haI (al), haI (0), haI (0), avJ]) (st' := []) hF (haEt hT (e := (14, 156, 0, 8, 0, [])) (k := 219) (pc := 156) (by decide) (by decide +kernel) rfl) rfl (fun RG => avS14) (fun nx => rfl) ?_
    have hs := haTn_start (v := k5 861 (520 + 164 * f + 4)) hW h5 hf ht hU hz0
    generalize haUp k5 861 (520 + 164 * t + 4) (k5 861 (520 + 164 * f + 4)) = nu0 at hs ⊢
    have fin : ∀ (nu : haMu) (L i : Int) (v9 : avV), haTn mu nu f t U L → haW x nu 310 [haR 51 860, haI (f), haI (t), haI (U), haI (520 + 164 * f), haI (520 + 164 * t), haI (al), haI (L), haI (i), v9] [] := by
      intro nu L i v9 h
      refine ha_s (pc' := 311) (ls' := [haR 51 860, haI (f), haI (t), haI (U), haI (520 + 164 * f), haI (520 + 164 * t), haI (al), haI (L), haI (i), v9]) (st' := [haR 51 860]) hF (haEt hT (e := (13, 310, 0, 0, 0, [])) (k := 219) (pc := 310) (by decide) (by decide +kernel) rfl) rfl (fun RG => avS13) (fun nx => rfl) ?_
      refine ha_getR (r := 51) (j := 860) (i := 1) (r' := 77) (j' := 861) hF (haEt hT (e := (60, 311, 12, 1, 13, [1344])) (k := 219) (pc := 311) (by decide) (by decide +kernel) rfl) rfl rfl rfl (by decide +kernel) (by decide) (by decide +kernel) (by rfl) ?_
      refine ha_s (pc' := 316) (ls' := [haR 51 860, haI (f), haI (t), haI (U), haI (520 + 164 * f), haI (520 + 164 * t), haI (al), haI (L), haI (i), v9]) (st' := [haI (520 + 164 * f), haR 77 861]) hF (haEt hT (e := (8, 314, 0, 4, 0, [])) (k := 219) (pc := 314) (by decide) (by decide +kernel) rfl) rfl (fun RG => avS8) (fun nx => rfl) ?_
      refine ha_s (pc' := 317) (ls' := [haR 51 860, haI (f), haI (t), haI (U), haI (520 + 164 * f), haI (520 + 164 * t), haI (al), haI (L), haI (i), v9]) (st' := [haI (4), haI (520 + 164 * f), haR 77 861]) hF (haEt hT (e := (1, 316, 0, 0, 9223372036854775812, [])) (k := 219) (pc := 316) (by decide) (by decide +kernel) rfl) rfl (fun RG => avS1) (fun nx => rfl) ?_
      refine ha_iadd hF (haEt hT (e := (21, 317, 0, 0, 0, [])) (k := 219) (pc := 317) (by decide) (by decide +kernel) rfl) rfl rfl (by omega) (by omega) ?_
      refine ha_s (pc' := 319) (ls' := [haR 51 860, haI (f), haI (t), haI (U), haI (520 + 164 * f), haI (520 + 164 * t), haI (al), haI (L), haI (i), v9]) (st' := [haI (-1), haI (520 + 164 * f + (4)), haR 77 861]) hF (haEt hT (e := (1, 318, 0, 0, 9223372036854775807, [])) (k := 219) (pc := 318) (by decide) (by decide +kernel) rfl) rfl (fun RG => avS1) (fun nx => rfl) ?_
      refine ha_iast (r := 77) hF (haEt hT (e := (69, 319, 0, 0, 0, [])) (k := 219) (pc := 319) (by decide) (by decide +kernel) rfl) rfl rfl (by decide +kernel) (by omega) (by show _ < (1745 : Int); omega) (haSl4 hf) (by omega) (by omega) ?_
      refine ha_s (pc' := 321) (ls' := [haR 51 860, haI (f), haI (t), haI (U), haI (520 + 164 * f), haI (520 + 164 * t), haI (al), haI (L), haI (i), v9]) (st' := [haR 51 860]) hF (haEt hT (e := (13, 320, 0, 0, 0, [])) (k := 219) (pc := 320) (by decide) (by decide +kernel) rfl) rfl (fun RG => avS13) (fun nx => rfl) ?_
      refine ha_s (pc' := 322) (ls' := [haR 51 860, haI (f), haI (t), haI (U), haI (520 + 164 * f), haI (520 + 164 * t), haI (al), haI (L), haI (i), v9]) (st' := [haI (0), haR 51 860]) hF (haEt hT (e := (1, 321, 0, 0, 9223372036854775808, [])) (k := 219) (pc := 321) (by decide) (by decide +kernel) rfl) rfl (fun RG => avS1) (fun nx => rfl) ?_
      refine ha_putZ (r := 51) (j := 860) (i := 32) (lo := 0) (up := 1) hF (haEt hT (e := (62, 322, 12, 32, 137, [1375])) (k := 219) (pc := 322) (by decide) (by decide +kernel) rfl) rfl rfl rfl (by decide +kernel) (by decide +kernel) (fun q hq => by cases hq; rfl) (by rfl) (by omega) (by omega) ⟨by omega, by omega⟩ ?_
      refine ha_s (pc' := 326) (ls' := [haR 51 860, haI (f), haI (t), haI (U), haI (520 + 164 * f), haI (520 + 164 * t), haI (al), haI (L), haI (i), v9]) (st' := [haI (U)]) hF (haEt hT (e := (9, 325, 0, 3, 0, [])) (k := 219) (pc := 325) (by decide) (by decide +kernel) rfl) rfl (fun RG => avS9) (fun nx => rfl) ?_
      exact hR 326 _ _ _ _ (83, 326, 0, 0, 0, []) (haEt hT (e := (83, 326, 0, 0, 0, [])) (k := 219) (pc := 326) (by decide) (by decide +kernel) rfl) rfl (Or.inr (Or.inr ⟨rfl, _, rfl, rfl, rfl, fun h => by cases h⟩)) ⟨⟨_, rfl⟩, haWd_other (haWd_up (s := 4) h.1 ⟨by omega, by omega⟩) (fun i => haUp_n (fun z => absurd z.1 (by decide))), by rw [haUp_n (fun z => absurd z.1 (by decide)), haUp_n (fun z => by omega)]; exact h.2.2.1, fun j i hg a1 a2 a3 a4 => by rw [haUp_n (fun z => a4 z.1), haUp_n (fun z => a1 z.1)]; exact h.2.1 j i hg a1 a2 a3 a4⟩
    have outer : ∀ (ii : Nat) (i : Int) (nu : haMu) (L : Int) (v9 : avV), (ii : Int) = 12 - i → 0 ≤ i → haTn mu nu f t U L → haW x nu 158 [haR 51 860, haI (f), haI (t), haI (U), haI (520 + 164 * f), haI (520 + 164 * t), haI (al), haI (L), haI (i), v9] [] := by
      intro ii
      induction ii with
      | zero =>
        intro i nu L v9 hi i0 h
        have hB := (h.1.1 f hf.1 hf.2).2.1
        refine ha_s (pc' := 160) (ls' := [haR 51 860, haI (f), haI (t), haI (U), haI (520 + 164 * f), haI (520 + 164 * t), haI (al), haI (L), haI (i), v9]) (st' := [haI (i)]) hF (haEt hT (e := (8, 158, 0, 8, 0, [])) (k := 219) (pc := 158) (by decide) (by decide +kernel) rfl) rfl (fun RG => avS8) (fun nx => rfl) ?_
        refine ha_s (pc' := 161) (ls' := [haR 51 860, haI (f), haI (t), haI (U), haI (520 + 164 * f), haI (520 + 164 * t), haI (al), haI (L), haI (i), v9]) (st' := [haR 51 860, haI (i)]) hF (haEt hT (e := (13, 160, 0, 0, 0, [])) (k := 219) (pc := 160) (by decide) (by decide +kernel) rfl) rfl (fun RG => avS13) (fun nx => rfl) ?_
        refine ha_getR (r := 51) (j := 860) (i := 1) (r' := 77) (j' := 861) hF (haEt hT (e := (60, 161, 12, 1, 13, [1344])) (k := 219) (pc := 161) (by decide) (by decide +kernel) rfl) rfl rfl rfl (by decide +kernel) (by decide) (by decide +kernel) (by rfl) ?_
        refine ha_s (pc' := 166) (ls' := [haR 51 860, haI (f), haI (t), haI (U), haI (520 + 164 * f), haI (520 + 164 * t), haI (al), haI (L), haI (i), v9]) (st' := [haI (520 + 164 * f), haR 77 861, haI (i)]) hF (haEt hT (e := (8, 164, 0, 4, 0, [])) (k := 219) (pc := 164) (by decide) (by decide +kernel) rfl) rfl (fun RG => avS8) (fun nx => rfl) ?_
        refine ha_iald (r := 77) hF (haEt hT (e := (64, 166, 0, 0, 0, [])) (k := 219) (pc := 166) (by decide) (by decide +kernel) rfl) rfl rfl (by decide +kernel) (by omega) (by show _ < (1745 : Int); omega) ?_
        exact ha_icge hF (haEt hT (e := (55, 167, 310, 0, 0, [])) (k := 219) (pc := 167) (by decide) (by decide +kernel) rfl) rfl rfl rfl (fun _ => fin nu L i v9 h) (fun q => by omega)
      | succ ii ih =>
        intro i nu L v9 hi i0 h
        have hB := (h.1.1 f hf.1 hf.2).2.1
        refine ha_s (pc' := 160) (ls' := [haR 51 860, haI (f), haI (t), haI (U), haI (520 + 164 * f), haI (520 + 164 * t), haI (al), haI (L), haI (i), v9]) (st' := [haI (i)]) hF (haEt hT (e := (8, 158, 0, 8, 0, [])) (k := 219) (pc := 158) (by decide) (by decide +kernel) rfl) rfl (fun RG => avS8) (fun nx => rfl) ?_
        refine ha_s (pc' := 161) (ls' := [haR 51 860, haI (f), haI (t), haI (U), haI (520 + 164 * f), haI (520 + 164 * t), haI (al), haI (L), haI (i), v9]) (st' := [haR 51 860, haI (i)]) hF (haEt hT (e := (13, 160, 0, 0, 0, [])) (k := 219) (pc := 160) (by decide) (by decide +kernel) rfl) rfl (fun RG => avS13) (fun nx => rfl) ?_
        refine ha_getR (r := 51) (j := 860) (i := 1) (r' := 77) (j' := 861) hF (haEt hT (e := (60, 161, 12, 1, 13, [1344])) (k := 219) (pc := 161) (by decide) (by decide +kernel) rfl) rfl rfl rfl (by decide +kernel) (by decide) (by decide +kernel) (by rfl) ?_
        refine ha_s (pc' := 166) (ls' := [haR 51 860, haI (f), haI (t), haI (U), haI (520 + 164 * f), haI (520 + 164 * t), haI (al), haI (L), haI (i), v9]) (st' := [haI (520 + 164 * f), haR 77 861, haI (i)]) hF (haEt hT (e := (8, 164, 0, 4, 0, [])) (k := 219) (pc := 164) (by decide) (by decide +kernel) rfl) rfl (fun RG => avS8) (fun nx => rfl) ?_
        refine ha_iald (r := 77) hF (haEt hT (e := (64, 166, 0, 0, 0, [])) (k := 219) (pc := 166) (by decide) (by decide +kernel) rfl) rfl rfl (by decide +kernel) (by omega) (by show _ < (1745 : Int); omega) ?_
        refine ha_icge hF (haEt hT (e := (55, 167, 310, 0, 0, [])) (k := 219) (pc := 167) (by decide) (by decide +kernel) rfl) rfl rfl rfl (fun _ => fin nu L i v9 h) (fun hlt => ?_)
        have body : ∀ rr : Int, (0 ≤ rr ∧ rr ≤ 11) → haW x nu 193 [haR 51 860, haI (f), haI (t), haI (U), haI (520 + 164 * f), haI (520 + 164 * t), haI (al), haI (L), haI (i), v9] [haI rr, haI f] := by
          intro rr hrr
          refine ha_callS (q := 182) (d' := d + 1) (as := [haI f, haI rr]) (rest := []) hT hF (haEt hT (e := (79, 193, 182, 0, 126, [1495, 1496])) (k := 219) (pc := 193) (by decide) (by decide +kernel) rfl) rfl rfl rfl (by decide +kernel) (hm_ringAt hT hf hrr) (by omega) rfl (show 2 = (abMe 182).2.1 from by decide +kernel) (show 0 + (abMe 182).1.2.2.1 ≤ 49 from by decide +kernel) (fun o ku h9 => ?_)
          obtain ⟨rfl, e9⟩ := h9
          have e9 := e9.symm
          subst e9
          show haW x nu 196 [haR 51 860, haI (f), haI (t), haI (U), haI (520 + 164 * f), haI (520 + 164 * t), haI (al), haI (L), haI (i), v9] [haI (540 + 164 * f + 12 * rr)]
          refine ha_s (pc' := 198) (ls' := [haR 51 860, haI (f), haI (t), haI (U), haI (520 + 164 * f), haI (520 + 164 * t), haI (al), haI (L), haI (i), haI (540 + 164 * f + 12 * rr)]) (st' := []) hF (haEt hT (e := (14, 196, 0, 9, 0, [])) (k := 219) (pc := 196) (by decide) (by decide +kernel) rfl) rfl (fun RG => avS14) (fun nx => rfl) ?_
          have inner : ∀ (mm : Nat) (nu : haMu) (L : Int), haRu nu f rr ≤ (mm : Int) → haTn mu nu f t U L → haW x nu 198 [haR 51 860, haI (f), haI (t), haI (U), haI (520 + 164 * f), haI (520 + 164 * t), haI (al), haI (L), haI (i), haI (540 + 164 * f + 12 * rr)] [] := by
            intro mm
            induction mm with
            | zero =>
              intro nu L hm h
              refine ha_s (pc' := 199) (ls' := [haR 51 860, haI (f), haI (t), haI (U), haI (520 + 164 * f), haI (520 + 164 * t), haI (al), haI (L), haI (i), haI (540 + 164 * f + 12 * rr)]) (st' := [haR 51 860]) hF (haEt hT (e := (13, 198, 0, 0, 0, [])) (k := 219) (pc := 198) (by decide) (by decide +kernel) rfl) rfl (fun RG => avS13) (fun nx => rfl) ?_
              refine ha_getR (r := 51) (j := 860) (i := 1) (r' := 77) (j' := 861) hF (haEt hT (e := (60, 199, 12, 1, 13, [1344])) (k := 219) (pc := 199) (by decide) (by decide +kernel) rfl) rfl rfl rfl (by decide +kernel) (by decide) (by decide +kernel) (by rfl) ?_
              refine ha_s (pc' := 204) (ls' := [haR 51 860, haI (f), haI (t), haI (U), haI (520 + 164 * f), haI (520 + 164 * t), haI (al), haI (L), haI (i), haI (540 + 164 * f + 12 * rr)]) (st' := [haI (540 + 164 * f + 12 * rr), haR 77 861]) hF (haEt hT (e := (8, 202, 0, 9, 0, [])) (k := 219) (pc := 202) (by decide) (by decide +kernel) rfl) rfl (fun RG => avS8) (fun nx => rfl) ?_
              refine ha_iald (r := 77) hF (haEt hT (e := (64, 204, 0, 0, 0, [])) (k := 219) (pc := 204) (by decide) (by decide +kernel) rfl) rfl rfl (by decide +kernel) (by omega) (by show _ < (1745 : Int); omega) ?_
              refine ha_ifle hF (haEt hT (e := (51, 205, 304, 0, 0, [])) (k := 219) (pc := 205) (by decide) (by decide +kernel) rfl) rfl rfl rfl (fun _ => ?_) (fun q => absurd (show 0 < haRu nu f rr from q) (by omega))
              refine ha_iinc (i := 8) (c := 1) hF (haEt hT (e := (20, 304, 0, 8, 9223372036854775809, [])) (k := 219) (pc := 304) (by decide) (by decide +kernel) rfl) rfl rfl rfl rfl rfl (by omega) (by omega) ?_
              show haW _ _ 307 [haR 51 860, haI (f), haI (t), haI (U), haI (520 + 164 * f), haI (520 + 164 * t), haI (al), haI (L), haI (i + 1), haI (540 + 164 * f + 12 * rr)] []
              refine ha_s (pc' := 158) (ls' := [haR 51 860, haI (f), haI (t), haI (U), haI (520 + 164 * f), haI (520 + 164 * t), haI (al), haI (L), haI (i + 1), haI (540 + 164 * f + 12 * rr)]) (st' := []) hF (haEt hT (e := (58, 307, 158, 0, 0, [])) (k := 219) (pc := 307) (by decide) (by decide +kernel) rfl) rfl (fun RG => avS58) (fun nx => rfl) ?_
              exact ih (i + 1) nu L _ (by omega) (by omega) h
            | succ mm ih2 =>
              intro nu L hm h
              refine ha_s (pc' := 199) (ls' := [haR 51 860, haI (f), haI (t), haI (U), haI (520 + 164 * f), haI (520 + 164 * t), haI (al), haI (L), haI (i), haI (540 + 164 * f + 12 * rr)]) (st' := [haR 51 860]) hF (haEt hT (e := (13, 198, 0, 0, 0, [])) (k := 219) (pc := 198) (by decide) (by decide +kernel) rfl) rfl (fun RG => avS13) (fun nx => rfl) ?_
              refine ha_getR (r := 51) (j := 860) (i := 1) (r' := 77) (j' := 861) hF (haEt hT (e := (60, 199, 12, 1, 13, [1344])) (k := 219) (pc := 199) (by decide) (by decide +kernel) rfl) rfl rfl rfl (by decide +kernel) (by decide) (by decide +kernel) (by rfl) ?_
              refine ha_s (pc' := 204) (ls' := [haR 51 860, haI (f), haI (t), haI (U), haI (520 + 164 * f), haI (520 + 164 * t), haI (al), haI (L), haI (i), haI (540 + 164 * f + 12 * rr)]) (st' := [haI (540 + 164 * f + 12 * rr), haR 77 861]) hF (haEt hT (e := (8, 202, 0, 9, 0, [])) (k := 219) (pc := 202) (by decide) (by decide +kernel) rfl) rfl (fun RG => avS8) (fun nx => rfl) ?_
              refine ha_iald (r := 77) hF (haEt hT (e := (64, 204, 0, 0, 0, [])) (k := 219) (pc := 204) (by decide) (by decide +kernel) rfl) rfl rfl (by decide +kernel) (by omega) (by show _ < (1745 : Int); omega) ?_
              refine ha_ifle hF (haEt hT (e := (51, 205, 304, 0, 0, [])) (k := 219) (pc := 205) (by decide) (by decide +kernel) rfl) rfl rfl rfl (fun _ => ?_) (fun hp => ?_)
              · refine ha_iinc (i := 8) (c := 1) hF (haEt hT (e := (20, 304, 0, 8, 9223372036854775809, [])) (k := 219) (pc := 304) (by decide) (by decide +kernel) rfl) rfl rfl rfl rfl rfl (by omega) (by omega) ?_
                show haW _ _ 307 [haR 51 860, haI (f), haI (t), haI (U), haI (520 + 164 * f), haI (520 + 164 * t), haI (al), haI (L), haI (i + 1), haI (540 + 164 * f + 12 * rr)] []
                refine ha_s (pc' := 158) (ls' := [haR 51 860, haI (f), haI (t), haI (U), haI (520 + 164 * f), haI (520 + 164 * t), haI (al), haI (L), haI (i + 1), haI (540 + 164 * f + 12 * rr)]) (st' := []) hF (haEt hT (e := (58, 307, 158, 0, 0, [])) (k := 219) (pc := 307) (by decide) (by decide +kernel) rfl) rfl (fun RG => avS58) (fun nx => rfl) ?_
                exact ih (i + 1) nu L _ (by omega) (by omega) h
              · have hp : 0 < haRu nu f rr := hp
                have search : ∀ (ll : Nat) (L : Int), (ll : Int) = 12 - L → haTn mu nu f t U L → haW x nu 208 [haR 51 860, haI (f), haI (t), haI (U), haI (520 + 164 * f), haI (520 + 164 * t), haI (al), haI (L), haI (i), haI (540 + 164 * f + 12 * rr)] [] := by
                  intro ll
                  induction ll with
                  | zero =>
                    intro L hl h
                    have := haTn_L h hf ht hrr hUR hp
                    omega
                  | succ ll ih3 =>
                    intro L hl h
                    have hLR := haTn_L h hf ht hrr hUR hp
                    have hL : 0 ≤ L ∧ L ≤ 11 := ⟨h.2.2.2.2.2.1, by omega⟩
                    have hH := (h.2.2.2.1 t ht.1 ht.2).2
                    have hbL := haRu_b h.1 ht (r := L) ⟨hL.1, by omega⟩
                    have hbF := haRu_b h.1 hf (r := rr) ⟨hrr.1, by omega⟩
                    refine ha_s (pc' := 209) (ls' := [haR 51 860, haI (f), haI (t), haI (U), haI (520 + 164 * f), haI (520 + 164 * t), haI (al), haI (L), haI (i), haI (540 + 164 * f + 12 * rr)]) (st' := [haR 51 860]) hF (haEt hT (e := (13, 208, 0, 0, 0, [])) (k := 219) (pc := 208) (by decide) (by decide +kernel) rfl) rfl (fun RG => avS13) (fun nx => rfl) ?_
                    refine ha_getR (r := 51) (j := 860) (i := 1) (r' := 77) (j' := 861) hF (haEt hT (e := (60, 209, 12, 1, 13, [1344])) (k := 219) (pc := 209) (by decide) (by decide +kernel) rfl) rfl rfl rfl (by decide +kernel) (by decide) (by decide +kernel) (by rfl) ?_
                    refine ha_s (pc' := 213) (ls' := [haR 51 860, haI (f), haI (t), haI (U), haI (520 + 164 * f), haI (520 + 164 * t), haI (al), haI (L), haI (i), haI (540 + 164 * f + 12 * rr)]) (st' := [haI (t), haR 77 861]) hF (haEt hT (e := (9, 212, 0, 2, 0, [])) (k := 219) (pc := 212) (by decide) (by decide +kernel) rfl) rfl (fun RG => avS9) (fun nx => rfl) ?_
                    refine ha_s (pc' := 215) (ls' := [haR 51 860, haI (f), haI (t), haI (U), haI (520 + 164 * f), haI (520 + 164 * t), haI (al), haI (L), haI (i), haI (540 + 164 * f + 12 * rr)]) (st' := [haI (L), haI (t), haR 77 861]) hF (haEt hT (e := (8, 213, 0, 7, 0, [])) (k := 219) (pc := 213) (by decide) (by decide +kernel) rfl) rfl (fun RG => avS8) (fun nx => rfl) ?_
                    refine ha_callS (q := 182) (d' := d + 1) (as := [haI t, haI L]) (rest := [haR 77 861]) hT hF (haEt hT (e := (79, 215, 182, 0, 126, [1495, 1496])) (k := 219) (pc := 215) (by decide) (by decide +kernel) rfl) rfl rfl rfl (by decide +kernel) (hm_ringAt hT ht hL) (by omega) rfl (show 2 = (abMe 182).2.1 from by decide +kernel) (show 1 + (abMe 182).1.2.2.1 ≤ 49 from by decide +kernel) (fun o ku h9 => ?_)
                    obtain ⟨rfl, e9⟩ := h9
                    have e9 := e9.symm
                    subst e9
                    show haW x nu 218 [haR 51 860, haI (f), haI (t), haI (U), haI (520 + 164 * f), haI (520 + 164 * t), haI (al), haI (L), haI (i), haI (540 + 164 * f + 12 * rr)] [haI (540 + 164 * t + 12 * L), haR 77 861]
                    refine ha_iald (r := 77) hF (haEt hT (e := (64, 218, 0, 0, 0, [])) (k := 219) (pc := 218) (by decide) (by decide +kernel) rfl) rfl rfl (by decide +kernel) (by omega) (by show _ < (1745 : Int); omega) ?_
                    refine ha_s (pc' := 220) (ls' := [haR 51 860, haI (f), haI (t), haI (U), haI (520 + 164 * f), haI (520 + 164 * t), haI (al), haI (L), haI (i), haI (540 + 164 * f + 12 * rr)]) (st' := [haR 51 860, haI (nu 861 (540 + 164 * t + 12 * L))]) hF (haEt hT (e := (13, 219, 0, 0, 0, [])) (k := 219) (pc := 219) (by decide) (by decide +kernel) rfl) rfl (fun RG => avS13) (fun nx => rfl) ?_
                    refine ha_getR (r := 51) (j := 860) (i := 1) (r' := 77) (j' := 861) hF (haEt hT (e := (60, 220, 12, 1, 13, [1344])) (k := 219) (pc := 220) (by decide) (by decide +kernel) rfl) rfl rfl rfl (by decide +kernel) (by decide) (by decide +kernel) (by rfl) ?_
                    refine ha_s (pc' := 225) (ls' := [haR 51 860, haI (f), haI (t), haI (U), haI (520 + 164 * f), haI (520 + 164 * t), haI (al), haI (L), haI (i), haI (540 + 164 * f + 12 * rr)]) (st' := [haI (520 + 164 * t), haR 77 861, haI (nu 861 (540 + 164 * t + 12 * L))]) hF (haEt hT (e := (8, 223, 0, 5, 0, [])) (k := 219) (pc := 223) (by decide) (by decide +kernel) rfl) rfl (fun RG => avS8) (fun nx => rfl) ?_
                    refine ha_s (pc' := 226) (ls' := [haR 51 860, haI (f), haI (t), haI (U), haI (520 + 164 * f), haI (520 + 164 * t), haI (al), haI (L), haI (i), haI (540 + 164 * f + 12 * rr)]) (st' := [haI (1), haI (520 + 164 * t), haR 77 861, haI (nu 861 (540 + 164 * t + 12 * L))]) hF (haEt hT (e := (1, 225, 0, 0, 9223372036854775809, [])) (k := 219) (pc := 225) (by decide) (by decide +kernel) rfl) rfl (fun RG => avS1) (fun nx => rfl) ?_
                    refine ha_iadd hF (haEt hT (e := (21, 226, 0, 0, 0, [])) (k := 219) (pc := 226) (by decide) (by decide +kernel) rfl) rfl rfl (by omega) (by omega) ?_
                    refine ha_iald (r := 77) hF (haEt hT (e := (64, 227, 0, 0, 0, [])) (k := 219) (pc := 227) (by decide) (by decide +kernel) rfl) rfl rfl (by decide +kernel) (by omega) (by show _ < (1745 : Int); omega) ?_
                    rw [show 520 + 164 * t + 1 = 521 + 164 * t by omega]
                    refine ha_icne hF (haEt hT (e := (53, 228, 237, 0, 0, [])) (k := 219) (pc := 228) (by decide) (by decide +kernel) rfl) rfl rfl rfl (fun hn => ?_) (fun he => ?_)
                    · have hn : haRu nu t L < nu 861 (521 + 164 * t) := by
                        have h1 : ¬ haRu nu t L = nu 861 (521 + 164 * t) := hn
                        have h2 := hbL.2.1
                        omega
                      refine ha_s (pc' := 238) (ls' := [haR 51 860, haI (f), haI (t), haI (U), haI (520 + 164 * f), haI (520 + 164 * t), haI (al), haI (L), haI (i), haI (540 + 164 * f + 12 * rr)]) (st' := [haR 51 860]) hF (haEt hT (e := (13, 237, 0, 0, 0, [])) (k := 219) (pc := 237) (by decide) (by decide +kernel) rfl) rfl (fun RG => avS13) (fun nx => rfl) ?_
                      refine ha_s (pc' := 240) (ls' := [haR 51 860, haI (f), haI (t), haI (U), haI (520 + 164 * f), haI (520 + 164 * t), haI (al), haI (L), haI (i), haI (540 + 164 * f + 12 * rr)]) (st' := [haI (540 + 164 * f + 12 * rr), haR 51 860]) hF (haEt hT (e := (8, 238, 0, 9, 0, [])) (k := 219) (pc := 238) (by decide) (by decide +kernel) rfl) rfl (fun RG => avS8) (fun nx => rfl) ?_
                      refine ha_s (pc' := 241) (ls' := [haR 51 860, haI (f), haI (t), haI (U), haI (520 + 164 * f), haI (520 + 164 * t), haI (al), haI (L), haI (i), haI (540 + 164 * f + 12 * rr)]) (st' := [haR 51 860, haI (540 + 164 * f + 12 * rr), haR 51 860]) hF (haEt hT (e := (13, 240, 0, 0, 0, [])) (k := 219) (pc := 240) (by decide) (by decide +kernel) rfl) rfl (fun RG => avS13) (fun nx => rfl) ?_
                      refine ha_getR (r := 51) (j := 860) (i := 1) (r' := 77) (j' := 861) hF (haEt hT (e := (60, 241, 12, 1, 13, [1344])) (k := 219) (pc := 241) (by decide) (by decide +kernel) rfl) rfl rfl rfl (by decide +kernel) (by decide) (by decide +kernel) (by rfl) ?_
                      refine ha_s (pc' := 246) (ls' := [haR 51 860, haI (f), haI (t), haI (U), haI (520 + 164 * f), haI (520 + 164 * t), haI (al), haI (L), haI (i), haI (540 + 164 * f + 12 * rr)]) (st' := [haI (540 + 164 * f + 12 * rr), haR 77 861, haI (540 + 164 * f + 12 * rr), haR 51 860]) hF (haEt hT (e := (8, 244, 0, 9, 0, [])) (k := 219) (pc := 244) (by decide) (by decide +kernel) rfl) rfl (fun RG => avS8) (fun nx => rfl) ?_
                      refine ha_iald (r := 77) hF (haEt hT (e := (64, 246, 0, 0, 0, [])) (k := 219) (pc := 246) (by decide) (by decide +kernel) rfl) rfl rfl (by decide +kernel) (by omega) (by show _ < (1745 : Int); omega) ?_
                      refine ha_s (pc' := 248) (ls' := [haR 51 860, haI (f), haI (t), haI (U), haI (520 + 164 * f), haI (520 + 164 * t), haI (al), haI (L), haI (i), haI (540 + 164 * f + 12 * rr)]) (st' := [haR 51 860, haI (nu 861 (540 + 164 * f + 12 * rr)), haI (540 + 164 * f + 12 * rr), haR 51 860]) hF (haEt hT (e := (13, 247, 0, 0, 0, [])) (k := 219) (pc := 247) (by decide) (by decide +kernel) rfl) rfl (fun RG => avS13) (fun nx => rfl) ?_
                      refine ha_getR (r := 51) (j := 860) (i := 1) (r' := 77) (j' := 861) hF (haEt hT (e := (60, 248, 12, 1, 13, [1344])) (k := 219) (pc := 248) (by decide) (by decide +kernel) rfl) rfl rfl rfl (by decide +kernel) (by decide) (by decide +kernel) (by rfl) ?_
                      refine ha_s (pc' := 253) (ls' := [haR 51 860, haI (f), haI (t), haI (U), haI (520 + 164 * f), haI (520 + 164 * t), haI (al), haI (L), haI (i), haI (540 + 164 * f + 12 * rr)]) (st' := [haI (520 + 164 * t), haR 77 861, haI (nu 861 (540 + 164 * f + 12 * rr)), haI (540 + 164 * f + 12 * rr), haR 51 860]) hF (haEt hT (e := (8, 251, 0, 5, 0, [])) (k := 219) (pc := 251) (by decide) (by decide +kernel) rfl) rfl (fun RG => avS8) (fun nx => rfl) ?_
                      refine ha_s (pc' := 254) (ls' := [haR 51 860, haI (f), haI (t), haI (U), haI (520 + 164 * f), haI (520 + 164 * t), haI (al), haI (L), haI (i), haI (540 + 164 * f + 12 * rr)]) (st' := [haI (1), haI (520 + 164 * t), haR 77 861, haI (nu 861 (540 + 164 * f + 12 * rr)), haI (540 + 164 * f + 12 * rr), haR 51 860]) hF (haEt hT (e := (1, 253, 0, 0, 9223372036854775809, [])) (k := 219) (pc := 253) (by decide) (by decide +kernel) rfl) rfl (fun RG => avS1) (fun nx => rfl) ?_
                      refine ha_iadd hF (haEt hT (e := (21, 254, 0, 0, 0, [])) (k := 219) (pc := 254) (by decide) (by decide +kernel) rfl) rfl rfl (by omega) (by omega) ?_
                      refine ha_iald (r := 77) hF (haEt hT (e := (64, 255, 0, 0, 0, [])) (k := 219) (pc := 255) (by decide) (by decide +kernel) rfl) rfl rfl (by decide +kernel) (by omega) (by show _ < (1745 : Int); omega) ?_
                      refine ha_s (pc' := 257) (ls' := [haR 51 860, haI (f), haI (t), haI (U), haI (520 + 164 * f), haI (520 + 164 * t), haI (al), haI (L), haI (i), haI (540 + 164 * f + 12 * rr)]) (st' := [haR 51 860, haI (nu 861 (520 + 164 * t + (1))), haI (nu 861 (540 + 164 * f + 12 * rr)), haI (540 + 164 * f + 12 * rr), haR 51 860]) hF (haEt hT (e := (13, 256, 0, 0, 0, [])) (k := 219) (pc := 256) (by decide) (by decide +kernel) rfl) rfl (fun RG => avS13) (fun nx => rfl) ?_
                      refine ha_getR (r := 51) (j := 860) (i := 1) (r' := 77) (j' := 861) hF (haEt hT (e := (60, 257, 12, 1, 13, [1344])) (k := 219) (pc := 257) (by decide) (by decide +kernel) rfl) rfl rfl rfl (by decide +kernel) (by decide) (by decide +kernel) (by rfl) ?_
                      refine ha_s (pc' := 261) (ls' := [haR 51 860, haI (f), haI (t), haI (U), haI (520 + 164 * f), haI (520 + 164 * t), haI (al), haI (L), haI (i), haI (540 + 164 * f + 12 * rr)]) (st' := [haI (t), haR 77 861, haI (nu 861 (520 + 164 * t + (1))), haI (nu 861 (540 + 164 * f + 12 * rr)), haI (540 + 164 * f + 12 * rr), haR 51 860]) hF (haEt hT (e := (9, 260, 0, 2, 0, [])) (k := 219) (pc := 260) (by decide) (by decide +kernel) rfl) rfl (fun RG => avS9) (fun nx => rfl) ?_
                      refine ha_s (pc' := 263) (ls' := [haR 51 860, haI (f), haI (t), haI (U), haI (520 + 164 * f), haI (520 + 164 * t), haI (al), haI (L), haI (i), haI (540 + 164 * f + 12 * rr)]) (st' := [haI (L), haI (t), haR 77 861, haI (nu 861 (520 + 164 * t + (1))), haI (nu 861 (540 + 164 * f + 12 * rr)), haI (540 + 164 * f + 12 * rr), haR 51 860]) hF (haEt hT (e := (8, 261, 0, 7, 0, [])) (k := 219) (pc := 261) (by decide) (by decide +kernel) rfl) rfl (fun RG => avS8) (fun nx => rfl) ?_
                      refine ha_callS (q := 182) (d' := d + 1) (as := [haI t, haI L]) (rest := [haR 77 861, haI (nu 861 (520 + 164 * t + 1)), haI (nu 861 (540 + 164 * f + 12 * rr)), haI (540 + 164 * f + 12 * rr), haR 51 860]) hT hF (haEt hT (e := (79, 263, 182, 0, 126, [1495, 1496])) (k := 219) (pc := 263) (by decide) (by decide +kernel) rfl) rfl rfl rfl (by decide +kernel) (hm_ringAt hT ht hL) (by omega) rfl (show 2 = (abMe 182).2.1 from by decide +kernel) (show 5 + (abMe 182).1.2.2.1 ≤ 49 from by decide +kernel) (fun o ku h9 => ?_)
                      obtain ⟨rfl, e9⟩ := h9
                      have e9 := e9.symm
                      subst e9
                      show haW x nu 266 [haR 51 860, haI (f), haI (t), haI (U), haI (520 + 164 * f), haI (520 + 164 * t), haI (al), haI (L), haI (i), haI (540 + 164 * f + 12 * rr)] [haI (540 + 164 * t + 12 * L), haR 77 861, haI (nu 861 (520 + 164 * t + 1)), haI (nu 861 (540 + 164 * f + 12 * rr)), haI (540 + 164 * f + 12 * rr), haR 51 860]
                      rw [show 520 + 164 * t + 1 = 521 + 164 * t by omega]
                      refine ha_iald (r := 77) hF (haEt hT (e := (64, 266, 0, 0, 0, [])) (k := 219) (pc := 266) (by decide) (by decide +kernel) rfl) rfl rfl (by decide +kernel) (by omega) (by show _ < (1745 : Int); omega) ?_
                      refine ha_isub hF (haEt hT (e := (22, 267, 0, 0, 0, [])) (k := 219) (pc := 267) (by decide) (by decide +kernel) rfl) rfl rfl (by have := hbL.1; have := hbL.2; have e9 : nu 861 (540 + 164 * t + 12 * L) = haRu nu t L := rfl; omega) (by have := hbL.1; have := hbL.2; have e9 : nu 861 (540 + 164 * t + 12 * L) = haRu nu t L := rfl; omega) ?_
                      refine ha_callS (q := 269) (d' := d + 1) (as := [haI (nu 861 (540 + 164 * f + 12 * rr)), haI (nu 861 (521 + 164 * t) - nu 861 (540 + 164 * t + 12 * L))]) (rest := [haI (540 + 164 * f + 12 * rr), haR 51 860]) hT hF (haEt hT (e := (79, 268, 269, 0, 171, [1515, 598])) (k := 219) (pc := 268) (by decide) (by decide +kernel) rfl) rfl rfl rfl (by decide +kernel) (hm_min hT) (by omega) rfl (show 2 = (abMe 269).2.1 from by decide +kernel) (show 2 + (abMe 269).1.2.2.1 ≤ 49 from by decide +kernel) (fun o ku h9 => ?_)
                      obtain ⟨n, rfl, e9, hn9⟩ := h9
                      have e9 := e9.symm
                      subst e9
                      have hnn : 1 ≤ n ∧ n ≤ haRu nu f rr ∧ haRu nu t L + n ≤ nu 861 (521 + 164 * t) := by
                        have a1 : nu 861 (540 + 164 * f + 12 * rr) = haRu nu f rr := rfl
                        have a2 : nu 861 (540 + 164 * t + 12 * L) = haRu nu t L := rfl
                        rw [a1, a2] at hn9
                        omega
                      show haW x nu 271 [haR 51 860, haI (f), haI (t), haI (U), haI (520 + 164 * f), haI (520 + 164 * t), haI (al), haI (L), haI (i), haI (540 + 164 * f + 12 * rr)] [haI n, haI (540 + 164 * f + 12 * rr), haR 51 860]
                      refine ha_callV (q := 215) (d' := d + 1) (r := 51) (j := 860) (as := [haI (540 + 164 * f + 12 * rr), haI n]) (rest := []) hT hF (haEt hT (e := (78, 271, 215, 0, 330, [1668, 1670, 60])) (k := 219) (pc := 271) (by decide) (by decide +kernel) rfl) rfl rfl rfl (by decide +kernel) (by decide +kernel) (hm_parts hT hf hrr rfl (m := haRu nu f rr) ⟨by omega, by omega⟩ ⟨hnn.1, hnn.2.1⟩ rfl (fun c c0 c1 => by have := haRing_lot h.1 hf hrr ⟨c0, c1⟩; omega) (h.1.2 f rr hf.1 hf.2 hrr.1 hrr.2).2.2.2) (by omega) rfl (show 2 = (abMe 215).2.1 from by decide +kernel) (show 0 + (abMe 215).1.2.2.1 ≤ 49 from by decide +kernel) (fun o mu1 h9 => ?_)
                      obtain ⟨rfl, p1, p2, p3, p4, p5⟩ := h9
                      have hW1 : haWd mu1 := haWd_parts h.1 hf hrr ⟨hnn.1, hnn.2.1⟩ p1 p3 p4 p5
                      show haW x mu1 274 [haR 51 860, haI (f), haI (t), haI (U), haI (520 + 164 * f), haI (520 + 164 * t), haI (al), haI (L), haI (i), haI (540 + 164 * f + 12 * rr)] []
                      have hn1000 : n ≤ 1000 := by omega
                      refine ha_s (pc' := 275) (ls' := [haR 51 860, haI (f), haI (t), haI (U), haI (520 + 164 * f), haI (520 + 164 * t), haI (al), haI (L), haI (i), haI (540 + 164 * f + 12 * rr)]) (st' := [haR 51 860]) hF (haEt hT (e := (13, 274, 0, 0, 0, [])) (k := 219) (pc := 274) (by decide) (by decide +kernel) rfl) rfl (fun RG => avS13) (fun nx => rfl) ?_
                      refine ha_getR (r := 51) (j := 860) (i := 16) (r' := 66) (j' := 868) hF (haEt hT (e := (60, 275, 12, 16, 40, [1359])) (k := 219) (pc := 275) (by decide) (by decide +kernel) rfl) rfl rfl rfl (by decide +kernel) (by decide) (by decide +kernel) (by rfl) ?_
                      refine ha_s (pc' := 279) (ls' := [haR 51 860, haI (f), haI (t), haI (U), haI (520 + 164 * f), haI (520 + 164 * t), haI (al), haI (L), haI (i), haI (540 + 164 * f + 12 * rr)]) (st' := [haI (2), haR 66 868]) hF (haEt hT (e := (1, 278, 0, 0, 9223372036854775810, [])) (k := 219) (pc := 278) (by decide) (by decide +kernel) rfl) rfl (fun RG => avS1) (fun nx => rfl) ?_
                      refine ha_s (pc' := 280) (ls' := [haR 51 860, haI (f), haI (t), haI (U), haI (520 + 164 * f), haI (520 + 164 * t), haI (al), haI (L), haI (i), haI (540 + 164 * f + 12 * rr)]) (st' := [haI (2), haR 66 868, haI (2), haR 66 868]) hF (haEt hT (e := (45, 279, 0, 0, 0, [])) (k := 219) (pc := 279) (by decide) (by decide +kernel) rfl) rfl (fun RG => avS45) (fun nx => rfl) ?_
                      refine ha_iald (r := 66) hF (haEt hT (e := (64, 280, 0, 0, 0, [])) (k := 219) (pc := 280) (by decide) (by decide +kernel) rfl) rfl rfl (by decide +kernel) (by omega) (by show _ < (12 : Int); omega) ?_
                      refine ha_s (pc' := 282) (ls' := [haR 51 860, haI (f), haI (t), haI (U), haI (520 + 164 * f), haI (520 + 164 * t), haI (al), haI (L), haI (i), haI (540 + 164 * f + 12 * rr)]) (st' := [haI (3), haI (mu1 868 (2)), haI (2), haR 66 868]) hF (haEt hT (e := (1, 281, 0, 0, 9223372036854775811, [])) (k := 219) (pc := 281) (by decide) (by decide +kernel) rfl) rfl (fun RG => avS1) (fun nx => rfl) ?_
                      refine ha_s (pc' := 283) (ls' := [haR 51 860, haI (f), haI (t), haI (U), haI (520 + 164 * f), haI (520 + 164 * t), haI (al), haI (L), haI (i), haI (540 + 164 * f + 12 * rr)]) (st' := [haR 51 860, haI (3), haI (mu1 868 (2)), haI (2), haR 66 868]) hF (haEt hT (e := (13, 282, 0, 0, 0, [])) (k := 219) (pc := 282) (by decide) (by decide +kernel) rfl) rfl (fun RG => avS13) (fun nx => rfl) ?_
                      refine ha_getR (r := 51) (j := 860) (i := 16) (r' := 66) (j' := 868) hF (haEt hT (e := (60, 283, 12, 16, 40, [1359])) (k := 219) (pc := 283) (by decide) (by decide +kernel) rfl) rfl rfl rfl (by decide +kernel) (by decide) (by decide +kernel) (by rfl) ?_
                      refine ha_s (pc' := 287) (ls' := [haR 51 860, haI (f), haI (t), haI (U), haI (520 + 164 * f), haI (520 + 164 * t), haI (al), haI (L), haI (i), haI (540 + 164 * f + 12 * rr)]) (st' := [haI (0), haR 66 868, haI (3), haI (mu1 868 (2)), haI (2), haR 66 868]) hF (haEt hT (e := (1, 286, 0, 0, 9223372036854775808, [])) (k := 219) (pc := 286) (by decide) (by decide +kernel) rfl) rfl (fun RG => avS1) (fun nx => rfl) ?_
                      refine ha_iald (r := 66) hF (haEt hT (e := (64, 287, 0, 0, 0, [])) (k := 219) (pc := 287) (by decide) (by decide +kernel) rfl) rfl rfl (by decide +kernel) (by omega) (by show _ < (12 : Int); omega) ?_
                      refine ha_imul hF (haEt hT (e := (23, 288, 0, 0, 0, [])) (k := 219) (pc := 288) (by decide) (by decide +kernel) rfl) rfl rfl (by omega) (by omega) ?_
                      refine ha_isubA hF (haEt hT (e := (22, 289, 0, 0, 0, [])) (k := 219) (pc := 289) (by decide) (by decide +kernel) rfl) rfl rfl (fun v v1 v2 v3 => ?_)
                      refine ha_iast (r := 66) hF (haEt hT (e := (69, 290, 0, 0, 0, [])) (k := 219) (pc := 290) (by decide) (by decide +kernel) rfl) rfl rfl (by decide +kernel) (by omega) (by show _ < (12 : Int); omega) (by rfl) v1 v2 ?_
                      have hW2 : haWd (haUp mu1 868 2 v) := haWd_other hW1 (fun i => haUp_n (fun z => absurd z.1 (by decide)))
                      have c0 : haUp mu1 868 2 v 868 0 = n := by
                        rw [haUp_n (fun z => absurd z.2 (by decide))]
                        exact p2
                      have c4 : ∀ c : Int, 0 ≤ c → c < 8 → haUp mu1 868 2 v 868 (4 + c) = mu1 868 (4 + c) := fun c h0 h1 => haUp_n (fun z => by omega)
                      have q1 := p1 861 (520 + 164 * t + 1) (haGd_hold ht ⟨by omega, by omega⟩) (by decide) (by decide) (fun z => haAp1 hf hrr (i := 1) ⟨by omega, by omega⟩ z.2)
                      rw [show 520 + 164 * t + 1 = 521 + 164 * t by omega] at q1
                      have q2 := p1 861 (540 + 164 * t + 12 * L + 0) (haGd_ring ht hL ⟨by omega, by omega⟩ (by omega)) (by decide) (by decide) (fun z => hft (haAp2 hrr hL (c := 0) ⟨by omega, by omega⟩ z.2).1.symm)
                      rw [Int.add_zero] at q2
                      have lay := fun (mu' : haMu) => haWd_lays (mu := haUp mu1 868 2 v) (mu' := mu') hW2 ht hL c0 (by omega) (fun c c0 c1 => by rw [c4 c c0 c1]; exact (p3 c c0 c1).1) (by rw [haS_congr (g := fun c => mu1 868 (4 + c)) (n := 8) (fun c c0 c1 => c4 c c0 c1)]; exact p4) (by
                        rw [haUp_n (fun z => absurd z.1 (by decide)), haUp_n (fun z => absurd z.1 (by decide)), q1, q2]
                        exact hnn.2.2)
                      refine ha_s (pc' := 292) (ls' := [haR 51 860, haI (f), haI (t), haI (U), haI (520 + 164 * f), haI (520 + 164 * t), haI (al), haI (L), haI (i), haI (540 + 164 * f + 12 * rr)]) (st' := [haR 51 860]) hF (haEt hT (e := (13, 291, 0, 0, 0, [])) (k := 219) (pc := 291) (by decide) (by decide +kernel) rfl) rfl (fun RG => avS13) (fun nx => rfl) ?_
                      refine ha_s (pc' := 293) (ls' := [haR 51 860, haI (f), haI (t), haI (U), haI (520 + 164 * f), haI (520 + 164 * t), haI (al), haI (L), haI (i), haI (540 + 164 * f + 12 * rr)]) (st' := [haI (t), haR 51 860]) hF (haEt hT (e := (9, 292, 0, 2, 0, [])) (k := 219) (pc := 292) (by decide) (by decide +kernel) rfl) rfl (fun RG => avS9) (fun nx => rfl) ?_
                      refine ha_s (pc' := 295) (ls' := [haR 51 860, haI (f), haI (t), haI (U), haI (520 + 164 * f), haI (520 + 164 * t), haI (al), haI (L), haI (i), haI (540 + 164 * f + 12 * rr)]) (st' := [haI (L), haI (t), haR 51 860]) hF (haEt hT (e := (8, 293, 0, 7, 0, [])) (k := 219) (pc := 293) (by decide) (by decide +kernel) rfl) rfl (fun RG => avS8) (fun nx => rfl) ?_
                      refine ha_callS (q := 182) (d' := d + 1) (as := [haI t, haI L]) (rest := [haR 51 860]) hT hF (haEt hT (e := (79, 295, 182, 0, 126, [1495, 1496])) (k := 219) (pc := 295) (by decide) (by decide +kernel) rfl) rfl rfl rfl (by decide +kernel) (hm_ringAt hT ht hL) (by omega) rfl (show 2 = (abMe 182).2.1 from by decide +kernel) (show 1 + (abMe 182).1.2.2.1 ≤ 49 from by decide +kernel) (fun o ku h9 => ?_)
                      obtain ⟨rfl, e9⟩ := h9
                      have e9 := e9.symm
                      subst e9
                      show haW x (haUp mu1 868 2 v) 298 [haR 51 860, haI (f), haI (t), haI (U), haI (520 + 164 * f), haI (520 + 164 * t), haI (al), haI (L), haI (i), haI (540 + 164 * f + 12 * rr)] [haI (540 + 164 * t + 12 * L), haR 51 860]
                      refine ha_callV (q := 217) (d' := 0) (r := 51) (j := 860) (as := [haI (540 + 164 * t + 12 * L)]) (rest := []) hT hF (haEt hT (e := (78, 298, 217, 0, 334, [1677, 1679, 62])) (k := 219) (pc := 298) (by decide) (by decide +kernel) rfl) rfl rfl rfl (by decide +kernel) (by decide +kernel) (hm_lays hT ht hL rfl (lay (haUp mu1 868 2 v)).1) (by omega) rfl (show 1 = (abMe 217).2.1 from by decide +kernel) (show 0 + (abMe 217).1.2.2.1 ≤ 49 from by decide +kernel) (fun o mu2 h9 => ?_)
                      obtain ⟨rfl, l1, l2⟩ := h9
                      show haW x mu2 301 [haR 51 860, haI (f), haI (t), haI (U), haI (520 + 164 * f), haI (520 + 164 * t), haI (al), haI (L), haI (i), haI (540 + 164 * f + 12 * rr)] []
                      refine ha_s (pc' := 198) (ls' := [haR 51 860, haI (f), haI (t), haI (U), haI (520 + 164 * f), haI (520 + 164 * t), haI (al), haI (L), haI (i), haI (540 + 164 * f + 12 * rr)]) (st' := []) hF (haEt hT (e := (58, 301, 198, 0, 0, [])) (k := 219) (pc := 301) (by decide) (by decide +kernel) rfl) rfl (fun RG => avS58) (fun nx => rfl) ?_
                      have l3 := l2 0 (by omega) (by omega) (by omega)
                      rw [Int.add_zero, haUp_n (fun z => absurd z.1 (by decide)), haUp_n (fun z => absurd z.2 (by decide))] at l3
                      obtain ⟨s1, s2⟩ := haTn_step h hf ht hft hrr hL p1 p2 p5 l1 l3 ((lay mu2).2 l1 l2)
                      exact ih2 mu2 L (by rw [s2]; omega) s1
                    · have he : haRu nu t L = nu 861 (521 + 164 * t) := he
                      refine ha_iinc (i := 7) (c := 1) hF (haEt hT (e := (20, 231, 0, 7, 9223372036854775809, [])) (k := 219) (pc := 231) (by decide) (by decide +kernel) rfl) rfl rfl rfl rfl rfl (by omega) (by omega) ?_
                      show haW _ _ 234 [haR 51 860, haI (f), haI (t), haI (U), haI (520 + 164 * f), haI (520 + 164 * t), haI (al), haI (L + 1), haI (i), haI (540 + 164 * f + 12 * rr)] []
                      refine ha_s (pc' := 208) (ls' := [haR 51 860, haI (f), haI (t), haI (U), haI (520 + 164 * f), haI (520 + 164 * t), haI (al), haI (L + 1), haI (i), haI (540 + 164 * f + 12 * rr)]) (st' := []) hF (haEt hT (e := (58, 234, 208, 0, 0, [])) (k := 219) (pc := 234) (by decide) (by decide +kernel) rfl) rfl (fun RG => avS58) (fun nx => rfl) ?_
                      refine ih3 (L + 1) (by omega) ⟨h.1, h.2.1, h.2.2.1, h.2.2.2.1, h.2.2.2.2.1, by omega, fun r r0 r1 r2 => ?_, fun r r0 r1 => h.2.2.2.2.2.2.2 r (by omega) r1⟩
                      by_cases e : r = L
                      · rw [e, he, hH]
                      · exact h.2.2.2.2.2.2.1 r r0 (by omega) r2
                exact search (12 - L).toNat L (by have := haTn_L h hf ht hrr hUR hp; omega) h
          exact inner 1000 nu L (by have := haRu_b h.1 hf (r := rr) ⟨hrr.1, by omega⟩; omega) h
        refine ha_s (pc' := 171) (ls' := [haR 51 860, haI (f), haI (t), haI (U), haI (520 + 164 * f), haI (520 + 164 * t), haI (al), haI (L), haI (i), v9]) (st' := [haI (f)]) hF (haEt hT (e := (9, 170, 0, 1, 0, [])) (k := 219) (pc := 170) (by decide) (by decide +kernel) rfl) rfl (fun RG => avS9) (fun nx => rfl) ?_
        refine ha_s (pc' := 173) (ls' := [haR 51 860, haI (f), haI (t), haI (U), haI (520 + 164 * f), haI (520 + 164 * t), haI (al), haI (L), haI (i), v9]) (st' := [haI (al), haI (f)]) hF (haEt hT (e := (8, 171, 0, 6, 0, [])) (k := 219) (pc := 171) (by decide) (by decide +kernel) rfl) rfl (fun RG => avS8) (fun nx => rfl) ?_
        refine ha_ifeq hF (haEt hT (e := (46, 173, 181, 0, 0, [])) (k := 219) (pc := 173) (by decide) (by decide +kernel) rfl) rfl rfl rfl (fun _ => ?_) (fun _ => ?_)
        · refine ha_s (pc' := 182) (ls' := [haR 51 860, haI (f), haI (t), haI (U), haI (520 + 164 * f), haI (520 + 164 * t), haI (al), haI (L), haI (i), v9]) (st' := [haR 51 860, haI (f)]) hF (haEt hT (e := (13, 181, 0, 0, 0, [])) (k := 219) (pc := 181) (by decide) (by decide +kernel) rfl) rfl (fun RG => avS13) (fun nx => rfl) ?_
          refine ha_getR (r := 51) (j := 860) (i := 1) (r' := 77) (j' := 861) hF (haEt hT (e := (60, 182, 12, 1, 13, [1344])) (k := 219) (pc := 182) (by decide) (by decide +kernel) rfl) rfl rfl rfl (by decide +kernel) (by decide) (by decide +kernel) (by rfl) ?_
          refine ha_s (pc' := 187) (ls' := [haR 51 860, haI (f), haI (t), haI (U), haI (520 + 164 * f), haI (520 + 164 * t), haI (al), haI (L), haI (i), v9]) (st' := [haI (520 + 164 * f), haR 77 861, haI (f)]) hF (haEt hT (e := (8, 185, 0, 4, 0, [])) (k := 219) (pc := 185) (by decide) (by decide +kernel) rfl) rfl (fun RG => avS8) (fun nx => rfl) ?_
          refine ha_iald (r := 77) hF (haEt hT (e := (64, 187, 0, 0, 0, [])) (k := 219) (pc := 187) (by decide) (by decide +kernel) rfl) rfl rfl (by decide +kernel) (by omega) (by show _ < (1745 : Int); omega) ?_
          refine ha_s (pc' := 189) (ls' := [haR 51 860, haI (f), haI (t), haI (U), haI (520 + 164 * f), haI (520 + 164 * t), haI (al), haI (L), haI (i), v9]) (st' := [haI (1), haI (nu 861 (520 + 164 * f)), haI (f)]) hF (haEt hT (e := (1, 188, 0, 0, 9223372036854775809, [])) (k := 219) (pc := 188) (by decide) (by decide +kernel) rfl) rfl (fun RG => avS1) (fun nx => rfl) ?_
          refine ha_isub hF (haEt hT (e := (22, 189, 0, 0, 0, [])) (k := 219) (pc := 189) (by decide) (by decide +kernel) rfl) rfl rfl (by omega) (by omega) ?_
          refine ha_s (pc' := 192) (ls' := [haR 51 860, haI (f), haI (t), haI (U), haI (520 + 164 * f), haI (520 + 164 * t), haI (al), haI (L), haI (i), v9]) (st' := [haI (i), haI (nu 861 (520 + 164 * f) - (1)), haI (f)]) hF (haEt hT (e := (8, 190, 0, 8, 0, [])) (k := 219) (pc := 190) (by decide) (by decide +kernel) rfl) rfl (fun RG => avS8) (fun nx => rfl) ?_
          refine ha_isub hF (haEt hT (e := (22, 192, 0, 0, 0, [])) (k := 219) (pc := 192) (by decide) (by decide +kernel) rfl) rfl rfl (by omega) (by omega) ?_
          exact body _ ⟨by omega, by omega⟩
        · refine ha_s (pc' := 178) (ls' := [haR 51 860, haI (f), haI (t), haI (U), haI (520 + 164 * f), haI (520 + 164 * t), haI (al), haI (L), haI (i), v9]) (st' := [haI (i), haI (f)]) hF (haEt hT (e := (8, 176, 0, 8, 0, [])) (k := 219) (pc := 176) (by decide) (by decide +kernel) rfl) rfl (fun RG => avS8) (fun nx => rfl) ?_
          refine ha_s (pc' := 193) (ls' := [haR 51 860, haI (f), haI (t), haI (U), haI (520 + 164 * f), haI (520 + 164 * t), haI (al), haI (L), haI (i), v9]) (st' := [haI (i), haI (f)]) hF (haEt hT (e := (58, 178, 193, 0, 0, [])) (k := 219) (pc := 178) (by decide) (by decide +kernel) rfl) rfl (fun RG => avS58) (fun nx => rfl) ?_
          exact body i ⟨by omega, by omega⟩
    exact outer 12 0 nu0 0 _ rfl (Int.le_refl 0) hs
  refine ha_ifne hF (haEt hT (e := (47, 124, 131, 0, 0, [])) (k := 219) (pc := 124) (by decide) (by decide +kernel) rfl) rfl rfl rfl (fun _ => ?_) (fun _ => ?_)
  · refine ha_s (pc' := 132) (ls' := [haR 51 860, haI (f), haI (t), haI (U), haI (520 + 164 * f), haI (520 + 164 * t), avJ, avJ, avJ, avJ]) (st' := [haI (0)]) hF (haEt hT (e := (1, 131, 0, 0, 9223372036854775808, [])) (k := 219) (pc := 131) (by decide) (by decide +kernel) rfl) rfl (fun RG => avS1) (fun nx => rfl) ?_
    exact go 0
  · refine ha_s (pc' := 128) (ls' := [haR 51 860, haI (f), haI (t), haI (U), haI (520 + 164 * f), haI (520 + 164 * t), avJ, avJ, avJ, avJ]) (st' := [haI (1)]) hF (haEt hT (e := (1, 127, 0, 0, 9223372036854775809, [])) (k := 219) (pc := 127) (by decide) (by decide +kernel) rfl) rfl (fun RG => avS1) (fun nx => rfl) ?_
    refine ha_s (pc' := 132) (ls' := [haR 51 860, haI (f), haI (t), haI (U), haI (520 + 164 * f), haI (520 + 164 * t), avJ, avJ, avJ, avJ]) (st' := [haI (1)]) hF (haEt hT (e := (58, 128, 132, 0, 0, [])) (k := 219) (pc := 128) (by decide) (by decide +kernel) rfl) rfl (fun RG => avS58) (fun nx => rfl) ?_
    exact go 1
