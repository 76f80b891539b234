/-! THE LAW'S CASES (printed by wip/gen/gen27.py) -/
theorem lwI64 {v : Int} (h : -2147483648 ≤ v ∧ v ≤ 2147483647) : ∃ y : Int64, v = y.toInt := ⟨Int64.ofInt v, (Int64.toInt_ofInt_of_le (by omega) (by omega)).symm⟩
theorem lw_c212 (hT : abTabs) {x : haCx} {mu : haMu} {n L : Nat} {V : Int → Int} {i : Int} (hF : haF x 278 60) (hSc : lwS x V L) (h0 : 0 ≤ i) (h1 : i + 7 ≤ (L : Int)) (hn : n ≤ 8000) (fin : ∀ nu : haMu, lwJr (n + 1) nu → haW x nu 1655 (lwL i) []) (hJ0 : lwJr n mu) : haW x mu 212 (lwL i) [] := by
  refine ha_s (pc' := 213) (ls' := lwL i) (st' := [haR 0 0]) hF (haEt hT (e := (13, 212, 0, 1, 0, [])) (k := 278) (pc := 212) (by decide) (by decide +kernel) rfl) rfl (fun RG => avS13) (fun nx => rfl) ?_
  refine lw_ld (k := 1) hT hF hSc h0 h1 (by decide) (by decide +kernel) ?_
  refine lw_ld (k := 2) hT hF hSc h0 h1 (by decide) (by decide +kernel) ?_
  refine lw_ld (k := 3) hT hF hSc h0 h1 (by decide) (by decide +kernel) ?_
  refine lw_ld (k := 4) hT hF hSc h0 h1 (by decide) (by decide +kernel) ?_
  refine lw_ld (k := 5) hT hF hSc h0 h1 (by decide) (by decide +kernel) ?_
  refine ha_callV (q := 15) (d' := 1) (r := 0) (j := 0) (as := [haI (lwV V i 1), haI (lwV V i 2), haI (lwV V i 3), haI (lwV V i 4), haI (lwV V i 5)]) (rest := []) hT hF (haEt hT (e := (78, 238, 15, 0, 13, [568, 569, 570])) (k := 278) (pc := 238) (by decide) (by decide +kernel) rfl) rfl rfl rfl (by decide +kernel) (by decide +kernel) (lwSp hT (q := 15) (by decide) (c := avC15_0) (as := [haR 0 0, haI (lwV V i 1), haI (lwV V i 2), haI (lwV V i 3), haI (lwV V i 4), haI (lwV V i 5)]) (show avC15_0 ∈ [avC15_0] from List.mem_cons_self) (Or.inr (by decide)) hJ0 (lwFitIIIII ((lwV_b hSc h0 1).1) ((lwV_b hSc h0 1).2) ((lwV_b hSc h0 2).1) ((lwV_b hSc h0 2).2) ((lwV_b hSc h0 3).1) ((lwV_b hSc h0 3).2) ((lwV_b hSc h0 4).1) ((lwV_b hSc h0 4).2) ((lwV_b hSc h0 5).1) ((lwV_b hSc h0 5).2)) (haLe5 rfl) (show 6 ≤ (abMe 15).1.2.2.1 from by decide +kernel)) (by decide) rfl (show 5 = (abMe 15).2.1 from by decide +kernel) (show 0 + (abMe 15).1.2.2.1 ≤ 49 from by decide +kernel) (fun o1 mu1 hP1 => ?_)
  obtain ⟨⟨-, hA1⟩, hJ1⟩ := hP1
  obtain ⟨z1, rfl, w1, w1'⟩ := hA1 (by decide)
  show haW x mu1 241 (lwL i) [haI z1]
  refine ha_pop hF rfl (by decide +kernel) ?_
  refine ha_s (pc' := 243) (ls' := lwL i) (st' := [haR 51 860]) hF (haEt hT (e := (13, 242, 0, 2, 0, [])) (k := 278) (pc := 242) (by decide) (by decide +kernel) rfl) rfl (fun RG => avS13) (fun nx => rfl) ?_
  refine lw_ld (k := 1) hT hF hSc h0 h1 (by decide) (by decide +kernel) ?_
  refine lw_ld (k := 2) hT hF hSc h0 h1 (by decide) (by decide +kernel) ?_
  refine lw_ld (k := 3) hT hF hSc h0 h1 (by decide) (by decide +kernel) ?_
  refine lw_ld (k := 4) hT hF hSc h0 h1 (by decide) (by decide +kernel) ?_
  refine lw_ld (k := 5) hT hF hSc h0 h1 (by decide) (by decide +kernel) ?_
  refine ha_callV (q := 178) (d' := 0) (r := 51) (j := 860) (as := [haI (lwV V i 1), haI (lwV V i 2), haI (lwV V i 3), haI (lwV V i 4), haI (lwV V i 5)]) (rest := []) hT hF (haEt hT (e := (78, 268, 178, 0, 17, [1479, 1480, 1481])) (k := 278) (pc := 268) (by decide) (by decide +kernel) rfl) rfl rfl rfl (by decide +kernel) (by decide +kernel) (lwSp hT (q := 178) (by decide) (c := avC178_0) (as := [haR 51 860, haI (lwV V i 1), haI (lwV V i 2), haI (lwV V i 3), haI (lwV V i 4), haI (lwV V i 5)]) (show avC178_0 ∈ [avC178_0] from List.mem_cons_self) (Or.inr (by decide)) hJ1 (lwFitIIIII ((lwV_b hSc h0 1).1) ((lwV_b hSc h0 1).2) ((lwV_b hSc h0 2).1) ((lwV_b hSc h0 2).2) ((lwV_b hSc h0 3).1) ((lwV_b hSc h0 3).2) ((lwV_b hSc h0 4).1) ((lwV_b hSc h0 4).2) ((lwV_b hSc h0 5).1) ((lwV_b hSc h0 5).2)) (haLe5 rfl) (show 6 ≤ (abMe 178).1.2.2.1 from by decide +kernel)) (by decide) rfl (show 5 = (abMe 178).2.1 from by decide +kernel) (show 0 + (abMe 178).1.2.2.1 ≤ 49 from by decide +kernel) (fun o2 mu2 hP2 => ?_)
  obtain ⟨⟨-, hA2⟩, hJ2⟩ := hP2
  obtain ⟨z2, rfl, w2, w2'⟩ := hA2 (by decide)
  show haW x mu2 271 (lwL i) [haI z2]
  refine ha_pop hF rfl (by decide +kernel) ?_
  refine ha_s (pc' := 1655) (ls' := lwL i) (st' := []) hF (haEt hT (e := (58, 272, 1655, 0, 0, [])) (k := 278) (pc := 272) (by decide) (by decide +kernel) rfl) rfl (fun RG => avS58) (fun nx => rfl) ?_
  exact fin _ (lwJr_le hJ2 (Nat.le_succ n))
theorem lw_c275 (hT : abTabs) {x : haCx} {mu : haMu} {n L : Nat} {V : Int → Int} {i : Int} (hF : haF x 278 60) (hSc : lwS x V L) (h0 : 0 ≤ i) (h1 : i + 7 ≤ (L : Int)) (hn : n ≤ 8000) (fin : ∀ nu : haMu, lwJr (n + 1) nu → haW x nu 1655 (lwL i) []) (hJ0 : lwJr n mu) : haW x mu 275 (lwL i) [] := by
  refine ha_s (pc' := 276) (ls' := lwL i) (st' := [haR 0 0]) hF (haEt hT (e := (13, 275, 0, 1, 0, [])) (k := 278) (pc := 275) (by decide) (by decide +kernel) rfl) rfl (fun RG => avS13) (fun nx => rfl) ?_
  refine lw_ld (k := 1) hT hF hSc h0 h1 (by decide) (by decide +kernel) ?_
  refine ha_callV (q := 17) (d' := 0) (r := 0) (j := 0) (as := [haI (lwV V i 1)]) (rest := []) hT hF (haEt hT (e := (78, 281, 17, 0, 18, [576, 577, 578])) (k := 278) (pc := 281) (by decide) (by decide +kernel) rfl) rfl rfl rfl (by decide +kernel) (by decide +kernel) (lwSp hT (q := 17) (by decide) (c := avC17_0) (as := [haR 0 0, haI (lwV V i 1)]) (show avC17_0 ∈ [avC17_0] from List.mem_cons_self) (Or.inr (by decide)) hJ0 (lwFitI ((lwV_b hSc h0 1).1) ((lwV_b hSc h0 1).2)) (haLe5 rfl) (show 2 ≤ (abMe 17).1.2.2.1 from by decide +kernel)) (by decide) rfl (show 1 = (abMe 17).2.1 from by decide +kernel) (show 0 + (abMe 17).1.2.2.1 ≤ 49 from by decide +kernel) (fun o1 mu1 hP1 => ?_)
  obtain ⟨⟨-, hA1⟩, hJ1⟩ := hP1
  obtain ⟨z1, rfl, w1, w1'⟩ := hA1 (by decide)
  show haW x mu1 284 (lwL i) [haI z1]
  refine ha_pop hF rfl (by decide +kernel) ?_
  refine ha_s (pc' := 286) (ls' := lwL i) (st' := [haR 51 860]) hF (haEt hT (e := (13, 285, 0, 2, 0, [])) (k := 278) (pc := 285) (by decide) (by decide +kernel) rfl) rfl (fun RG => avS13) (fun nx => rfl) ?_
  refine lw_ld (k := 1) hT hF hSc h0 h1 (by decide) (by decide +kernel) ?_
  refine ha_callV (q := 179) (d' := 1) (r := 51) (j := 860) (as := [haI (lwV V i 1)]) (rest := []) hT hF (haEt hT (e := (78, 291, 179, 0, 22, [1483, 1484, 1485])) (k := 278) (pc := 291) (by decide) (by decide +kernel) rfl) rfl rfl rfl (by decide +kernel) (by decide +kernel) (lwSp hT (q := 179) (by decide) (c := avC179_0) (as := [haR 51 860, haI (lwV V i 1)]) (show avC179_0 ∈ [avC179_0] from List.mem_cons_self) (Or.inr (by decide)) hJ1 (lwFitI ((lwV_b hSc h0 1).1) ((lwV_b hSc h0 1).2)) (haLe5 rfl) (show 2 ≤ (abMe 179).1.2.2.1 from by decide +kernel)) (by decide) rfl (show 1 = (abMe 179).2.1 from by decide +kernel) (show 0 + (abMe 179).1.2.2.1 ≤ 49 from by decide +kernel) (fun o2 mu2 hP2 => ?_)
  obtain ⟨⟨-, hA2⟩, hJ2⟩ := hP2
  obtain ⟨z2, rfl, w2, w2'⟩ := hA2 (by decide)
  show haW x mu2 294 (lwL i) [haI z2]
  refine ha_pop hF rfl (by decide +kernel) ?_
  refine ha_s (pc' := 1655) (ls' := lwL i) (st' := []) hF (haEt hT (e := (58, 295, 1655, 0, 0, [])) (k := 278) (pc := 295) (by decide) (by decide +kernel) rfl) rfl (fun RG => avS58) (fun nx => rfl) ?_
  exact fin _ (lwJr_le hJ2 (Nat.le_succ n))
theorem lw_c298 (hT : abTabs) {x : haCx} {mu : haMu} {n L : Nat} {V : Int → Int} {i : Int} (hF : haF x 278 60) (hSc : lwS x V L) (h0 : 0 ≤ i) (h1 : i + 7 ≤ (L : Int)) (hn : n ≤ 8000) (fin : ∀ nu : haMu, lwJr (n + 1) nu → haW x nu 1655 (lwL i) []) (hJ0 : lwJr n mu) : haW x mu 298 (lwL i) [] := by
  refine ha_s (pc' := 299) (ls' := lwL i) (st' := [haR 0 0]) hF (haEt hT (e := (13, 298, 0, 1, 0, [])) (k := 278) (pc := 298) (by decide) (by decide +kernel) rfl) rfl (fun RG => avS13) (fun nx => rfl) ?_
  refine ha_callV (q := 18) (d' := 7) (r := 0) (j := 0) (as := []) (rest := []) hT hF (haEt hT (e := (78, 299, 18, 0, 23, [580, 581, 582])) (k := 278) (pc := 299) (by decide) (by decide +kernel) rfl) rfl rfl rfl (by decide +kernel) (by decide +kernel) (lwSp hT (q := 18) (by decide) (c := avC18_0) (as := [haR 0 0]) (show avC18_0 ∈ [avC18_0] from List.mem_cons_self) (Or.inr (by decide)) hJ0 (lwFit ) (haLe5 rfl) (show 1 ≤ (abMe 18).1.2.2.1 from by decide +kernel)) (by decide) rfl (show 0 = (abMe 18).2.1 from by decide +kernel) (show 0 + (abMe 18).1.2.2.1 ≤ 49 from by decide +kernel) (fun o1 mu1 hP1 => ?_)
  obtain ⟨⟨-, hA1⟩, hJ1⟩ := hP1
  obtain ⟨z1, rfl, w1, w1'⟩ := hA1 (by decide)
  show haW x mu1 302 (lwL i) [haI z1]
  refine ha_pop hF rfl (by decide +kernel) ?_
  refine ha_s (pc' := 304) (ls' := lwL i) (st' := [haR 51 860]) hF (haEt hT (e := (13, 303, 0, 2, 0, [])) (k := 278) (pc := 303) (by decide) (by decide +kernel) rfl) rfl (fun RG => avS13) (fun nx => rfl) ?_
  refine ha_callV (q := 180) (d' := 6) (r := 51) (j := 860) (as := []) (rest := []) hT hF (haEt hT (e := (78, 304, 180, 0, 27, [1487, 1488, 1489])) (k := 278) (pc := 304) (by decide) (by decide +kernel) rfl) rfl rfl rfl (by decide +kernel) (by decide +kernel) (lw_text hT hJ1) (by decide) rfl (show 0 = (abMe 180).2.1 from by decide +kernel) (show 0 + (abMe 180).1.2.2.1 ≤ 49 from by decide +kernel) (fun o2 mu2 hP2 => ?_)
  obtain ⟨⟨z2, rfl⟩, hJ2⟩ := hP2
  show haW x mu2 307 (lwL i) [haI z2]
  refine ha_pop hF rfl (by decide +kernel) ?_
  refine ha_s (pc' := 1655) (ls' := lwL i) (st' := []) hF (haEt hT (e := (58, 308, 1655, 0, 0, [])) (k := 278) (pc := 308) (by decide) (by decide +kernel) rfl) rfl (fun RG => avS58) (fun nx => rfl) ?_
  exact fin _ (lwJr_le hJ2 (Nat.le_refl _))
theorem lw_c311 (hT : abTabs) {x : haCx} {mu : haMu} {n L : Nat} {V : Int → Int} {i : Int} (hF : haF x 278 60) (hSc : lwS x V L) (h0 : 0 ≤ i) (h1 : i + 7 ≤ (L : Int)) (hn : n ≤ 8000) (fin : ∀ nu : haMu, lwJr (n + 1) nu → haW x nu 1655 (lwL i) []) (hJ0 : lwJr n mu) : haW x mu 311 (lwL i) [] := by
  refine ha_s (pc' := 312) (ls' := lwL i) (st' := [haR 0 0]) hF (haEt hT (e := (13, 311, 0, 1, 0, [])) (k := 278) (pc := 311) (by decide) (by decide +kernel) rfl) rfl (fun RG => avS13) (fun nx => rfl) ?_
  refine lw_ld (k := 1) hT hF hSc h0 h1 (by decide) (by decide +kernel) ?_
  refine ha_callV (q := 45) (d' := 0) (r := 0) (j := 0) (as := [haI (lwV V i 1)]) (rest := []) hT hF (haEt hT (e := (78, 317, 45, 0, 28, [765, 766, 767])) (k := 278) (pc := 317) (by decide) (by decide +kernel) rfl) rfl rfl rfl (by decide +kernel) (by decide +kernel) (lwSp hT (q := 45) (by decide) (c := avC45_0) (as := [haR 0 0, haI (lwV V i 1)]) (show avC45_0 ∈ [avC45_0] from List.mem_cons_self) (Or.inr (by decide)) hJ0 (lwFitI ((lwV_b hSc h0 1).1) ((lwV_b hSc h0 1).2)) (haLe5 rfl) (show 2 ≤ (abMe 45).1.2.2.1 from by decide +kernel)) (by decide) rfl (show 1 = (abMe 45).2.1 from by decide +kernel) (show 0 + (abMe 45).1.2.2.1 ≤ 49 from by decide +kernel) (fun o1 mu1 hP1 => ?_)
  obtain ⟨⟨-, hA1⟩, hJ1⟩ := hP1
  obtain ⟨z1, rfl, w1, w1'⟩ := hA1 (by decide)
  show haW x mu1 320 (lwL i) [haI z1]
  refine ha_pop hF rfl (by decide +kernel) ?_
  refine ha_s (pc' := 322) (ls' := lwL i) (st' := [haR 51 860]) hF (haEt hT (e := (13, 321, 0, 2, 0, [])) (k := 278) (pc := 321) (by decide) (by decide +kernel) rfl) rfl (fun RG => avS13) (fun nx => rfl) ?_
  refine lw_ld (k := 1) hT hF hSc h0 h1 (by decide) (by decide +kernel) ?_
  refine ha_callV (q := 199) (d' := 0) (r := 51) (j := 860) (as := [haI (lwV V i 1)]) (rest := []) hT hF (haEt hT (e := (78, 327, 199, 0, 31, [1594, 1595, 1596])) (k := 278) (pc := 327) (by decide) (by decide +kernel) rfl) rfl rfl rfl (by decide +kernel) (by decide +kernel) (lwSp hT (q := 199) (by decide) (c := avC199_0) (as := [haR 51 860, haI (lwV V i 1)]) (show avC199_0 ∈ [avC199_0] from List.mem_cons_self) (Or.inr (by decide)) hJ1 (lwFitI ((lwV_b hSc h0 1).1) ((lwV_b hSc h0 1).2)) (haLe5 rfl) (show 2 ≤ (abMe 199).1.2.2.1 from by decide +kernel)) (by decide) rfl (show 1 = (abMe 199).2.1 from by decide +kernel) (show 0 + (abMe 199).1.2.2.1 ≤ 49 from by decide +kernel) (fun o2 mu2 hP2 => ?_)
  obtain ⟨⟨-, hA2⟩, hJ2⟩ := hP2
  obtain ⟨z2, rfl, w2, w2'⟩ := hA2 (by decide)
  show haW x mu2 330 (lwL i) [haI z2]
  refine ha_pop hF rfl (by decide +kernel) ?_
  refine ha_s (pc' := 1655) (ls' := lwL i) (st' := []) hF (haEt hT (e := (58, 331, 1655, 0, 0, [])) (k := 278) (pc := 331) (by decide) (by decide +kernel) rfl) rfl (fun RG => avS58) (fun nx => rfl) ?_
  exact fin _ (lwJr_le hJ2 (Nat.le_succ n))
theorem lw_c334 (hT : abTabs) {x : haCx} {mu : haMu} {n L : Nat} {V : Int → Int} {i : Int} (hF : haF x 278 60) (hSc : lwS x V L) (h0 : 0 ≤ i) (h1 : i + 7 ≤ (L : Int)) (hn : n ≤ 8000) (fin : ∀ nu : haMu, lwJr (n + 1) nu → haW x nu 1655 (lwL i) []) (hJ0 : lwJr n mu) : haW x mu 334 (lwL i) [] := by
  refine ha_s (pc' := 335) (ls' := lwL i) (st' := [haR 0 0]) hF (haEt hT (e := (13, 334, 0, 1, 0, [])) (k := 278) (pc := 334) (by decide) (by decide +kernel) rfl) rfl (fun RG => avS13) (fun nx => rfl) ?_
  refine lw_ld (k := 1) hT hF hSc h0 h1 (by decide) (by decide +kernel) ?_
  refine lw_ld (k := 2) hT hF hSc h0 h1 (by decide) (by decide +kernel) ?_
  refine lw_ld (k := 3) hT hF hSc h0 h1 (by decide) (by decide +kernel) ?_
  refine lw_ld (k := 4) hT hF hSc h0 h1 (by decide) (by decide +kernel) ?_
  refine lw_ld (k := 5) hT hF hSc h0 h1 (by decide) (by decide +kernel) ?_
  refine lw_ldb (k := 6) hT hF hSc h0 h1 (by decide) (by decide +kernel) ?_
  refine ha_callV (q := 46) (d' := 4) (r := 0) (j := 0) (as := [haI (lwV V i 1), haI (lwV V i 2), haI (lwV V i 3), haI (lwV V i 4), haI (lwV V i 5), haI (lwV V i 6)]) (rest := []) hT hF (haEt hT (e := (78, 366, 46, 0, 32, [769, 770, 771])) (k := 278) (pc := 366) (by decide) (by decide +kernel) rfl) rfl rfl rfl (by decide +kernel) (by decide +kernel) (lwSp hT (q := 46) (by decide) (c := avC46_0) (as := [haR 0 0, haI (lwV V i 1), haI (lwV V i 2), haI (lwV V i 3), haI (lwV V i 4), haI (lwV V i 5), haI (lwV V i 6)]) (show avC46_0 ∈ [avC46_0] from List.mem_cons_self) (Or.inr (by decide)) hJ0 (lwFitIIIIII ((lwV_b hSc h0 1).1) ((lwV_b hSc h0 1).2) ((lwV_b hSc h0 2).1) ((lwV_b hSc h0 2).2) ((lwV_b hSc h0 3).1) ((lwV_b hSc h0 3).2) ((lwV_b hSc h0 4).1) ((lwV_b hSc h0 4).2) ((lwV_b hSc h0 5).1) ((lwV_b hSc h0 5).2) ((lwV_b hSc h0 6).1) ((lwV_b hSc h0 6).2)) (haLe5 rfl) (show 7 ≤ (abMe 46).1.2.2.1 from by decide +kernel)) (by decide) rfl (show 6 = (abMe 46).2.1 from by decide +kernel) (show 0 + (abMe 46).1.2.2.1 ≤ 49 from by decide +kernel) (fun o1 mu1 hP1 => ?_)
  obtain ⟨⟨-, hA1⟩, hJ1⟩ := hP1
  obtain ⟨z1, rfl, w1, w1'⟩ := hA1 (by decide)
  show haW x mu1 369 (lwL i) [haI z1]
  refine ha_pop hF rfl (by decide +kernel) ?_
  refine ha_s (pc' := 371) (ls' := lwL i) (st' := [haR 51 860]) hF (haEt hT (e := (13, 370, 0, 2, 0, [])) (k := 278) (pc := 370) (by decide) (by decide +kernel) rfl) rfl (fun RG => avS13) (fun nx => rfl) ?_
  refine lw_ld (k := 1) hT hF hSc h0 h1 (by decide) (by decide +kernel) ?_
  refine lw_ld (k := 2) hT hF hSc h0 h1 (by decide) (by decide +kernel) ?_
  refine lw_ld (k := 3) hT hF hSc h0 h1 (by decide) (by decide +kernel) ?_
  refine lw_ld (k := 4) hT hF hSc h0 h1 (by decide) (by decide +kernel) ?_
  refine lw_ld (k := 5) hT hF hSc h0 h1 (by decide) (by decide +kernel) ?_
  refine lw_ldb (k := 6) hT hF hSc h0 h1 (by decide) (by decide +kernel) ?_
  refine ha_callV (q := 200) (d' := 3) (r := 51) (j := 860) (as := [haI (lwV V i 1), haI (lwV V i 2), haI (lwV V i 3), haI (lwV V i 4), haI (lwV V i 5), haI (lwV V i 6)]) (rest := []) hT hF (haEt hT (e := (78, 402, 200, 0, 36, [1598, 1599, 1600])) (k := 278) (pc := 402) (by decide) (by decide +kernel) rfl) rfl rfl rfl (by decide +kernel) (by decide +kernel) (lw_fill hT hn hJ1) (by decide) rfl (show 6 = (abMe 200).2.1 from by decide +kernel) (show 0 + (abMe 200).1.2.2.1 ≤ 49 from by decide +kernel) (fun o2 mu2 hP2 => ?_)
  obtain ⟨⟨z2, rfl⟩, hJ2⟩ := hP2
  show haW x mu2 405 (lwL i) [haI z2]
  refine ha_pop hF rfl (by decide +kernel) ?_
  refine ha_s (pc' := 1655) (ls' := lwL i) (st' := []) hF (haEt hT (e := (58, 406, 1655, 0, 0, [])) (k := 278) (pc := 406) (by decide) (by decide +kernel) rfl) rfl (fun RG => avS58) (fun nx => rfl) ?_
  exact fin _ (lwJr_le hJ2 (Nat.le_refl _))
theorem lw_c409 (hT : abTabs) {x : haCx} {mu : haMu} {n L : Nat} {V : Int → Int} {i : Int} (hF : haF x 278 60) (hSc : lwS x V L) (h0 : 0 ≤ i) (h1 : i + 7 ≤ (L : Int)) (hn : n ≤ 8000) (fin : ∀ nu : haMu, lwJr (n + 1) nu → haW x nu 1655 (lwL i) []) (hJ0 : lwJr n mu) : haW x mu 409 (lwL i) [] := by
  refine ha_s (pc' := 410) (ls' := lwL i) (st' := [haR 0 0]) hF (haEt hT (e := (13, 409, 0, 1, 0, [])) (k := 278) (pc := 409) (by decide) (by decide +kernel) rfl) rfl (fun RG => avS13) (fun nx => rfl) ?_
  refine lw_ld (k := 1) hT hF hSc h0 h1 (by decide) (by decide +kernel) ?_
  refine lw_ld (k := 2) hT hF hSc h0 h1 (by decide) (by decide +kernel) ?_
  refine ha_callV (q := 57) (d' := 4) (r := 0) (j := 0) (as := [haI (lwV V i 1), haI (lwV V i 2)]) (rest := []) hT hF (haEt hT (e := (78, 420, 57, 0, 37, [820, 821, 822])) (k := 278) (pc := 420) (by decide) (by decide +kernel) rfl) rfl rfl rfl (by decide +kernel) (by decide +kernel) (lwSp hT (q := 57) (by decide) (c := avC57_0) (as := [haR 0 0, haI (lwV V i 1), haI (lwV V i 2)]) (show avC57_0 ∈ [avC57_0] from List.mem_cons_self) (Or.inr (by decide)) hJ0 (lwFitII ((lwV_b hSc h0 1).1) ((lwV_b hSc h0 1).2) ((lwV_b hSc h0 2).1) ((lwV_b hSc h0 2).2)) (haLe5 rfl) (show 3 ≤ (abMe 57).1.2.2.1 from by decide +kernel)) (by decide) rfl (show 2 = (abMe 57).2.1 from by decide +kernel) (show 0 + (abMe 57).1.2.2.1 ≤ 49 from by decide +kernel) (fun o1 mu1 hP1 => ?_)
  obtain ⟨⟨-, hA1⟩, hJ1⟩ := hP1
  obtain ⟨z1, rfl, w1, w1'⟩ := hA1 (by decide)
  show haW x mu1 423 (lwL i) [haI z1]
  refine ha_pop hF rfl (by decide +kernel) ?_
  refine ha_s (pc' := 425) (ls' := lwL i) (st' := [haR 51 860]) hF (haEt hT (e := (13, 424, 0, 2, 0, [])) (k := 278) (pc := 424) (by decide) (by decide +kernel) rfl) rfl (fun RG => avS13) (fun nx => rfl) ?_
  refine lw_ld (k := 1) hT hF hSc h0 h1 (by decide) (by decide +kernel) ?_
  refine lw_ld (k := 2) hT hF hSc h0 h1 (by decide) (by decide +kernel) ?_
  refine ha_callV (q := 205) (d' := 4) (r := 51) (j := 860) (as := [haI (lwV V i 1), haI (lwV V i 2)]) (rest := []) hT hF (haEt hT (e := (78, 435, 205, 0, 41, [1625, 1626, 1627])) (k := 278) (pc := 435) (by decide) (by decide +kernel) rfl) rfl rfl rfl (by decide +kernel) (by decide +kernel) (lw_fills hT hn hJ1) (by decide) rfl (show 2 = (abMe 205).2.1 from by decide +kernel) (show 0 + (abMe 205).1.2.2.1 ≤ 49 from by decide +kernel) (fun o2 mu2 hP2 => ?_)
  obtain ⟨⟨z2, rfl⟩, hJ2⟩ := hP2
  show haW x mu2 438 (lwL i) [haI z2]
  refine ha_pop hF rfl (by decide +kernel) ?_
  refine ha_s (pc' := 1655) (ls' := lwL i) (st' := []) hF (haEt hT (e := (58, 439, 1655, 0, 0, [])) (k := 278) (pc := 439) (by decide) (by decide +kernel) rfl) rfl (fun RG => avS58) (fun nx => rfl) ?_
  exact fin _ (lwJr_le hJ2 (Nat.le_refl _))
theorem lw_c442 (hT : abTabs) {x : haCx} {mu : haMu} {n L : Nat} {V : Int → Int} {i : Int} (hF : haF x 278 60) (hSc : lwS x V L) (h0 : 0 ≤ i) (h1 : i + 7 ≤ (L : Int)) (hn : n ≤ 8000) (fin : ∀ nu : haMu, lwJr (n + 1) nu → haW x nu 1655 (lwL i) []) (hJ0 : lwJr n mu) : haW x mu 442 (lwL i) [] := by
  refine ha_s (pc' := 443) (ls' := lwL i) (st' := [haR 0 0]) hF (haEt hT (e := (13, 442, 0, 1, 0, [])) (k := 278) (pc := 442) (by decide) (by decide +kernel) rfl) rfl (fun RG => avS13) (fun nx => rfl) ?_
  refine lw_ld (k := 1) hT hF hSc h0 h1 (by decide) (by decide +kernel) ?_
  refine ha_callV (q := 62) (d' := 4) (r := 0) (j := 0) (as := [haI (lwV V i 1)]) (rest := []) hT hF (haEt hT (e := (78, 448, 62, 0, 42, [839, 840, 841])) (k := 278) (pc := 448) (by decide) (by decide +kernel) rfl) rfl rfl rfl (by decide +kernel) (by decide +kernel) (lwSp hT (q := 62) (by decide) (c := avC62_0) (as := [haR 0 0, haI (lwV V i 1)]) (show avC62_0 ∈ [avC62_0] from List.mem_cons_self) (Or.inr (by decide)) hJ0 (lwFitI ((lwV_b hSc h0 1).1) ((lwV_b hSc h0 1).2)) (haLe5 rfl) (show 2 ≤ (abMe 62).1.2.2.1 from by decide +kernel)) (by decide) rfl (show 1 = (abMe 62).2.1 from by decide +kernel) (show 0 + (abMe 62).1.2.2.1 ≤ 49 from by decide +kernel) (fun o1 mu1 hP1 => ?_)
  obtain ⟨⟨-, hA1⟩, hJ1⟩ := hP1
  obtain ⟨z1, rfl, w1, w1'⟩ := hA1 (by decide)
  show haW x mu1 451 (lwL i) [haI z1]
  refine ha_pop hF rfl (by decide +kernel) ?_
  refine ha_s (pc' := 453) (ls' := lwL i) (st' := [haR 51 860]) hF (haEt hT (e := (13, 452, 0, 2, 0, [])) (k := 278) (pc := 452) (by decide) (by decide +kernel) rfl) rfl (fun RG => avS13) (fun nx => rfl) ?_
  refine lw_ld (k := 1) hT hF hSc h0 h1 (by decide) (by decide +kernel) ?_
  refine ha_callV (q := 207) (d' := 4) (r := 51) (j := 860) (as := [haI (lwV V i 1)]) (rest := []) hT hF (haEt hT (e := (78, 458, 207, 0, 45, [1635, 1636, 1637])) (k := 278) (pc := 458) (by decide) (by decide +kernel) rfl) rfl rfl rfl (by decide +kernel) (by decide +kernel) (lwSp hT (q := 207) (by decide) (c := avC207_0) (as := [haR 51 860, haI (lwV V i 1)]) (show avC207_0 ∈ [avC207_0] from List.mem_cons_self) (Or.inr (by decide)) hJ1 (lwFitI ((lwV_b hSc h0 1).1) ((lwV_b hSc h0 1).2)) (haLe5 rfl) (show 2 ≤ (abMe 207).1.2.2.1 from by decide +kernel)) (by decide) rfl (show 1 = (abMe 207).2.1 from by decide +kernel) (show 0 + (abMe 207).1.2.2.1 ≤ 49 from by decide +kernel) (fun o2 mu2 hP2 => ?_)
  obtain ⟨⟨-, hA2⟩, hJ2⟩ := hP2
  obtain ⟨z2, rfl, w2, w2'⟩ := hA2 (by decide)
  show haW x mu2 461 (lwL i) [haI z2]
  refine ha_pop hF rfl (by decide +kernel) ?_
  refine ha_s (pc' := 1655) (ls' := lwL i) (st' := []) hF (haEt hT (e := (58, 462, 1655, 0, 0, [])) (k := 278) (pc := 462) (by decide) (by decide +kernel) rfl) rfl (fun RG => avS58) (fun nx => rfl) ?_
  exact fin _ (lwJr_le hJ2 (Nat.le_succ n))
theorem lw_c465 (hT : abTabs) {x : haCx} {mu : haMu} {n L : Nat} {V : Int → Int} {i : Int} (hF : haF x 278 60) (hSc : lwS x V L) (h0 : 0 ≤ i) (h1 : i + 7 ≤ (L : Int)) (hn : n ≤ 8000) (fin : ∀ nu : haMu, lwJr (n + 1) nu → haW x nu 1655 (lwL i) []) (hJ0 : lwJr n mu) : haW x mu 465 (lwL i) [] := by
  refine ha_s (pc' := 466) (ls' := lwL i) (st' := [haR 0 0]) hF (haEt hT (e := (13, 465, 0, 1, 0, [])) (k := 278) (pc := 465) (by decide) (by decide +kernel) rfl) rfl (fun RG => avS13) (fun nx => rfl) ?_
  refine lw_ld (k := 1) hT hF hSc h0 h1 (by decide) (by decide +kernel) ?_
  refine lw_ld (k := 2) hT hF hSc h0 h1 (by decide) (by decide +kernel) ?_
  refine ha_callV (q := 67) (d' := 7) (r := 0) (j := 0) (as := [haI (lwV V i 1), haI (lwV V i 2)]) (rest := []) hT hF (haEt hT (e := (78, 476, 67, 0, 46, [866, 867, 868])) (k := 278) (pc := 476) (by decide) (by decide +kernel) rfl) rfl rfl rfl (by decide +kernel) (by decide +kernel) (lwSp hT (q := 67) (by decide) (c := avC67_0) (as := [haR 0 0, haI (lwV V i 1), haI (lwV V i 2)]) (show avC67_0 ∈ [avC67_0] from List.mem_cons_self) (Or.inr (by decide)) hJ0 (lwFitII ((lwV_b hSc h0 1).1) ((lwV_b hSc h0 1).2) ((lwV_b hSc h0 2).1) ((lwV_b hSc h0 2).2)) (haLe5 rfl) (show 3 ≤ (abMe 67).1.2.2.1 from by decide +kernel)) (by decide) rfl (show 2 = (abMe 67).2.1 from by decide +kernel) (show 0 + (abMe 67).1.2.2.1 ≤ 49 from by decide +kernel) (fun o1 mu1 hP1 => ?_)
  obtain ⟨⟨-, hA1⟩, hJ1⟩ := hP1
  obtain ⟨z1, rfl, w1, w1'⟩ := hA1 (by decide)
  show haW x mu1 479 (lwL i) [haI z1]
  refine ha_pop hF rfl (by decide +kernel) ?_
  refine ha_s (pc' := 481) (ls' := lwL i) (st' := [haR 51 860]) hF (haEt hT (e := (13, 480, 0, 2, 0, [])) (k := 278) (pc := 480) (by decide) (by decide +kernel) rfl) rfl (fun RG => avS13) (fun nx => rfl) ?_
  refine lw_ld (k := 1) hT hF hSc h0 h1 (by decide) (by decide +kernel) ?_
  refine lw_ld (k := 2) hT hF hSc h0 h1 (by decide) (by decide +kernel) ?_
  refine ha_callV (q := 211) (d' := 31) (r := 51) (j := 860) (as := [haI (lwV V i 1), haI (lwV V i 2)]) (rest := []) hT hF (haEt hT (e := (78, 491, 211, 0, 49, [1652, 1653, 1654])) (k := 278) (pc := 491) (by decide) (by decide +kernel) rfl) rfl rfl rfl (by decide +kernel) (by decide +kernel) (lwSp hT (q := 211) (by decide) (c := avC211_0) (as := [haR 51 860, haI (lwV V i 1), haI (lwV V i 2)]) (show avC211_0 ∈ [avC211_0] from List.mem_cons_self) (Or.inr (by decide)) hJ1 (lwFitII ((lwV_b hSc h0 1).1) ((lwV_b hSc h0 1).2) ((lwV_b hSc h0 2).1) ((lwV_b hSc h0 2).2)) (haLe5 rfl) (show 3 ≤ (abMe 211).1.2.2.1 from by decide +kernel)) (by decide) rfl (show 2 = (abMe 211).2.1 from by decide +kernel) (show 0 + (abMe 211).1.2.2.1 ≤ 49 from by decide +kernel) (fun o2 mu2 hP2 => ?_)
  obtain ⟨⟨-, hA2⟩, hJ2⟩ := hP2
  obtain ⟨z2, rfl, w2, w2'⟩ := hA2 (by decide)
  show haW x mu2 494 (lwL i) [haI z2]
  refine ha_pop hF rfl (by decide +kernel) ?_
  refine ha_s (pc' := 1655) (ls' := lwL i) (st' := []) hF (haEt hT (e := (58, 495, 1655, 0, 0, [])) (k := 278) (pc := 495) (by decide) (by decide +kernel) rfl) rfl (fun RG => avS58) (fun nx => rfl) ?_
  exact fin _ (lwJr_le hJ2 (Nat.le_succ n))
theorem lw_c498 (hT : abTabs) {x : haCx} {mu : haMu} {n L : Nat} {V : Int → Int} {i : Int} (hF : haF x 278 60) (hSc : lwS x V L) (h0 : 0 ≤ i) (h1 : i + 7 ≤ (L : Int)) (hn : n ≤ 8000) (fin : ∀ nu : haMu, lwJr (n + 1) nu → haW x nu 1655 (lwL i) []) (hJ0 : lwJr n mu) : haW x mu 498 (lwL i) [] := by
  refine ha_s (pc' := 499) (ls' := lwL i) (st' := [haR 0 0]) hF (haEt hT (e := (13, 498, 0, 1, 0, [])) (k := 278) (pc := 498) (by decide) (by decide +kernel) rfl) rfl (fun RG => avS13) (fun nx => rfl) ?_
  refine lw_ld (k := 1) hT hF hSc h0 h1 (by decide) (by decide +kernel) ?_
  refine ha_callV (q := 78) (d' := 1) (r := 0) (j := 0) (as := [haI (lwV V i 1)]) (rest := []) hT hF (haEt hT (e := (78, 504, 78, 0, 50, [915, 916, 917])) (k := 278) (pc := 504) (by decide) (by decide +kernel) rfl) rfl rfl rfl (by decide +kernel) (by decide +kernel) (lwSp hT (q := 78) (by decide) (c := avC78_0) (as := [haR 0 0, haI (lwV V i 1)]) (show avC78_0 ∈ [avC78_0] from List.mem_cons_self) (Or.inr (by decide)) hJ0 (lwFitI ((lwV_b hSc h0 1).1) ((lwV_b hSc h0 1).2)) (haLe5 rfl) (show 2 ≤ (abMe 78).1.2.2.1 from by decide +kernel)) (by decide) rfl (show 1 = (abMe 78).2.1 from by decide +kernel) (show 0 + (abMe 78).1.2.2.1 ≤ 49 from by decide +kernel) (fun o1 mu1 hP1 => ?_)
  obtain ⟨⟨-, hA1⟩, hJ1⟩ := hP1
  obtain ⟨z1, rfl, w1, w1'⟩ := hA1 (by decide)
  show haW x mu1 507 (lwL i) [haI z1]
  refine ha_pop hF rfl (by decide +kernel) ?_
  refine ha_s (pc' := 509) (ls' := lwL i) (st' := [haR 51 860]) hF (haEt hT (e := (13, 508, 0, 2, 0, [])) (k := 278) (pc := 508) (by decide) (by decide +kernel) rfl) rfl (fun RG => avS13) (fun nx => rfl) ?_
  refine lw_ld (k := 1) hT hF hSc h0 h1 (by decide) (by decide +kernel) ?_
  refine ha_callV (q := 218) (d' := 3) (r := 51) (j := 860) (as := [haI (lwV V i 1)]) (rest := []) hT hF (haEt hT (e := (78, 514, 218, 0, 53, [1681, 1682, 1683])) (k := 278) (pc := 514) (by decide) (by decide +kernel) rfl) rfl rfl rfl (by decide +kernel) (by decide +kernel) (lwSp hT (q := 218) (by decide) (c := avC218_0) (as := [haR 51 860, haI (lwV V i 1)]) (show avC218_0 ∈ [avC218_0] from List.mem_cons_self) (Or.inr (by decide)) hJ1 (lwFitI ((lwV_b hSc h0 1).1) ((lwV_b hSc h0 1).2)) (haLe5 rfl) (show 2 ≤ (abMe 218).1.2.2.1 from by decide +kernel)) (by decide) rfl (show 1 = (abMe 218).2.1 from by decide +kernel) (show 0 + (abMe 218).1.2.2.1 ≤ 49 from by decide +kernel) (fun o2 mu2 hP2 => ?_)
  obtain ⟨⟨-, hA2⟩, hJ2⟩ := hP2
  obtain ⟨z2, rfl, w2, w2'⟩ := hA2 (by decide)
  show haW x mu2 517 (lwL i) [haI z2]
  refine ha_pop hF rfl (by decide +kernel) ?_
  refine ha_s (pc' := 1655) (ls' := lwL i) (st' := []) hF (haEt hT (e := (58, 518, 1655, 0, 0, [])) (k := 278) (pc := 518) (by decide) (by decide +kernel) rfl) rfl (fun RG => avS58) (fun nx => rfl) ?_
  exact fin _ (lwJr_le hJ2 (Nat.le_succ n))
theorem lw_c521 (hT : abTabs) {x : haCx} {mu : haMu} {n L : Nat} {V : Int → Int} {i : Int} (hF : haF x 278 60) (hSc : lwS x V L) (h0 : 0 ≤ i) (h1 : i + 7 ≤ (L : Int)) (hn : n ≤ 8000) (fin : ∀ nu : haMu, lwJr (n + 1) nu → haW x nu 1655 (lwL i) []) (hJ0 : lwJr n mu) : haW x mu 521 (lwL i) [] := by
  refine ha_s (pc' := 522) (ls' := lwL i) (st' := [haR 0 0]) hF (haEt hT (e := (13, 521, 0, 1, 0, [])) (k := 278) (pc := 521) (by decide) (by decide +kernel) rfl) rfl (fun RG => avS13) (fun nx => rfl) ?_
  refine lw_ld (k := 1) hT hF hSc h0 h1 (by decide) (by decide +kernel) ?_
  refine lw_ld (k := 2) hT hF hSc h0 h1 (by decide) (by decide +kernel) ?_
  refine ha_callV (q := 80) (d' := 5) (r := 0) (j := 0) (as := [haI (lwV V i 1), haI (lwV V i 2)]) (rest := []) hT hF (haEt hT (e := (78, 532, 80, 0, 54, [924, 925, 926])) (k := 278) (pc := 532) (by decide) (by decide +kernel) rfl) rfl rfl rfl (by decide +kernel) (by decide +kernel) (lwSp hT (q := 80) (by decide) (c := avC80_0) (as := [haR 0 0, haI (lwV V i 1), haI (lwV V i 2)]) (show avC80_0 ∈ [avC80_0] from List.mem_cons_self) (Or.inr (by decide)) hJ0 (lwFitII ((lwV_b hSc h0 1).1) ((lwV_b hSc h0 1).2) ((lwV_b hSc h0 2).1) ((lwV_b hSc h0 2).2)) (haLe5 rfl) (show 3 ≤ (abMe 80).1.2.2.1 from by decide +kernel)) (by decide) rfl (show 2 = (abMe 80).2.1 from by decide +kernel) (show 0 + (abMe 80).1.2.2.1 ≤ 49 from by decide +kernel) (fun o1 mu1 hP1 => ?_)
  obtain ⟨⟨-, hA1⟩, hJ1⟩ := hP1
  obtain ⟨z1, rfl, w1, w1'⟩ := hA1 (by decide)
  show haW x mu1 535 (lwL i) [haI z1]
  refine ha_pop hF rfl (by decide +kernel) ?_
  refine ha_s (pc' := 537) (ls' := lwL i) (st' := [haR 51 860]) hF (haEt hT (e := (13, 536, 0, 2, 0, [])) (k := 278) (pc := 536) (by decide) (by decide +kernel) rfl) rfl (fun RG => avS13) (fun nx => rfl) ?_
  refine lw_ld (k := 1) hT hF hSc h0 h1 (by decide) (by decide +kernel) ?_
  refine lw_ld (k := 2) hT hF hSc h0 h1 (by decide) (by decide +kernel) ?_
  refine ha_callV (q := 219) (d' := 4) (r := 51) (j := 860) (as := [haI (lwV V i 1), haI (lwV V i 2)]) (rest := []) hT hF (haEt hT (e := (78, 547, 219, 0, 57, [1685, 1686, 1687])) (k := 278) (pc := 547) (by decide) (by decide +kernel) rfl) rfl rfl rfl (by decide +kernel) (by decide +kernel) (lw_turn hT hJ1) (by decide) rfl (show 2 = (abMe 219).2.1 from by decide +kernel) (show 0 + (abMe 219).1.2.2.1 ≤ 49 from by decide +kernel) (fun o2 mu2 hP2 => ?_)
  obtain ⟨⟨z2, rfl⟩, hJ2⟩ := hP2
  show haW x mu2 550 (lwL i) [haI z2]
  refine ha_pop hF rfl (by decide +kernel) ?_
  refine ha_s (pc' := 1655) (ls' := lwL i) (st' := []) hF (haEt hT (e := (58, 551, 1655, 0, 0, [])) (k := 278) (pc := 551) (by decide) (by decide +kernel) rfl) rfl (fun RG => avS58) (fun nx => rfl) ?_
  exact fin _ (lwJr_le hJ2 (Nat.le_refl _))
theorem lw_c554 (hT : abTabs) {x : haCx} {mu : haMu} {n L : Nat} {V : Int → Int} {i : Int} (hF : haF x 278 60) (hSc : lwS x V L) (h0 : 0 ≤ i) (h1 : i + 7 ≤ (L : Int)) (hn : n ≤ 8000) (fin : ∀ nu : haMu, lwJr (n + 1) nu → haW x nu 1655 (lwL i) []) (hJ0 : lwJr n mu) : haW x mu 554 (lwL i) [] := by
  refine ha_s (pc' := 555) (ls' := lwL i) (st' := [haR 0 0]) hF (haEt hT (e := (13, 554, 0, 1, 0, [])) (k := 278) (pc := 554) (by decide) (by decide +kernel) rfl) rfl (fun RG => avS13) (fun nx => rfl) ?_
  refine lw_ld (k := 1) hT hF hSc h0 h1 (by decide) (by decide +kernel) ?_
  refine ha_callV (q := 82) (d' := 32) (r := 0) (j := 0) (as := [haI (lwV V i 1)]) (rest := []) hT hF (haEt hT (e := (78, 560, 82, 0, 58, [932, 933, 934])) (k := 278) (pc := 560) (by decide) (by decide +kernel) rfl) rfl rfl rfl (by decide +kernel) (by decide +kernel) (lwSp hT (q := 82) (by decide) (c := avC82_0) (as := [haR 0 0, haI (lwV V i 1)]) (show avC82_0 ∈ [avC82_0] from List.mem_cons_self) (Or.inr (by decide)) hJ0 (lwFitI ((lwV_b hSc h0 1).1) ((lwV_b hSc h0 1).2)) (haLe5 rfl) (show 2 ≤ (abMe 82).1.2.2.1 from by decide +kernel)) (by decide) rfl (show 1 = (abMe 82).2.1 from by decide +kernel) (show 0 + (abMe 82).1.2.2.1 ≤ 49 from by decide +kernel) (fun o1 mu1 hP1 => ?_)
  obtain ⟨⟨-, hA1⟩, hJ1⟩ := hP1
  obtain ⟨z1, rfl, w1, w1'⟩ := hA1 (by decide)
  show haW x mu1 563 (lwL i) [haI z1]
  refine ha_pop hF rfl (by decide +kernel) ?_
  refine ha_s (pc' := 565) (ls' := lwL i) (st' := [haR 51 860]) hF (haEt hT (e := (13, 564, 0, 2, 0, [])) (k := 278) (pc := 564) (by decide) (by decide +kernel) rfl) rfl (fun RG => avS13) (fun nx => rfl) ?_
  refine lw_ld (k := 1) hT hF hSc h0 h1 (by decide) (by decide +kernel) ?_
  refine ha_callV (q := 237) (d' := 31) (r := 51) (j := 860) (as := [haI (lwV V i 1)]) (rest := []) hT hF (haEt hT (e := (78, 570, 237, 0, 61, [1773, 1774, 1775])) (k := 278) (pc := 570) (by decide) (by decide +kernel) rfl) rfl rfl rfl (by decide +kernel) (by decide +kernel) (lwSp hT (q := 237) (by decide) (c := avC237_0) (as := [haR 51 860, haI (lwV V i 1)]) (show avC237_0 ∈ [avC237_0] from List.mem_cons_self) (Or.inr (by decide)) hJ1 (lwFitI ((lwV_b hSc h0 1).1) ((lwV_b hSc h0 1).2)) (haLe5 rfl) (show 2 ≤ (abMe 237).1.2.2.1 from by decide +kernel)) (by decide) rfl (show 1 = (abMe 237).2.1 from by decide +kernel) (show 0 + (abMe 237).1.2.2.1 ≤ 49 from by decide +kernel) (fun o2 mu2 hP2 => ?_)
  obtain ⟨⟨-, hA2⟩, hJ2⟩ := hP2
  obtain ⟨z2, rfl, w2, w2'⟩ := hA2 (by decide)
  show haW x mu2 573 (lwL i) [haI z2]
  refine ha_pop hF rfl (by decide +kernel) ?_
  refine ha_s (pc' := 1655) (ls' := lwL i) (st' := []) hF (haEt hT (e := (58, 574, 1655, 0, 0, [])) (k := 278) (pc := 574) (by decide) (by decide +kernel) rfl) rfl (fun RG => avS58) (fun nx => rfl) ?_
  exact fin _ (lwJr_le hJ2 (Nat.le_succ n))
