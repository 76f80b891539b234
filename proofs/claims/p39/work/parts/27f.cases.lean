/-! THE LAW'S CASES (printed by wip/gen/gen27.py) -/
theorem lw_c1341 (hT : abTabs) {x : haCx} {mu : haMu} {n L : Nat} {V : Int → Int} {i : Int} (hF : haF x 278 60) (hSc : lwS x V L) (h0 : 0 ≤ i) (h1 : i + 7 ≤ (L : Int)) (hn : n ≤ 8000) (fin : ∀ nu : haMu, lwJr (n + 1) nu → haW x nu 1655 (lwL i) []) (hJ0 : lwJr n mu) : haW x mu 1341 (lwL i) [] := by
  refine ha_s (pc' := 1342) (ls' := lwL i) (st' := [haR 0 0]) hF (haEt hT (e := (13, 1341, 0, 1, 0, [])) (k := 278) (pc := 1341) (by decide) (by decide +kernel) rfl) rfl (fun RG => avS13) (fun nx => rfl) ?_
  refine lw_ld (k := 1) hT hF hSc h0 h1 (by decide) (by decide +kernel) ?_
  refine lw_ld (k := 2) hT hF hSc h0 h1 (by decide) (by decide +kernel) ?_
  refine ha_callV (q := 150) (d' := 2) (r := 0) (j := 0) (as := [haI (lwV V i 1), haI (lwV V i 2)]) (rest := []) hT hF (haEt hT (e := (78, 1352, 150, 0, 153, [1236, 1237, 1238])) (k := 278) (pc := 1352) (by decide) (by decide +kernel) rfl) rfl rfl rfl (by decide +kernel) (by decide +kernel) (lwSp hT (q := 150) (by decide) (c := avC150_0) (as := [haR 0 0, haI (lwV V i 1), haI (lwV V i 2)]) (show avC150_0 ∈ [avC150_0] from List.mem_cons_self) (Or.inr (by decide)) hJ0 (lwFitII ((lwV_b hSc h0 1).1) ((lwV_b hSc h0 1).2) ((lwV_b hSc h0 2).1) ((lwV_b hSc h0 2).2)) (haLe5 rfl) (show 3 ≤ (abMe 150).1.2.2.1 from by decide +kernel)) (by decide) rfl (show 2 = (abMe 150).2.1 from by decide +kernel) (show 0 + (abMe 150).1.2.2.1 ≤ 49 from by decide +kernel) (fun o1 mu1 hP1 => ?_)
  obtain ⟨⟨-, hA1⟩, hJ1⟩ := hP1
  obtain ⟨z1, rfl, w1, w1'⟩ := hA1 (by decide)
  show haW x mu1 1355 (lwL i) [haI z1]
  refine ha_pop hF rfl (by decide +kernel) ?_
  refine ha_s (pc' := 1357) (ls' := lwL i) (st' := [haR 51 860]) hF (haEt hT (e := (13, 1356, 0, 2, 0, [])) (k := 278) (pc := 1356) (by decide) (by decide +kernel) rfl) rfl (fun RG => avS13) (fun nx => rfl) ?_
  refine lw_ld (k := 1) hT hF hSc h0 h1 (by decide) (by decide +kernel) ?_
  refine lw_ld (k := 2) hT hF hSc h0 h1 (by decide) (by decide +kernel) ?_
  refine ha_callV (q := 261) (d' := 3) (r := 51) (j := 860) (as := [haI (lwV V i 1), haI (lwV V i 2)]) (rest := []) hT hF (haEt hT (e := (78, 1367, 261, 0, 156, [1872, 1873, 1874])) (k := 278) (pc := 1367) (by decide) (by decide +kernel) rfl) rfl rfl rfl (by decide +kernel) (by decide +kernel) (lwSp hT (q := 261) (by decide) (c := avC261_0) (as := [haR 51 860, haI (lwV V i 1), haI (lwV V i 2)]) (show avC261_0 ∈ [avC261_0] from List.mem_cons_self) (Or.inr (by decide)) hJ1 (lwFitII ((lwV_b hSc h0 1).1) ((lwV_b hSc h0 1).2) ((lwV_b hSc h0 2).1) ((lwV_b hSc h0 2).2)) (haLe5 rfl) (show 3 ≤ (abMe 261).1.2.2.1 from by decide +kernel)) (by decide) rfl (show 2 = (abMe 261).2.1 from by decide +kernel) (show 0 + (abMe 261).1.2.2.1 ≤ 49 from by decide +kernel) (fun o2 mu2 hP2 => ?_)
  obtain ⟨⟨-, hA2⟩, hJ2⟩ := hP2
  obtain ⟨z2, rfl, w2, w2'⟩ := hA2 (by decide)
  show haW x mu2 1370 (lwL i) [haI z2]
  refine ha_pop hF rfl (by decide +kernel) ?_
  refine ha_s (pc' := 1655) (ls' := lwL i) (st' := []) hF (haEt hT (e := (58, 1371, 1655, 0, 0, [])) (k := 278) (pc := 1371) (by decide) (by decide +kernel) rfl) rfl (fun RG => avS58) (fun nx => rfl) ?_
  exact fin _ (lwJr_le hJ2 (Nat.le_succ n))
theorem lw_c1374 (hT : abTabs) {x : haCx} {mu : haMu} {n L : Nat} {V : Int → Int} {i : Int} (hF : haF x 278 60) (hSc : lwS x V L) (h0 : 0 ≤ i) (h1 : i + 7 ≤ (L : Int)) (hn : n ≤ 8000) (fin : ∀ nu : haMu, lwJr (n + 1) nu → haW x nu 1655 (lwL i) []) (hJ0 : lwJr n mu) : haW x mu 1374 (lwL i) [] := by
  refine ha_s (pc' := 1375) (ls' := lwL i) (st' := [haR 0 0]) hF (haEt hT (e := (13, 1374, 0, 1, 0, [])) (k := 278) (pc := 1374) (by decide) (by decide +kernel) rfl) rfl (fun RG => avS13) (fun nx => rfl) ?_
  refine lw_ld (k := 1) hT hF hSc h0 h1 (by decide) (by decide +kernel) ?_
  refine lw_ld (k := 2) hT hF hSc h0 h1 (by decide) (by decide +kernel) ?_
  refine ha_callV (q := 154) (d' := 2) (r := 0) (j := 0) (as := [haI (lwV V i 1), haI (lwV V i 2)]) (rest := []) hT hF (haEt hT (e := (78, 1385, 154, 0, 157, [1252, 1253, 1254])) (k := 278) (pc := 1385) (by decide) (by decide +kernel) rfl) rfl rfl rfl (by decide +kernel) (by decide +kernel) (lwSp hT (q := 154) (by decide) (c := avC154_0) (as := [haR 0 0, haI (lwV V i 1), haI (lwV V i 2)]) (show avC154_0 ∈ [avC154_0] from List.mem_cons_self) (Or.inr (by decide)) hJ0 (lwFitII ((lwV_b hSc h0 1).1) ((lwV_b hSc h0 1).2) ((lwV_b hSc h0 2).1) ((lwV_b hSc h0 2).2)) (haLe5 rfl) (show 3 ≤ (abMe 154).1.2.2.1 from by decide +kernel)) (by decide) rfl (show 2 = (abMe 154).2.1 from by decide +kernel) (show 0 + (abMe 154).1.2.2.1 ≤ 49 from by decide +kernel) (fun o1 mu1 hP1 => ?_)
  obtain ⟨⟨-, hA1⟩, hJ1⟩ := hP1
  obtain ⟨z1, rfl, w1, w1'⟩ := hA1 (by decide)
  show haW x mu1 1388 (lwL i) [haI z1]
  refine ha_pop hF rfl (by decide +kernel) ?_
  refine ha_s (pc' := 1390) (ls' := lwL i) (st' := [haR 51 860]) hF (haEt hT (e := (13, 1389, 0, 2, 0, [])) (k := 278) (pc := 1389) (by decide) (by decide +kernel) rfl) rfl (fun RG => avS13) (fun nx => rfl) ?_
  refine lw_ld (k := 1) hT hF hSc h0 h1 (by decide) (by decide +kernel) ?_
  refine lw_ld (k := 2) hT hF hSc h0 h1 (by decide) (by decide +kernel) ?_
  refine ha_callV (q := 263) (d' := 4) (r := 51) (j := 860) (as := [haI (lwV V i 1), haI (lwV V i 2)]) (rest := []) hT hF (haEt hT (e := (78, 1400, 263, 0, 160, [1880, 1881, 1882])) (k := 278) (pc := 1400) (by decide) (by decide +kernel) rfl) rfl rfl rfl (by decide +kernel) (by decide +kernel) (lwSp hT (q := 263) (by decide) (c := avC263_0) (as := [haR 51 860, haI (lwV V i 1), haI (lwV V i 2)]) (show avC263_0 ∈ [avC263_0] from List.mem_cons_self) (Or.inr (by decide)) hJ1 (lwFitII ((lwV_b hSc h0 1).1) ((lwV_b hSc h0 1).2) ((lwV_b hSc h0 2).1) ((lwV_b hSc h0 2).2)) (haLe5 rfl) (show 3 ≤ (abMe 263).1.2.2.1 from by decide +kernel)) (by decide) rfl (show 2 = (abMe 263).2.1 from by decide +kernel) (show 0 + (abMe 263).1.2.2.1 ≤ 49 from by decide +kernel) (fun o2 mu2 hP2 => ?_)
  obtain ⟨⟨-, hA2⟩, hJ2⟩ := hP2
  obtain ⟨z2, rfl, w2, w2'⟩ := hA2 (by decide)
  show haW x mu2 1403 (lwL i) [haI z2]
  refine ha_pop hF rfl (by decide +kernel) ?_
  refine ha_s (pc' := 1655) (ls' := lwL i) (st' := []) hF (haEt hT (e := (58, 1404, 1655, 0, 0, [])) (k := 278) (pc := 1404) (by decide) (by decide +kernel) rfl) rfl (fun RG => avS58) (fun nx => rfl) ?_
  exact fin _ (lwJr_le hJ2 (Nat.le_succ n))
theorem lw_c1407 (hT : abTabs) {x : haCx} {mu : haMu} {n L : Nat} {V : Int → Int} {i : Int} (hF : haF x 278 60) (hSc : lwS x V L) (h0 : 0 ≤ i) (h1 : i + 7 ≤ (L : Int)) (hn : n ≤ 8000) (fin : ∀ nu : haMu, lwJr (n + 1) nu → haW x nu 1655 (lwL i) []) (hJ0 : lwJr n mu) : haW x mu 1407 (lwL i) [] := by
  refine ha_s (pc' := 1408) (ls' := lwL i) (st' := [haR 0 0]) hF (haEt hT (e := (13, 1407, 0, 1, 0, [])) (k := 278) (pc := 1407) (by decide) (by decide +kernel) rfl) rfl (fun RG => avS13) (fun nx => rfl) ?_
  refine lw_ld (k := 1) hT hF hSc h0 h1 (by decide) (by decide +kernel) ?_
  refine ha_callV (q := 156) (d' := 2) (r := 0) (j := 0) (as := [haI (lwV V i 1)]) (rest := []) hT hF (haEt hT (e := (78, 1413, 156, 0, 161, [1261, 1262, 1263])) (k := 278) (pc := 1413) (by decide) (by decide +kernel) rfl) rfl rfl rfl (by decide +kernel) (by decide +kernel) (lwSp hT (q := 156) (by decide) (c := avC156_0) (as := [haR 0 0, haI (lwV V i 1)]) (show avC156_0 ∈ [avC156_0] from List.mem_cons_self) (Or.inr (by decide)) hJ0 (lwFitI ((lwV_b hSc h0 1).1) ((lwV_b hSc h0 1).2)) (haLe5 rfl) (show 2 ≤ (abMe 156).1.2.2.1 from by decide +kernel)) (by decide) rfl (show 1 = (abMe 156).2.1 from by decide +kernel) (show 0 + (abMe 156).1.2.2.1 ≤ 49 from by decide +kernel) (fun o1 mu1 hP1 => ?_)
  obtain ⟨⟨-, hA1⟩, hJ1⟩ := hP1
  obtain ⟨z1, rfl, w1, w1'⟩ := hA1 (by decide)
  show haW x mu1 1416 (lwL i) [haI z1]
  refine ha_pop hF rfl (by decide +kernel) ?_
  refine ha_s (pc' := 1418) (ls' := lwL i) (st' := [haR 51 860]) hF (haEt hT (e := (13, 1417, 0, 2, 0, [])) (k := 278) (pc := 1417) (by decide) (by decide +kernel) rfl) rfl (fun RG => avS13) (fun nx => rfl) ?_
  refine lw_ld (k := 1) hT hF hSc h0 h1 (by decide) (by decide +kernel) ?_
  refine ha_callV (q := 264) (d' := 3) (r := 51) (j := 860) (as := [haI (lwV V i 1)]) (rest := []) hT hF (haEt hT (e := (78, 1423, 264, 0, 164, [1884, 1885, 1886])) (k := 278) (pc := 1423) (by decide) (by decide +kernel) rfl) rfl rfl rfl (by decide +kernel) (by decide +kernel) (lwSp hT (q := 264) (by decide) (c := avC264_0) (as := [haR 51 860, haI (lwV V i 1)]) (show avC264_0 ∈ [avC264_0] from List.mem_cons_self) (Or.inr (by decide)) hJ1 (lwFitI ((lwV_b hSc h0 1).1) ((lwV_b hSc h0 1).2)) (haLe5 rfl) (show 2 ≤ (abMe 264).1.2.2.1 from by decide +kernel)) (by decide) rfl (show 1 = (abMe 264).2.1 from by decide +kernel) (show 0 + (abMe 264).1.2.2.1 ≤ 49 from by decide +kernel) (fun o2 mu2 hP2 => ?_)
  obtain ⟨⟨-, hA2⟩, hJ2⟩ := hP2
  obtain ⟨z2, rfl, w2, w2'⟩ := hA2 (by decide)
  show haW x mu2 1426 (lwL i) [haI z2]
  refine ha_pop hF rfl (by decide +kernel) ?_
  refine ha_s (pc' := 1655) (ls' := lwL i) (st' := []) hF (haEt hT (e := (58, 1427, 1655, 0, 0, [])) (k := 278) (pc := 1427) (by decide) (by decide +kernel) rfl) rfl (fun RG => avS58) (fun nx => rfl) ?_
  exact fin _ (lwJr_le hJ2 (Nat.le_succ n))
theorem lw_c1430 (hT : abTabs) {x : haCx} {mu : haMu} {n L : Nat} {V : Int → Int} {i : Int} (hF : haF x 278 60) (hSc : lwS x V L) (h0 : 0 ≤ i) (h1 : i + 7 ≤ (L : Int)) (hn : n ≤ 8000) (fin : ∀ nu : haMu, lwJr (n + 1) nu → haW x nu 1655 (lwL i) []) (hJ0 : lwJr n mu) : haW x mu 1430 (lwL i) [] := by
  refine ha_s (pc' := 1431) (ls' := lwL i) (st' := [haR 0 0]) hF (haEt hT (e := (13, 1430, 0, 1, 0, [])) (k := 278) (pc := 1430) (by decide) (by decide +kernel) rfl) rfl (fun RG => avS13) (fun nx => rfl) ?_
  refine lw_ld (k := 1) hT hF hSc h0 h1 (by decide) (by decide +kernel) ?_
  refine ha_callV (q := 161) (d' := 3) (r := 0) (j := 0) (as := [haI (lwV V i 1)]) (rest := []) hT hF (haEt hT (e := (78, 1436, 161, 0, 165, [1284, 1285, 1286])) (k := 278) (pc := 1436) (by decide) (by decide +kernel) rfl) rfl rfl rfl (by decide +kernel) (by decide +kernel) (hm_keepC hT (d := 0)) (by decide) rfl (show 1 = (abMe 161).2.1 from by decide +kernel) (show 0 + (abMe 161).1.2.2.1 ≤ 49 from by decide +kernel) (fun o1 mu1 hP1 => ?_)
  obtain ⟨z1, rfl, hP1⟩ := hP1
  show haW x mu1 1439 (lwL i) [haI z1]
  refine ha_pop hF rfl (by decide +kernel) ?_
  refine ha_s (pc' := 1441) (ls' := lwL i) (st' := [haR 51 860]) hF (haEt hT (e := (13, 1440, 0, 2, 0, [])) (k := 278) (pc := 1440) (by decide) (by decide +kernel) rfl) rfl (fun RG => avS13) (fun nx => rfl) ?_
  refine lw_ld (k := 1) hT hF hSc h0 h1 (by decide) (by decide +kernel) ?_
  refine ha_callV (q := 175) (d' := 1) (r := 51) (j := 860) (as := [haI (lwV V i 1)]) (rest := []) hT hF (haEt hT (e := (78, 1446, 175, 0, 168, [1467, 1468, 1469])) (k := 278) (pc := 1446) (by decide) (by decide +kernel) rfl) rfl rfl rfl (by decide +kernel) (by decide +kernel) (hm_keep hT (d := 0)) (by decide) rfl (show 1 = (abMe 175).2.1 from by decide +kernel) (show 0 + (abMe 175).1.2.2.1 ≤ 49 from by decide +kernel) (fun o2 mu2 hP2 => ?_)
  obtain ⟨z2, rfl, hP2⟩ := hP2
  show haW x mu2 1449 (lwL i) [haI z2]
  obtain ⟨hJ2, ez⟩ := lw_keep2 hJ0 hP1 hP2
  refine ha_pop hF rfl (by decide +kernel) ?_
  refine ha_s (pc' := 1655) (ls' := lwL i) (st' := []) hF (haEt hT (e := (58, 1450, 1655, 0, 0, [])) (k := 278) (pc := 1450) (by decide) (by decide +kernel) rfl) rfl (fun RG => avS58) (fun nx => rfl) ?_
  exact fin _ (lwJr_le hJ2 (Nat.le_refl _))
theorem lw_c1453 (hT : abTabs) {x : haCx} {mu : haMu} {n L : Nat} {V : Int → Int} {i : Int} (hF : haF x 278 60) (hSc : lwS x V L) (h0 : 0 ≤ i) (h1 : i + 7 ≤ (L : Int)) (hn : n ≤ 8000) (fin : ∀ nu : haMu, lwJr (n + 1) nu → haW x nu 1655 (lwL i) []) (hJ0 : lwJr n mu) : haW x mu 1453 (lwL i) [] := by
  refine ha_s (pc' := 1454) (ls' := lwL i) (st' := [haR 0 0]) hF (haEt hT (e := (13, 1453, 0, 1, 0, [])) (k := 278) (pc := 1453) (by decide) (by decide +kernel) rfl) rfl (fun RG => avS13) (fun nx => rfl) ?_
  refine lw_ld (k := 1) hT hF hSc h0 h1 (by decide) (by decide +kernel) ?_
  refine ha_callV (q := 164) (d' := 3) (r := 0) (j := 0) (as := [haI (lwV V i 1)]) (rest := []) hT hF (haEt hT (e := (78, 1459, 164, 0, 169, [1299, 1300, 1301])) (k := 278) (pc := 1459) (by decide) (by decide +kernel) rfl) rfl rfl rfl (by decide +kernel) (by decide +kernel) (hm_backC hT (d := 0)) (by decide) rfl (show 1 = (abMe 164).2.1 from by decide +kernel) (show 0 + (abMe 164).1.2.2.1 ≤ 49 from by decide +kernel) (fun o1 mu1 hP1 => ?_)
  obtain ⟨z1, rfl, hP1⟩ := hP1
  show haW x mu1 1462 (lwL i) [haI z1]
  refine ha_s (pc' := 1463) (ls' := lwL i) (st' := [haR 51 860, haI z1]) hF (haEt hT (e := (13, 1462, 0, 2, 0, [])) (k := 278) (pc := 1462) (by decide) (by decide +kernel) rfl) rfl (fun RG => avS13) (fun nx => rfl) ?_
  refine lw_ld (k := 1) hT hF hSc h0 h1 (by decide) (by decide +kernel) ?_
  refine ha_callV (q := 177) (d' := 1) (r := 51) (j := 860) (as := [haI (lwV V i 1)]) (rest := [haI z1]) hT hF (haEt hT (e := (78, 1468, 177, 0, 172, [1475, 1476, 1477])) (k := 278) (pc := 1468) (by decide) (by decide +kernel) rfl) rfl rfl rfl (by decide +kernel) (by decide +kernel) (hm_back hT (d := 0) (fun k' k0 k2 hk => ((lwJr_fm hJ0 hP1.1).1.2.2 k' k0 k2 hk).1)) (by decide) rfl (show 1 = (abMe 177).2.1 from by decide +kernel) (show 1 + (abMe 177).1.2.2.1 ≤ 49 from by decide +kernel) (fun o2 mu2 hP2 => ?_)
  obtain ⟨z2, rfl, hP2⟩ := hP2
  show haW x mu2 1471 (lwL i) [haI z2, haI z1]
  obtain ⟨hJ2, ez⟩ := lw_back2 hJ0 hP1 hP2
  refine ha_iceq (t := 1655) hF (haEt hT (e := (52, 1471, 1655, 0, 0, [])) (k := 278) (pc := 1471) (by decide) (by decide +kernel) rfl) rfl rfl rfl (fun _ => ?_) (fun q => absurd ez q)
  exact fin _ (lwJr_le hJ2 (Nat.le_refl _))
theorem lw_c1476 (hT : abTabs) {x : haCx} {mu : haMu} {n L : Nat} {V : Int → Int} {i : Int} (hF : haF x 278 60) (hSc : lwS x V L) (h0 : 0 ≤ i) (h1 : i + 7 ≤ (L : Int)) (hn : n ≤ 8000) (fin : ∀ nu : haMu, lwJr (n + 1) nu → haW x nu 1655 (lwL i) []) (hJ0 : lwJr n mu) : haW x mu 1476 (lwL i) [] := by
  refine ha_s (pc' := 1477) (ls' := lwL i) (st' := [haR 0 0]) hF (haEt hT (e := (13, 1476, 0, 1, 0, [])) (k := 278) (pc := 1476) (by decide) (by decide +kernel) rfl) rfl (fun RG => avS13) (fun nx => rfl) ?_
  refine lw_ld (k := 1) hT hF hSc h0 h1 (by decide) (by decide +kernel) ?_
  refine lw_ld (k := 2) hT hF hSc h0 h1 (by decide) (by decide +kernel) ?_
  refine lw_ld (k := 3) hT hF hSc h0 h1 (by decide) (by decide +kernel) ?_
  refine ha_callV (q := 165) (d' := 1) (r := 0) (j := 0) (as := [haI (lwV V i 1), haI (lwV V i 2), haI (lwV V i 3)]) (rest := []) hT hF (haEt hT (e := (78, 1492, 165, 0, 173, [1303, 1304, 1305])) (k := 278) (pc := 1492) (by decide) (by decide +kernel) rfl) rfl rfl rfl (by decide +kernel) (by decide +kernel) (hm_rowC hT (d := 0)) (by decide) rfl (show 3 = (abMe 165).2.1 from by decide +kernel) (show 0 + (abMe 165).1.2.2.1 ≤ 49 from by decide +kernel) (fun o1 mu1 hP1 => ?_)
  obtain ⟨z1, rfl, hP1⟩ := hP1
  show haW x mu1 1495 (lwL i) [haI z1]
  refine ha_pop hF rfl (by decide +kernel) ?_
  refine ha_s (pc' := 1497) (ls' := lwL i) (st' := [haR 51 860]) hF (haEt hT (e := (13, 1496, 0, 2, 0, [])) (k := 278) (pc := 1496) (by decide) (by decide +kernel) rfl) rfl (fun RG => avS13) (fun nx => rfl) ?_
  refine lw_ld (k := 1) hT hF hSc h0 h1 (by decide) (by decide +kernel) ?_
  refine lw_ld (k := 2) hT hF hSc h0 h1 (by decide) (by decide +kernel) ?_
  refine lw_ld (k := 3) hT hF hSc h0 h1 (by decide) (by decide +kernel) ?_
  refine ha_callV (q := 265) (d' := 2) (r := 51) (j := 860) (as := [haI (lwV V i 1), haI (lwV V i 2), haI (lwV V i 3)]) (rest := []) hT hF (haEt hT (e := (78, 1512, 265, 0, 176, [1889, 1890, 1891])) (k := 278) (pc := 1512) (by decide) (by decide +kernel) rfl) rfl rfl rfl (by decide +kernel) (by decide +kernel) (hm_rowR hT (d := 0)) (by decide) rfl (show 3 = (abMe 265).2.1 from by decide +kernel) (show 0 + (abMe 265).1.2.2.1 ≤ 49 from by decide +kernel) (fun o2 mu2 hP2 => ?_)
  obtain ⟨z2, rfl, hP2⟩ := hP2
  show haW x mu2 1515 (lwL i) [haI z2]
  obtain ⟨hJ2, ez⟩ := lw_row2 hJ0 hP1 hP2
  refine ha_pop hF rfl (by decide +kernel) ?_
  refine ha_s (pc' := 1655) (ls' := lwL i) (st' := []) hF (haEt hT (e := (58, 1516, 1655, 0, 0, [])) (k := 278) (pc := 1516) (by decide) (by decide +kernel) rfl) rfl (fun RG => avS58) (fun nx => rfl) ?_
  exact fin _ (lwJr_le hJ2 (Nat.le_refl _))
theorem lw_c1519 (hT : abTabs) {x : haCx} {mu : haMu} {n L : Nat} {V : Int → Int} {i : Int} (hF : haF x 278 60) (hSc : lwS x V L) (h0 : 0 ≤ i) (h1 : i + 7 ≤ (L : Int)) (hn : n ≤ 8000) (fin : ∀ nu : haMu, lwJr (n + 1) nu → haW x nu 1655 (lwL i) []) (hJ0 : lwJr n mu) : haW x mu 1519 (lwL i) [] := by
  obtain ⟨x3, e3⟩ : ∃ y : Int64, lwV V i 3 = y.toInt := lwI64 (lwV_b hSc h0 3)
  obtain ⟨x4, e4⟩ : ∃ y : Int64, lwV V i 4 = y.toInt := lwI64 (lwV_b hSc h0 4)
  refine ha_s (pc' := 1520) (ls' := lwL i) (st' := [haR 0 0]) hF (haEt hT (e := (13, 1519, 0, 1, 0, [])) (k := 278) (pc := 1519) (by decide) (by decide +kernel) rfl) rfl (fun RG => avS13) (fun nx => rfl) ?_
  refine lw_ld (k := 1) hT hF hSc h0 h1 (by decide) (by decide +kernel) ?_
  refine lw_ld (k := 2) hT hF hSc h0 h1 (by decide) (by decide +kernel) ?_
  refine lw_ld (k := 3) hT hF hSc h0 h1 (by decide) (by decide +kernel) ?_
  refine ha_s (pc' := 1536) (ls' := lwL i) (st' := [haL (lwV V i 3), haI (lwV V i 2), haI (lwV V i 1), haR 0 0]) hF (haEt hT (e := (40, 1535, 0, 0, 0, [])) (k := 278) (pc := 1535) (by decide) (by decide +kernel) rfl) rfl (fun RG => avS40) (fun nx => rfl) ?_
  refine ha_s (pc' := 1538) (ls' := lwL i) (st' := [haI 32, haL (lwV V i 3), haI (lwV V i 2), haI (lwV V i 1), haR 0 0]) hF (haEt hT (e := (2, 1536, 0, 0, 9223372036854775840, [])) (k := 278) (pc := 1536) (by decide) (by decide +kernel) rfl) rfl (fun RG => avS2) (fun nx => rfl) ?_
  refine ha_lshlB (x1 := x3) (y1 := 32) hF (haEt hT (e := (38, 1538, 0, 0, 0, [])) (k := 278) (pc := 1538) (by decide) (by decide +kernel) rfl) rfl rfl e3 rfl ?_
  refine lw_ld (k := 4) hT hF hSc h0 h1 (by decide) (by decide +kernel) ?_
  refine ha_s (pc' := 1545) (ls' := lwL i) (st' := [haL (lwV V i 4), haL (x3 <<< ((32 : Int32).toInt64 &&& 63)).toInt, haI (lwV V i 2), haI (lwV V i 1), haR 0 0]) hF (haEt hT (e := (40, 1544, 0, 0, 0, [])) (k := 278) (pc := 1544) (by decide) (by decide +kernel) rfl) rfl (fun RG => avS40) (fun nx => rfl) ?_
  refine ha_s (pc' := 1548) (ls' := lwL i) (st' := [haL 4294967295, haL (lwV V i 4), haL (x3 <<< ((32 : Int32).toInt64 &&& 63)).toInt, haI (lwV V i 2), haI (lwV V i 1), haR 0 0]) hF (haEt hT (e := (7, 1545, 177, 0, 9223372041149743103, [1904])) (k := 278) (pc := 1545) (by decide) (by decide +kernel) rfl) rfl (fun RG => avS7) (fun nx => rfl) ?_
  refine ha_landB (x1 := x4) (y1 := 4294967295) hF (haEt hT (e := (35, 1548, 0, 0, 0, [])) (k := 278) (pc := 1548) (by decide) (by decide +kernel) rfl) rfl rfl e4 rfl ?_
  refine ha_lorB (x1 := x3 <<< ((32 : Int32).toInt64 &&& 63)) (y1 := x4 &&& 4294967295) hF (haEt hT (e := (36, 1549, 0, 0, 0, [])) (k := 278) (pc := 1549) (by decide) (by decide +kernel) rfl) rfl rfl rfl rfl ?_
  refine ha_callV (q := 167) (d' := 1) (r := 0) (j := 0) (as := [haI (lwV V i 1), haI (lwV V i 2), haL ((x3 <<< ((32 : Int32).toInt64 &&& 63)) ||| (x4 &&& 4294967295)).toInt]) (rest := []) hT hF (haEt hT (e := (78, 1550, 167, 0, 179, [1311, 1312, 1313])) (k := 278) (pc := 1550) (by decide) (by decide +kernel) rfl) rfl rfl rfl (by decide +kernel) (by decide +kernel) (lwSp hT (q := 167) (by decide) (c := avC167_0) (as := [haR 0 0, haI (lwV V i 1), haI (lwV V i 2), haL ((x3 <<< ((32 : Int32).toInt64 &&& 63)) ||| (x4 &&& 4294967295)).toInt]) (show avC167_0 ∈ [avC167_0] from List.mem_cons_self) (Or.inr (by decide)) hJ0 (lwFitIIL ((lwV_b hSc h0 1).1) ((lwV_b hSc h0 1).2) ((lwV_b hSc h0 2).1) ((lwV_b hSc h0 2).2) ((avI64 _).1) ((avI64 _).2)) (haLe5 rfl) (show 5 ≤ (abMe 167).1.2.2.1 from by decide +kernel)) (by decide) rfl (show 3 = (abMe 167).2.1 from by decide +kernel) (show 0 + (abMe 167).1.2.2.1 ≤ 49 from by decide +kernel) (fun o1 mu1 hP1 => ?_)
  obtain ⟨⟨-, hA1⟩, hJ1⟩ := hP1
  obtain ⟨z1, rfl, w1, w1'⟩ := hA1 (by decide)
  show haW x mu1 1553 (lwL i) [haI z1]
  refine ha_pop hF rfl (by decide +kernel) ?_
  refine ha_s (pc' := 1555) (ls' := lwL i) (st' := [haR 51 860]) hF (haEt hT (e := (13, 1554, 0, 2, 0, [])) (k := 278) (pc := 1554) (by decide) (by decide +kernel) rfl) rfl (fun RG => avS13) (fun nx => rfl) ?_
  refine lw_ld (k := 1) hT hF hSc h0 h1 (by decide) (by decide +kernel) ?_
  refine lw_ld (k := 2) hT hF hSc h0 h1 (by decide) (by decide +kernel) ?_
  refine lw_ld (k := 3) hT hF hSc h0 h1 (by decide) (by decide +kernel) ?_
  refine ha_s (pc' := 1571) (ls' := lwL i) (st' := [haL (lwV V i 3), haI (lwV V i 2), haI (lwV V i 1), haR 51 860]) hF (haEt hT (e := (40, 1570, 0, 0, 0, [])) (k := 278) (pc := 1570) (by decide) (by decide +kernel) rfl) rfl (fun RG => avS40) (fun nx => rfl) ?_
  refine ha_s (pc' := 1573) (ls' := lwL i) (st' := [haI 32, haL (lwV V i 3), haI (lwV V i 2), haI (lwV V i 1), haR 51 860]) hF (haEt hT (e := (2, 1571, 0, 0, 9223372036854775840, [])) (k := 278) (pc := 1571) (by decide) (by decide +kernel) rfl) rfl (fun RG => avS2) (fun nx => rfl) ?_
  refine ha_lshlB (x1 := x3) (y1 := 32) hF (haEt hT (e := (38, 1573, 0, 0, 0, [])) (k := 278) (pc := 1573) (by decide) (by decide +kernel) rfl) rfl rfl e3 rfl ?_
  refine lw_ld (k := 4) hT hF hSc h0 h1 (by decide) (by decide +kernel) ?_
  refine ha_s (pc' := 1580) (ls' := lwL i) (st' := [haL (lwV V i 4), haL (x3 <<< ((32 : Int32).toInt64 &&& 63)).toInt, haI (lwV V i 2), haI (lwV V i 1), haR 51 860]) hF (haEt hT (e := (40, 1579, 0, 0, 0, [])) (k := 278) (pc := 1579) (by decide) (by decide +kernel) rfl) rfl (fun RG => avS40) (fun nx => rfl) ?_
  refine ha_s (pc' := 1583) (ls' := lwL i) (st' := [haL 4294967295, haL (lwV V i 4), haL (x3 <<< ((32 : Int32).toInt64 &&& 63)).toInt, haI (lwV V i 2), haI (lwV V i 1), haR 51 860]) hF (haEt hT (e := (7, 1580, 177, 0, 9223372041149743103, [1904])) (k := 278) (pc := 1580) (by decide) (by decide +kernel) rfl) rfl (fun RG => avS7) (fun nx => rfl) ?_
  refine ha_landB (x1 := x4) (y1 := 4294967295) hF (haEt hT (e := (35, 1583, 0, 0, 0, [])) (k := 278) (pc := 1583) (by decide) (by decide +kernel) rfl) rfl rfl e4 rfl ?_
  refine ha_lorB (x1 := x3 <<< ((32 : Int32).toInt64 &&& 63)) (y1 := x4 &&& 4294967295) hF (haEt hT (e := (36, 1584, 0, 0, 0, [])) (k := 278) (pc := 1584) (by decide) (by decide +kernel) rfl) rfl rfl rfl rfl ?_
  refine ha_callV (q := 266) (d' := 2) (r := 51) (j := 860) (as := [haI (lwV V i 1), haI (lwV V i 2), haL ((x3 <<< ((32 : Int32).toInt64 &&& 63)) ||| (x4 &&& 4294967295)).toInt]) (rest := []) hT hF (haEt hT (e := (78, 1585, 266, 0, 183, [1893, 1894, 1895])) (k := 278) (pc := 1585) (by decide) (by decide +kernel) rfl) rfl rfl rfl (by decide +kernel) (by decide +kernel) (lwSp hT (q := 266) (by decide) (c := avC266_0) (as := [haR 51 860, haI (lwV V i 1), haI (lwV V i 2), haL ((x3 <<< ((32 : Int32).toInt64 &&& 63)) ||| (x4 &&& 4294967295)).toInt]) (show avC266_0 ∈ [avC266_0] from List.mem_cons_self) (Or.inr (by decide)) hJ1 (lwFitIIL ((lwV_b hSc h0 1).1) ((lwV_b hSc h0 1).2) ((lwV_b hSc h0 2).1) ((lwV_b hSc h0 2).2) ((avI64 _).1) ((avI64 _).2)) (haLe5 rfl) (show 5 ≤ (abMe 266).1.2.2.1 from by decide +kernel)) (by decide) rfl (show 3 = (abMe 266).2.1 from by decide +kernel) (show 0 + (abMe 266).1.2.2.1 ≤ 49 from by decide +kernel) (fun o2 mu2 hP2 => ?_)
  obtain ⟨⟨-, hA2⟩, hJ2⟩ := hP2
  obtain ⟨z2, rfl, w2, w2'⟩ := hA2 (by decide)
  show haW x mu2 1588 (lwL i) [haI z2]
  refine ha_pop hF rfl (by decide +kernel) ?_
  refine ha_s (pc' := 1655) (ls' := lwL i) (st' := []) hF (haEt hT (e := (58, 1589, 1655, 0, 0, [])) (k := 278) (pc := 1589) (by decide) (by decide +kernel) rfl) rfl (fun RG => avS58) (fun nx => rfl) ?_
  exact fin _ (lwJr_le hJ2 (Nat.le_succ n))
theorem lw_c1592 (hT : abTabs) {x : haCx} {mu : haMu} {n L : Nat} {V : Int → Int} {i : Int} (hF : haF x 278 60) (hSc : lwS x V L) (h0 : 0 ≤ i) (h1 : i + 7 ≤ (L : Int)) (hn : n ≤ 8000) (fin : ∀ nu : haMu, lwJr (n + 1) nu → haW x nu 1655 (lwL i) []) (hJ0 : lwJr n mu) : haW x mu 1592 (lwL i) [] := by
  refine ha_s (pc' := 1593) (ls' := lwL i) (st' := [haR 0 0]) hF (haEt hT (e := (13, 1592, 0, 1, 0, [])) (k := 278) (pc := 1592) (by decide) (by decide +kernel) rfl) rfl (fun RG => avS13) (fun nx => rfl) ?_
  refine lw_ld (k := 1) hT hF hSc h0 h1 (by decide) (by decide +kernel) ?_
  refine lw_ld (k := 2) hT hF hSc h0 h1 (by decide) (by decide +kernel) ?_
  refine lw_ld (k := 3) hT hF hSc h0 h1 (by decide) (by decide +kernel) ?_
  refine lw_ld (k := 4) hT hF hSc h0 h1 (by decide) (by decide +kernel) ?_
  refine lw_ld (k := 5) hT hF hSc h0 h1 (by decide) (by decide +kernel) ?_
  refine ha_callV (q := 169) (d' := 1) (r := 0) (j := 0) (as := [haI (lwV V i 1), haI (lwV V i 2), haI (lwV V i 3), haI (lwV V i 4), haI (lwV V i 5)]) (rest := []) hT hF (haEt hT (e := (78, 1618, 169, 0, 184, [1319, 1320, 1321])) (k := 278) (pc := 1618) (by decide) (by decide +kernel) rfl) rfl rfl rfl (by decide +kernel) (by decide +kernel) (lwSp hT (q := 169) (by decide) (c := avC169_0) (as := [haR 0 0, haI (lwV V i 1), haI (lwV V i 2), haI (lwV V i 3), haI (lwV V i 4), haI (lwV V i 5)]) (show avC169_0 ∈ [avC169_0] from List.mem_cons_self) (Or.inr (by decide)) hJ0 (lwFitIIIII ((lwV_b hSc h0 1).1) ((lwV_b hSc h0 1).2) ((lwV_b hSc h0 2).1) ((lwV_b hSc h0 2).2) ((lwV_b hSc h0 3).1) ((lwV_b hSc h0 3).2) ((lwV_b hSc h0 4).1) ((lwV_b hSc h0 4).2) ((lwV_b hSc h0 5).1) ((lwV_b hSc h0 5).2)) (haLe5 rfl) (show 6 ≤ (abMe 169).1.2.2.1 from by decide +kernel)) (by decide) rfl (show 5 = (abMe 169).2.1 from by decide +kernel) (show 0 + (abMe 169).1.2.2.1 ≤ 49 from by decide +kernel) (fun o1 mu1 hP1 => ?_)
  obtain ⟨⟨-, hA1⟩, hJ1⟩ := hP1
  obtain ⟨z1, rfl, w1, w1'⟩ := hA1 (by decide)
  show haW x mu1 1621 (lwL i) [haI z1]
  refine ha_pop hF rfl (by decide +kernel) ?_
  refine ha_s (pc' := 1623) (ls' := lwL i) (st' := [haR 51 860]) hF (haEt hT (e := (13, 1622, 0, 2, 0, [])) (k := 278) (pc := 1622) (by decide) (by decide +kernel) rfl) rfl (fun RG => avS13) (fun nx => rfl) ?_
  refine lw_ld (k := 1) hT hF hSc h0 h1 (by decide) (by decide +kernel) ?_
  refine lw_ld (k := 2) hT hF hSc h0 h1 (by decide) (by decide +kernel) ?_
  refine lw_ld (k := 3) hT hF hSc h0 h1 (by decide) (by decide +kernel) ?_
  refine lw_ld (k := 4) hT hF hSc h0 h1 (by decide) (by decide +kernel) ?_
  refine lw_ld (k := 5) hT hF hSc h0 h1 (by decide) (by decide +kernel) ?_
  refine ha_callV (q := 268) (d' := 2) (r := 51) (j := 860) (as := [haI (lwV V i 1), haI (lwV V i 2), haI (lwV V i 3), haI (lwV V i 4), haI (lwV V i 5)]) (rest := []) hT hF (haEt hT (e := (78, 1648, 268, 0, 187, [1900, 1901, 1902])) (k := 278) (pc := 1648) (by decide) (by decide +kernel) rfl) rfl rfl rfl (by decide +kernel) (by decide +kernel) (lwSp hT (q := 268) (by decide) (c := avC268_0) (as := [haR 51 860, haI (lwV V i 1), haI (lwV V i 2), haI (lwV V i 3), haI (lwV V i 4), haI (lwV V i 5)]) (show avC268_0 ∈ [avC268_0] from List.mem_cons_self) (Or.inr (by decide)) hJ1 (lwFitIIIII ((lwV_b hSc h0 1).1) ((lwV_b hSc h0 1).2) ((lwV_b hSc h0 2).1) ((lwV_b hSc h0 2).2) ((lwV_b hSc h0 3).1) ((lwV_b hSc h0 3).2) ((lwV_b hSc h0 4).1) ((lwV_b hSc h0 4).2) ((lwV_b hSc h0 5).1) ((lwV_b hSc h0 5).2)) (haLe5 rfl) (show 6 ≤ (abMe 268).1.2.2.1 from by decide +kernel)) (by decide) rfl (show 5 = (abMe 268).2.1 from by decide +kernel) (show 0 + (abMe 268).1.2.2.1 ≤ 49 from by decide +kernel) (fun o2 mu2 hP2 => ?_)
  obtain ⟨⟨-, hA2⟩, hJ2⟩ := hP2
  obtain ⟨z2, rfl, w2, w2'⟩ := hA2 (by decide)
  show haW x mu2 1651 (lwL i) [haI z2]
  refine ha_pop hF rfl (by decide +kernel) ?_
  refine ha_s (pc' := 1655) (ls' := lwL i) (st' := []) hF (haEt hT (e := (58, 1652, 1655, 0, 0, [])) (k := 278) (pc := 1652) (by decide) (by decide +kernel) rfl) rfl (fun RG => avS58) (fun nx => rfl) ?_
  exact fin _ (lwJr_le hJ2 (Nat.le_succ n))
theorem lw_call (hT : abTabs) {x : haCx} {mu : haMu} {n L : Nat} {V : Int → Int} {i : Int} (hF : haF x 278 60) (hSc : lwS x V L) (h0 : 0 ≤ i) (h1 : i + 7 ≤ (L : Int)) (hn : n ≤ 8000) (fin : ∀ nu : haMu, lwJr (n + 1) nu → haW x nu 1655 (lwL i) []) (hJ0 : lwJr n mu) : ∀ t ∈ [212, 275, 298, 311, 334, 409, 442, 465, 498, 521, 554, 577, 610, 633, 676, 735, 794, 843, 886, 929, 972, 1005, 1048, 1091, 1114, 1137, 1170, 1193, 1216, 1229, 1272, 1295, 1308, 1341, 1374, 1407, 1430, 1453, 1476, 1519, 1592], haW x mu t (lwL i) [] := List.forall_mem_cons.mpr ⟨lw_c212 hT hF hSc h0 h1 hn fin hJ0, List.forall_mem_cons.mpr ⟨lw_c275 hT hF hSc h0 h1 hn fin hJ0, List.forall_mem_cons.mpr ⟨lw_c298 hT hF hSc h0 h1 hn fin hJ0, List.forall_mem_cons.mpr ⟨lw_c311 hT hF hSc h0 h1 hn fin hJ0, List.forall_mem_cons.mpr ⟨lw_c334 hT hF hSc h0 h1 hn fin hJ0, List.forall_mem_cons.mpr ⟨lw_c409 hT hF hSc h0 h1 hn fin hJ0, List.forall_mem_cons.mpr ⟨lw_c442 hT hF hSc h0 h1 hn fin hJ0, List.forall_mem_cons.mpr ⟨lw_c465 hT hF hSc h0 h1 hn fin hJ0, List.forall_mem_cons.mpr ⟨lw_c498 hT hF hSc h0 h1 hn fin hJ0, List.forall_mem_cons.mpr ⟨lw_c521 hT hF hSc h0 h1 hn fin hJ0, List.forall_mem_cons.mpr ⟨lw_c554 hT hF hSc h0 h1 hn fin hJ0, List.forall_mem_cons.mpr ⟨lw_c577 hT hF hSc h0 h1 hn fin hJ0, List.forall_mem_cons.mpr ⟨lw_c610 hT hF hSc h0 h1 hn fin hJ0, List.forall_mem_cons.mpr ⟨lw_c633 hT hF hSc h0 h1 hn fin hJ0, List.forall_mem_cons.mpr ⟨lw_c676 hT hF hSc h0 h1 hn fin hJ0, List.forall_mem_cons.mpr ⟨lw_c735 hT hF hSc h0 h1 hn fin hJ0, List.forall_mem_cons.mpr ⟨lw_c794 hT hF hSc h0 h1 hn fin hJ0, List.forall_mem_cons.mpr ⟨lw_c843 hT hF hSc h0 h1 hn fin hJ0, List.forall_mem_cons.mpr ⟨lw_c886 hT hF hSc h0 h1 hn fin hJ0, List.forall_mem_cons.mpr ⟨lw_c929 hT hF hSc h0 h1 hn fin hJ0, List.forall_mem_cons.mpr ⟨lw_c972 hT hF hSc h0 h1 hn fin hJ0, List.forall_mem_cons.mpr ⟨lw_c1005 hT hF hSc h0 h1 hn fin hJ0, List.forall_mem_cons.mpr ⟨lw_c1048 hT hF hSc h0 h1 hn fin hJ0, List.forall_mem_cons.mpr ⟨lw_c1091 hT hF hSc h0 h1 hn fin hJ0, List.forall_mem_cons.mpr ⟨lw_c1114 hT hF hSc h0 h1 hn fin hJ0, List.forall_mem_cons.mpr ⟨lw_c1137 hT hF hSc h0 h1 hn fin hJ0, List.forall_mem_cons.mpr ⟨lw_c1170 hT hF hSc h0 h1 hn fin hJ0, List.forall_mem_cons.mpr ⟨lw_c1193 hT hF hSc h0 h1 hn fin hJ0, List.forall_mem_cons.mpr ⟨lw_c1216 hT hF hSc h0 h1 hn fin hJ0, List.forall_mem_cons.mpr ⟨lw_c1229 hT hF hSc h0 h1 hn fin hJ0, List.forall_mem_cons.mpr ⟨lw_c1272 hT hF hSc h0 h1 hn fin hJ0, List.forall_mem_cons.mpr ⟨lw_c1295 hT hF hSc h0 h1 hn fin hJ0, List.forall_mem_cons.mpr ⟨lw_c1308 hT hF hSc h0 h1 hn fin hJ0, List.forall_mem_cons.mpr ⟨lw_c1341 hT hF hSc h0 h1 hn fin hJ0, List.forall_mem_cons.mpr ⟨lw_c1374 hT hF hSc h0 h1 hn fin hJ0, List.forall_mem_cons.mpr ⟨lw_c1407 hT hF hSc h0 h1 hn fin hJ0, List.forall_mem_cons.mpr ⟨lw_c1430 hT hF hSc h0 h1 hn fin hJ0, List.forall_mem_cons.mpr ⟨lw_c1453 hT hF hSc h0 h1 hn fin hJ0, List.forall_mem_cons.mpr ⟨lw_c1476 hT hF hSc h0 h1 hn fin hJ0, List.forall_mem_cons.mpr ⟨lw_c1519 hT hF hSc h0 h1 hn fin hJ0, List.forall_mem_cons.mpr ⟨lw_c1592 hT hF hSc h0 h1 hn fin hJ0, fun _ h => by cases h⟩⟩⟩⟩⟩⟩⟩⟩⟩⟩⟩⟩⟩⟩⟩⟩⟩⟩⟩⟩⟩⟩⟩⟩⟩⟩⟩⟩⟩⟩⟩⟩⟩⟩⟩⟩⟩⟩⟩⟩⟩
