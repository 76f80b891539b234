/-! THE LAW'S CASES (printed by wip/gen/gen27.py) -/
theorem lw_c1048 (hT : abTabs) {x : haCx} {mu : haMu} {n L : Nat} {V : Int → Int} {i : Int} (hF : haF x 278 60) (hSc : lwS x V L) (h0 : 0 ≤ i) (h1 : i + 7 ≤ (L : Int)) (hn : n ≤ 8000) (fin : ∀ nu : haMu, lwJr (n + 1) nu → haW x nu 1655 (lwL i) []) (hJ0 : lwJr n mu) : haW x mu 1048 (lwL i) [] := by
  refine ha_s (pc' := 1049) (ls' := lwL i) (st' := [haR 0 0]) hF (haEt hT (e := (13, 1048, 0, 1, 0, [])) (k := 278) (pc := 1048) (by decide) (by decide +kernel) rfl) rfl (fun RG => avS13) (fun nx => rfl) ?_
  refine lw_ld (k := 1) hT hF hSc h0 h1 (by decide) (by decide +kernel) ?_
  refine lw_ld (k := 2) hT hF hSc h0 h1 (by decide) (by decide +kernel) ?_
  refine lw_ld (k := 3) hT hF hSc h0 h1 (by decide) (by decide +kernel) ?_
  refine ha_callV (q := 120) (d' := 3) (r := 0) (j := 0) (as := [haI (lwV V i 1), haI (lwV V i 2), haI (lwV V i 3)]) (rest := []) hT hF (haEt hT (e := (78, 1064, 120, 0, 109, [1103, 1104, 1105])) (k := 278) (pc := 1064) (by decide) (by decide +kernel) rfl) rfl rfl rfl (by decide +kernel) (by decide +kernel) (lwSp hT (q := 120) (by decide) (c := avC120_0) (as := [haR 0 0, haI (lwV V i 1), haI (lwV V i 2), haI (lwV V i 3)]) (show avC120_0 ∈ [avC120_0] from List.mem_cons_self) (Or.inr (by decide)) hJ0 (lwFitIII ((lwV_b hSc h0 1).1) ((lwV_b hSc h0 1).2) ((lwV_b hSc h0 2).1) ((lwV_b hSc h0 2).2) ((lwV_b hSc h0 3).1) ((lwV_b hSc h0 3).2)) (haLe5 rfl) (show 4 ≤ (abMe 120).1.2.2.1 from by decide +kernel)) (by decide) rfl (show 3 = (abMe 120).2.1 from by decide +kernel) (show 0 + (abMe 120).1.2.2.1 ≤ 49 from by decide +kernel) (fun o1 mu1 hP1 => ?_)
  obtain ⟨⟨-, hA1⟩, hJ1⟩ := hP1
  obtain ⟨z1, rfl, w1, w1'⟩ := hA1 (by decide)
  show haW x mu1 1067 (lwL i) [haI z1]
  refine ha_pop hF rfl (by decide +kernel) ?_
  refine ha_s (pc' := 1069) (ls' := lwL i) (st' := [haR 51 860]) hF (haEt hT (e := (13, 1068, 0, 2, 0, [])) (k := 278) (pc := 1068) (by decide) (by decide +kernel) rfl) rfl (fun RG => avS13) (fun nx => rfl) ?_
  refine lw_ld (k := 1) hT hF hSc h0 h1 (by decide) (by decide +kernel) ?_
  refine lw_ld (k := 2) hT hF hSc h0 h1 (by decide) (by decide +kernel) ?_
  refine lw_ld (k := 3) hT hF hSc h0 h1 (by decide) (by decide +kernel) ?_
  refine ha_callV (q := 243) (d' := 3) (r := 51) (j := 860) (as := [haI (lwV V i 1), haI (lwV V i 2), haI (lwV V i 3)]) (rest := []) hT hF (haEt hT (e := (78, 1084, 243, 0, 112, [1798, 1799, 1800])) (k := 278) (pc := 1084) (by decide) (by decide +kernel) rfl) rfl rfl rfl (by decide +kernel) (by decide +kernel) (lwSp hT (q := 243) (by decide) (c := avC243_0) (as := [haR 51 860, haI (lwV V i 1), haI (lwV V i 2), haI (lwV V i 3)]) (show avC243_0 ∈ [avC243_0] from List.mem_cons_self) (Or.inr (by decide)) hJ1 (lwFitIII ((lwV_b hSc h0 1).1) ((lwV_b hSc h0 1).2) ((lwV_b hSc h0 2).1) ((lwV_b hSc h0 2).2) ((lwV_b hSc h0 3).1) ((lwV_b hSc h0 3).2)) (haLe5 rfl) (show 4 ≤ (abMe 243).1.2.2.1 from by decide +kernel)) (by decide) rfl (show 3 = (abMe 243).2.1 from by decide +kernel) (show 0 + (abMe 243).1.2.2.1 ≤ 49 from by decide +kernel) (fun o2 mu2 hP2 => ?_)
  obtain ⟨⟨-, hA2⟩, hJ2⟩ := hP2
  obtain ⟨z2, rfl, w2, w2'⟩ := hA2 (by decide)
  show haW x mu2 1087 (lwL i) [haI z2]
  refine ha_pop hF rfl (by decide +kernel) ?_
  refine ha_s (pc' := 1655) (ls' := lwL i) (st' := []) hF (haEt hT (e := (58, 1088, 1655, 0, 0, [])) (k := 278) (pc := 1088) (by decide) (by decide +kernel) rfl) rfl (fun RG => avS58) (fun nx => rfl) ?_
  exact fin _ (lwJr_le hJ2 (Nat.le_succ n))
theorem lw_c1091 (hT : abTabs) {x : haCx} {mu : haMu} {n L : Nat} {V : Int → Int} {i : Int} (hF : haF x 278 60) (hSc : lwS x V L) (h0 : 0 ≤ i) (h1 : i + 7 ≤ (L : Int)) (hn : n ≤ 8000) (fin : ∀ nu : haMu, lwJr (n + 1) nu → haW x nu 1655 (lwL i) []) (hJ0 : lwJr n mu) : haW x mu 1091 (lwL i) [] := by
  refine ha_s (pc' := 1092) (ls' := lwL i) (st' := [haR 0 0]) hF (haEt hT (e := (13, 1091, 0, 1, 0, [])) (k := 278) (pc := 1091) (by decide) (by decide +kernel) rfl) rfl (fun RG => avS13) (fun nx => rfl) ?_
  refine lw_ld (k := 1) hT hF hSc h0 h1 (by decide) (by decide +kernel) ?_
  refine ha_callV (q := 124) (d' := 3) (r := 0) (j := 0) (as := [haI (lwV V i 1)]) (rest := []) hT hF (haEt hT (e := (78, 1097, 124, 0, 113, [1126, 1127, 1128])) (k := 278) (pc := 1097) (by decide) (by decide +kernel) rfl) rfl rfl rfl (by decide +kernel) (by decide +kernel) (lwSp hT (q := 124) (by decide) (c := avC124_0) (as := [haR 0 0, haI (lwV V i 1)]) (show avC124_0 ∈ [avC124_0] from List.mem_cons_self) (Or.inr (by decide)) hJ0 (lwFitI ((lwV_b hSc h0 1).1) ((lwV_b hSc h0 1).2)) (haLe5 rfl) (show 2 ≤ (abMe 124).1.2.2.1 from by decide +kernel)) (by decide) rfl (show 1 = (abMe 124).2.1 from by decide +kernel) (show 0 + (abMe 124).1.2.2.1 ≤ 49 from by decide +kernel) (fun o1 mu1 hP1 => ?_)
  obtain ⟨⟨-, hA1⟩, hJ1⟩ := hP1
  obtain ⟨z1, rfl, w1, w1'⟩ := hA1 (by decide)
  show haW x mu1 1100 (lwL i) [haI z1]
  refine ha_pop hF rfl (by decide +kernel) ?_
  refine ha_s (pc' := 1102) (ls' := lwL i) (st' := [haR 51 860]) hF (haEt hT (e := (13, 1101, 0, 2, 0, [])) (k := 278) (pc := 1101) (by decide) (by decide +kernel) rfl) rfl (fun RG => avS13) (fun nx => rfl) ?_
  refine lw_ld (k := 1) hT hF hSc h0 h1 (by decide) (by decide +kernel) ?_
  refine ha_callV (q := 246) (d' := 3) (r := 51) (j := 860) (as := [haI (lwV V i 1)]) (rest := []) hT hF (haEt hT (e := (78, 1107, 246, 0, 116, [1811, 1812, 1813])) (k := 278) (pc := 1107) (by decide) (by decide +kernel) rfl) rfl rfl rfl (by decide +kernel) (by decide +kernel) (lwSp hT (q := 246) (by decide) (c := avC246_0) (as := [haR 51 860, haI (lwV V i 1)]) (show avC246_0 ∈ [avC246_0] from List.mem_cons_self) (Or.inr (by decide)) hJ1 (lwFitI ((lwV_b hSc h0 1).1) ((lwV_b hSc h0 1).2)) (haLe5 rfl) (show 2 ≤ (abMe 246).1.2.2.1 from by decide +kernel)) (by decide) rfl (show 1 = (abMe 246).2.1 from by decide +kernel) (show 0 + (abMe 246).1.2.2.1 ≤ 49 from by decide +kernel) (fun o2 mu2 hP2 => ?_)
  obtain ⟨⟨-, hA2⟩, hJ2⟩ := hP2
  obtain ⟨z2, rfl, w2, w2'⟩ := hA2 (by decide)
  show haW x mu2 1110 (lwL i) [haI z2]
  refine ha_pop hF rfl (by decide +kernel) ?_
  refine ha_s (pc' := 1655) (ls' := lwL i) (st' := []) hF (haEt hT (e := (58, 1111, 1655, 0, 0, [])) (k := 278) (pc := 1111) (by decide) (by decide +kernel) rfl) rfl (fun RG => avS58) (fun nx => rfl) ?_
  exact fin _ (lwJr_le hJ2 (Nat.le_succ n))
theorem lw_c1114 (hT : abTabs) {x : haCx} {mu : haMu} {n L : Nat} {V : Int → Int} {i : Int} (hF : haF x 278 60) (hSc : lwS x V L) (h0 : 0 ≤ i) (h1 : i + 7 ≤ (L : Int)) (hn : n ≤ 8000) (fin : ∀ nu : haMu, lwJr (n + 1) nu → haW x nu 1655 (lwL i) []) (hJ0 : lwJr n mu) : haW x mu 1114 (lwL i) [] := by
  refine ha_s (pc' := 1115) (ls' := lwL i) (st' := [haR 0 0]) hF (haEt hT (e := (13, 1114, 0, 1, 0, [])) (k := 278) (pc := 1114) (by decide) (by decide +kernel) rfl) rfl (fun RG => avS13) (fun nx => rfl) ?_
  refine lw_ld (k := 1) hT hF hSc h0 h1 (by decide) (by decide +kernel) ?_
  refine ha_callV (q := 126) (d' := 4) (r := 0) (j := 0) (as := [haI (lwV V i 1)]) (rest := []) hT hF (haEt hT (e := (78, 1120, 126, 0, 117, [1134, 1135, 1136])) (k := 278) (pc := 1120) (by decide) (by decide +kernel) rfl) rfl rfl rfl (by decide +kernel) (by decide +kernel) (lwSp hT (q := 126) (by decide) (c := avC126_0) (as := [haR 0 0, haI (lwV V i 1)]) (show avC126_0 ∈ [avC126_0] from List.mem_cons_self) (Or.inr (by decide)) hJ0 (lwFitI ((lwV_b hSc h0 1).1) ((lwV_b hSc h0 1).2)) (haLe5 rfl) (show 2 ≤ (abMe 126).1.2.2.1 from by decide +kernel)) (by decide) rfl (show 1 = (abMe 126).2.1 from by decide +kernel) (show 0 + (abMe 126).1.2.2.1 ≤ 49 from by decide +kernel) (fun o1 mu1 hP1 => ?_)
  obtain ⟨⟨-, hA1⟩, hJ1⟩ := hP1
  obtain ⟨z1, rfl, w1, w1'⟩ := hA1 (by decide)
  show haW x mu1 1123 (lwL i) [haI z1]
  refine ha_pop hF rfl (by decide +kernel) ?_
  refine ha_s (pc' := 1125) (ls' := lwL i) (st' := [haR 51 860]) hF (haEt hT (e := (13, 1124, 0, 2, 0, [])) (k := 278) (pc := 1124) (by decide) (by decide +kernel) rfl) rfl (fun RG => avS13) (fun nx => rfl) ?_
  refine lw_ld (k := 1) hT hF hSc h0 h1 (by decide) (by decide +kernel) ?_
  refine ha_callV (q := 247) (d' := 3) (r := 51) (j := 860) (as := [haI (lwV V i 1)]) (rest := []) hT hF (haEt hT (e := (78, 1130, 247, 0, 120, [1815, 1816, 1817])) (k := 278) (pc := 1130) (by decide) (by decide +kernel) rfl) rfl rfl rfl (by decide +kernel) (by decide +kernel) (lwSp hT (q := 247) (by decide) (c := avC247_0) (as := [haR 51 860, haI (lwV V i 1)]) (show avC247_0 ∈ [avC247_0] from List.mem_cons_self) (Or.inr (by decide)) hJ1 (lwFitI ((lwV_b hSc h0 1).1) ((lwV_b hSc h0 1).2)) (haLe5 rfl) (show 2 ≤ (abMe 247).1.2.2.1 from by decide +kernel)) (by decide) rfl (show 1 = (abMe 247).2.1 from by decide +kernel) (show 0 + (abMe 247).1.2.2.1 ≤ 49 from by decide +kernel) (fun o2 mu2 hP2 => ?_)
  obtain ⟨⟨-, hA2⟩, hJ2⟩ := hP2
  obtain ⟨z2, rfl, w2, w2'⟩ := hA2 (by decide)
  show haW x mu2 1133 (lwL i) [haI z2]
  refine ha_pop hF rfl (by decide +kernel) ?_
  refine ha_s (pc' := 1655) (ls' := lwL i) (st' := []) hF (haEt hT (e := (58, 1134, 1655, 0, 0, [])) (k := 278) (pc := 1134) (by decide) (by decide +kernel) rfl) rfl (fun RG => avS58) (fun nx => rfl) ?_
  exact fin _ (lwJr_le hJ2 (Nat.le_succ n))
theorem lw_c1137 (hT : abTabs) {x : haCx} {mu : haMu} {n L : Nat} {V : Int → Int} {i : Int} (hF : haF x 278 60) (hSc : lwS x V L) (h0 : 0 ≤ i) (h1 : i + 7 ≤ (L : Int)) (hn : n ≤ 8000) (fin : ∀ nu : haMu, lwJr (n + 1) nu → haW x nu 1655 (lwL i) []) (hJ0 : lwJr n mu) : haW x mu 1137 (lwL i) [] := by
  refine ha_s (pc' := 1138) (ls' := lwL i) (st' := [haR 0 0]) hF (haEt hT (e := (13, 1137, 0, 1, 0, [])) (k := 278) (pc := 1137) (by decide) (by decide +kernel) rfl) rfl (fun RG => avS13) (fun nx => rfl) ?_
  refine lw_ld (k := 1) hT hF hSc h0 h1 (by decide) (by decide +kernel) ?_
  refine lw_ld (k := 2) hT hF hSc h0 h1 (by decide) (by decide +kernel) ?_
  refine ha_callV (q := 128) (d' := 7) (r := 0) (j := 0) (as := [haI (lwV V i 1), haI (lwV V i 2)]) (rest := []) hT hF (haEt hT (e := (78, 1148, 128, 0, 121, [1143, 1144, 1145])) (k := 278) (pc := 1148) (by decide) (by decide +kernel) rfl) rfl rfl rfl (by decide +kernel) (by decide +kernel) (lwSp hT (q := 128) (by decide) (c := avC128_0) (as := [haR 0 0, haI (lwV V i 1), haI (lwV V i 2)]) (show avC128_0 ∈ [avC128_0] from List.mem_cons_self) (Or.inr (by decide)) hJ0 (lwFitII ((lwV_b hSc h0 1).1) ((lwV_b hSc h0 1).2) ((lwV_b hSc h0 2).1) ((lwV_b hSc h0 2).2)) (haLe5 rfl) (show 3 ≤ (abMe 128).1.2.2.1 from by decide +kernel)) (by decide) rfl (show 2 = (abMe 128).2.1 from by decide +kernel) (show 0 + (abMe 128).1.2.2.1 ≤ 49 from by decide +kernel) (fun o1 mu1 hP1 => ?_)
  obtain ⟨⟨-, hA1⟩, hJ1⟩ := hP1
  obtain ⟨z1, rfl, w1, w1'⟩ := hA1 (by decide)
  show haW x mu1 1151 (lwL i) [haI z1]
  refine ha_pop hF rfl (by decide +kernel) ?_
  refine ha_s (pc' := 1153) (ls' := lwL i) (st' := [haR 51 860]) hF (haEt hT (e := (13, 1152, 0, 2, 0, [])) (k := 278) (pc := 1152) (by decide) (by decide +kernel) rfl) rfl (fun RG => avS13) (fun nx => rfl) ?_
  refine lw_ld (k := 1) hT hF hSc h0 h1 (by decide) (by decide +kernel) ?_
  refine lw_ld (k := 2) hT hF hSc h0 h1 (by decide) (by decide +kernel) ?_
  refine ha_callV (q := 248) (d' := 6) (r := 51) (j := 860) (as := [haI (lwV V i 1), haI (lwV V i 2)]) (rest := []) hT hF (haEt hT (e := (78, 1163, 248, 0, 124, [1819, 1820, 1821])) (k := 278) (pc := 1163) (by decide) (by decide +kernel) rfl) rfl rfl rfl (by decide +kernel) (by decide +kernel) (lwSp hT (q := 248) (by decide) (c := avC248_0) (as := [haR 51 860, haI (lwV V i 1), haI (lwV V i 2)]) (show avC248_0 ∈ [avC248_0] from List.mem_cons_self) (Or.inr (by decide)) hJ1 (lwFitII ((lwV_b hSc h0 1).1) ((lwV_b hSc h0 1).2) ((lwV_b hSc h0 2).1) ((lwV_b hSc h0 2).2)) (haLe5 rfl) (show 3 ≤ (abMe 248).1.2.2.1 from by decide +kernel)) (by decide) rfl (show 2 = (abMe 248).2.1 from by decide +kernel) (show 0 + (abMe 248).1.2.2.1 ≤ 49 from by decide +kernel) (fun o2 mu2 hP2 => ?_)
  obtain ⟨⟨-, hA2⟩, hJ2⟩ := hP2
  obtain ⟨z2, rfl, w2, w2'⟩ := hA2 (by decide)
  show haW x mu2 1166 (lwL i) [haI z2]
  refine ha_pop hF rfl (by decide +kernel) ?_
  refine ha_s (pc' := 1655) (ls' := lwL i) (st' := []) hF (haEt hT (e := (58, 1167, 1655, 0, 0, [])) (k := 278) (pc := 1167) (by decide) (by decide +kernel) rfl) rfl (fun RG => avS58) (fun nx => rfl) ?_
  exact fin _ (lwJr_le hJ2 (Nat.le_succ n))
theorem lw_c1170 (hT : abTabs) {x : haCx} {mu : haMu} {n L : Nat} {V : Int → Int} {i : Int} (hF : haF x 278 60) (hSc : lwS x V L) (h0 : 0 ≤ i) (h1 : i + 7 ≤ (L : Int)) (hn : n ≤ 8000) (fin : ∀ nu : haMu, lwJr (n + 1) nu → haW x nu 1655 (lwL i) []) (hJ0 : lwJr n mu) : haW x mu 1170 (lwL i) [] := by
  refine ha_s (pc' := 1171) (ls' := lwL i) (st' := [haR 0 0]) hF (haEt hT (e := (13, 1170, 0, 1, 0, [])) (k := 278) (pc := 1170) (by decide) (by decide +kernel) rfl) rfl (fun RG => avS13) (fun nx => rfl) ?_
  refine lw_ld (k := 1) hT hF hSc h0 h1 (by decide) (by decide +kernel) ?_
  refine ha_callV (q := 137) (d' := 1) (r := 0) (j := 0) (as := [haI (lwV V i 1)]) (rest := []) hT hF (haEt hT (e := (78, 1176, 137, 0, 125, [1178, 1179, 1180])) (k := 278) (pc := 1176) (by decide) (by decide +kernel) rfl) rfl rfl rfl (by decide +kernel) (by decide +kernel) (lwSp hT (q := 137) (by decide) (c := avC137_0) (as := [haR 0 0, haI (lwV V i 1)]) (show avC137_0 ∈ [avC137_0] from List.mem_cons_self) (Or.inr (by decide)) hJ0 (lwFitI ((lwV_b hSc h0 1).1) ((lwV_b hSc h0 1).2)) (haLe5 rfl) (show 2 ≤ (abMe 137).1.2.2.1 from by decide +kernel)) (by decide) rfl (show 1 = (abMe 137).2.1 from by decide +kernel) (show 0 + (abMe 137).1.2.2.1 ≤ 49 from by decide +kernel) (fun o1 mu1 hP1 => ?_)
  obtain ⟨⟨-, hA1⟩, hJ1⟩ := hP1
  obtain ⟨z1, rfl, w1, w1'⟩ := hA1 (by decide)
  show haW x mu1 1179 (lwL i) [haI z1]
  refine ha_pop hF rfl (by decide +kernel) ?_
  refine ha_s (pc' := 1181) (ls' := lwL i) (st' := [haR 51 860]) hF (haEt hT (e := (13, 1180, 0, 2, 0, [])) (k := 278) (pc := 1180) (by decide) (by decide +kernel) rfl) rfl (fun RG => avS13) (fun nx => rfl) ?_
  refine lw_ld (k := 1) hT hF hSc h0 h1 (by decide) (by decide +kernel) ?_
  refine ha_callV (q := 253) (d' := 1) (r := 51) (j := 860) (as := [haI (lwV V i 1)]) (rest := []) hT hF (haEt hT (e := (78, 1186, 253, 0, 128, [1839, 1840, 1841])) (k := 278) (pc := 1186) (by decide) (by decide +kernel) rfl) rfl rfl rfl (by decide +kernel) (by decide +kernel) (lwSp hT (q := 253) (by decide) (c := avC253_0) (as := [haR 51 860, haI (lwV V i 1)]) (show avC253_0 ∈ [avC253_0] from List.mem_cons_self) (Or.inr (by decide)) hJ1 (lwFitI ((lwV_b hSc h0 1).1) ((lwV_b hSc h0 1).2)) (haLe5 rfl) (show 2 ≤ (abMe 253).1.2.2.1 from by decide +kernel)) (by decide) rfl (show 1 = (abMe 253).2.1 from by decide +kernel) (show 0 + (abMe 253).1.2.2.1 ≤ 49 from by decide +kernel) (fun o2 mu2 hP2 => ?_)
  obtain ⟨⟨-, hA2⟩, hJ2⟩ := hP2
  obtain ⟨z2, rfl, w2, w2'⟩ := hA2 (by decide)
  show haW x mu2 1189 (lwL i) [haI z2]
  refine ha_pop hF rfl (by decide +kernel) ?_
  refine ha_s (pc' := 1655) (ls' := lwL i) (st' := []) hF (haEt hT (e := (58, 1190, 1655, 0, 0, [])) (k := 278) (pc := 1190) (by decide) (by decide +kernel) rfl) rfl (fun RG => avS58) (fun nx => rfl) ?_
  exact fin _ (lwJr_le hJ2 (Nat.le_succ n))
theorem lw_c1193 (hT : abTabs) {x : haCx} {mu : haMu} {n L : Nat} {V : Int → Int} {i : Int} (hF : haF x 278 60) (hSc : lwS x V L) (h0 : 0 ≤ i) (h1 : i + 7 ≤ (L : Int)) (hn : n ≤ 8000) (fin : ∀ nu : haMu, lwJr (n + 1) nu → haW x nu 1655 (lwL i) []) (hJ0 : lwJr n mu) : haW x mu 1193 (lwL i) [] := by
  refine ha_s (pc' := 1194) (ls' := lwL i) (st' := [haR 0 0]) hF (haEt hT (e := (13, 1193, 0, 1, 0, [])) (k := 278) (pc := 1193) (by decide) (by decide +kernel) rfl) rfl (fun RG => avS13) (fun nx => rfl) ?_
  refine lw_ld (k := 1) hT hF hSc h0 h1 (by decide) (by decide +kernel) ?_
  refine ha_callV (q := 138) (d' := 7) (r := 0) (j := 0) (as := [haI (lwV V i 1)]) (rest := []) hT hF (haEt hT (e := (78, 1199, 138, 0, 129, [1182, 1183, 1184])) (k := 278) (pc := 1199) (by decide) (by decide +kernel) rfl) rfl rfl rfl (by decide +kernel) (by decide +kernel) (lwSp hT (q := 138) (by decide) (c := avC138_0) (as := [haR 0 0, haI (lwV V i 1)]) (show avC138_0 ∈ [avC138_0] from List.mem_cons_self) (Or.inr (by decide)) hJ0 (lwFitI ((lwV_b hSc h0 1).1) ((lwV_b hSc h0 1).2)) (haLe5 rfl) (show 2 ≤ (abMe 138).1.2.2.1 from by decide +kernel)) (by decide) rfl (show 1 = (abMe 138).2.1 from by decide +kernel) (show 0 + (abMe 138).1.2.2.1 ≤ 49 from by decide +kernel) (fun o1 mu1 hP1 => ?_)
  obtain ⟨⟨-, hA1⟩, hJ1⟩ := hP1
  obtain ⟨z1, rfl, w1, w1'⟩ := hA1 (by decide)
  show haW x mu1 1202 (lwL i) [haI z1]
  refine ha_pop hF rfl (by decide +kernel) ?_
  refine ha_s (pc' := 1204) (ls' := lwL i) (st' := [haR 51 860]) hF (haEt hT (e := (13, 1203, 0, 2, 0, [])) (k := 278) (pc := 1203) (by decide) (by decide +kernel) rfl) rfl (fun RG => avS13) (fun nx => rfl) ?_
  refine lw_ld (k := 1) hT hF hSc h0 h1 (by decide) (by decide +kernel) ?_
  refine ha_callV (q := 254) (d' := 6) (r := 51) (j := 860) (as := [haI (lwV V i 1)]) (rest := []) hT hF (haEt hT (e := (78, 1209, 254, 0, 132, [1843, 1844, 1845])) (k := 278) (pc := 1209) (by decide) (by decide +kernel) rfl) rfl rfl rfl (by decide +kernel) (by decide +kernel) (lwSp hT (q := 254) (by decide) (c := avC254_0) (as := [haR 51 860, haI (lwV V i 1)]) (show avC254_0 ∈ [avC254_0] from List.mem_cons_self) (Or.inr (by decide)) hJ1 (lwFitI ((lwV_b hSc h0 1).1) ((lwV_b hSc h0 1).2)) (haLe5 rfl) (show 2 ≤ (abMe 254).1.2.2.1 from by decide +kernel)) (by decide) rfl (show 1 = (abMe 254).2.1 from by decide +kernel) (show 0 + (abMe 254).1.2.2.1 ≤ 49 from by decide +kernel) (fun o2 mu2 hP2 => ?_)
  obtain ⟨⟨-, hA2⟩, hJ2⟩ := hP2
  obtain ⟨z2, rfl, w2, w2'⟩ := hA2 (by decide)
  show haW x mu2 1212 (lwL i) [haI z2]
  refine ha_pop hF rfl (by decide +kernel) ?_
  refine ha_s (pc' := 1655) (ls' := lwL i) (st' := []) hF (haEt hT (e := (58, 1213, 1655, 0, 0, [])) (k := 278) (pc := 1213) (by decide) (by decide +kernel) rfl) rfl (fun RG => avS58) (fun nx => rfl) ?_
  exact fin _ (lwJr_le hJ2 (Nat.le_succ n))
theorem lw_c1216 (hT : abTabs) {x : haCx} {mu : haMu} {n L : Nat} {V : Int → Int} {i : Int} (hF : haF x 278 60) (hSc : lwS x V L) (h0 : 0 ≤ i) (h1 : i + 7 ≤ (L : Int)) (hn : n ≤ 8000) (fin : ∀ nu : haMu, lwJr (n + 1) nu → haW x nu 1655 (lwL i) []) (hJ0 : lwJr n mu) : haW x mu 1216 (lwL i) [] := by
  refine ha_s (pc' := 1217) (ls' := lwL i) (st' := [haR 0 0]) hF (haEt hT (e := (13, 1216, 0, 1, 0, [])) (k := 278) (pc := 1216) (by decide) (by decide +kernel) rfl) rfl (fun RG => avS13) (fun nx => rfl) ?_
  refine ha_callV (q := 139) (d' := 0) (r := 0) (j := 0) (as := []) (rest := []) hT hF (haEt hT (e := (78, 1217, 139, 0, 133, [1186, 1187, 1188])) (k := 278) (pc := 1217) (by decide) (by decide +kernel) rfl) rfl rfl rfl (by decide +kernel) (by decide +kernel) (lwSp hT (q := 139) (by decide) (c := avC139_0) (as := [haR 0 0]) (show avC139_0 ∈ [avC139_0] from List.mem_cons_self) (Or.inr (by decide)) hJ0 (lwFit ) (haLe5 rfl) (show 1 ≤ (abMe 139).1.2.2.1 from by decide +kernel)) (by decide) rfl (show 0 = (abMe 139).2.1 from by decide +kernel) (show 0 + (abMe 139).1.2.2.1 ≤ 49 from by decide +kernel) (fun o1 mu1 hP1 => ?_)
  obtain ⟨⟨-, hA1⟩, hJ1⟩ := hP1
  obtain ⟨z1, rfl, w1, w1'⟩ := hA1 (by decide)
  show haW x mu1 1220 (lwL i) [haI z1]
  refine ha_pop hF rfl (by decide +kernel) ?_
  refine ha_s (pc' := 1222) (ls' := lwL i) (st' := [haR 51 860]) hF (haEt hT (e := (13, 1221, 0, 2, 0, [])) (k := 278) (pc := 1221) (by decide) (by decide +kernel) rfl) rfl (fun RG => avS13) (fun nx => rfl) ?_
  refine ha_callV (q := 255) (d' := 0) (r := 51) (j := 860) (as := []) (rest := []) hT hF (haEt hT (e := (78, 1222, 255, 0, 136, [1847, 1848, 1849])) (k := 278) (pc := 1222) (by decide) (by decide +kernel) rfl) rfl rfl rfl (by decide +kernel) (by decide +kernel) (lwSp hT (q := 255) (by decide) (c := avC255_0) (as := [haR 51 860]) (show avC255_0 ∈ [avC255_0] from List.mem_cons_self) (Or.inr (by decide)) hJ1 (lwFit ) (haLe5 rfl) (show 1 ≤ (abMe 255).1.2.2.1 from by decide +kernel)) (by decide) rfl (show 0 = (abMe 255).2.1 from by decide +kernel) (show 0 + (abMe 255).1.2.2.1 ≤ 49 from by decide +kernel) (fun o2 mu2 hP2 => ?_)
  obtain ⟨⟨-, hA2⟩, hJ2⟩ := hP2
  obtain ⟨z2, rfl, w2, w2'⟩ := hA2 (by decide)
  show haW x mu2 1225 (lwL i) [haI z2]
  refine ha_pop hF rfl (by decide +kernel) ?_
  refine ha_s (pc' := 1655) (ls' := lwL i) (st' := []) hF (haEt hT (e := (58, 1226, 1655, 0, 0, [])) (k := 278) (pc := 1226) (by decide) (by decide +kernel) rfl) rfl (fun RG => avS58) (fun nx => rfl) ?_
  exact fin _ (lwJr_le hJ2 (Nat.le_succ n))
theorem lw_c1229 (hT : abTabs) {x : haCx} {mu : haMu} {n L : Nat} {V : Int → Int} {i : Int} (hF : haF x 278 60) (hSc : lwS x V L) (h0 : 0 ≤ i) (h1 : i + 7 ≤ (L : Int)) (hn : n ≤ 8000) (fin : ∀ nu : haMu, lwJr (n + 1) nu → haW x nu 1655 (lwL i) []) (hJ0 : lwJr n mu) : haW x mu 1229 (lwL i) [] := by
  refine ha_s (pc' := 1230) (ls' := lwL i) (st' := [haR 0 0]) hF (haEt hT (e := (13, 1229, 0, 1, 0, [])) (k := 278) (pc := 1229) (by decide) (by decide +kernel) rfl) rfl (fun RG => avS13) (fun nx => rfl) ?_
  refine lw_ld (k := 1) hT hF hSc h0 h1 (by decide) (by decide +kernel) ?_
  refine lw_ld (k := 2) hT hF hSc h0 h1 (by decide) (by decide +kernel) ?_
  refine lw_ld (k := 3) hT hF hSc h0 h1 (by decide) (by decide +kernel) ?_
  refine ha_callV (q := 140) (d' := 9) (r := 0) (j := 0) (as := [haI (lwV V i 1), haI (lwV V i 2), haI (lwV V i 3)]) (rest := []) hT hF (haEt hT (e := (78, 1245, 140, 0, 137, [1190, 1191, 1192])) (k := 278) (pc := 1245) (by decide) (by decide +kernel) rfl) rfl rfl rfl (by decide +kernel) (by decide +kernel) (lwSp hT (q := 140) (by decide) (c := avC140_0) (as := [haR 0 0, haI (lwV V i 1), haI (lwV V i 2), haI (lwV V i 3)]) (show avC140_0 ∈ [avC140_0] from List.mem_cons_self) (Or.inr (by decide)) hJ0 (lwFitIII ((lwV_b hSc h0 1).1) ((lwV_b hSc h0 1).2) ((lwV_b hSc h0 2).1) ((lwV_b hSc h0 2).2) ((lwV_b hSc h0 3).1) ((lwV_b hSc h0 3).2)) (haLe5 rfl) (show 4 ≤ (abMe 140).1.2.2.1 from by decide +kernel)) (by decide) rfl (show 3 = (abMe 140).2.1 from by decide +kernel) (show 0 + (abMe 140).1.2.2.1 ≤ 49 from by decide +kernel) (fun o1 mu1 hP1 => ?_)
  obtain ⟨⟨-, hA1⟩, hJ1⟩ := hP1
  obtain ⟨z1, rfl, w1, w1'⟩ := hA1 (by decide)
  show haW x mu1 1248 (lwL i) [haI z1]
  refine ha_pop hF rfl (by decide +kernel) ?_
  refine ha_s (pc' := 1250) (ls' := lwL i) (st' := [haR 51 860]) hF (haEt hT (e := (13, 1249, 0, 2, 0, [])) (k := 278) (pc := 1249) (by decide) (by decide +kernel) rfl) rfl (fun RG => avS13) (fun nx => rfl) ?_
  refine lw_ld (k := 1) hT hF hSc h0 h1 (by decide) (by decide +kernel) ?_
  refine lw_ld (k := 2) hT hF hSc h0 h1 (by decide) (by decide +kernel) ?_
  refine lw_ld (k := 3) hT hF hSc h0 h1 (by decide) (by decide +kernel) ?_
  refine ha_callV (q := 256) (d' := 10) (r := 51) (j := 860) (as := [haI (lwV V i 1), haI (lwV V i 2), haI (lwV V i 3)]) (rest := []) hT hF (haEt hT (e := (78, 1265, 256, 0, 140, [1851, 1852, 1853])) (k := 278) (pc := 1265) (by decide) (by decide +kernel) rfl) rfl rfl rfl (by decide +kernel) (by decide +kernel) (lwSp hT (q := 256) (by decide) (c := avC256_0) (as := [haR 51 860, haI (lwV V i 1), haI (lwV V i 2), haI (lwV V i 3)]) (show avC256_0 ∈ [avC256_0] from List.mem_cons_self) (Or.inr (by decide)) hJ1 (lwFitIII ((lwV_b hSc h0 1).1) ((lwV_b hSc h0 1).2) ((lwV_b hSc h0 2).1) ((lwV_b hSc h0 2).2) ((lwV_b hSc h0 3).1) ((lwV_b hSc h0 3).2)) (haLe5 rfl) (show 4 ≤ (abMe 256).1.2.2.1 from by decide +kernel)) (by decide) rfl (show 3 = (abMe 256).2.1 from by decide +kernel) (show 0 + (abMe 256).1.2.2.1 ≤ 49 from by decide +kernel) (fun o2 mu2 hP2 => ?_)
  obtain ⟨⟨-, hA2⟩, hJ2⟩ := hP2
  obtain ⟨z2, rfl, w2, w2'⟩ := hA2 (by decide)
  show haW x mu2 1268 (lwL i) [haI z2]
  refine ha_pop hF rfl (by decide +kernel) ?_
  refine ha_s (pc' := 1655) (ls' := lwL i) (st' := []) hF (haEt hT (e := (58, 1269, 1655, 0, 0, [])) (k := 278) (pc := 1269) (by decide) (by decide +kernel) rfl) rfl (fun RG => avS58) (fun nx => rfl) ?_
  exact fin _ (lwJr_le hJ2 (Nat.le_succ n))
theorem lw_c1272 (hT : abTabs) {x : haCx} {mu : haMu} {n L : Nat} {V : Int → Int} {i : Int} (hF : haF x 278 60) (hSc : lwS x V L) (h0 : 0 ≤ i) (h1 : i + 7 ≤ (L : Int)) (hn : n ≤ 8000) (fin : ∀ nu : haMu, lwJr (n + 1) nu → haW x nu 1655 (lwL i) []) (hJ0 : lwJr n mu) : haW x mu 1272 (lwL i) [] := by
  refine ha_s (pc' := 1273) (ls' := lwL i) (st' := [haR 0 0]) hF (haEt hT (e := (13, 1272, 0, 1, 0, [])) (k := 278) (pc := 1272) (by decide) (by decide +kernel) rfl) rfl (fun RG => avS13) (fun nx => rfl) ?_
  refine lw_ld (k := 1) hT hF hSc h0 h1 (by decide) (by decide +kernel) ?_
  refine ha_callV (q := 146) (d' := 1) (r := 0) (j := 0) (as := [haI (lwV V i 1)]) (rest := []) hT hF (haEt hT (e := (78, 1278, 146, 0, 141, [1218, 1219, 1220])) (k := 278) (pc := 1278) (by decide) (by decide +kernel) rfl) rfl rfl rfl (by decide +kernel) (by decide +kernel) (lwSp hT (q := 146) (by decide) (c := avC146_0) (as := [haR 0 0, haI (lwV V i 1)]) (show avC146_0 ∈ [avC146_0] from List.mem_cons_self) (Or.inr (by decide)) hJ0 (lwFitI ((lwV_b hSc h0 1).1) ((lwV_b hSc h0 1).2)) (haLe5 rfl) (show 2 ≤ (abMe 146).1.2.2.1 from by decide +kernel)) (by decide) rfl (show 1 = (abMe 146).2.1 from by decide +kernel) (show 0 + (abMe 146).1.2.2.1 ≤ 49 from by decide +kernel) (fun o1 mu1 hP1 => ?_)
  obtain ⟨⟨-, hA1⟩, hJ1⟩ := hP1
  obtain ⟨z1, rfl, w1, w1'⟩ := hA1 (by decide)
  show haW x mu1 1281 (lwL i) [haI z1]
  refine ha_pop hF rfl (by decide +kernel) ?_
  refine ha_s (pc' := 1283) (ls' := lwL i) (st' := [haR 51 860]) hF (haEt hT (e := (13, 1282, 0, 2, 0, [])) (k := 278) (pc := 1282) (by decide) (by decide +kernel) rfl) rfl (fun RG => avS13) (fun nx => rfl) ?_
  refine lw_ld (k := 1) hT hF hSc h0 h1 (by decide) (by decide +kernel) ?_
  refine ha_callV (q := 259) (d' := 2) (r := 51) (j := 860) (as := [haI (lwV V i 1)]) (rest := []) hT hF (haEt hT (e := (78, 1288, 259, 0, 144, [1864, 1865, 1866])) (k := 278) (pc := 1288) (by decide) (by decide +kernel) rfl) rfl rfl rfl (by decide +kernel) (by decide +kernel) (lwSp hT (q := 259) (by decide) (c := avC259_0) (as := [haR 51 860, haI (lwV V i 1)]) (show avC259_0 ∈ [avC259_0] from List.mem_cons_self) (Or.inr (by decide)) hJ1 (lwFitI ((lwV_b hSc h0 1).1) ((lwV_b hSc h0 1).2)) (haLe5 rfl) (show 2 ≤ (abMe 259).1.2.2.1 from by decide +kernel)) (by decide) rfl (show 1 = (abMe 259).2.1 from by decide +kernel) (show 0 + (abMe 259).1.2.2.1 ≤ 49 from by decide +kernel) (fun o2 mu2 hP2 => ?_)
  obtain ⟨⟨-, hA2⟩, hJ2⟩ := hP2
  obtain ⟨z2, rfl, w2, w2'⟩ := hA2 (by decide)
  show haW x mu2 1291 (lwL i) [haI z2]
  refine ha_pop hF rfl (by decide +kernel) ?_
  refine ha_s (pc' := 1655) (ls' := lwL i) (st' := []) hF (haEt hT (e := (58, 1292, 1655, 0, 0, [])) (k := 278) (pc := 1292) (by decide) (by decide +kernel) rfl) rfl (fun RG => avS58) (fun nx => rfl) ?_
  exact fin _ (lwJr_le hJ2 (Nat.le_succ n))
theorem lw_c1295 (hT : abTabs) {x : haCx} {mu : haMu} {n L : Nat} {V : Int → Int} {i : Int} (hF : haF x 278 60) (hSc : lwS x V L) (h0 : 0 ≤ i) (h1 : i + 7 ≤ (L : Int)) (hn : n ≤ 8000) (fin : ∀ nu : haMu, lwJr (n + 1) nu → haW x nu 1655 (lwL i) []) (hJ0 : lwJr n mu) : haW x mu 1295 (lwL i) [] := by
  refine ha_s (pc' := 1296) (ls' := lwL i) (st' := [haR 0 0]) hF (haEt hT (e := (13, 1295, 0, 1, 0, [])) (k := 278) (pc := 1295) (by decide) (by decide +kernel) rfl) rfl (fun RG => avS13) (fun nx => rfl) ?_
  refine ha_callV (q := 147) (d' := 7) (r := 0) (j := 0) (as := []) (rest := []) hT hF (haEt hT (e := (78, 1296, 147, 0, 145, [1222, 1223, 1224])) (k := 278) (pc := 1296) (by decide) (by decide +kernel) rfl) rfl rfl rfl (by decide +kernel) (by decide +kernel) (lwSp hT (q := 147) (by decide) (c := avC147_0) (as := [haR 0 0]) (show avC147_0 ∈ [avC147_0] from List.mem_cons_self) (Or.inr (by decide)) hJ0 (lwFit ) (haLe5 rfl) (show 1 ≤ (abMe 147).1.2.2.1 from by decide +kernel)) (by decide) rfl (show 0 = (abMe 147).2.1 from by decide +kernel) (show 0 + (abMe 147).1.2.2.1 ≤ 49 from by decide +kernel) (fun o1 mu1 hP1 => ?_)
  obtain ⟨⟨-, hA1⟩, hJ1⟩ := hP1
  obtain ⟨z1, rfl, w1, w1'⟩ := hA1 (by decide)
  show haW x mu1 1299 (lwL i) [haI z1]
  refine ha_pop hF rfl (by decide +kernel) ?_
  refine ha_s (pc' := 1301) (ls' := lwL i) (st' := [haR 51 860]) hF (haEt hT (e := (13, 1300, 0, 2, 0, [])) (k := 278) (pc := 1300) (by decide) (by decide +kernel) rfl) rfl (fun RG => avS13) (fun nx => rfl) ?_
  refine ha_callV (q := 260) (d' := 31) (r := 51) (j := 860) (as := []) (rest := []) hT hF (haEt hT (e := (78, 1301, 260, 0, 148, [1868, 1869, 1870])) (k := 278) (pc := 1301) (by decide) (by decide +kernel) rfl) rfl rfl rfl (by decide +kernel) (by decide +kernel) (lwSp hT (q := 260) (by decide) (c := avC260_0) (as := [haR 51 860]) (show avC260_0 ∈ [avC260_0] from List.mem_cons_self) (Or.inr (by decide)) hJ1 (lwFit ) (haLe5 rfl) (show 1 ≤ (abMe 260).1.2.2.1 from by decide +kernel)) (by decide) rfl (show 0 = (abMe 260).2.1 from by decide +kernel) (show 0 + (abMe 260).1.2.2.1 ≤ 49 from by decide +kernel) (fun o2 mu2 hP2 => ?_)
  obtain ⟨⟨-, hA2⟩, hJ2⟩ := hP2
  obtain ⟨z2, rfl, w2, w2'⟩ := hA2 (by decide)
  show haW x mu2 1304 (lwL i) [haI z2]
  refine ha_pop hF rfl (by decide +kernel) ?_
  refine ha_s (pc' := 1655) (ls' := lwL i) (st' := []) hF (haEt hT (e := (58, 1305, 1655, 0, 0, [])) (k := 278) (pc := 1305) (by decide) (by decide +kernel) rfl) rfl (fun RG => avS58) (fun nx => rfl) ?_
  exact fin _ (lwJr_le hJ2 (Nat.le_succ n))
theorem lw_c1308 (hT : abTabs) {x : haCx} {mu : haMu} {n L : Nat} {V : Int → Int} {i : Int} (hF : haF x 278 60) (hSc : lwS x V L) (h0 : 0 ≤ i) (h1 : i + 7 ≤ (L : Int)) (hn : n ≤ 8000) (fin : ∀ nu : haMu, lwJr (n + 1) nu → haW x nu 1655 (lwL i) []) (hJ0 : lwJr n mu) : haW x mu 1308 (lwL i) [] := by
  refine ha_s (pc' := 1309) (ls' := lwL i) (st' := [haR 0 0]) hF (haEt hT (e := (13, 1308, 0, 1, 0, [])) (k := 278) (pc := 1308) (by decide) (by decide +kernel) rfl) rfl (fun RG => avS13) (fun nx => rfl) ?_
  refine lw_ld (k := 1) hT hF hSc h0 h1 (by decide) (by decide +kernel) ?_
  refine lw_ld (k := 2) hT hF hSc h0 h1 (by decide) (by decide +kernel) ?_
  refine ha_callV (q := 148) (d' := 2) (r := 0) (j := 0) (as := [haI (lwV V i 1), haI (lwV V i 2)]) (rest := []) hT hF (haEt hT (e := (78, 1319, 148, 0, 149, [1227, 1228, 1229])) (k := 278) (pc := 1319) (by decide) (by decide +kernel) rfl) rfl rfl rfl (by decide +kernel) (by decide +kernel) (lwSp hT (q := 148) (by decide) (c := avC148_0) (as := [haR 0 0, haI (lwV V i 1), haI (lwV V i 2)]) (show avC148_0 ∈ [avC148_0] from List.mem_cons_self) (Or.inr (by decide)) hJ0 (lwFitII ((lwV_b hSc h0 1).1) ((lwV_b hSc h0 1).2) ((lwV_b hSc h0 2).1) ((lwV_b hSc h0 2).2)) (haLe5 rfl) (show 3 ≤ (abMe 148).1.2.2.1 from by decide +kernel)) (by decide) rfl (show 2 = (abMe 148).2.1 from by decide +kernel) (show 0 + (abMe 148).1.2.2.1 ≤ 49 from by decide +kernel) (fun o1 mu1 hP1 => ?_)
  obtain ⟨⟨-, hA1⟩, hJ1⟩ := hP1
  obtain ⟨z1, rfl, w1, w1'⟩ := hA1 (by decide)
  show haW x mu1 1322 (lwL i) [haI z1]
  refine ha_pop hF rfl (by decide +kernel) ?_
  refine ha_s (pc' := 1324) (ls' := lwL i) (st' := [haR 51 860]) hF (haEt hT (e := (13, 1323, 0, 2, 0, [])) (k := 278) (pc := 1323) (by decide) (by decide +kernel) rfl) rfl (fun RG => avS13) (fun nx => rfl) ?_
  refine lw_ld (k := 1) hT hF hSc h0 h1 (by decide) (by decide +kernel) ?_
  refine lw_ld (k := 2) hT hF hSc h0 h1 (by decide) (by decide +kernel) ?_
  refine ha_callV (q := 204) (d' := 1) (r := 51) (j := 860) (as := [haI (lwV V i 1), haI (lwV V i 2)]) (rest := []) hT hF (haEt hT (e := (78, 1334, 204, 0, 152, [1619, 1620, 1621])) (k := 278) (pc := 1334) (by decide) (by decide +kernel) rfl) rfl rfl rfl (by decide +kernel) (by decide +kernel) (lwSp hT (q := 204) (by decide) (c := avC204_0) (as := [haR 51 860, haI (lwV V i 1), haI (lwV V i 2)]) (show avC204_0 ∈ [avC204_0] from List.mem_cons_self) (Or.inr (by decide)) hJ1 (lwFitII ((lwV_b hSc h0 1).1) ((lwV_b hSc h0 1).2) ((lwV_b hSc h0 2).1) ((lwV_b hSc h0 2).2)) (haLe5 rfl) (show 3 ≤ (abMe 204).1.2.2.1 from by decide +kernel)) (by decide) rfl (show 2 = (abMe 204).2.1 from by decide +kernel) (show 0 + (abMe 204).1.2.2.1 ≤ 49 from by decide +kernel) (fun o2 mu2 hP2 => ?_)
  obtain ⟨⟨-, hA2⟩, hJ2⟩ := hP2
  obtain ⟨z2, rfl, w2, w2'⟩ := hA2 (by decide)
  show haW x mu2 1337 (lwL i) [haI z2]
  refine ha_pop hF rfl (by decide +kernel) ?_
  refine ha_s (pc' := 1655) (ls' := lwL i) (st' := []) hF (haEt hT (e := (58, 1338, 1655, 0, 0, [])) (k := 278) (pc := 1338) (by decide) (by decide +kernel) rfl) rfl (fun RG => avS58) (fun nx => rfl) ?_
  exact fin _ (lwJr_le hJ2 (Nat.le_succ n))
