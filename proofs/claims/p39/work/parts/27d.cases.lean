/-! THE LAW'S CASES (printed by wip/gen/gen27.py) -/
theorem lw_c577 (hT : abTabs) {x : haCx} {mu : haMu} {n L : Nat} {V : Int → Int} {i : Int} (hF : haF x 278 60) (hSc : lwS x V L) (h0 : 0 ≤ i) (h1 : i + 7 ≤ (L : Int)) (hn : n ≤ 8000) (fin : ∀ nu : haMu, lwJr (n + 1) nu → haW x nu 1655 (lwL i) []) (hJ0 : lwJr n mu) : haW x mu 577 (lwL i) [] := by
  refine ha_s (pc' := 578) (ls' := lwL i) (st' := [haR 0 0]) hF (haEt hT (e := (13, 577, 0, 1, 0, [])) (k := 278) (pc := 577) (by decide) (by decide +kernel) rfl) rfl (fun RG => avS13) (fun nx => rfl) ?_
  refine lw_ld (k := 1) hT hF hSc h0 h1 (by decide) (by decide +kernel) ?_
  refine lw_ld (k := 2) hT hF hSc h0 h1 (by decide) (by decide +kernel) ?_
  refine ha_callV (q := 90) (d' := 0) (r := 0) (j := 0) (as := [haI (lwV V i 1), haI (lwV V i 2)]) (rest := []) hT hF (haEt hT (e := (78, 588, 90, 0, 62, [966, 967, 968])) (k := 278) (pc := 588) (by decide) (by decide +kernel) rfl) rfl rfl rfl (by decide +kernel) (by decide +kernel) (lwSp hT (q := 90) (by decide) (c := avC90_0) (as := [haR 0 0, haI (lwV V i 1), haI (lwV V i 2)]) (show avC90_0 ∈ [avC90_0] from List.mem_cons_self) (Or.inr (by decide)) hJ0 (lwFitII ((lwV_b hSc h0 1).1) ((lwV_b hSc h0 1).2) ((lwV_b hSc h0 2).1) ((lwV_b hSc h0 2).2)) (haLe5 rfl) (show 3 ≤ (abMe 90).1.2.2.1 from by decide +kernel)) (by decide) rfl (show 2 = (abMe 90).2.1 from by decide +kernel) (show 0 + (abMe 90).1.2.2.1 ≤ 49 from by decide +kernel) (fun o1 mu1 hP1 => ?_)
  obtain ⟨⟨-, hA1⟩, hJ1⟩ := hP1
  obtain ⟨z1, rfl, w1, w1'⟩ := hA1 (by decide)
  show haW x mu1 591 (lwL i) [haI z1]
  refine ha_pop hF rfl (by decide +kernel) ?_
  refine ha_s (pc' := 593) (ls' := lwL i) (st' := [haR 51 860]) hF (haEt hT (e := (13, 592, 0, 2, 0, [])) (k := 278) (pc := 592) (by decide) (by decide +kernel) rfl) rfl (fun RG => avS13) (fun nx => rfl) ?_
  refine lw_ld (k := 1) hT hF hSc h0 h1 (by decide) (by decide +kernel) ?_
  refine lw_ld (k := 2) hT hF hSc h0 h1 (by decide) (by decide +kernel) ?_
  refine ha_callV (q := 240) (d' := 1) (r := 51) (j := 860) (as := [haI (lwV V i 1), haI (lwV V i 2)]) (rest := []) hT hF (haEt hT (e := (78, 603, 240, 0, 65, [1785, 1786, 1787])) (k := 278) (pc := 603) (by decide) (by decide +kernel) rfl) rfl rfl rfl (by decide +kernel) (by decide +kernel) (lwSp hT (q := 240) (by decide) (c := avC240_0) (as := [haR 51 860, haI (lwV V i 1), haI (lwV V i 2)]) (show avC240_0 ∈ [avC240_0] from List.mem_cons_self) (Or.inr (by decide)) hJ1 (lwFitII ((lwV_b hSc h0 1).1) ((lwV_b hSc h0 1).2) ((lwV_b hSc h0 2).1) ((lwV_b hSc h0 2).2)) (haLe5 rfl) (show 3 ≤ (abMe 240).1.2.2.1 from by decide +kernel)) (by decide) rfl (show 2 = (abMe 240).2.1 from by decide +kernel) (show 0 + (abMe 240).1.2.2.1 ≤ 49 from by decide +kernel) (fun o2 mu2 hP2 => ?_)
  obtain ⟨⟨-, hA2⟩, hJ2⟩ := hP2
  obtain ⟨z2, rfl, w2, w2'⟩ := hA2 (by decide)
  show haW x mu2 606 (lwL i) [haI z2]
  refine ha_pop hF rfl (by decide +kernel) ?_
  refine ha_s (pc' := 1655) (ls' := lwL i) (st' := []) hF (haEt hT (e := (58, 607, 1655, 0, 0, [])) (k := 278) (pc := 607) (by decide) (by decide +kernel) rfl) rfl (fun RG => avS58) (fun nx => rfl) ?_
  exact fin _ (lwJr_le hJ2 (Nat.le_succ n))
theorem lw_c610 (hT : abTabs) {x : haCx} {mu : haMu} {n L : Nat} {V : Int → Int} {i : Int} (hF : haF x 278 60) (hSc : lwS x V L) (h0 : 0 ≤ i) (h1 : i + 7 ≤ (L : Int)) (hn : n ≤ 8000) (fin : ∀ nu : haMu, lwJr (n + 1) nu → haW x nu 1655 (lwL i) []) (hJ0 : lwJr n mu) : haW x mu 610 (lwL i) [] := by
  refine ha_s (pc' := 611) (ls' := lwL i) (st' := [haR 0 0]) hF (haEt hT (e := (13, 610, 0, 1, 0, [])) (k := 278) (pc := 610) (by decide) (by decide +kernel) rfl) rfl (fun RG => avS13) (fun nx => rfl) ?_
  refine lw_ld (k := 1) hT hF hSc h0 h1 (by decide) (by decide +kernel) ?_
  refine ha_callV (q := 91) (d' := 3) (r := 0) (j := 0) (as := [haI (lwV V i 1)]) (rest := []) hT hF (haEt hT (e := (78, 616, 91, 0, 66, [970, 971, 972])) (k := 278) (pc := 616) (by decide) (by decide +kernel) rfl) rfl rfl rfl (by decide +kernel) (by decide +kernel) (lwSp hT (q := 91) (by decide) (c := avC91_0) (as := [haR 0 0, haI (lwV V i 1)]) (show avC91_0 ∈ [avC91_0] from List.mem_cons_self) (Or.inr (by decide)) hJ0 (lwFitI ((lwV_b hSc h0 1).1) ((lwV_b hSc h0 1).2)) (haLe5 rfl) (show 2 ≤ (abMe 91).1.2.2.1 from by decide +kernel)) (by decide) rfl (show 1 = (abMe 91).2.1 from by decide +kernel) (show 0 + (abMe 91).1.2.2.1 ≤ 49 from by decide +kernel) (fun o1 mu1 hP1 => ?_)
  obtain ⟨⟨-, hA1⟩, hJ1⟩ := hP1
  obtain ⟨z1, rfl, w1, w1'⟩ := hA1 (by decide)
  show haW x mu1 619 (lwL i) [haI z1]
  refine ha_pop hF rfl (by decide +kernel) ?_
  refine ha_s (pc' := 621) (ls' := lwL i) (st' := [haR 51 860]) hF (haEt hT (e := (13, 620, 0, 2, 0, [])) (k := 278) (pc := 620) (by decide) (by decide +kernel) rfl) rfl (fun RG => avS13) (fun nx => rfl) ?_
  refine lw_ld (k := 1) hT hF hSc h0 h1 (by decide) (by decide +kernel) ?_
  refine ha_callV (q := 220) (d' := 1) (r := 51) (j := 860) (as := [haI (lwV V i 1)]) (rest := []) hT hF (haEt hT (e := (78, 626, 220, 0, 69, [1689, 1690, 1691])) (k := 278) (pc := 626) (by decide) (by decide +kernel) rfl) rfl rfl rfl (by decide +kernel) (by decide +kernel) (lwSp hT (q := 220) (by decide) (c := avC220_0) (as := [haR 51 860, haI (lwV V i 1)]) (show avC220_0 ∈ [avC220_0] from List.mem_cons_self) (Or.inr (by decide)) hJ1 (lwFitI ((lwV_b hSc h0 1).1) ((lwV_b hSc h0 1).2)) (haLe5 rfl) (show 2 ≤ (abMe 220).1.2.2.1 from by decide +kernel)) (by decide) rfl (show 1 = (abMe 220).2.1 from by decide +kernel) (show 0 + (abMe 220).1.2.2.1 ≤ 49 from by decide +kernel) (fun o2 mu2 hP2 => ?_)
  obtain ⟨⟨-, hA2⟩, hJ2⟩ := hP2
  obtain ⟨z2, rfl, w2, w2'⟩ := hA2 (by decide)
  show haW x mu2 629 (lwL i) [haI z2]
  refine ha_pop hF rfl (by decide +kernel) ?_
  refine ha_s (pc' := 1655) (ls' := lwL i) (st' := []) hF (haEt hT (e := (58, 630, 1655, 0, 0, [])) (k := 278) (pc := 630) (by decide) (by decide +kernel) rfl) rfl (fun RG => avS58) (fun nx => rfl) ?_
  exact fin _ (lwJr_le hJ2 (Nat.le_succ n))
theorem lw_c633 (hT : abTabs) {x : haCx} {mu : haMu} {n L : Nat} {V : Int → Int} {i : Int} (hF : haF x 278 60) (hSc : lwS x V L) (h0 : 0 ≤ i) (h1 : i + 7 ≤ (L : Int)) (hn : n ≤ 8000) (fin : ∀ nu : haMu, lwJr (n + 1) nu → haW x nu 1655 (lwL i) []) (hJ0 : lwJr n mu) : haW x mu 633 (lwL i) [] := by
  refine ha_s (pc' := 634) (ls' := lwL i) (st' := [haR 0 0]) hF (haEt hT (e := (13, 633, 0, 1, 0, [])) (k := 278) (pc := 633) (by decide) (by decide +kernel) rfl) rfl (fun RG => avS13) (fun nx => rfl) ?_
  refine lw_ld (k := 1) hT hF hSc h0 h1 (by decide) (by decide +kernel) ?_
  refine lw_ld (k := 2) hT hF hSc h0 h1 (by decide) (by decide +kernel) ?_
  refine lw_ld (k := 3) hT hF hSc h0 h1 (by decide) (by decide +kernel) ?_
  refine ha_callV (q := 93) (d' := 3) (r := 0) (j := 0) (as := [haI (lwV V i 1), haI (lwV V i 2), haI (lwV V i 3)]) (rest := []) hT hF (haEt hT (e := (78, 649, 93, 0, 70, [980, 981, 982])) (k := 278) (pc := 649) (by decide) (by decide +kernel) rfl) rfl rfl rfl (by decide +kernel) (by decide +kernel) (lwSp hT (q := 93) (by decide) (c := avC93_0) (as := [haR 0 0, haI (lwV V i 1), haI (lwV V i 2), haI (lwV V i 3)]) (show avC93_0 ∈ [avC93_0] from List.mem_cons_self) (Or.inr (by decide)) hJ0 (lwFitIII ((lwV_b hSc h0 1).1) ((lwV_b hSc h0 1).2) ((lwV_b hSc h0 2).1) ((lwV_b hSc h0 2).2) ((lwV_b hSc h0 3).1) ((lwV_b hSc h0 3).2)) (haLe5 rfl) (show 4 ≤ (abMe 93).1.2.2.1 from by decide +kernel)) (by decide) rfl (show 3 = (abMe 93).2.1 from by decide +kernel) (show 0 + (abMe 93).1.2.2.1 ≤ 49 from by decide +kernel) (fun o1 mu1 hP1 => ?_)
  obtain ⟨⟨-, hA1⟩, hJ1⟩ := hP1
  obtain ⟨z1, rfl, w1, w1'⟩ := hA1 (by decide)
  show haW x mu1 652 (lwL i) [haI z1]
  refine ha_pop hF rfl (by decide +kernel) ?_
  refine ha_s (pc' := 654) (ls' := lwL i) (st' := [haR 51 860]) hF (haEt hT (e := (13, 653, 0, 2, 0, [])) (k := 278) (pc := 653) (by decide) (by decide +kernel) rfl) rfl (fun RG => avS13) (fun nx => rfl) ?_
  refine lw_ld (k := 1) hT hF hSc h0 h1 (by decide) (by decide +kernel) ?_
  refine lw_ld (k := 2) hT hF hSc h0 h1 (by decide) (by decide +kernel) ?_
  refine lw_ld (k := 3) hT hF hSc h0 h1 (by decide) (by decide +kernel) ?_
  refine ha_callV (q := 221) (d' := 3) (r := 51) (j := 860) (as := [haI (lwV V i 1), haI (lwV V i 2), haI (lwV V i 3)]) (rest := []) hT hF (haEt hT (e := (78, 669, 221, 0, 74, [1695, 1696, 1697])) (k := 278) (pc := 669) (by decide) (by decide +kernel) rfl) rfl rfl rfl (by decide +kernel) (by decide +kernel) (lwSp hT (q := 221) (by decide) (c := avC221_0) (as := [haR 51 860, haI (lwV V i 1), haI (lwV V i 2), haI (lwV V i 3)]) (show avC221_0 ∈ [avC221_0] from List.mem_cons_self) (Or.inr (by decide)) hJ1 (lwFitIII ((lwV_b hSc h0 1).1) ((lwV_b hSc h0 1).2) ((lwV_b hSc h0 2).1) ((lwV_b hSc h0 2).2) ((lwV_b hSc h0 3).1) ((lwV_b hSc h0 3).2)) (haLe5 rfl) (show 4 ≤ (abMe 221).1.2.2.1 from by decide +kernel)) (by decide) rfl (show 3 = (abMe 221).2.1 from by decide +kernel) (show 0 + (abMe 221).1.2.2.1 ≤ 49 from by decide +kernel) (fun o2 mu2 hP2 => ?_)
  obtain ⟨⟨-, hA2⟩, hJ2⟩ := hP2
  obtain ⟨z2, rfl, w2, w2'⟩ := hA2 (by decide)
  show haW x mu2 672 (lwL i) [haI z2]
  refine ha_pop hF rfl (by decide +kernel) ?_
  refine ha_s (pc' := 1655) (ls' := lwL i) (st' := []) hF (haEt hT (e := (58, 673, 1655, 0, 0, [])) (k := 278) (pc := 673) (by decide) (by decide +kernel) rfl) rfl (fun RG => avS58) (fun nx => rfl) ?_
  exact fin _ (lwJr_le hJ2 (Nat.le_succ n))
theorem lw_c676 (hT : abTabs) {x : haCx} {mu : haMu} {n L : Nat} {V : Int → Int} {i : Int} (hF : haF x 278 60) (hSc : lwS x V L) (h0 : 0 ≤ i) (h1 : i + 7 ≤ (L : Int)) (hn : n ≤ 8000) (fin : ∀ nu : haMu, lwJr (n + 1) nu → haW x nu 1655 (lwL i) []) (hJ0 : lwJr n mu) : haW x mu 676 (lwL i) [] := by
  refine ha_s (pc' := 677) (ls' := lwL i) (st' := [haR 0 0]) hF (haEt hT (e := (13, 676, 0, 1, 0, [])) (k := 278) (pc := 676) (by decide) (by decide +kernel) rfl) rfl (fun RG => avS13) (fun nx => rfl) ?_
  refine lw_ld (k := 1) hT hF hSc h0 h1 (by decide) (by decide +kernel) ?_
  refine lw_ld (k := 2) hT hF hSc h0 h1 (by decide) (by decide +kernel) ?_
  refine lw_ld (k := 3) hT hF hSc h0 h1 (by decide) (by decide +kernel) ?_
  refine lw_nz hT hF (by decide +kernel) ?_
  refine ha_callV (q := 95) (d' := 6) (r := 0) (j := 0) (as := [haI (lwV V i 1), haI (lwV V i 2), haI (lwZ (lwV V i 3))]) (rest := []) hT hF (haEt hT (e := (78, 700, 95, 0, 75, [988, 989, 990])) (k := 278) (pc := 700) (by decide) (by decide +kernel) rfl) rfl rfl rfl (by decide +kernel) (by decide +kernel) (lwSp hT (q := 95) (by decide) (c := avC95_0) (as := [haR 0 0, haI (lwV V i 1), haI (lwV V i 2), haI (lwZ (lwV V i 3))]) (show avC95_0 ∈ [avC95_0] from List.mem_cons_self) (Or.inr (by decide)) hJ0 (lwFitIII ((lwV_b hSc h0 1).1) ((lwV_b hSc h0 1).2) ((lwV_b hSc h0 2).1) ((lwV_b hSc h0 2).2) ((lwZ_b _).1) ((lwZ_b _).2)) (haLe5 rfl) (show 4 ≤ (abMe 95).1.2.2.1 from by decide +kernel)) (by decide) rfl (show 3 = (abMe 95).2.1 from by decide +kernel) (show 0 + (abMe 95).1.2.2.1 ≤ 49 from by decide +kernel) (fun o1 mu1 hP1 => ?_)
  obtain ⟨⟨-, hA1⟩, hJ1⟩ := hP1
  obtain ⟨z1, rfl, w1, w1'⟩ := hA1 (by decide)
  show haW x mu1 703 (lwL i) [haI z1]
  refine ha_pop hF rfl (by decide +kernel) ?_
  refine ha_s (pc' := 705) (ls' := lwL i) (st' := [haR 51 860]) hF (haEt hT (e := (13, 704, 0, 2, 0, [])) (k := 278) (pc := 704) (by decide) (by decide +kernel) rfl) rfl (fun RG => avS13) (fun nx => rfl) ?_
  refine lw_ld (k := 1) hT hF hSc h0 h1 (by decide) (by decide +kernel) ?_
  refine lw_ld (k := 2) hT hF hSc h0 h1 (by decide) (by decide +kernel) ?_
  refine lw_ld (k := 3) hT hF hSc h0 h1 (by decide) (by decide +kernel) ?_
  refine lw_nz hT hF (by decide +kernel) ?_
  refine ha_callV (q := 223) (d' := 5) (r := 51) (j := 860) (as := [haI (lwV V i 1), haI (lwV V i 2), haI (lwZ (lwV V i 3))]) (rest := []) hT hF (haEt hT (e := (78, 728, 223, 0, 79, [1704, 1705, 1706])) (k := 278) (pc := 728) (by decide) (by decide +kernel) rfl) rfl rfl rfl (by decide +kernel) (by decide +kernel) (lwSp hT (q := 223) (by decide) (c := avC223_0) (as := [haR 51 860, haI (lwV V i 1), haI (lwV V i 2), haI (lwZ (lwV V i 3))]) (show avC223_0 ∈ [avC223_0] from List.mem_cons_self) (Or.inr (by decide)) hJ1 (lwFitIII ((lwV_b hSc h0 1).1) ((lwV_b hSc h0 1).2) ((lwV_b hSc h0 2).1) ((lwV_b hSc h0 2).2) ((lwZ_b _).1) ((lwZ_b _).2)) (haLe5 rfl) (show 4 ≤ (abMe 223).1.2.2.1 from by decide +kernel)) (by decide) rfl (show 3 = (abMe 223).2.1 from by decide +kernel) (show 0 + (abMe 223).1.2.2.1 ≤ 49 from by decide +kernel) (fun o2 mu2 hP2 => ?_)
  obtain ⟨⟨-, hA2⟩, hJ2⟩ := hP2
  obtain ⟨z2, rfl, w2, w2'⟩ := hA2 (by decide)
  show haW x mu2 731 (lwL i) [haI z2]
  refine ha_pop hF rfl (by decide +kernel) ?_
  refine ha_s (pc' := 1655) (ls' := lwL i) (st' := []) hF (haEt hT (e := (58, 732, 1655, 0, 0, [])) (k := 278) (pc := 732) (by decide) (by decide +kernel) rfl) rfl (fun RG => avS58) (fun nx => rfl) ?_
  exact fin _ (lwJr_le hJ2 (Nat.le_succ n))
theorem lw_c735 (hT : abTabs) {x : haCx} {mu : haMu} {n L : Nat} {V : Int → Int} {i : Int} (hF : haF x 278 60) (hSc : lwS x V L) (h0 : 0 ≤ i) (h1 : i + 7 ≤ (L : Int)) (hn : n ≤ 8000) (fin : ∀ nu : haMu, lwJr (n + 1) nu → haW x nu 1655 (lwL i) []) (hJ0 : lwJr n mu) : haW x mu 735 (lwL i) [] := by
  refine ha_s (pc' := 736) (ls' := lwL i) (st' := [haR 0 0]) hF (haEt hT (e := (13, 735, 0, 1, 0, [])) (k := 278) (pc := 735) (by decide) (by decide +kernel) rfl) rfl (fun RG => avS13) (fun nx => rfl) ?_
  refine lw_ld (k := 1) hT hF hSc h0 h1 (by decide) (by decide +kernel) ?_
  refine lw_ld (k := 2) hT hF hSc h0 h1 (by decide) (by decide +kernel) ?_
  refine lw_ld (k := 3) hT hF hSc h0 h1 (by decide) (by decide +kernel) ?_
  refine lw_nz hT hF (by decide +kernel) ?_
  refine ha_callV (q := 100) (d' := 7) (r := 0) (j := 0) (as := [haI (lwV V i 1), haI (lwV V i 2), haI (lwZ (lwV V i 3))]) (rest := []) hT hF (haEt hT (e := (78, 759, 100, 0, 80, [1009, 1010, 1011])) (k := 278) (pc := 759) (by decide) (by decide +kernel) rfl) rfl rfl rfl (by decide +kernel) (by decide +kernel) (lwSp hT (q := 100) (by decide) (c := avC100_0) (as := [haR 0 0, haI (lwV V i 1), haI (lwV V i 2), haI (lwZ (lwV V i 3))]) (show avC100_0 ∈ [avC100_0] from List.mem_cons_self) (Or.inr (by decide)) hJ0 (lwFitIII ((lwV_b hSc h0 1).1) ((lwV_b hSc h0 1).2) ((lwV_b hSc h0 2).1) ((lwV_b hSc h0 2).2) ((lwZ_b _).1) ((lwZ_b _).2)) (haLe5 rfl) (show 4 ≤ (abMe 100).1.2.2.1 from by decide +kernel)) (by decide) rfl (show 3 = (abMe 100).2.1 from by decide +kernel) (show 0 + (abMe 100).1.2.2.1 ≤ 49 from by decide +kernel) (fun o1 mu1 hP1 => ?_)
  obtain ⟨⟨-, hA1⟩, hJ1⟩ := hP1
  obtain ⟨z1, rfl, w1, w1'⟩ := hA1 (by decide)
  show haW x mu1 762 (lwL i) [haI z1]
  refine ha_pop hF rfl (by decide +kernel) ?_
  refine ha_s (pc' := 764) (ls' := lwL i) (st' := [haR 51 860]) hF (haEt hT (e := (13, 763, 0, 2, 0, [])) (k := 278) (pc := 763) (by decide) (by decide +kernel) rfl) rfl (fun RG => avS13) (fun nx => rfl) ?_
  refine lw_ld (k := 1) hT hF hSc h0 h1 (by decide) (by decide +kernel) ?_
  refine lw_ld (k := 2) hT hF hSc h0 h1 (by decide) (by decide +kernel) ?_
  refine lw_ld (k := 3) hT hF hSc h0 h1 (by decide) (by decide +kernel) ?_
  refine lw_nz hT hF (by decide +kernel) ?_
  refine ha_callV (q := 225) (d' := 5) (r := 51) (j := 860) (as := [haI (lwV V i 1), haI (lwV V i 2), haI (lwZ (lwV V i 3))]) (rest := []) hT hF (haEt hT (e := (78, 787, 225, 0, 83, [1712, 1713, 1714])) (k := 278) (pc := 787) (by decide) (by decide +kernel) rfl) rfl rfl rfl (by decide +kernel) (by decide +kernel) (lwSp hT (q := 225) (by decide) (c := avC225_0) (as := [haR 51 860, haI (lwV V i 1), haI (lwV V i 2), haI (lwZ (lwV V i 3))]) (show avC225_0 ∈ [avC225_0] from List.mem_cons_self) (Or.inr (by decide)) hJ1 (lwFitIII ((lwV_b hSc h0 1).1) ((lwV_b hSc h0 1).2) ((lwV_b hSc h0 2).1) ((lwV_b hSc h0 2).2) ((lwZ_b _).1) ((lwZ_b _).2)) (haLe5 rfl) (show 4 ≤ (abMe 225).1.2.2.1 from by decide +kernel)) (by decide) rfl (show 3 = (abMe 225).2.1 from by decide +kernel) (show 0 + (abMe 225).1.2.2.1 ≤ 49 from by decide +kernel) (fun o2 mu2 hP2 => ?_)
  obtain ⟨⟨-, hA2⟩, hJ2⟩ := hP2
  obtain ⟨z2, rfl, w2, w2'⟩ := hA2 (by decide)
  show haW x mu2 790 (lwL i) [haI z2]
  refine ha_pop hF rfl (by decide +kernel) ?_
  refine ha_s (pc' := 1655) (ls' := lwL i) (st' := []) hF (haEt hT (e := (58, 791, 1655, 0, 0, [])) (k := 278) (pc := 791) (by decide) (by decide +kernel) rfl) rfl (fun RG => avS58) (fun nx => rfl) ?_
  exact fin _ (lwJr_le hJ2 (Nat.le_succ n))
theorem lw_c794 (hT : abTabs) {x : haCx} {mu : haMu} {n L : Nat} {V : Int → Int} {i : Int} (hF : haF x 278 60) (hSc : lwS x V L) (h0 : 0 ≤ i) (h1 : i + 7 ≤ (L : Int)) (hn : n ≤ 8000) (fin : ∀ nu : haMu, lwJr (n + 1) nu → haW x nu 1655 (lwL i) []) (hJ0 : lwJr n mu) : haW x mu 794 (lwL i) [] := by
  refine ha_s (pc' := 795) (ls' := lwL i) (st' := [haR 0 0]) hF (haEt hT (e := (13, 794, 0, 1, 0, [])) (k := 278) (pc := 794) (by decide) (by decide +kernel) rfl) rfl (fun RG => avS13) (fun nx => rfl) ?_
  refine lw_ld (k := 1) hT hF hSc h0 h1 (by decide) (by decide +kernel) ?_
  refine lw_ld (k := 2) hT hF hSc h0 h1 (by decide) (by decide +kernel) ?_
  refine lw_nz hT hF (by decide +kernel) ?_
  refine ha_callV (q := 102) (d' := 7) (r := 0) (j := 0) (as := [haI (lwV V i 1), haI (lwZ (lwV V i 2))]) (rest := []) hT hF (haEt hT (e := (78, 813, 102, 0, 84, [1019, 1020, 1021])) (k := 278) (pc := 813) (by decide) (by decide +kernel) rfl) rfl rfl rfl (by decide +kernel) (by decide +kernel) (lwSp hT (q := 102) (by decide) (c := avC102_0) (as := [haR 0 0, haI (lwV V i 1), haI (lwZ (lwV V i 2))]) (show avC102_0 ∈ [avC102_0] from List.mem_cons_self) (Or.inr (by decide)) hJ0 (lwFitII ((lwV_b hSc h0 1).1) ((lwV_b hSc h0 1).2) ((lwZ_b _).1) ((lwZ_b _).2)) (haLe5 rfl) (show 3 ≤ (abMe 102).1.2.2.1 from by decide +kernel)) (by decide) rfl (show 2 = (abMe 102).2.1 from by decide +kernel) (show 0 + (abMe 102).1.2.2.1 ≤ 49 from by decide +kernel) (fun o1 mu1 hP1 => ?_)
  obtain ⟨⟨-, hA1⟩, hJ1⟩ := hP1
  obtain ⟨z1, rfl, w1, w1'⟩ := hA1 (by decide)
  show haW x mu1 816 (lwL i) [haI z1]
  refine ha_pop hF rfl (by decide +kernel) ?_
  refine ha_s (pc' := 818) (ls' := lwL i) (st' := [haR 51 860]) hF (haEt hT (e := (13, 817, 0, 2, 0, [])) (k := 278) (pc := 817) (by decide) (by decide +kernel) rfl) rfl (fun RG => avS13) (fun nx => rfl) ?_
  refine lw_ld (k := 1) hT hF hSc h0 h1 (by decide) (by decide +kernel) ?_
  refine lw_ld (k := 2) hT hF hSc h0 h1 (by decide) (by decide +kernel) ?_
  refine lw_nz hT hF (by decide +kernel) ?_
  refine ha_callV (q := 226) (d' := 5) (r := 51) (j := 860) (as := [haI (lwV V i 1), haI (lwZ (lwV V i 2))]) (rest := []) hT hF (haEt hT (e := (78, 836, 226, 0, 88, [1716, 1717, 1718])) (k := 278) (pc := 836) (by decide) (by decide +kernel) rfl) rfl rfl rfl (by decide +kernel) (by decide +kernel) (lwSp hT (q := 226) (by decide) (c := avC226_0) (as := [haR 51 860, haI (lwV V i 1), haI (lwZ (lwV V i 2))]) (show avC226_0 ∈ [avC226_0] from List.mem_cons_self) (Or.inr (by decide)) hJ1 (lwFitII ((lwV_b hSc h0 1).1) ((lwV_b hSc h0 1).2) ((lwZ_b _).1) ((lwZ_b _).2)) (haLe5 rfl) (show 3 ≤ (abMe 226).1.2.2.1 from by decide +kernel)) (by decide) rfl (show 2 = (abMe 226).2.1 from by decide +kernel) (show 0 + (abMe 226).1.2.2.1 ≤ 49 from by decide +kernel) (fun o2 mu2 hP2 => ?_)
  obtain ⟨⟨-, hA2⟩, hJ2⟩ := hP2
  obtain ⟨z2, rfl, w2, w2'⟩ := hA2 (by decide)
  show haW x mu2 839 (lwL i) [haI z2]
  refine ha_pop hF rfl (by decide +kernel) ?_
  refine ha_s (pc' := 1655) (ls' := lwL i) (st' := []) hF (haEt hT (e := (58, 840, 1655, 0, 0, [])) (k := 278) (pc := 840) (by decide) (by decide +kernel) rfl) rfl (fun RG => avS58) (fun nx => rfl) ?_
  exact fin _ (lwJr_le hJ2 (Nat.le_succ n))
theorem lw_c843 (hT : abTabs) {x : haCx} {mu : haMu} {n L : Nat} {V : Int → Int} {i : Int} (hF : haF x 278 60) (hSc : lwS x V L) (h0 : 0 ≤ i) (h1 : i + 7 ≤ (L : Int)) (hn : n ≤ 8000) (fin : ∀ nu : haMu, lwJr (n + 1) nu → haW x nu 1655 (lwL i) []) (hJ0 : lwJr n mu) : haW x mu 843 (lwL i) [] := by
  refine ha_s (pc' := 844) (ls' := lwL i) (st' := [haR 0 0]) hF (haEt hT (e := (13, 843, 0, 1, 0, [])) (k := 278) (pc := 843) (by decide) (by decide +kernel) rfl) rfl (fun RG => avS13) (fun nx => rfl) ?_
  refine lw_ld (k := 1) hT hF hSc h0 h1 (by decide) (by decide +kernel) ?_
  refine lw_ld (k := 2) hT hF hSc h0 h1 (by decide) (by decide +kernel) ?_
  refine lw_ld (k := 3) hT hF hSc h0 h1 (by decide) (by decide +kernel) ?_
  refine ha_callV (q := 103) (d' := 6) (r := 0) (j := 0) (as := [haI (lwV V i 1), haI (lwV V i 2), haI (lwV V i 3)]) (rest := []) hT hF (haEt hT (e := (78, 859, 103, 0, 89, [1023, 1024, 1025])) (k := 278) (pc := 859) (by decide) (by decide +kernel) rfl) rfl rfl rfl (by decide +kernel) (by decide +kernel) (lwSp hT (q := 103) (by decide) (c := avC103_0) (as := [haR 0 0, haI (lwV V i 1), haI (lwV V i 2), haI (lwV V i 3)]) (show avC103_0 ∈ [avC103_0] from List.mem_cons_self) (Or.inr (by decide)) hJ0 (lwFitIII ((lwV_b hSc h0 1).1) ((lwV_b hSc h0 1).2) ((lwV_b hSc h0 2).1) ((lwV_b hSc h0 2).2) ((lwV_b hSc h0 3).1) ((lwV_b hSc h0 3).2)) (haLe5 rfl) (show 4 ≤ (abMe 103).1.2.2.1 from by decide +kernel)) (by decide) rfl (show 3 = (abMe 103).2.1 from by decide +kernel) (show 0 + (abMe 103).1.2.2.1 ≤ 49 from by decide +kernel) (fun o1 mu1 hP1 => ?_)
  obtain ⟨⟨-, hA1⟩, hJ1⟩ := hP1
  obtain ⟨z1, rfl, w1, w1'⟩ := hA1 (by decide)
  show haW x mu1 862 (lwL i) [haI z1]
  refine ha_pop hF rfl (by decide +kernel) ?_
  refine ha_s (pc' := 864) (ls' := lwL i) (st' := [haR 51 860]) hF (haEt hT (e := (13, 863, 0, 2, 0, [])) (k := 278) (pc := 863) (by decide) (by decide +kernel) rfl) rfl (fun RG => avS13) (fun nx => rfl) ?_
  refine lw_ld (k := 1) hT hF hSc h0 h1 (by decide) (by decide +kernel) ?_
  refine lw_ld (k := 2) hT hF hSc h0 h1 (by decide) (by decide +kernel) ?_
  refine lw_ld (k := 3) hT hF hSc h0 h1 (by decide) (by decide +kernel) ?_
  refine ha_callV (q := 227) (d' := 5) (r := 51) (j := 860) (as := [haI (lwV V i 1), haI (lwV V i 2), haI (lwV V i 3)]) (rest := []) hT hF (haEt hT (e := (78, 879, 227, 0, 92, [1720, 1721, 1722])) (k := 278) (pc := 879) (by decide) (by decide +kernel) rfl) rfl rfl rfl (by decide +kernel) (by decide +kernel) (lwSp hT (q := 227) (by decide) (c := avC227_0) (as := [haR 51 860, haI (lwV V i 1), haI (lwV V i 2), haI (lwV V i 3)]) (show avC227_0 ∈ [avC227_0] from List.mem_cons_self) (Or.inr (by decide)) hJ1 (lwFitIII ((lwV_b hSc h0 1).1) ((lwV_b hSc h0 1).2) ((lwV_b hSc h0 2).1) ((lwV_b hSc h0 2).2) ((lwV_b hSc h0 3).1) ((lwV_b hSc h0 3).2)) (haLe5 rfl) (show 4 ≤ (abMe 227).1.2.2.1 from by decide +kernel)) (by decide) rfl (show 3 = (abMe 227).2.1 from by decide +kernel) (show 0 + (abMe 227).1.2.2.1 ≤ 49 from by decide +kernel) (fun o2 mu2 hP2 => ?_)
  obtain ⟨⟨-, hA2⟩, hJ2⟩ := hP2
  obtain ⟨z2, rfl, w2, w2'⟩ := hA2 (by decide)
  show haW x mu2 882 (lwL i) [haI z2]
  refine ha_pop hF rfl (by decide +kernel) ?_
  refine ha_s (pc' := 1655) (ls' := lwL i) (st' := []) hF (haEt hT (e := (58, 883, 1655, 0, 0, [])) (k := 278) (pc := 883) (by decide) (by decide +kernel) rfl) rfl (fun RG => avS58) (fun nx => rfl) ?_
  exact fin _ (lwJr_le hJ2 (Nat.le_succ n))
theorem lw_c886 (hT : abTabs) {x : haCx} {mu : haMu} {n L : Nat} {V : Int → Int} {i : Int} (hF : haF x 278 60) (hSc : lwS x V L) (h0 : 0 ≤ i) (h1 : i + 7 ≤ (L : Int)) (hn : n ≤ 8000) (fin : ∀ nu : haMu, lwJr (n + 1) nu → haW x nu 1655 (lwL i) []) (hJ0 : lwJr n mu) : haW x mu 886 (lwL i) [] := by
  refine ha_s (pc' := 887) (ls' := lwL i) (st' := [haR 0 0]) hF (haEt hT (e := (13, 886, 0, 1, 0, [])) (k := 278) (pc := 886) (by decide) (by decide +kernel) rfl) rfl (fun RG => avS13) (fun nx => rfl) ?_
  refine lw_ld (k := 1) hT hF hSc h0 h1 (by decide) (by decide +kernel) ?_
  refine lw_ld (k := 2) hT hF hSc h0 h1 (by decide) (by decide +kernel) ?_
  refine lw_ld (k := 3) hT hF hSc h0 h1 (by decide) (by decide +kernel) ?_
  refine ha_callV (q := 112) (d' := 2) (r := 0) (j := 0) (as := [haI (lwV V i 1), haI (lwV V i 2), haI (lwV V i 3)]) (rest := []) hT hF (haEt hT (e := (78, 902, 112, 0, 93, [1065, 1066, 1067])) (k := 278) (pc := 902) (by decide) (by decide +kernel) rfl) rfl rfl rfl (by decide +kernel) (by decide +kernel) (lwSp hT (q := 112) (by decide) (c := avC112_0) (as := [haR 0 0, haI (lwV V i 1), haI (lwV V i 2), haI (lwV V i 3)]) (show avC112_0 ∈ [avC112_0] from List.mem_cons_self) (Or.inr (by decide)) hJ0 (lwFitIII ((lwV_b hSc h0 1).1) ((lwV_b hSc h0 1).2) ((lwV_b hSc h0 2).1) ((lwV_b hSc h0 2).2) ((lwV_b hSc h0 3).1) ((lwV_b hSc h0 3).2)) (haLe5 rfl) (show 4 ≤ (abMe 112).1.2.2.1 from by decide +kernel)) (by decide) rfl (show 3 = (abMe 112).2.1 from by decide +kernel) (show 0 + (abMe 112).1.2.2.1 ≤ 49 from by decide +kernel) (fun o1 mu1 hP1 => ?_)
  obtain ⟨⟨-, hA1⟩, hJ1⟩ := hP1
  obtain ⟨z1, rfl, w1, w1'⟩ := hA1 (by decide)
  show haW x mu1 905 (lwL i) [haI z1]
  refine ha_pop hF rfl (by decide +kernel) ?_
  refine ha_s (pc' := 907) (ls' := lwL i) (st' := [haR 51 860]) hF (haEt hT (e := (13, 906, 0, 2, 0, [])) (k := 278) (pc := 906) (by decide) (by decide +kernel) rfl) rfl (fun RG => avS13) (fun nx => rfl) ?_
  refine lw_ld (k := 1) hT hF hSc h0 h1 (by decide) (by decide +kernel) ?_
  refine lw_ld (k := 2) hT hF hSc h0 h1 (by decide) (by decide +kernel) ?_
  refine lw_ld (k := 3) hT hF hSc h0 h1 (by decide) (by decide +kernel) ?_
  refine ha_callV (q := 234) (d' := 3) (r := 51) (j := 860) (as := [haI (lwV V i 1), haI (lwV V i 2), haI (lwV V i 3)]) (rest := []) hT hF (haEt hT (e := (78, 922, 234, 0, 96, [1759, 1760, 1761])) (k := 278) (pc := 922) (by decide) (by decide +kernel) rfl) rfl rfl rfl (by decide +kernel) (by decide +kernel) (lwSp hT (q := 234) (by decide) (c := avC234_0) (as := [haR 51 860, haI (lwV V i 1), haI (lwV V i 2), haI (lwV V i 3)]) (show avC234_0 ∈ [avC234_0] from List.mem_cons_self) (Or.inr (by decide)) hJ1 (lwFitIII ((lwV_b hSc h0 1).1) ((lwV_b hSc h0 1).2) ((lwV_b hSc h0 2).1) ((lwV_b hSc h0 2).2) ((lwV_b hSc h0 3).1) ((lwV_b hSc h0 3).2)) (haLe5 rfl) (show 4 ≤ (abMe 234).1.2.2.1 from by decide +kernel)) (by decide) rfl (show 3 = (abMe 234).2.1 from by decide +kernel) (show 0 + (abMe 234).1.2.2.1 ≤ 49 from by decide +kernel) (fun o2 mu2 hP2 => ?_)
  obtain ⟨⟨-, hA2⟩, hJ2⟩ := hP2
  obtain ⟨z2, rfl, w2, w2'⟩ := hA2 (by decide)
  show haW x mu2 925 (lwL i) [haI z2]
  refine ha_pop hF rfl (by decide +kernel) ?_
  refine ha_s (pc' := 1655) (ls' := lwL i) (st' := []) hF (haEt hT (e := (58, 926, 1655, 0, 0, [])) (k := 278) (pc := 926) (by decide) (by decide +kernel) rfl) rfl (fun RG => avS58) (fun nx => rfl) ?_
  exact fin _ (lwJr_le hJ2 (Nat.le_succ n))
theorem lw_c929 (hT : abTabs) {x : haCx} {mu : haMu} {n L : Nat} {V : Int → Int} {i : Int} (hF : haF x 278 60) (hSc : lwS x V L) (h0 : 0 ≤ i) (h1 : i + 7 ≤ (L : Int)) (hn : n ≤ 8000) (fin : ∀ nu : haMu, lwJr (n + 1) nu → haW x nu 1655 (lwL i) []) (hJ0 : lwJr n mu) : haW x mu 929 (lwL i) [] := by
  refine ha_s (pc' := 930) (ls' := lwL i) (st' := [haR 0 0]) hF (haEt hT (e := (13, 929, 0, 1, 0, [])) (k := 278) (pc := 929) (by decide) (by decide +kernel) rfl) rfl (fun RG => avS13) (fun nx => rfl) ?_
  refine lw_ld (k := 1) hT hF hSc h0 h1 (by decide) (by decide +kernel) ?_
  refine lw_ld (k := 2) hT hF hSc h0 h1 (by decide) (by decide +kernel) ?_
  refine lw_ld (k := 3) hT hF hSc h0 h1 (by decide) (by decide +kernel) ?_
  refine ha_callV (q := 113) (d' := 3) (r := 0) (j := 0) (as := [haI (lwV V i 1), haI (lwV V i 2), haI (lwV V i 3)]) (rest := []) hT hF (haEt hT (e := (78, 945, 113, 0, 97, [1071, 1072, 1073])) (k := 278) (pc := 945) (by decide) (by decide +kernel) rfl) rfl rfl rfl (by decide +kernel) (by decide +kernel) (lwSp hT (q := 113) (by decide) (c := avC113_0) (as := [haR 0 0, haI (lwV V i 1), haI (lwV V i 2), haI (lwV V i 3)]) (show avC113_0 ∈ [avC113_0] from List.mem_cons_self) (Or.inr (by decide)) hJ0 (lwFitIII ((lwV_b hSc h0 1).1) ((lwV_b hSc h0 1).2) ((lwV_b hSc h0 2).1) ((lwV_b hSc h0 2).2) ((lwV_b hSc h0 3).1) ((lwV_b hSc h0 3).2)) (haLe5 rfl) (show 4 ≤ (abMe 113).1.2.2.1 from by decide +kernel)) (by decide) rfl (show 3 = (abMe 113).2.1 from by decide +kernel) (show 0 + (abMe 113).1.2.2.1 ≤ 49 from by decide +kernel) (fun o1 mu1 hP1 => ?_)
  obtain ⟨⟨-, hA1⟩, hJ1⟩ := hP1
  obtain ⟨z1, rfl, w1, w1'⟩ := hA1 (by decide)
  show haW x mu1 948 (lwL i) [haI z1]
  refine ha_pop hF rfl (by decide +kernel) ?_
  refine ha_s (pc' := 950) (ls' := lwL i) (st' := [haR 51 860]) hF (haEt hT (e := (13, 949, 0, 2, 0, [])) (k := 278) (pc := 949) (by decide) (by decide +kernel) rfl) rfl (fun RG => avS13) (fun nx => rfl) ?_
  refine lw_ld (k := 1) hT hF hSc h0 h1 (by decide) (by decide +kernel) ?_
  refine lw_ld (k := 2) hT hF hSc h0 h1 (by decide) (by decide +kernel) ?_
  refine lw_ld (k := 3) hT hF hSc h0 h1 (by decide) (by decide +kernel) ?_
  refine ha_callV (q := 235) (d' := 3) (r := 51) (j := 860) (as := [haI (lwV V i 1), haI (lwV V i 2), haI (lwV V i 3)]) (rest := []) hT hF (haEt hT (e := (78, 965, 235, 0, 100, [1765, 1766, 1767])) (k := 278) (pc := 965) (by decide) (by decide +kernel) rfl) rfl rfl rfl (by decide +kernel) (by decide +kernel) (lwSp hT (q := 235) (by decide) (c := avC235_0) (as := [haR 51 860, haI (lwV V i 1), haI (lwV V i 2), haI (lwV V i 3)]) (show avC235_0 ∈ [avC235_0] from List.mem_cons_self) (Or.inr (by decide)) hJ1 (lwFitIII ((lwV_b hSc h0 1).1) ((lwV_b hSc h0 1).2) ((lwV_b hSc h0 2).1) ((lwV_b hSc h0 2).2) ((lwV_b hSc h0 3).1) ((lwV_b hSc h0 3).2)) (haLe5 rfl) (show 4 ≤ (abMe 235).1.2.2.1 from by decide +kernel)) (by decide) rfl (show 3 = (abMe 235).2.1 from by decide +kernel) (show 0 + (abMe 235).1.2.2.1 ≤ 49 from by decide +kernel) (fun o2 mu2 hP2 => ?_)
  obtain ⟨⟨-, hA2⟩, hJ2⟩ := hP2
  obtain ⟨z2, rfl, w2, w2'⟩ := hA2 (by decide)
  show haW x mu2 968 (lwL i) [haI z2]
  refine ha_pop hF rfl (by decide +kernel) ?_
  refine ha_s (pc' := 1655) (ls' := lwL i) (st' := []) hF (haEt hT (e := (58, 969, 1655, 0, 0, [])) (k := 278) (pc := 969) (by decide) (by decide +kernel) rfl) rfl (fun RG => avS58) (fun nx => rfl) ?_
  exact fin _ (lwJr_le hJ2 (Nat.le_succ n))
theorem lw_c972 (hT : abTabs) {x : haCx} {mu : haMu} {n L : Nat} {V : Int → Int} {i : Int} (hF : haF x 278 60) (hSc : lwS x V L) (h0 : 0 ≤ i) (h1 : i + 7 ≤ (L : Int)) (hn : n ≤ 8000) (fin : ∀ nu : haMu, lwJr (n + 1) nu → haW x nu 1655 (lwL i) []) (hJ0 : lwJr n mu) : haW x mu 972 (lwL i) [] := by
  refine ha_s (pc' := 973) (ls' := lwL i) (st' := [haR 0 0]) hF (haEt hT (e := (13, 972, 0, 1, 0, [])) (k := 278) (pc := 972) (by decide) (by decide +kernel) rfl) rfl (fun RG => avS13) (fun nx => rfl) ?_
  refine lw_ld (k := 1) hT hF hSc h0 h1 (by decide) (by decide +kernel) ?_
  refine lw_ld (k := 2) hT hF hSc h0 h1 (by decide) (by decide +kernel) ?_
  refine ha_callV (q := 114) (d' := 5) (r := 0) (j := 0) (as := [haI (lwV V i 1), haI (lwV V i 2)]) (rest := []) hT hF (haEt hT (e := (78, 983, 114, 0, 101, [1076, 1077, 1078])) (k := 278) (pc := 983) (by decide) (by decide +kernel) rfl) rfl rfl rfl (by decide +kernel) (by decide +kernel) (lwSp hT (q := 114) (by decide) (c := avC114_0) (as := [haR 0 0, haI (lwV V i 1), haI (lwV V i 2)]) (show avC114_0 ∈ [avC114_0] from List.mem_cons_self) (Or.inr (by decide)) hJ0 (lwFitII ((lwV_b hSc h0 1).1) ((lwV_b hSc h0 1).2) ((lwV_b hSc h0 2).1) ((lwV_b hSc h0 2).2)) (haLe5 rfl) (show 3 ≤ (abMe 114).1.2.2.1 from by decide +kernel)) (by decide) rfl (show 2 = (abMe 114).2.1 from by decide +kernel) (show 0 + (abMe 114).1.2.2.1 ≤ 49 from by decide +kernel) (fun o1 mu1 hP1 => ?_)
  obtain ⟨⟨-, hA1⟩, hJ1⟩ := hP1
  obtain ⟨z1, rfl, w1, w1'⟩ := hA1 (by decide)
  show haW x mu1 986 (lwL i) [haI z1]
  refine ha_pop hF rfl (by decide +kernel) ?_
  refine ha_s (pc' := 988) (ls' := lwL i) (st' := [haR 51 860]) hF (haEt hT (e := (13, 987, 0, 2, 0, [])) (k := 278) (pc := 987) (by decide) (by decide +kernel) rfl) rfl (fun RG => avS13) (fun nx => rfl) ?_
  refine lw_ld (k := 1) hT hF hSc h0 h1 (by decide) (by decide +kernel) ?_
  refine lw_ld (k := 2) hT hF hSc h0 h1 (by decide) (by decide +kernel) ?_
  refine ha_callV (q := 236) (d' := 5) (r := 51) (j := 860) (as := [haI (lwV V i 1), haI (lwV V i 2)]) (rest := []) hT hF (haEt hT (e := (78, 998, 236, 0, 104, [1769, 1770, 1771])) (k := 278) (pc := 998) (by decide) (by decide +kernel) rfl) rfl rfl rfl (by decide +kernel) (by decide +kernel) (lwSp hT (q := 236) (by decide) (c := avC236_0) (as := [haR 51 860, haI (lwV V i 1), haI (lwV V i 2)]) (show avC236_0 ∈ [avC236_0] from List.mem_cons_self) (Or.inr (by decide)) hJ1 (lwFitII ((lwV_b hSc h0 1).1) ((lwV_b hSc h0 1).2) ((lwV_b hSc h0 2).1) ((lwV_b hSc h0 2).2)) (haLe5 rfl) (show 3 ≤ (abMe 236).1.2.2.1 from by decide +kernel)) (by decide) rfl (show 2 = (abMe 236).2.1 from by decide +kernel) (show 0 + (abMe 236).1.2.2.1 ≤ 49 from by decide +kernel) (fun o2 mu2 hP2 => ?_)
  obtain ⟨⟨-, hA2⟩, hJ2⟩ := hP2
  obtain ⟨z2, rfl, w2, w2'⟩ := hA2 (by decide)
  show haW x mu2 1001 (lwL i) [haI z2]
  refine ha_pop hF rfl (by decide +kernel) ?_
  refine ha_s (pc' := 1655) (ls' := lwL i) (st' := []) hF (haEt hT (e := (58, 1002, 1655, 0, 0, [])) (k := 278) (pc := 1002) (by decide) (by decide +kernel) rfl) rfl (fun RG => avS58) (fun nx => rfl) ?_
  exact fin _ (lwJr_le hJ2 (Nat.le_succ n))
theorem lw_c1005 (hT : abTabs) {x : haCx} {mu : haMu} {n L : Nat} {V : Int → Int} {i : Int} (hF : haF x 278 60) (hSc : lwS x V L) (h0 : 0 ≤ i) (h1 : i + 7 ≤ (L : Int)) (hn : n ≤ 8000) (fin : ∀ nu : haMu, lwJr (n + 1) nu → haW x nu 1655 (lwL i) []) (hJ0 : lwJr n mu) : haW x mu 1005 (lwL i) [] := by
  refine ha_s (pc' := 1006) (ls' := lwL i) (st' := [haR 0 0]) hF (haEt hT (e := (13, 1005, 0, 1, 0, [])) (k := 278) (pc := 1005) (by decide) (by decide +kernel) rfl) rfl (fun RG => avS13) (fun nx => rfl) ?_
  refine lw_ld (k := 1) hT hF hSc h0 h1 (by decide) (by decide +kernel) ?_
  refine lw_ld (k := 2) hT hF hSc h0 h1 (by decide) (by decide +kernel) ?_
  refine lw_ld (k := 3) hT hF hSc h0 h1 (by decide) (by decide +kernel) ?_
  refine ha_callV (q := 118) (d' := 2) (r := 0) (j := 0) (as := [haI (lwV V i 1), haI (lwV V i 2), haI (lwV V i 3)]) (rest := []) hT hF (haEt hT (e := (78, 1021, 118, 0, 105, [1095, 1096, 1097])) (k := 278) (pc := 1021) (by decide) (by decide +kernel) rfl) rfl rfl rfl (by decide +kernel) (by decide +kernel) (lwSp hT (q := 118) (by decide) (c := avC118_0) (as := [haR 0 0, haI (lwV V i 1), haI (lwV V i 2), haI (lwV V i 3)]) (show avC118_0 ∈ [avC118_0] from List.mem_cons_self) (Or.inr (by decide)) hJ0 (lwFitIII ((lwV_b hSc h0 1).1) ((lwV_b hSc h0 1).2) ((lwV_b hSc h0 2).1) ((lwV_b hSc h0 2).2) ((lwV_b hSc h0 3).1) ((lwV_b hSc h0 3).2)) (haLe5 rfl) (show 4 ≤ (abMe 118).1.2.2.1 from by decide +kernel)) (by decide) rfl (show 3 = (abMe 118).2.1 from by decide +kernel) (show 0 + (abMe 118).1.2.2.1 ≤ 49 from by decide +kernel) (fun o1 mu1 hP1 => ?_)
  obtain ⟨⟨-, hA1⟩, hJ1⟩ := hP1
  obtain ⟨z1, rfl, w1, w1'⟩ := hA1 (by decide)
  show haW x mu1 1024 (lwL i) [haI z1]
  refine ha_pop hF rfl (by decide +kernel) ?_
  refine ha_s (pc' := 1026) (ls' := lwL i) (st' := [haR 51 860]) hF (haEt hT (e := (13, 1025, 0, 2, 0, [])) (k := 278) (pc := 1025) (by decide) (by decide +kernel) rfl) rfl (fun RG => avS13) (fun nx => rfl) ?_
  refine lw_ld (k := 1) hT hF hSc h0 h1 (by decide) (by decide +kernel) ?_
  refine lw_ld (k := 2) hT hF hSc h0 h1 (by decide) (by decide +kernel) ?_
  refine lw_ld (k := 3) hT hF hSc h0 h1 (by decide) (by decide +kernel) ?_
  refine ha_callV (q := 241) (d' := 3) (r := 51) (j := 860) (as := [haI (lwV V i 1), haI (lwV V i 2), haI (lwV V i 3)]) (rest := []) hT hF (haEt hT (e := (78, 1041, 241, 0, 108, [1789, 1790, 1791])) (k := 278) (pc := 1041) (by decide) (by decide +kernel) rfl) rfl rfl rfl (by decide +kernel) (by decide +kernel) (lwSp hT (q := 241) (by decide) (c := avC241_0) (as := [haR 51 860, haI (lwV V i 1), haI (lwV V i 2), haI (lwV V i 3)]) (show avC241_0 ∈ [avC241_0] from List.mem_cons_self) (Or.inr (by decide)) hJ1 (lwFitIII ((lwV_b hSc h0 1).1) ((lwV_b hSc h0 1).2) ((lwV_b hSc h0 2).1) ((lwV_b hSc h0 2).2) ((lwV_b hSc h0 3).1) ((lwV_b hSc h0 3).2)) (haLe5 rfl) (show 4 ≤ (abMe 241).1.2.2.1 from by decide +kernel)) (by decide) rfl (show 3 = (abMe 241).2.1 from by decide +kernel) (show 0 + (abMe 241).1.2.2.1 ≤ 49 from by decide +kernel) (fun o2 mu2 hP2 => ?_)
  obtain ⟨⟨-, hA2⟩, hJ2⟩ := hP2
  obtain ⟨z2, rfl, w2, w2'⟩ := hA2 (by decide)
  show haW x mu2 1044 (lwL i) [haI z2]
  refine ha_pop hF rfl (by decide +kernel) ?_
  refine ha_s (pc' := 1655) (ls' := lwL i) (st' := []) hF (haEt hT (e := (58, 1045, 1655, 0, 0, [])) (k := 278) (pc := 1045) (by decide) (by decide +kernel) rfl) rfl (fun RG => avS58) (fun nx => rfl) ?_
  exact fin _ (lwJr_le hJ2 (Nat.le_succ n))
