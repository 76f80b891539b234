/-! THE LAW'S LOOP (printed by wip/gen/gen27g.py) -/
theorem lw_head (hT : abTabs) {x : haCx} {L : Nat} {V : Int → Int} (hF : haF x 278 60) (hSc : lwS x V L) {mu : haMu} {i : Int} (h0 : 0 ≤ i) (hi : i ≤ 4000) (fin : haW x mu 1662 (lwL i) [haI 1]) (h : i + 7 ≤ (L : Int) → haW x mu 27 (lwL i) []) : haW x mu 18 (lwL i) [] := by
    have hL := lwS_L hSc
    refine ha_s (pc' := 19) (ls' := lwL i) (st' := [haI i]) hF (haEt hT (e := (9, 18, 0, 3, 0, [])) (k := 278) (pc := 18) (by decide) (by decide +kernel) rfl) rfl (fun RG => avS9) (fun nx => rfl) ?_
    refine ha_s (pc' := 20) (ls' := lwL i) (st' := [lwSv, haI i]) hF (haEt hT (e := (13, 19, 0, 0, 0, [])) (k := 278) (pc := 19) (by decide) (by decide +kernel) rfl) rfl (fun RG => avS13) (fun nx => rfl) ?_
    refine ha_slen hF (haEt hT (e := (86, 20, 0, 0, 0, [])) (k := 278) (pc := 20) (by decide) (by decide +kernel) rfl) rfl rfl hSc ?_
    refine ha_s (pc' := 23) (ls' := lwL i) (st' := [haI 7, haI (L : Int), haI i]) hF (haEt hT (e := (2, 21, 0, 0, 9223372036854775815, [])) (k := 278) (pc := 21) (by decide) (by decide +kernel) rfl) rfl (fun RG => avS2) (fun nx => rfl) ?_
    refine ha_isub hF (haEt hT (e := (22, 23, 0, 0, 0, [])) (k := 278) (pc := 23) (by decide) (by decide +kernel) rfl) rfl rfl (by omega) (by omega) ?_
    refine ha_icgt (t := 1661) hF (haEt hT (e := (56, 24, 1661, 0, 0, [])) (k := 278) (pc := 24) (by decide) (by decide +kernel) rfl) rfl rfl rfl (fun q => ?_) (fun q => h (by omega))
    refine ha_s (pc' := 1662) (ls' := lwL i) (st' := [haI 1]) hF (haEt hT (e := (1, 1661, 0, 0, 9223372036854775809, [])) (k := 278) (pc := 1661) (by decide) (by decide +kernel) rfl) rfl (fun RG => avS1) (fun nx => rfl) ?_
    exact fin
theorem lw_body (hT : abTabs) {x : haCx} {L : Nat} {V : Int → Int} (hF : haF x 278 60) (hSc : lwS x V L) {mu : haMu} {n : Nat} {i : Int} (h0 : 0 ≤ i) (h1 : i + 7 ≤ (L : Int)) (hn : n ≤ 8000) (fin : ∀ nu : haMu, lwJr (n + 1) nu → haW x nu 1655 (lwL i) []) (hJ0 : lwJr n mu) : haW x mu 27 (lwL i) [] := by
    obtain ⟨y, ey⟩ := lwS_y hSc h0
    refine ha_s (pc' := 28) (ls' := lwL i) (st' := [lwSv]) hF (haEt hT (e := (13, 27, 0, 0, 0, [])) (k := 278) (pc := 27) (by decide) (by decide +kernel) rfl) rfl (fun RG => avS13) (fun nx => rfl) ?_
    refine ha_s (pc' := 29) (ls' := lwL i) (st' := [haI i, lwSv]) hF (haEt hT (e := (9, 28, 0, 3, 0, [])) (k := 278) (pc := 28) (by decide) (by decide +kernel) rfl) rfl (fun RG => avS9) (fun nx => rfl) ?_
    refine ha_sld hF (haEt hT (e := (87, 29, 0, 0, 0, [])) (k := 278) (pc := 29) (by decide) (by decide +kernel) rfl) rfl rfl hSc h0 (by omega) ?_
    refine ha_s (pc' := 32) (ls' := lwL i) (st' := [haI 63, haI (V i)]) hF (haEt hT (e := (2, 30, 0, 0, 9223372036854775871, [])) (k := 278) (pc := 30) (by decide) (by decide +kernel) rfl) rfl (fun RG => avS2) (fun nx => rfl) ?_
    refine ha_iandB (x1 := y) (y1 := 63) hF (haEt hT (e := (26, 32, 0, 0, 0, [])) (k := 278) (pc := 32) (by decide) (by decide +kernel) rfl) rfl rfl ey rfl ?_
    refine ha_tsw hF (haEt hT (e := (59, 33, 1655, 0, 9223372036854775808, [212, 275, 298, 311, 334, 409, 442, 465, 498, 521, 554, 577, 610, 633, 676, 735, 794, 843, 886, 929, 972, 1005, 1048, 1091, 1114, 1137, 1170, 1193, 1216, 1229, 1272, 1295, 1308, 1341, 1374, 1407, 1430, 1453, 1476, 1519, 1592])) (k := 278) (pc := 33) (by decide) (by decide +kernel) rfl) rfl rfl (fun _ => fin mu (lwJr_le hJ0 (Nat.le_succ n))) (fun j t hj _ => lw_call hT hF hSc h0 h1 hn fin hJ0 t (List.mem_of_getElem? hj))
theorem lw_loop (hT : abTabs) {x : haCx} {L : Nat} {V : Int → Int} (hF : haF x 278 60) (hSc : lwS x V L) (fin : ∀ (mu : haMu) (i : Int), haW x mu 1662 (lwL i) [haI 1]) : ∀ (m n : Nat) (mu : haMu), lwJr n mu → (L : Int) < 7 * (n : Int) + 7 * (m : Int) + 7 → 7 * (n : Int) ≤ (L : Int) → haW x mu 18 (lwL (7 * (n : Int))) []
  | 0, n, mu, hJ, hm, hn => by
    have hL := lwS_L hSc
    exact lw_head hT hF hSc (by omega) (by omega) (fin _ _) (fun q => by omega)
  | m + 1, n, mu, hJ, hm, hn => by
    have hL := lwS_L hSc
    refine lw_head hT hF hSc (by omega) (by omega) (fin _ _) (fun q => ?_)
    refine lw_body hT hF hSc (by omega) q (by omega) (fun nu hJ1 => ?_) hJ
    refine ha_iinc (i := 3) (c := 7) hF (haEt hT (e := (20, 1655, 0, 3, 9223372036854775815, [])) (k := 278) (pc := 1655) (by decide) (by decide +kernel) rfl) rfl rfl rfl rfl rfl (by omega) (by omega) ?_
    show haW x nu 1658 (lwL (7 * (n : Int) + 7)) []
    refine ha_s (pc' := 18) (ls' := lwL (7 * (n : Int) + 7)) (st' := []) hF (haEt hT (e := (58, 1658, 18, 0, 0, [])) (k := 278) (pc := 1658) (by decide) (by decide +kernel) rfl) rfl (fun RG => avS58) (fun nx => rfl) ?_
    rw [show 7 * (n : Int) + 7 = 7 * ((n + 1 : Nat) : Int) by omega]
    exact lw_loop hT hF hSc fin m (n + 1) nu hJ1 (by omega) (by omega)
