/-! ROWS AND KEPT FLAGS (printed by wip/gen/hand_jp.py) -/
def lwRc (s : Int) : Nat := if s = 0 then 807 else if s = 1 then 809 else if s = 2 then 811 else 813
theorem lwRcA {s : Int} (h : 0 ≤ s ∧ s ≤ 3) : (s = 0 ∧ lwRc s = 807) ∨ (s = 1 ∧ lwRc s = 809) ∨ (s = 2 ∧ lwRc s = 811) ∨ (s = 3 ∧ lwRc s = 813) := by
  rcases (show s = 0 ∨ s = 1 ∨ s = 2 ∨ s = 3 by omega) with e | e | e | e <;> subst e <;> decide
theorem lwRcS {s : Int} (h : 0 ≤ s ∧ s ≤ 3) : (avRT.get 49).2.2.get s.toNat = (2, ((34 : Nat) : Int), ((lwRc s : Nat) : Int)) := by
  rcases (show s = 0 ∨ s = 1 ∨ s = 2 ∨ s = 3 by omega) with e | e | e | e <;> subst e <;> rfl
theorem lwRcG {s : Int} (h : 0 ≤ s ∧ s ≤ 3) : avRG0 (lwRc s) = 34 ∧ lwRc s < 887 := by
  rcases lwRcA h with ⟨-, e⟩ | ⟨-, e⟩ | ⟨-, e⟩ | ⟨-, e⟩ <;> rw [e] <;> exact ⟨by decide +kernel, by decide⟩
theorem haGd_row {j : Nat} {i : Int} (hj : avRG0 j = 34) (hi : 0 ≤ i) : haGd j i := haGd_r (r := 34) hi hj (by decide) (by decide +kernel)
theorem haGd_kept {i : Int} (h : 0 ≤ i) : haGd 805 i := haGd_r (r := 48) h (by decide +kernel) (by decide) (by decide +kernel)
theorem haGd_many {i : Int} (h : 0 ≤ i) : haGd 883 i := haGd_r (r := 63) h (by decide +kernel) (by decide) (by decide +kernel)
theorem haGd_width {i : Int} (h : 0 ≤ i) : haGd 884 i := haGd_r (r := 76) h (by decide +kernel) (by decide) (by decide +kernel)
theorem hm_isSlotC (hT : abTabs) {d : Nat} {s : Int} {mu : haMu} : haSp 58 d [haI (s)] mu (fun o mu' => ∃ z : Int, o = some (haI z) ∧ mu' = mu ∧ ((z = 1 ∧ 0 ≤ s ∧ s ≤ 3) ∨ (z = 0 ∧ ¬ (0 ≤ s ∧ s ≤ 3)))) := by
  refine haMet (by decide) (hT.1 58 (by decide)) (haLe5 rfl) (show 1 ≤ (abMe 58).1.2.2.1 from by decide +kernel) (fun x hF hR => ?_)
  refine ha_s (pc' := 1) (ls' := [haI (s)]) (st' := [haI (s)]) hF (haEt hT (e := (9, 0, 0, 0, 0, [])) (k := 58) (pc := 0) (by decide) (by decide +kernel) rfl) rfl (fun RG => avS9) (fun nx => rfl) ?_
  refine ha_iflt hF (haEt hT (e := (48, 1, 13, 0, 0, [])) (k := 58) (pc := 1) (by decide) (by decide +kernel) rfl) rfl rfl rfl (fun q1 => ?_) (fun q1 => ?_)
  · refine ha_s (pc' := 14) (ls' := [haI (s)]) (st' := [haI (0)]) hF (haEt hT (e := (1, 13, 0, 0, 9223372036854775808, [])) (k := 58) (pc := 13) (by decide) (by decide +kernel) rfl) rfl (fun RG => avS1) (fun nx => rfl) ?_
    exact hR 14 _ _ _ _ (83, 14, 1, 0, 0, []) (haEt hT (e := (83, 14, 1, 0, 0, [])) (k := 58) (pc := 14) (by decide) (by decide +kernel) rfl) rfl (Or.inr (Or.inr ⟨rfl, _, rfl, rfl, rfl, fun _ => ⟨haGe (by omega), haGe (s := haS0) (z := 1 - (0)) (by omega)⟩⟩)) ⟨_, rfl, rfl, by omega⟩
  · refine ha_s (pc' := 5) (ls' := [haI (s)]) (st' := [haI (s)]) hF (haEt hT (e := (9, 4, 0, 0, 0, [])) (k := 58) (pc := 4) (by decide) (by decide +kernel) rfl) rfl (fun RG => avS9) (fun nx => rfl) ?_
    refine ha_s (pc' := 6) (ls' := [haI (s)]) (st' := [haI (4), haI (s)]) hF (haEt hT (e := (1, 5, 0, 0, 9223372036854775812, [])) (k := 58) (pc := 5) (by decide) (by decide +kernel) rfl) rfl (fun RG => avS1) (fun nx => rfl) ?_
    refine ha_icge hF (haEt hT (e := (55, 6, 13, 0, 0, [])) (k := 58) (pc := 6) (by decide) (by decide +kernel) rfl) rfl rfl rfl (fun q2 => ?_) (fun q2 => ?_)
    · refine ha_s (pc' := 14) (ls' := [haI (s)]) (st' := [haI (0)]) hF (haEt hT (e := (1, 13, 0, 0, 9223372036854775808, [])) (k := 58) (pc := 13) (by decide) (by decide +kernel) rfl) rfl (fun RG => avS1) (fun nx => rfl) ?_
      exact hR 14 _ _ _ _ (83, 14, 1, 0, 0, []) (haEt hT (e := (83, 14, 1, 0, 0, [])) (k := 58) (pc := 14) (by decide) (by decide +kernel) rfl) rfl (Or.inr (Or.inr ⟨rfl, _, rfl, rfl, rfl, fun _ => ⟨haGe (by omega), haGe (s := haS0) (z := 1 - (0)) (by omega)⟩⟩)) ⟨_, rfl, rfl, by omega⟩
    · refine ha_s (pc' := 10) (ls' := [haI (s)]) (st' := [haI (1)]) hF (haEt hT (e := (1, 9, 0, 0, 9223372036854775809, [])) (k := 58) (pc := 9) (by decide) (by decide +kernel) rfl) rfl (fun RG => avS1) (fun nx => rfl) ?_
      refine ha_s (pc' := 14) (ls' := [haI (s)]) (st' := [haI (1)]) hF (haEt hT (e := (58, 10, 14, 0, 0, [])) (k := 58) (pc := 10) (by decide) (by decide +kernel) rfl) rfl (fun RG => avS58) (fun nx => rfl) ?_
      exact hR 14 _ _ _ _ (83, 14, 1, 0, 0, []) (haEt hT (e := (83, 14, 1, 0, 0, [])) (k := 58) (pc := 14) (by decide) (by decide +kernel) rfl) rfl (Or.inr (Or.inr ⟨rfl, _, rfl, rfl, rfl, fun _ => ⟨haGe (by omega), haGe (s := haS0) (z := 1 - (1)) (by omega)⟩⟩)) ⟨_, rfl, rfl, by omega⟩
theorem hm_isSlotX (hT : abTabs) {d : Nat} {s : Int} {mu : haMu} : haSp 206 (d + 1) [haI (s)] mu (fun o mu' => ∃ z : Int, o = some (haI z) ∧ mu' = mu ∧ ((z = 1 ∧ 0 ≤ s ∧ s ≤ 3) ∨ (z = 0 ∧ ¬ (0 ≤ s ∧ s ≤ 3)))) := by
  refine haMet (by decide) (hT.1 206 (by decide)) (haLe5 rfl) (show 1 ≤ (abMe 206).1.2.2.1 from by decide +kernel) (fun x hF hR => ?_)
  refine ha_s (pc' := 1) (ls' := [haI (s)]) (st' := [haI (s)]) hF (haEt hT (e := (9, 0, 0, 0, 0, [])) (k := 206) (pc := 0) (by decide) (by decide +kernel) rfl) rfl (fun RG => avS9) (fun nx => rfl) ?_
  refine ha_s (pc' := 2) (ls' := [haI (s)]) (st' := [haL (s)]) hF (haEt hT (e := (40, 1, 0, 0, 0, [])) (k := 206) (pc := 1) (by decide) (by decide +kernel) rfl) rfl (fun RG => avS40) (fun nx => rfl) ?_
  refine ha_s (pc' := 3) (ls' := [haI (s)]) (st' := [haL (0), haL (s)]) hF (haEt hT (e := (6, 2, 0, 0, 9223372036854775808, [])) (k := 206) (pc := 2) (by decide) (by decide +kernel) rfl) rfl (fun RG => avS6) (fun nx => rfl) ?_
  refine ha_s (pc' := 6) (ls' := [haI (s)]) (st' := [haL (3), haL (0), haL (s)]) hF (haEt hT (e := (7, 3, 230, 0, 9223372036854775811, [1563])) (k := 206) (pc := 3) (by decide) (by decide +kernel) rfl) rfl (fun RG => avS7) (fun nx => rfl) ?_
  refine ha_callS (q := 176) (d' := d) (as := [haL (s), haL (0), haL (3)]) (rest := []) hT hF (haEt hT (e := (79, 6, 176, 0, 118, [1472, 1473])) (k := 206) (pc := 6) (by decide) (by decide +kernel) rfl) rfl rfl rfl (by decide +kernel) (hm_in hT) (by omega) rfl (show 3 = (abMe 176).2.1 from by decide +kernel) (show 0 + (abMe 176).1.2.2.1 ≤ 49 from by decide +kernel) (fun o1 ku1 h1 => ?_)
  obtain ⟨y1, rfl, e1, hy1⟩ := h1
  rw [e1]
  show haW x _ 9 [haI (s)] [haI (y1)]
  exact hR 9 _ _ _ _ (83, 9, 1, 0, 0, []) (haEt hT (e := (83, 9, 1, 0, 0, [])) (k := 206) (pc := 9) (by decide) (by decide +kernel) rfl) rfl (Or.inr (Or.inr ⟨rfl, _, rfl, rfl, rfl, fun _ => ⟨haGe (by omega), haGe (s := haS0) (z := 1 - (y1)) (by omega)⟩⟩)) ⟨_, rfl, rfl, by omega⟩
theorem hm_isThere (hT : abTabs) {d : Nat} {j : Nat} {mu : haMu} : haSp 59 d [haR 34 j] mu (fun o mu' => ∃ z : Int, o = some (haI z) ∧ mu' = mu ∧ ((z = 1 ∧ ¬ mu j 1 = -1) ∨ (z = 0 ∧ mu j 1 = -1))) := by
  refine haMet (by decide) (hT.1 59 (by decide)) (haLe5 rfl) (show 1 ≤ (abMe 59).1.2.2.1 from by decide +kernel) (fun x hF hR => ?_)
  refine ha_s (pc' := 1) (ls' := [haR 34 j]) (st' := [haR 34 j]) hF (haEt hT (e := (13, 0, 0, 0, 0, [])) (k := 59) (pc := 0) (by decide) (by decide +kernel) rfl) rfl (fun RG => avS13) (fun nx => rfl) ?_
  refine ha_getI (r := 34) (j := j) (i := 1) (lo := -1) (up := 60) hF (haEt hT (e := (60, 1, 9, 1, 9, [443])) (k := 59) (pc := 1) (by decide) (by decide +kernel) rfl) rfl rfl rfl (by decide +kernel) (by decide) (by decide +kernel) (by rfl) ?_
  show haW _ _ 4 [haR 34 j] [haI (mu j 1)]
  refine ha_s (pc' := 5) (ls' := [haR 34 j]) (st' := [haI (-1), haI (mu j 1)]) hF (haEt hT (e := (1, 4, 0, 0, 9223372036854775807, [])) (k := 59) (pc := 4) (by decide) (by decide +kernel) rfl) rfl (fun RG => avS1) (fun nx => rfl) ?_
  refine ha_iceq hF (haEt hT (e := (52, 5, 12, 0, 0, [])) (k := 59) (pc := 5) (by decide) (by decide +kernel) rfl) rfl rfl rfl (fun q1 => ?_) (fun q1 => ?_)
  · refine ha_s (pc' := 13) (ls' := [haR 34 j]) (st' := [haI (0)]) hF (haEt hT (e := (1, 12, 0, 0, 9223372036854775808, [])) (k := 59) (pc := 12) (by decide) (by decide +kernel) rfl) rfl (fun RG => avS1) (fun nx => rfl) ?_
    exact hR 13 _ _ _ _ (83, 13, 1, 0, 0, []) (haEt hT (e := (83, 13, 1, 0, 0, [])) (k := 59) (pc := 13) (by decide) (by decide +kernel) rfl) rfl (Or.inr (Or.inr ⟨rfl, _, rfl, rfl, rfl, fun _ => ⟨haGe (by omega), haGe (s := haS0) (z := 1 - (0)) (by omega)⟩⟩)) ⟨_, rfl, rfl, by omega⟩
  · refine ha_s (pc' := 9) (ls' := [haR 34 j]) (st' := [haI (1)]) hF (haEt hT (e := (1, 8, 0, 0, 9223372036854775809, [])) (k := 59) (pc := 8) (by decide) (by decide +kernel) rfl) rfl (fun RG => avS1) (fun nx => rfl) ?_
    refine ha_s (pc' := 13) (ls' := [haR 34 j]) (st' := [haI (1)]) hF (haEt hT (e := (58, 9, 13, 0, 0, [])) (k := 59) (pc := 9) (by decide) (by decide +kernel) rfl) rfl (fun RG => avS58) (fun nx => rfl) ?_
    exact hR 13 _ _ _ _ (83, 13, 1, 0, 0, []) (haEt hT (e := (83, 13, 1, 0, 0, [])) (k := 59) (pc := 13) (by decide) (by decide +kernel) rfl) rfl (Or.inr (Or.inr ⟨rfl, _, rfl, rfl, rfl, fun _ => ⟨haGe (by omega), haGe (s := haS0) (z := 1 - (1)) (by omega)⟩⟩)) ⟨_, rfl, rfl, by omega⟩
theorem hm_length (hT : abTabs) {d : Nat} {j : Nat} {mu : haMu} : haSp 60 d [haR 34 j] mu (fun o mu' => ∃ z : Int, o = some (haI z) ∧ mu' = mu ∧ z = mu j 1) := by
  refine haMet (by decide) (hT.1 60 (by decide)) (haLe5 rfl) (show 1 ≤ (abMe 60).1.2.2.1 from by decide +kernel) (fun x hF hR => ?_)
  refine ha_s (pc' := 1) (ls' := [haR 34 j]) (st' := [haR 34 j]) hF (haEt hT (e := (13, 0, 0, 0, 0, [])) (k := 60) (pc := 0) (by decide) (by decide +kernel) rfl) rfl (fun RG => avS13) (fun nx => rfl) ?_
  refine ha_getI (r := 34) (j := j) (i := 1) (lo := -1) (up := 60) hF (haEt hT (e := (60, 1, 9, 1, 9, [443])) (k := 60) (pc := 1) (by decide) (by decide +kernel) rfl) rfl rfl rfl (by decide +kernel) (by decide) (by decide +kernel) (by rfl) ?_
  show haW _ _ 4 [haR 34 j] [haI (mu j 1)]
  exact hR 4 _ _ _ _ (83, 4, 0, 0, 0, []) (haEt hT (e := (83, 4, 0, 0, 0, [])) (k := 60) (pc := 4) (by decide) (by decide +kernel) rfl) rfl (Or.inr (Or.inr ⟨rfl, _, rfl, rfl, rfl, fun h => by cases h⟩)) ⟨_, rfl, rfl, rfl⟩
theorem hm_hasSpan (hT : abTabs) {d : Nat} {j : Nat} {i n : Int} {mu : haMu} (hj : avRG0 j = 34) (hj2 : j < 887) : haSp 170 d [haR 34 j, haI (i), haI (n)] mu (fun o mu' => ∃ z : Int, o = some (haI z) ∧ mu' = mu ∧ ((z = 1 ∧ 0 ≤ i ∧ 0 ≤ n ∧ i ≤ mu j 1 ∧ n ≤ mu j 1 - i) ∨ (z = 0 ∧ ¬ (0 ≤ i ∧ 0 ≤ n ∧ i ≤ mu j 1 ∧ n ≤ mu j 1 - i)))) := by
  refine haMet (by decide) (hT.1 170 (by decide)) (haLe5 rfl) (show 3 ≤ (abMe 170).1.2.2.1 from by decide +kernel) (fun x hF hR => ?_)
  refine ha_bdF (j := j) (r := 34) (i := 1) (lo := -1) (up := 60) hF hj2 hj (by decide +kernel) (by decide +kernel) (by rfl) (fun b1 b2 => ?_)
  have b1 : -1 ≤ mu j 1 := b1
  have b2 : mu j 1 ≤ 60 := b2
  refine ha_s (pc' := 1) (ls' := [haR 34 j, haI (i), haI (n)]) (st' := [haI (i)]) hF (haEt hT (e := (9, 0, 0, 1, 0, [])) (k := 170) (pc := 0) (by decide) (by decide +kernel) rfl) rfl (fun RG => avS9) (fun nx => rfl) ?_
  refine ha_iflt hF (haEt hT (e := (48, 1, 30, 0, 0, [])) (k := 170) (pc := 1) (by decide) (by decide +kernel) rfl) rfl rfl rfl (fun q1 => ?_) (fun q1 => ?_)
  · refine ha_s (pc' := 31) (ls' := [haR 34 j, haI (i), haI (n)]) (st' := [haI (0)]) hF (haEt hT (e := (1, 30, 0, 0, 9223372036854775808, [])) (k := 170) (pc := 30) (by decide) (by decide +kernel) rfl) rfl (fun RG => avS1) (fun nx => rfl) ?_
    exact hR 31 _ _ _ _ (83, 31, 1, 0, 0, []) (haEt hT (e := (83, 31, 1, 0, 0, [])) (k := 170) (pc := 31) (by decide) (by decide +kernel) rfl) rfl (Or.inr (Or.inr ⟨rfl, _, rfl, rfl, rfl, fun _ => ⟨haGe (by omega), haGe (s := haS0) (z := 1 - (0)) (by omega)⟩⟩)) ⟨_, rfl, rfl, by omega⟩
  · refine ha_s (pc' := 5) (ls' := [haR 34 j, haI (i), haI (n)]) (st' := [haI (n)]) hF (haEt hT (e := (9, 4, 0, 2, 0, [])) (k := 170) (pc := 4) (by decide) (by decide +kernel) rfl) rfl (fun RG => avS9) (fun nx => rfl) ?_
    refine ha_iflt hF (haEt hT (e := (48, 5, 30, 0, 0, [])) (k := 170) (pc := 5) (by decide) (by decide +kernel) rfl) rfl rfl rfl (fun q2 => ?_) (fun q2 => ?_)
    · refine ha_s (pc' := 31) (ls' := [haR 34 j, haI (i), haI (n)]) (st' := [haI (0)]) hF (haEt hT (e := (1, 30, 0, 0, 9223372036854775808, [])) (k := 170) (pc := 30) (by decide) (by decide +kernel) rfl) rfl (fun RG => avS1) (fun nx => rfl) ?_
      exact hR 31 _ _ _ _ (83, 31, 1, 0, 0, []) (haEt hT (e := (83, 31, 1, 0, 0, [])) (k := 170) (pc := 31) (by decide) (by decide +kernel) rfl) rfl (Or.inr (Or.inr ⟨rfl, _, rfl, rfl, rfl, fun _ => ⟨haGe (by omega), haGe (s := haS0) (z := 1 - (0)) (by omega)⟩⟩)) ⟨_, rfl, rfl, by omega⟩
    · refine ha_s (pc' := 9) (ls' := [haR 34 j, haI (i), haI (n)]) (st' := [haI (i)]) hF (haEt hT (e := (9, 8, 0, 1, 0, [])) (k := 170) (pc := 8) (by decide) (by decide +kernel) rfl) rfl (fun RG => avS9) (fun nx => rfl) ?_
      refine ha_s (pc' := 10) (ls' := [haR 34 j, haI (i), haI (n)]) (st' := [haR 34 j, haI (i)]) hF (haEt hT (e := (13, 9, 0, 0, 0, [])) (k := 170) (pc := 9) (by decide) (by decide +kernel) rfl) rfl (fun RG => avS13) (fun nx => rfl) ?_
      refine ha_getI (r := 34) (j := j) (i := 1) (lo := -1) (up := 60) hF (haEt hT (e := (60, 10, 9, 1, 9, [443])) (k := 170) (pc := 10) (by decide) (by decide +kernel) rfl) rfl rfl rfl (by decide +kernel) (by decide) (by decide +kernel) (by rfl) ?_
      show haW _ _ 13 [haR 34 j, haI (i), haI (n)] [haI (mu j 1), haI (i)]
      refine ha_icgt hF (haEt hT (e := (56, 13, 30, 0, 0, [])) (k := 170) (pc := 13) (by decide) (by decide +kernel) rfl) rfl rfl rfl (fun q3 => ?_) (fun q3 => ?_)
      · refine ha_s (pc' := 31) (ls' := [haR 34 j, haI (i), haI (n)]) (st' := [haI (0)]) hF (haEt hT (e := (1, 30, 0, 0, 9223372036854775808, [])) (k := 170) (pc := 30) (by decide) (by decide +kernel) rfl) rfl (fun RG => avS1) (fun nx => rfl) ?_
        exact hR 31 _ _ _ _ (83, 31, 1, 0, 0, []) (haEt hT (e := (83, 31, 1, 0, 0, [])) (k := 170) (pc := 31) (by decide) (by decide +kernel) rfl) rfl (Or.inr (Or.inr ⟨rfl, _, rfl, rfl, rfl, fun _ => ⟨haGe (by omega), haGe (s := haS0) (z := 1 - (0)) (by omega)⟩⟩)) ⟨_, rfl, rfl, by omega⟩
      · refine ha_s (pc' := 17) (ls' := [haR 34 j, haI (i), haI (n)]) (st' := [haI (n)]) hF (haEt hT (e := (9, 16, 0, 2, 0, [])) (k := 170) (pc := 16) (by decide) (by decide +kernel) rfl) rfl (fun RG => avS9) (fun nx => rfl) ?_
        refine ha_s (pc' := 18) (ls' := [haR 34 j, haI (i), haI (n)]) (st' := [haR 34 j, haI (n)]) hF (haEt hT (e := (13, 17, 0, 0, 0, [])) (k := 170) (pc := 17) (by decide) (by decide +kernel) rfl) rfl (fun RG => avS13) (fun nx => rfl) ?_
        refine ha_getI (r := 34) (j := j) (i := 1) (lo := -1) (up := 60) hF (haEt hT (e := (60, 18, 9, 1, 9, [443])) (k := 170) (pc := 18) (by decide) (by decide +kernel) rfl) rfl rfl rfl (by decide +kernel) (by decide) (by decide +kernel) (by rfl) ?_
        show haW _ _ 21 [haR 34 j, haI (i), haI (n)] [haI (mu j 1), haI (n)]
        refine ha_s (pc' := 22) (ls' := [haR 34 j, haI (i), haI (n)]) (st' := [haI (i), haI (mu j 1), haI (n)]) hF (haEt hT (e := (9, 21, 0, 1, 0, [])) (k := 170) (pc := 21) (by decide) (by decide +kernel) rfl) rfl (fun RG => avS9) (fun nx => rfl) ?_
        refine ha_isub hF (haEt hT (e := (22, 22, 0, 0, 0, [])) (k := 170) (pc := 22) (by decide) (by decide +kernel) rfl) rfl rfl (by omega) (by omega) ?_
        refine ha_icgt hF (haEt hT (e := (56, 23, 30, 0, 0, [])) (k := 170) (pc := 23) (by decide) (by decide +kernel) rfl) rfl rfl rfl (fun q4 => ?_) (fun q4 => ?_)
        · refine ha_s (pc' := 31) (ls' := [haR 34 j, haI (i), haI (n)]) (st' := [haI (0)]) hF (haEt hT (e := (1, 30, 0, 0, 9223372036854775808, [])) (k := 170) (pc := 30) (by decide) (by decide +kernel) rfl) rfl (fun RG => avS1) (fun nx => rfl) ?_
          exact hR 31 _ _ _ _ (83, 31, 1, 0, 0, []) (haEt hT (e := (83, 31, 1, 0, 0, [])) (k := 170) (pc := 31) (by decide) (by decide +kernel) rfl) rfl (Or.inr (Or.inr ⟨rfl, _, rfl, rfl, rfl, fun _ => ⟨haGe (by omega), haGe (s := haS0) (z := 1 - (0)) (by omega)⟩⟩)) ⟨_, rfl, rfl, by omega⟩
        · refine ha_s (pc' := 27) (ls' := [haR 34 j, haI (i), haI (n)]) (st' := [haI (1)]) hF (haEt hT (e := (1, 26, 0, 0, 9223372036854775809, [])) (k := 170) (pc := 26) (by decide) (by decide +kernel) rfl) rfl (fun RG => avS1) (fun nx => rfl) ?_
          refine ha_s (pc' := 31) (ls' := [haR 34 j, haI (i), haI (n)]) (st' := [haI (1)]) hF (haEt hT (e := (58, 27, 31, 0, 0, [])) (k := 170) (pc := 27) (by decide) (by decide +kernel) rfl) rfl (fun RG => avS58) (fun nx => rfl) ?_
          exact hR 31 _ _ _ _ (83, 31, 1, 0, 0, []) (haEt hT (e := (83, 31, 1, 0, 0, [])) (k := 170) (pc := 31) (by decide) (by decide +kernel) rfl) rfl (Or.inr (Or.inr ⟨rfl, _, rfl, rfl, rfl, fun _ => ⟨haGe (by omega), haGe (s := haS0) (z := 1 - (1)) (by omega)⟩⟩)) ⟨_, rfl, rfl, by omega⟩
theorem hm_begin (hT : abTabs) {d j : Nat} {w n : Int} {mu : haMu} (hj : avRG0 j = 34) (hw : 0 ≤ w ∧ w ≤ 3) (hn : -1 ≤ n ∧ n ≤ 60) : haSp 166 d [haR 34 j, haI w, haI n] mu (fun o mu' => o = none ∧ mu' j 0 = w ∧ mu' j 1 = n ∧ ∀ (j' : Nat) (i : Int), haGd j' i → ¬ (j' = j ∧ i = 0) → ¬ (j' = j ∧ i = 1) → mu' j' i = mu j' i) := by
  refine haMet (by decide) (hT.1 166 (by decide)) (haLe5 rfl) (show 3 ≤ (abMe 166).1.2.2.1 from by decide +kernel) (fun x hF hR => ?_)
  have loop : ∀ (nn : Nat) (i : Int) (nu : haMu), (nn : Int) = 60 - i → 0 ≤ i → haFm (haUp (haUp mu j 0 w) j 1 n) nu → haW x nu 12 [haR 34 j, haI (w), haI (n), haI (i)] [] := by
    intro nn
    induction nn with
    | zero =>
      intro i nu h1 h0 f1
      refine ha_s (pc' := 13) (ls' := [haR 34 j, haI (w), haI (n), haI (i)]) (st' := [haI (i)]) hF (haEt hT (e := (9, 12, 0, 3, 0, [])) (k := 166) (pc := 12) (by decide) (by decide +kernel) rfl) rfl (fun RG => avS9) (fun nx => rfl) ?_
      refine ha_s (pc' := 15) (ls' := [haR 34 j, haI (w), haI (n), haI (i)]) (st' := [haI (60), haI (i)]) hF (haEt hT (e := (2, 13, 0, 0, 9223372036854775868, [])) (k := 166) (pc := 13) (by decide) (by decide +kernel) rfl) rfl (fun RG => avS2) (fun nx => rfl) ?_
      refine ha_icge hF (haEt hT (e := (55, 15, 31, 0, 0, [])) (k := 166) (pc := 15) (by decide) (by decide +kernel) rfl) rfl rfl rfl (fun _ => ?_) (fun q => by omega)
      exact hR 31 _ _ _ _ (82, 31, 0, 0, 0, []) (haEt hT (e := (82, 31, 0, 0, 0, [])) (k := 166) (pc := 31) (by decide) (by decide +kernel) rfl) rfl (Or.inl ⟨rfl, rfl, rfl⟩) ⟨rfl, by rw [f1 j 0 (haGd_row hj (by omega)), haUp_n (fun z => absurd z.2 (by decide)), haUp_s], by rw [f1 j 1 (haGd_row hj (by omega)), haUp_s], fun j' i' hg a1 a2 => by rw [f1 j' i' hg, haUp_n a2, haUp_n a1]⟩
    | succ nn ih =>
      intro i nu h1 h0 f1
      refine ha_s (pc' := 13) (ls' := [haR 34 j, haI (w), haI (n), haI (i)]) (st' := [haI (i)]) hF (haEt hT (e := (9, 12, 0, 3, 0, [])) (k := 166) (pc := 12) (by decide) (by decide +kernel) rfl) rfl (fun RG => avS9) (fun nx => rfl) ?_
      refine ha_s (pc' := 15) (ls' := [haR 34 j, haI (w), haI (n), haI (i)]) (st' := [haI (60), haI (i)]) hF (haEt hT (e := (2, 13, 0, 0, 9223372036854775868, [])) (k := 166) (pc := 13) (by decide) (by decide +kernel) rfl) rfl (fun RG => avS2) (fun nx => rfl) ?_
      refine ha_icge hF (haEt hT (e := (55, 15, 31, 0, 0, [])) (k := 166) (pc := 15) (by decide) (by decide +kernel) rfl) rfl rfl rfl (fun q => by omega) (fun q => ?_)
      refine ha_s (pc' := 19) (ls' := [haR 34 j, haI (w), haI (n), haI (i)]) (st' := [haR 34 j]) hF (haEt hT (e := (13, 18, 0, 0, 0, [])) (k := 166) (pc := 18) (by decide) (by decide +kernel) rfl) rfl (fun RG => avS13) (fun nx => rfl) ?_
      refine ha_getRv (r := 34) (j := j) (i := 2) (r' := 35) hF (haEt hT (e := (60, 19, 9, 2, 15, [444])) (k := 166) (pc := 19) (by decide) (by decide +kernel) rfl) rfl rfl rfl (by decide +kernel) (by decide) (by decide +kernel) (by rfl) (fun jn hjn => ?_)
      refine ha_s (pc' := 23) (ls' := [haR 34 j, haI (w), haI (n), haI (i)]) (st' := [haI (i), haR 35 jn]) hF (haEt hT (e := (9, 22, 0, 3, 0, [])) (k := 166) (pc := 22) (by decide) (by decide +kernel) rfl) rfl (fun RG => avS9) (fun nx => rfl) ?_
      refine ha_s (pc' := 24) (ls' := [haR 34 j, haI (w), haI (n), haI (i)]) (st' := [haL (0), haI (i), haR 35 jn]) hF (haEt hT (e := (6, 23, 0, 0, 9223372036854775808, [])) (k := 166) (pc := 23) (by decide) (by decide +kernel) rfl) rfl (fun RG => avS6) (fun nx => rfl) ?_
      refine ha_last (r := 35) (lo := -9223372036854775808) (up := 9223372036854775807) hF (haEt hT (e := (71, 24, 0, 0, 0, [])) (k := 166) (pc := 24) (by decide) (by decide +kernel) rfl) rfl rfl (by decide +kernel) h0 (by show _ < (60 : Int); omega) (by rfl) (by omega) (by omega) (fun hg => ?_)
      refine ha_iinc (i := 3) (c := 1) hF (haEt hT (e := (20, 25, 0, 3, 9223372036854775809, [])) (k := 166) (pc := 25) (by decide) (by decide +kernel) rfl) rfl rfl rfl rfl rfl (by omega) (by omega) ?_
      show haW _ _ 28 [haR 34 j, haI (w), haI (n), haI (i + 1)] []
      refine ha_s (pc' := 12) (ls' := [haR 34 j, haI (w), haI (n), haI (i + 1)]) (st' := []) hF (haEt hT (e := (58, 28, 12, 0, 0, [])) (k := 166) (pc := 28) (by decide) (by decide +kernel) rfl) rfl (fun RG => avS58) (fun nx => rfl) ?_
      exact ih (i + 1) _ (by omega) (by omega) (haFm_up f1 (by rw [hg]; decide))
  refine ha_s (pc' := 1) (ls' := [haR 34 j, haI (w), haI (n), avJ]) (st' := [haR 34 j]) hF (haEt hT (e := (13, 0, 0, 0, 0, [])) (k := 166) (pc := 0) (by decide) (by decide +kernel) rfl) rfl (fun RG => avS13) (fun nx => rfl) ?_
  refine ha_s (pc' := 2) (ls' := [haR 34 j, haI (w), haI (n), avJ]) (st' := [haI (w), haR 34 j]) hF (haEt hT (e := (9, 1, 0, 1, 0, [])) (k := 166) (pc := 1) (by decide) (by decide +kernel) rfl) rfl (fun RG => avS9) (fun nx => rfl) ?_
  refine ha_putI (r := 34) (j := j) (i := 0) (lo := 0) (up := 3) hF (haEt hT (e := (61, 2, 9, 0, 19, [441])) (k := 166) (pc := 2) (by decide) (by decide +kernel) rfl) rfl rfl rfl (by decide +kernel) (by decide +kernel) (fun q hq => by cases hq; rfl) (by rfl) hw.1 hw.2 ?_
  refine ha_s (pc' := 6) (ls' := [haR 34 j, haI (w), haI (n), avJ]) (st' := [haR 34 j]) hF (haEt hT (e := (13, 5, 0, 0, 0, [])) (k := 166) (pc := 5) (by decide) (by decide +kernel) rfl) rfl (fun RG => avS13) (fun nx => rfl) ?_
  refine ha_s (pc' := 7) (ls' := [haR 34 j, haI (w), haI (n), avJ]) (st' := [haI (n), haR 34 j]) hF (haEt hT (e := (9, 6, 0, 2, 0, [])) (k := 166) (pc := 6) (by decide) (by decide +kernel) rfl) rfl (fun RG => avS9) (fun nx => rfl) ?_
  refine ha_putI (r := 34) (j := j) (i := 1) (lo := -1) (up := 60) hF (haEt hT (e := (61, 7, 9, 1, 9, [443])) (k := 166) (pc := 7) (by decide) (by decide +kernel) rfl) rfl rfl rfl (by decide +kernel) (by decide +kernel) (fun q hq => by cases hq; rfl) (by rfl) hn.1 hn.2 ?_
  refine ha_s (pc' := 11) (ls' := [haR 34 j, haI (w), haI (n), avJ]) (st' := [haI (0)]) hF (haEt hT (e := (1, 10, 0, 0, 9223372036854775808, [])) (k := 166) (pc := 10) (by decide) (by decide +kernel) rfl) rfl (fun RG => avS1) (fun nx => rfl) ?_
  refine ha_s (pc' := 12) (ls' := [haR 34 j, haI (w), haI (n), haI (0)]) (st' := []) hF (haEt hT (e := (15, 11, 0, 3, 0, [])) (k := 166) (pc := 11) (by decide) (by decide +kernel) rfl) rfl (fun RG => avS15) (fun nx => rfl) ?_
  exact loop 60 0 _ (by omega) (by omega) (haFm.rf _)
theorem hm_rowC (hT : abTabs) {d : Nat} {s w n : Int} {mu : haMu} : haSp 165 (d + 1) [haR 0 0, haI (s), haI (w), haI (n)] mu (fun o mu' => ∃ z : Int, o = some (haI z) ∧ (((0 ≤ s ∧ s ≤ 3) ∧ (0 ≤ w ∧ w ≤ 3) ∧ (0 ≤ n ∧ n ≤ 60) ∧ z = 0 ∧ mu' (lwRc s) 0 = w ∧ mu' (lwRc s) 1 = n ∧ ∀ (j' : Nat) (i : Int), haGd j' i → ¬ (j' = lwRc s ∧ i = 0) → ¬ (j' = lwRc s ∧ i = 1) → mu' j' i = mu j' i) ∨ (mu' = mu ∧ (((0 ≤ s ∧ s ≤ 3) ∧ (0 ≤ w ∧ w ≤ 3) ∧ n < 0 ∧ z = -3) ∨ (¬ ((0 ≤ s ∧ s ≤ 3) ∧ (0 ≤ w ∧ w ≤ 3) ∧ n ≤ 60) ∧ z = -2))))) := by
  refine haMet (by decide) (hT.1 165 (by decide)) (haLe5 rfl) (show 4 ≤ (abMe 165).1.2.2.1 from by decide +kernel) (fun x hF hR => ?_)
  refine ha_s (pc' := 1) (ls' := [haR 0 0, haI (s), haI (w), haI (n)]) (st' := [haI (s)]) hF (haEt hT (e := (9, 0, 0, 1, 0, [])) (k := 165) (pc := 0) (by decide) (by decide +kernel) rfl) rfl (fun RG => avS9) (fun nx => rfl) ?_
  refine ha_callS (q := 58) (d' := d) (as := [haI (s)]) (rest := []) hT hF (haEt hT (e := (79, 1, 58, 0, 168, [824, 825])) (k := 165) (pc := 1) (by decide) (by decide +kernel) rfl) rfl rfl rfl (by decide +kernel) (hm_isSlotC hT) (by omega) rfl (show 1 = (abMe 58).2.1 from by decide +kernel) (show 0 + (abMe 58).1.2.2.1 ≤ 49 from by decide +kernel) (fun o1 ku1 h1 => ?_)
  obtain ⟨y1, rfl, e1, hy1⟩ := h1
  rw [e1]
  show haW x _ 4 [haR 0 0, haI (s), haI (w), haI (n)] [haI (y1)]
  refine ha_ifeq hF (haEt hT (e := (46, 4, 22, 0, 0, [])) (k := 165) (pc := 4) (by decide) (by decide +kernel) rfl) rfl rfl rfl (fun q2 => ?_) (fun q2 => ?_)
  · refine ha_s (pc' := 24) (ls' := [haR 0 0, haI (s), haI (w), haI (n)]) (st' := [haI (-2)]) hF (haEt hT (e := (2, 22, 0, 0, 9223372036854775806, [])) (k := 165) (pc := 22) (by decide) (by decide +kernel) rfl) rfl (fun RG => avS2) (fun nx => rfl) ?_
    exact hR 24 _ _ _ _ (83, 24, 0, 0, 0, []) (haEt hT (e := (83, 24, 0, 0, 0, [])) (k := 165) (pc := 24) (by decide) (by decide +kernel) rfl) rfl (Or.inr (Or.inr ⟨rfl, _, rfl, rfl, rfl, fun h => by cases h⟩)) ⟨_, rfl, Or.inr ⟨rfl, by omega⟩⟩
  · refine ha_s (pc' := 8) (ls' := [haR 0 0, haI (s), haI (w), haI (n)]) (st' := [haI (w)]) hF (haEt hT (e := (9, 7, 0, 2, 0, [])) (k := 165) (pc := 7) (by decide) (by decide +kernel) rfl) rfl (fun RG => avS9) (fun nx => rfl) ?_
    refine ha_iflt hF (haEt hT (e := (48, 8, 22, 0, 0, [])) (k := 165) (pc := 8) (by decide) (by decide +kernel) rfl) rfl rfl rfl (fun q3 => ?_) (fun q3 => ?_)
    · refine ha_s (pc' := 24) (ls' := [haR 0 0, haI (s), haI (w), haI (n)]) (st' := [haI (-2)]) hF (haEt hT (e := (2, 22, 0, 0, 9223372036854775806, [])) (k := 165) (pc := 22) (by decide) (by decide +kernel) rfl) rfl (fun RG => avS2) (fun nx => rfl) ?_
      exact hR 24 _ _ _ _ (83, 24, 0, 0, 0, []) (haEt hT (e := (83, 24, 0, 0, 0, [])) (k := 165) (pc := 24) (by decide) (by decide +kernel) rfl) rfl (Or.inr (Or.inr ⟨rfl, _, rfl, rfl, rfl, fun h => by cases h⟩)) ⟨_, rfl, Or.inr ⟨rfl, by omega⟩⟩
    · refine ha_s (pc' := 12) (ls' := [haR 0 0, haI (s), haI (w), haI (n)]) (st' := [haI (w)]) hF (haEt hT (e := (9, 11, 0, 2, 0, [])) (k := 165) (pc := 11) (by decide) (by decide +kernel) rfl) rfl (fun RG => avS9) (fun nx => rfl) ?_
      refine ha_s (pc' := 13) (ls' := [haR 0 0, haI (s), haI (w), haI (n)]) (st' := [haI (3), haI (w)]) hF (haEt hT (e := (1, 12, 0, 0, 9223372036854775811, [])) (k := 165) (pc := 12) (by decide) (by decide +kernel) rfl) rfl (fun RG => avS1) (fun nx => rfl) ?_
      refine ha_icgt hF (haEt hT (e := (56, 13, 22, 0, 0, [])) (k := 165) (pc := 13) (by decide) (by decide +kernel) rfl) rfl rfl rfl (fun q4 => ?_) (fun q4 => ?_)
      · refine ha_s (pc' := 24) (ls' := [haR 0 0, haI (s), haI (w), haI (n)]) (st' := [haI (-2)]) hF (haEt hT (e := (2, 22, 0, 0, 9223372036854775806, [])) (k := 165) (pc := 22) (by decide) (by decide +kernel) rfl) rfl (fun RG => avS2) (fun nx => rfl) ?_
        exact hR 24 _ _ _ _ (83, 24, 0, 0, 0, []) (haEt hT (e := (83, 24, 0, 0, 0, [])) (k := 165) (pc := 24) (by decide) (by decide +kernel) rfl) rfl (Or.inr (Or.inr ⟨rfl, _, rfl, rfl, rfl, fun h => by cases h⟩)) ⟨_, rfl, Or.inr ⟨rfl, by omega⟩⟩
      · refine ha_s (pc' := 17) (ls' := [haR 0 0, haI (s), haI (w), haI (n)]) (st' := [haI (n)]) hF (haEt hT (e := (9, 16, 0, 3, 0, [])) (k := 165) (pc := 16) (by decide) (by decide +kernel) rfl) rfl (fun RG => avS9) (fun nx => rfl) ?_
        refine ha_s (pc' := 19) (ls' := [haR 0 0, haI (s), haI (w), haI (n)]) (st' := [haI (60), haI (n)]) hF (haEt hT (e := (2, 17, 0, 0, 9223372036854775868, [])) (k := 165) (pc := 17) (by decide) (by decide +kernel) rfl) rfl (fun RG => avS2) (fun nx => rfl) ?_
        refine ha_icle hF (haEt hT (e := (57, 19, 25, 0, 0, [])) (k := 165) (pc := 19) (by decide) (by decide +kernel) rfl) rfl rfl rfl (fun q5 => ?_) (fun q5 => ?_)
        · refine ha_s (pc' := 26) (ls' := [haR 0 0, haI (s), haI (w), haI (n)]) (st' := [haI (n)]) hF (haEt hT (e := (9, 25, 0, 3, 0, [])) (k := 165) (pc := 25) (by decide) (by decide +kernel) rfl) rfl (fun RG => avS9) (fun nx => rfl) ?_
          refine ha_ifge hF (haEt hT (e := (49, 26, 32, 0, 0, [])) (k := 165) (pc := 26) (by decide) (by decide +kernel) rfl) rfl rfl rfl (fun q6 => ?_) (fun q6 => ?_)
          · refine ha_s (pc' := 33) (ls' := [haR 0 0, haI (s), haI (w), haI (n)]) (st' := [haR 0 0]) hF (haEt hT (e := (13, 32, 0, 0, 0, [])) (k := 165) (pc := 32) (by decide) (by decide +kernel) rfl) rfl (fun RG => avS13) (fun nx => rfl) ?_
            refine ha_getR (r := 0) (j := 0) (i := 6) (r' := 49) (j' := 806) hF (haEt hT (e := (60, 33, 11, 6, 39, [534])) (k := 165) (pc := 33) (by decide) (by decide +kernel) rfl) rfl rfl rfl (by decide +kernel) (by decide) (by decide +kernel) (by rfl) ?_
            refine ha_s (pc' := 37) (ls' := [haR 0 0, haI (s), haI (w), haI (n)]) (st' := [haI (s), haR 49 806]) hF (haEt hT (e := (9, 36, 0, 1, 0, [])) (k := 165) (pc := 36) (by decide) (by decide +kernel) rfl) rfl (fun RG => avS9) (fun nx => rfl) ?_
            refine ha_aaldX (r := 49) (r' := 34) (j' := lwRc (s)) hF (haEt hT (e := (67, 37, 0, 0, 0, [])) (k := 165) (pc := 37) (by decide) (by decide +kernel) rfl) rfl rfl (by decide +kernel) (by omega) (by show _ < (4 : Int); omega) (lwRcS (by omega)) ?_
            refine ha_s (pc' := 39) (ls' := [haR 0 0, haI (s), haI (w), haI (n)]) (st' := [haI (w), haR 34 (lwRc (s))]) hF (haEt hT (e := (9, 38, 0, 2, 0, [])) (k := 165) (pc := 38) (by decide) (by decide +kernel) rfl) rfl (fun RG => avS9) (fun nx => rfl) ?_
            refine ha_s (pc' := 40) (ls' := [haR 0 0, haI (s), haI (w), haI (n)]) (st' := [haI (n), haI (w), haR 34 (lwRc (s))]) hF (haEt hT (e := (9, 39, 0, 3, 0, [])) (k := 165) (pc := 39) (by decide) (by decide +kernel) rfl) rfl (fun RG => avS9) (fun nx => rfl) ?_
            refine ha_callV (q := 166) (d' := d) (r := 34) (j := (lwRc (s))) (as := [haI (w), haI (n)]) (rest := []) hT hF (haEt hT (e := (78, 40, 166, 0, 391, [1307, 1308, 1309])) (k := 165) (pc := 40) (by decide) (by decide +kernel) rfl) rfl rfl rfl (by decide +kernel) (by decide +kernel) (hm_begin hT (lwRcG (s := s) (by omega)).1 (by omega) (by omega)) (by omega) rfl (show 2 = (abMe 166).2.1 from by decide +kernel) (show 0 + (abMe 166).1.2.2.1 ≤ 49 from by decide +kernel) (fun o7 ku7 h7 => ?_)
            obtain ⟨rfl, f7, g7, k7⟩ := h7
            show haW x _ 43 [haR 0 0, haI (s), haI (w), haI (n)] []
            refine ha_s (pc' := 44) (ls' := [haR 0 0, haI (s), haI (w), haI (n)]) (st' := [haI (0)]) hF (haEt hT (e := (1, 43, 0, 0, 9223372036854775808, [])) (k := 165) (pc := 43) (by decide) (by decide +kernel) rfl) rfl (fun RG => avS1) (fun nx => rfl) ?_
            exact hR 44 _ _ _ _ (83, 44, 0, 0, 0, []) (haEt hT (e := (83, 44, 0, 0, 0, [])) (k := 165) (pc := 44) (by decide) (by decide +kernel) rfl) rfl (Or.inr (Or.inr ⟨rfl, _, rfl, rfl, rfl, fun h => by cases h⟩)) ⟨_, rfl, Or.inl ⟨by omega, by omega, by omega, rfl, f7, g7, k7⟩⟩
          · refine ha_s (pc' := 31) (ls' := [haR 0 0, haI (s), haI (w), haI (n)]) (st' := [haI (-3)]) hF (haEt hT (e := (2, 29, 0, 0, 9223372036854775805, [])) (k := 165) (pc := 29) (by decide) (by decide +kernel) rfl) rfl (fun RG => avS2) (fun nx => rfl) ?_
            exact hR 31 _ _ _ _ (83, 31, 0, 0, 0, []) (haEt hT (e := (83, 31, 0, 0, 0, [])) (k := 165) (pc := 31) (by decide) (by decide +kernel) rfl) rfl (Or.inr (Or.inr ⟨rfl, _, rfl, rfl, rfl, fun h => by cases h⟩)) ⟨_, rfl, Or.inr ⟨rfl, by omega⟩⟩
        · refine ha_s (pc' := 24) (ls' := [haR 0 0, haI (s), haI (w), haI (n)]) (st' := [haI (-2)]) hF (haEt hT (e := (2, 22, 0, 0, 9223372036854775806, [])) (k := 165) (pc := 22) (by decide) (by decide +kernel) rfl) rfl (fun RG => avS2) (fun nx => rfl) ?_
          exact hR 24 _ _ _ _ (83, 24, 0, 0, 0, []) (haEt hT (e := (83, 24, 0, 0, 0, [])) (k := 165) (pc := 24) (by decide) (by decide +kernel) rfl) rfl (Or.inr (Or.inr ⟨rfl, _, rfl, rfl, rfl, fun h => by cases h⟩)) ⟨_, rfl, Or.inr ⟨rfl, by omega⟩⟩
theorem haQ1 (b : Int) : afQ (afAdd ([], 0) (afMul 1 ([], b))) ([], b) = true := by
  rw [haMul, show afAdd ([], 0) ([], 1 * b) = ([], 0 + 1 * b) from rfl, Int.one_mul, Int.zero_add, haQ]
theorem jpFitRIL {r0 b0 : Nat} {lo1 up1 b1 : Int} {lo2 up2 b2 : Int} (h0 : b0 < 4096) (h1 : lo1 ≤ b1) (g1 : b1 ≤ up1) (h2 : lo2 ≤ b2) (g2 : b2 ≤ up2) : avFit haS0 (avTheta haS0 ([(2, r0, [(0, 1)], 0), (0, 0, [(1, 1)], 0), (1, 0, [(2, 1)], 0)], [(0, 4095), (lo1, up1), (lo2, up2)], [], []) [haR r0 b0, haI b1, haL b2]) ([(2, r0, [(0, 1)], 0), (0, 0, [(1, 1)], 0), (1, 0, [(2, 1)], 0)], [(0, 4095), (lo1, up1), (lo2, up2)], [], []) [haR r0 b0, haI b1, haL b2] = true := by
  have e : avTheta haS0 ([(2, r0, [(0, 1)], 0), (0, 0, [(1, 1)], 0), (1, 0, [(2, 1)], 0)], [(0, 4095), (lo1, up1), (lo2, up2)], [], []) [haR r0 b0, haI b1, haL b2] = [([], ((b0 : Int) - 0) / 1), ([], (b1 - 0) / 1), ([], (b2 - 0) / 1)] := rfl
  rw [e]; simp only [Int.sub_zero, Int.ediv_one]
  have e1 : avVs [([], (b0 : Int)), ([], b1), ([], b2)] [(2, r0, [(0, 1)], 0), (0, 0, [(1, 1)], 0), (1, 0, [(2, 1)], 0)] [haR r0 b0, haI b1, haL b2] = true := by
    show abIf (abIf (Nat.beq r0 r0) (afQ (afAdd ([], 0) (afMul 1 ([], (b0 : Int)))) ([], (b0 : Int))) false) (abIf (afQ (afAdd ([], 0) (afMul 1 ([], b1))) ([], b1)) (abIf (afQ (afAdd ([], 0) (afMul 1 ([], b2))) ([], b2)) (true) false) false) false = true
    rw [show Nat.beq r0 r0 = true from Nat.beq_refl r0, haQ1 ((b0 : Int)), haQ1 (b1), haQ1 (b2)]
    rfl
  have e2 : avBs haS0 [([], (b0 : Int)), ([], b1), ([], b2)] [(0, 4095), (lo1, up1), (lo2, up2)] = true := by
    show abIf (avGe haS0 ([], (b0 : Int) + -0)) (abIf (avGe haS0 ([], 4095 - (b0 : Int))) (abIf (avGe haS0 ([], b1 + -lo1)) (abIf (avGe haS0 ([], up1 - b1)) (abIf (avGe haS0 ([], b2 + -lo2)) (abIf (avGe haS0 ([], up2 - b2)) (true) false) false) false) false) false) false = true
    rw [haGe (s := haS0) (z := (b0 : Int) + -0) (by omega), haGe (s := haS0) (z := 4095 - (b0 : Int)) (by omega), haGe (s := haS0) (z := b1 + -lo1) (by omega), haGe (s := haS0) (z := up1 - b1) (by omega), haGe (s := haS0) (z := b2 + -lo2) (by omega), haGe (s := haS0) (z := up2 - b2) (by omega)]
    rfl
  show abIf true (abIf (avVs [([], (b0 : Int)), ([], b1), ([], b2)] _ _) (abIf (avBs haS0 [([], (b0 : Int)), ([], b1), ([], b2)] [(0, 4095), (lo1, up1), (lo2, up2)]) (abIf true true false) false) false) false = true
  rw [e1, e2]
  rfl
theorem jpFitLI {lo0 up0 b0 : Int} {lo1 up1 b1 : Int} (h0 : lo0 ≤ b0) (g0 : b0 ≤ up0) (h1 : lo1 ≤ b1) (g1 : b1 ≤ up1) : avFit haS0 (avTheta haS0 ([(1, 0, [(0, 1)], 0), (0, 0, [(1, 1)], 0)], [(lo0, up0), (lo1, up1)], [], []) [haL b0, haI b1]) ([(1, 0, [(0, 1)], 0), (0, 0, [(1, 1)], 0)], [(lo0, up0), (lo1, up1)], [], []) [haL b0, haI b1] = true := by
  have e : avTheta haS0 ([(1, 0, [(0, 1)], 0), (0, 0, [(1, 1)], 0)], [(lo0, up0), (lo1, up1)], [], []) [haL b0, haI b1] = [([], (b0 - 0) / 1), ([], (b1 - 0) / 1)] := rfl
  rw [e]; simp only [Int.sub_zero, Int.ediv_one]
  have e1 : avVs [([], b0), ([], b1)] [(1, 0, [(0, 1)], 0), (0, 0, [(1, 1)], 0)] [haL b0, haI b1] = true := by
    show abIf (afQ (afAdd ([], 0) (afMul 1 ([], b0))) ([], b0)) (abIf (afQ (afAdd ([], 0) (afMul 1 ([], b1))) ([], b1)) (true) false) false = true
    rw [haQ1 (b0), haQ1 (b1)]
    rfl
  have e2 : avBs haS0 [([], b0), ([], b1)] [(lo0, up0), (lo1, up1)] = true := by
    show abIf (avGe haS0 ([], b0 + -lo0)) (abIf (avGe haS0 ([], up0 - b0)) (abIf (avGe haS0 ([], b1 + -lo1)) (abIf (avGe haS0 ([], up1 - b1)) (true) false) false) false) false = true
    rw [haGe (s := haS0) (z := b0 + -lo0) (by omega), haGe (s := haS0) (z := up0 - b0) (by omega), haGe (s := haS0) (z := b1 + -lo1) (by omega), haGe (s := haS0) (z := up1 - b1) (by omega)]
    rfl
  show abIf true (abIf (avVs [([], b0), ([], b1)] _ _) (abIf (avBs haS0 [([], b0), ([], b1)] [(lo0, up0), (lo1, up1)]) (abIf true true false) false) false) false = true
  rw [e1, e2]
  rfl
theorem jpFitRR {r0 b0 : Nat} {r1 b1 : Nat} (h0 : b0 < 4096) (h1 : b1 < 4096) : avFit haS0 (avTheta haS0 ([(2, r0, [(0, 1)], 0), (2, r1, [(1, 1)], 0)], [(0, 4095), (0, 4095)], [], []) [haR r0 b0, haR r1 b1]) ([(2, r0, [(0, 1)], 0), (2, r1, [(1, 1)], 0)], [(0, 4095), (0, 4095)], [], []) [haR r0 b0, haR r1 b1] = true := by
  have e : avTheta haS0 ([(2, r0, [(0, 1)], 0), (2, r1, [(1, 1)], 0)], [(0, 4095), (0, 4095)], [], []) [haR r0 b0, haR r1 b1] = [([], ((b0 : Int) - 0) / 1), ([], ((b1 : Int) - 0) / 1)] := rfl
  rw [e]; simp only [Int.sub_zero, Int.ediv_one]
  have e1 : avVs [([], (b0 : Int)), ([], (b1 : Int))] [(2, r0, [(0, 1)], 0), (2, r1, [(1, 1)], 0)] [haR r0 b0, haR r1 b1] = true := by
    show abIf (abIf (Nat.beq r0 r0) (afQ (afAdd ([], 0) (afMul 1 ([], (b0 : Int)))) ([], (b0 : Int))) false) (abIf (abIf (Nat.beq r1 r1) (afQ (afAdd ([], 0) (afMul 1 ([], (b1 : Int)))) ([], (b1 : Int))) false) (true) false) false = true
    rw [show Nat.beq r0 r0 = true from Nat.beq_refl r0, haQ1 ((b0 : Int)), show Nat.beq r1 r1 = true from Nat.beq_refl r1, haQ1 ((b1 : Int))]
    rfl
  have e2 : avBs haS0 [([], (b0 : Int)), ([], (b1 : Int))] [(0, 4095), (0, 4095)] = true := by
    show abIf (avGe haS0 ([], (b0 : Int) + -0)) (abIf (avGe haS0 ([], 4095 - (b0 : Int))) (abIf (avGe haS0 ([], (b1 : Int) + -0)) (abIf (avGe haS0 ([], 4095 - (b1 : Int))) (true) false) false) false) false = true
    rw [haGe (s := haS0) (z := (b0 : Int) + -0) (by omega), haGe (s := haS0) (z := 4095 - (b0 : Int)) (by omega), haGe (s := haS0) (z := (b1 : Int) + -0) (by omega), haGe (s := haS0) (z := 4095 - (b1 : Int)) (by omega)]
    rfl
  show abIf true (abIf (avVs [([], (b0 : Int)), ([], (b1 : Int))] _ _) (abIf (avBs haS0 [([], (b0 : Int)), ([], (b1 : Int))] [(0, 4095), (0, 4095)]) (abIf true true false) false) false) false = true
  rw [e1, e2]
  rfl
theorem hm_put (hT : abTabs) {j : Nat} {i v : Int} {mu : haMu} (hj : j < 4096) (hi : 0 ≤ i ∧ i ≤ 59) (hv : -9223372036854775808 ≤ v ∧ v ≤ 9223372036854775807) : haSp 168 0 [haR 34 j, haI i, haL v] mu (fun o mu' => o = none ∧ haFm mu mu') :=
  (haSp_con (N := 1) (fun D z sb RG hJ => avCn0 hT 1 D z sb RG hJ) (q := 168) (by decide) (c := avC168_h) (as := [haR 34 j, haI i, haL v]) (show avC168_h ∈ [avC168_h] from List.mem_cons_self) (by decide) (Or.inl rfl) (jpFitRIL hj hi.1 hi.2 hv.1 hv.2) (haLe5 rfl) (show 4 ≤ (abMe 168).1.2.2.1 from by decide +kernel)).mono (fun o mu' h => ⟨h.1.1 rfl, h.2⟩)
theorem hm_cut (hT : abTabs) {v w : Int} {mu : haMu} (hv : -9223372036854775808 ≤ v ∧ v ≤ 9223372036854775807) (hw : 0 ≤ w ∧ w ≤ 3) : haSp 267 0 [haL v, haI w] mu (fun o mu' => (∃ z : Int, o = some (haL z) ∧ -9223372036854775808 ≤ z ∧ z ≤ 9223372036854775807) ∧ haFm mu mu') :=
  (haSp_con (N := 1) (fun D z sb RG hJ => avCn0 hT 1 D z sb RG hJ) (q := 267) (by decide) (c := avC267_h) (as := [haL v, haI w]) (show avC267_h ∈ [avC267_h] from List.mem_cons_self) (by decide) (Or.inr (by decide)) (jpFitLI hv.1 hv.2 hw.1 hw.2) (haLe5 rfl) (show 3 ≤ (abMe 267).1.2.2.1 from by decide +kernel)).mono (fun o mu' h => ⟨h.1.2 (by decide), h.2⟩)
theorem hm_copy (hT : abTabs) {j k : Nat} {mu : haMu} (hj : j < 4096) (hk : k < 4096) : haSp 162 2 [haR 18 j, haR 18 k] mu (fun o mu' => o = none ∧ haFm mu mu') :=
  (haSp_con (N := 3) (fun D z sb RG hJ => avCn0 hT 3 D z sb RG hJ) (q := 162) (by decide) (c := avC162_0) (as := [haR 18 j, haR 18 k]) (show avC162_0 ∈ [avC162_0] from List.mem_cons_self) (by decide) (Or.inl rfl) (jpFitRR hj hk) (haLe5 rfl) (show 2 ≤ (abMe 162).1.2.2.1 from by decide +kernel)).mono (fun o mu' h => ⟨h.1.1 rfl, h.2⟩)
theorem hm_writeC (hT : abTabs) {d : Nat} {s i v : Int} {mu : haMu} (hv : -9223372036854775808 ≤ v ∧ v ≤ 9223372036854775807) : haSp 167 (d + 1) [haR 0 0, haI (s), haI (i), haL (v)] mu (fun o mu' => ∃ z : Int, o = some (haI z) ∧ haFm mu mu' ∧ ((¬ (0 ≤ s ∧ s ≤ 3) ∧ z = -2) ∨ ((0 ≤ s ∧ s ≤ 3) ∧ (mu (lwRc s) 1) = -1 ∧ z = -6) ∨ ((0 ≤ s ∧ s ≤ 3) ∧ ¬ (mu (lwRc s) 1) = -1 ∧ ¬ (0 ≤ i ∧ i < (mu (lwRc s) 1)) ∧ z = -7) ∨ ((0 ≤ s ∧ s ≤ 3) ∧ ¬ (mu (lwRc s) 1) = -1 ∧ (0 ≤ i ∧ i < (mu (lwRc s) 1)) ∧ z = 0))) := by
  refine haMet (by decide) (hT.1 167 (by decide)) (haLe5 rfl) (show 5 ≤ (abMe 167).1.2.2.1 from by decide +kernel) (fun x hF hR => ?_)
  refine ha_s (pc' := 1) (ls' := [haR 0 0, haI (s), haI (i), haL (v), avJ, avJ]) (st' := [haI (s)]) hF (haEt hT (e := (9, 0, 0, 1, 0, [])) (k := 167) (pc := 0) (by decide) (by decide +kernel) rfl) rfl (fun RG => avS9) (fun nx => rfl) ?_
  refine ha_callS (q := 58) (d' := d) (as := [haI (s)]) (rest := []) hT hF (haEt hT (e := (79, 1, 58, 0, 168, [824, 825])) (k := 167) (pc := 1) (by decide) (by decide +kernel) rfl) rfl rfl rfl (by decide +kernel) (hm_isSlotC hT) (by omega) rfl (show 1 = (abMe 58).2.1 from by decide +kernel) (show 0 + (abMe 58).1.2.2.1 ≤ 49 from by decide +kernel) (fun o1 ku1 h1 => ?_)
  obtain ⟨y1, rfl, e1, hy1⟩ := h1
  rw [e1]
  show haW x _ 4 [haR 0 0, haI (s), haI (i), haL (v), avJ, avJ] [haI (y1)]
  refine ha_ifne hF (haEt hT (e := (47, 4, 10, 0, 0, [])) (k := 167) (pc := 4) (by decide) (by decide +kernel) rfl) rfl rfl rfl (fun q2 => ?_) (fun q2 => ?_)
  · have hs : 0 ≤ s ∧ s ≤ 3 := by omega
    refine ha_bdF (j := lwRc s) (r := 34) (i := 1) (lo := -1) (up := 60) hF (lwRcG hs).2 (lwRcG hs).1 (by decide +kernel) (by decide +kernel) (by rfl) (fun b1 b2 => ?_)
    have b1 : -1 ≤ mu (lwRc s) 1 := b1
    have b2 : mu (lwRc s) 1 ≤ 60 := b2
    refine ha_s (pc' := 11) (ls' := [haR 0 0, haI (s), haI (i), haL (v), avJ, avJ]) (st' := [haR 0 0]) hF (haEt hT (e := (13, 10, 0, 0, 0, [])) (k := 167) (pc := 10) (by decide) (by decide +kernel) rfl) rfl (fun RG => avS13) (fun nx => rfl) ?_
    refine ha_getR (r := 0) (j := 0) (i := 6) (r' := 49) (j' := 806) hF (haEt hT (e := (60, 11, 11, 6, 39, [534])) (k := 167) (pc := 11) (by decide) (by decide +kernel) rfl) rfl rfl rfl (by decide +kernel) (by decide) (by decide +kernel) (by rfl) ?_
    refine ha_s (pc' := 15) (ls' := [haR 0 0, haI (s), haI (i), haL (v), avJ, avJ]) (st' := [haI (s), haR 49 806]) hF (haEt hT (e := (9, 14, 0, 1, 0, [])) (k := 167) (pc := 14) (by decide) (by decide +kernel) rfl) rfl (fun RG => avS9) (fun nx => rfl) ?_
    refine ha_aaldX (r := 49) (r' := 34) (j' := lwRc (s)) hF (haEt hT (e := (67, 15, 0, 0, 0, [])) (k := 167) (pc := 15) (by decide) (by decide +kernel) rfl) rfl rfl (by decide +kernel) (by omega) (by show _ < (4 : Int); omega) (lwRcS (by omega)) ?_
    refine ha_s (pc' := 18) (ls' := [haR 0 0, haI (s), haI (i), haL (v), avJ, haR 34 (lwRc (s))]) (st' := []) hF (haEt hT (e := (18, 16, 0, 5, 0, [])) (k := 167) (pc := 16) (by decide) (by decide +kernel) rfl) rfl (fun RG => avS18) (fun nx => rfl) ?_
    refine ha_s (pc' := 20) (ls' := [haR 0 0, haI (s), haI (i), haL (v), avJ, haR 34 (lwRc (s))]) (st' := [haR 34 (lwRc (s))]) hF (haEt hT (e := (12, 18, 0, 5, 0, [])) (k := 167) (pc := 18) (by decide) (by decide +kernel) rfl) rfl (fun RG => avS12) (fun nx => rfl) ?_
    refine ha_callV (q := 59) (d' := d) (r := 34) (j := (lwRc (s))) (as := []) (rest := []) hT hF (haEt hT (e := (78, 20, 59, 0, 171, [827, 828, 829])) (k := 167) (pc := 20) (by decide) (by decide +kernel) rfl) rfl rfl rfl (by decide +kernel) (by decide +kernel) (hm_isThere hT) (by omega) rfl (show 0 = (abMe 59).2.1 from by decide +kernel) (show 0 + (abMe 59).1.2.2.1 ≤ 49 from by decide +kernel) (fun o3 ku3 h3 => ?_)
    obtain ⟨y3, rfl, e3, hy3⟩ := h3
    rw [e3]
    show haW x _ 23 [haR 0 0, haI (s), haI (i), haL (v), avJ, haR 34 (lwRc (s))] [haI (y3)]
    refine ha_ifne hF (haEt hT (e := (47, 23, 29, 0, 0, [])) (k := 167) (pc := 23) (by decide) (by decide +kernel) rfl) rfl rfl rfl (fun q4 => ?_) (fun q4 => ?_)
    · refine ha_s (pc' := 30) (ls' := [haR 0 0, haI (s), haI (i), haL (v), avJ, haR 34 (lwRc (s))]) (st' := [haI (i)]) hF (haEt hT (e := (9, 29, 0, 2, 0, [])) (k := 167) (pc := 29) (by decide) (by decide +kernel) rfl) rfl (fun RG => avS9) (fun nx => rfl) ?_
      refine ha_iflt hF (haEt hT (e := (48, 30, 42, 0, 0, [])) (k := 167) (pc := 30) (by decide) (by decide +kernel) rfl) rfl rfl rfl (fun q5 => ?_) (fun q5 => ?_)
      · refine ha_s (pc' := 44) (ls' := [haR 0 0, haI (s), haI (i), haL (v), avJ, haR 34 (lwRc (s))]) (st' := [haI (-7)]) hF (haEt hT (e := (2, 42, 0, 0, 9223372036854775801, [])) (k := 167) (pc := 42) (by decide) (by decide +kernel) rfl) rfl (fun RG => avS2) (fun nx => rfl) ?_
        exact hR 44 _ _ _ _ (83, 44, 0, 0, 0, []) (haEt hT (e := (83, 44, 0, 0, 0, [])) (k := 167) (pc := 44) (by decide) (by decide +kernel) rfl) rfl (Or.inr (Or.inr ⟨rfl, _, rfl, rfl, rfl, fun h => by cases h⟩)) ⟨_, rfl, haFm.rf _, by omega⟩
      · refine ha_s (pc' := 34) (ls' := [haR 0 0, haI (s), haI (i), haL (v), avJ, haR 34 (lwRc (s))]) (st' := [haI (i)]) hF (haEt hT (e := (9, 33, 0, 2, 0, [])) (k := 167) (pc := 33) (by decide) (by decide +kernel) rfl) rfl (fun RG => avS9) (fun nx => rfl) ?_
        refine ha_s (pc' := 36) (ls' := [haR 0 0, haI (s), haI (i), haL (v), avJ, haR 34 (lwRc (s))]) (st' := [haR 34 (lwRc (s)), haI (i)]) hF (haEt hT (e := (12, 34, 0, 5, 0, [])) (k := 167) (pc := 34) (by decide) (by decide +kernel) rfl) rfl (fun RG => avS12) (fun nx => rfl) ?_
        refine ha_callV (q := 60) (d' := d) (r := 34) (j := (lwRc (s))) (as := []) (rest := [haI (i)]) hT hF (haEt hT (e := (78, 36, 60, 0, 174, [831, 832, 833])) (k := 167) (pc := 36) (by decide) (by decide +kernel) rfl) rfl rfl rfl (by decide +kernel) (by decide +kernel) (hm_length hT) (by omega) rfl (show 0 = (abMe 60).2.1 from by decide +kernel) (show 1 + (abMe 60).1.2.2.1 ≤ 49 from by decide +kernel) (fun o6 ku6 h6 => ?_)
        obtain ⟨y6, rfl, e6, hy6⟩ := h6
        rw [e6]
        show haW x _ 39 [haR 0 0, haI (s), haI (i), haL (v), avJ, haR 34 (lwRc (s))] [haI (y6), haI (i)]
        refine ha_iclt hF (haEt hT (e := (54, 39, 45, 0, 0, [])) (k := 167) (pc := 39) (by decide) (by decide +kernel) rfl) rfl rfl rfl (fun q7 => ?_) (fun q7 => ?_)
        · refine ha_s (pc' := 47) (ls' := [haR 0 0, haI (s), haI (i), haL (v), avJ, haR 34 (lwRc (s))]) (st' := [haR 34 (lwRc (s))]) hF (haEt hT (e := (12, 45, 0, 5, 0, [])) (k := 167) (pc := 45) (by decide) (by decide +kernel) rfl) rfl (fun RG => avS12) (fun nx => rfl) ?_
          refine ha_s (pc' := 48) (ls' := [haR 0 0, haI (s), haI (i), haL (v), avJ, haR 34 (lwRc (s))]) (st' := [haI (i), haR 34 (lwRc (s))]) hF (haEt hT (e := (9, 47, 0, 2, 0, [])) (k := 167) (pc := 47) (by decide) (by decide +kernel) rfl) rfl (fun RG => avS9) (fun nx => rfl) ?_
          refine ha_s (pc' := 49) (ls' := [haR 0 0, haI (s), haI (i), haL (v), avJ, haR 34 (lwRc (s))]) (st' := [haL (v), haI (i), haR 34 (lwRc (s))]) hF (haEt hT (e := (11, 48, 0, 3, 0, [])) (k := 167) (pc := 48) (by decide) (by decide +kernel) rfl) rfl (fun RG => avS11) (fun nx => rfl) ?_
          refine ha_callV (q := 168) (d' := 0) (r := 34) (j := (lwRc (s))) (as := [haI (i), haL (v)]) (rest := []) hT hF (haEt hT (e := (78, 49, 168, 0, 395, [1315, 1316, 1317])) (k := 167) (pc := 49) (by decide) (by decide +kernel) rfl) rfl rfl rfl (by decide +kernel) (by decide +kernel) (hm_put hT (j := lwRc s) (by have := (lwRcG hs).2; omega) (by omega) hv) (by omega) rfl (show 2 = (abMe 168).2.1 from by decide +kernel) (show 0 + (abMe 168).1.2.2.1 ≤ 49 from by decide +kernel) (fun o8 ku8 h8 => ?_)
          obtain ⟨rfl, f8⟩ := h8
          show haW x _ 52 [haR 0 0, haI (s), haI (i), haL (v), avJ, haR 34 (lwRc (s))] []
          refine ha_s (pc' := 53) (ls' := [haR 0 0, haI (s), haI (i), haL (v), avJ, haR 34 (lwRc (s))]) (st' := [haI (0)]) hF (haEt hT (e := (1, 52, 0, 0, 9223372036854775808, [])) (k := 167) (pc := 52) (by decide) (by decide +kernel) rfl) rfl (fun RG => avS1) (fun nx => rfl) ?_
          exact hR 53 _ _ _ _ (83, 53, 0, 0, 0, []) (haEt hT (e := (83, 53, 0, 0, 0, [])) (k := 167) (pc := 53) (by decide) (by decide +kernel) rfl) rfl (Or.inr (Or.inr ⟨rfl, _, rfl, rfl, rfl, fun h => by cases h⟩)) ⟨_, rfl, f8, by omega⟩
        · refine ha_s (pc' := 44) (ls' := [haR 0 0, haI (s), haI (i), haL (v), avJ, haR 34 (lwRc (s))]) (st' := [haI (-7)]) hF (haEt hT (e := (2, 42, 0, 0, 9223372036854775801, [])) (k := 167) (pc := 42) (by decide) (by decide +kernel) rfl) rfl (fun RG => avS2) (fun nx => rfl) ?_
          exact hR 44 _ _ _ _ (83, 44, 0, 0, 0, []) (haEt hT (e := (83, 44, 0, 0, 0, [])) (k := 167) (pc := 44) (by decide) (by decide +kernel) rfl) rfl (Or.inr (Or.inr ⟨rfl, _, rfl, rfl, rfl, fun h => by cases h⟩)) ⟨_, rfl, haFm.rf _, by omega⟩
    · refine ha_s (pc' := 28) (ls' := [haR 0 0, haI (s), haI (i), haL (v), avJ, haR 34 (lwRc (s))]) (st' := [haI (-6)]) hF (haEt hT (e := (2, 26, 0, 0, 9223372036854775802, [])) (k := 167) (pc := 26) (by decide) (by decide +kernel) rfl) rfl (fun RG => avS2) (fun nx => rfl) ?_
      exact hR 28 _ _ _ _ (83, 28, 0, 0, 0, []) (haEt hT (e := (83, 28, 0, 0, 0, [])) (k := 167) (pc := 28) (by decide) (by decide +kernel) rfl) rfl (Or.inr (Or.inr ⟨rfl, _, rfl, rfl, rfl, fun h => by cases h⟩)) ⟨_, rfl, haFm.rf _, by omega⟩
  · refine ha_s (pc' := 9) (ls' := [haR 0 0, haI (s), haI (i), haL (v), avJ, avJ]) (st' := [haI (-2)]) hF (haEt hT (e := (2, 7, 0, 0, 9223372036854775806, [])) (k := 167) (pc := 7) (by decide) (by decide +kernel) rfl) rfl (fun RG => avS2) (fun nx => rfl) ?_
    exact hR 9 _ _ _ _ (83, 9, 0, 0, 0, []) (haEt hT (e := (83, 9, 0, 0, 0, [])) (k := 167) (pc := 9) (by decide) (by decide +kernel) rfl) rfl (Or.inr (Or.inr ⟨rfl, _, rfl, rfl, rfl, fun h => by cases h⟩)) ⟨_, rfl, haFm.rf _, by omega⟩
theorem hm_keepC (hT : abTabs) {d : Nat} {k : Int} {mu : haMu} : haSp 161 (d + 3) [haR 0 0, haI (k)] mu (fun o mu' => ∃ z : Int, o = some (haI z) ∧ (((0 ≤ k ∧ k ≤ 2) ∧ z = 0 ∧ mu' 805 k = 1 ∧ ∀ (j : Nat) (i : Int), haGd j i → ¬ (j = 805 ∧ i = k) → mu' j i = mu j i) ∨ (¬ (0 ≤ k ∧ k ≤ 2) ∧ z = -2 ∧ mu' = mu))) := by
  refine haMet (by decide) (hT.1 161 (by decide)) (haLe5 rfl) (show 2 ≤ (abMe 161).1.2.2.1 from by decide +kernel) (fun x hF hR => ?_)
  refine ha_s (pc' := 1) (ls' := [haR 0 0, haI (k)]) (st' := [haI (k)]) hF (haEt hT (e := (9, 0, 0, 1, 0, [])) (k := 161) (pc := 0) (by decide) (by decide +kernel) rfl) rfl (fun RG => avS9) (fun nx => rfl) ?_
  refine ha_iflt hF (haEt hT (e := (48, 1, 9, 0, 0, [])) (k := 161) (pc := 1) (by decide) (by decide +kernel) rfl) rfl rfl rfl (fun q1 => ?_) (fun q1 => ?_)
  · refine ha_s (pc' := 11) (ls' := [haR 0 0, haI (k)]) (st' := [haI (-2)]) hF (haEt hT (e := (2, 9, 0, 0, 9223372036854775806, [])) (k := 161) (pc := 9) (by decide) (by decide +kernel) rfl) rfl (fun RG => avS2) (fun nx => rfl) ?_
    exact hR 11 _ _ _ _ (83, 11, 0, 0, 0, []) (haEt hT (e := (83, 11, 0, 0, 0, [])) (k := 161) (pc := 11) (by decide) (by decide +kernel) rfl) rfl (Or.inr (Or.inr ⟨rfl, _, rfl, rfl, rfl, fun h => by cases h⟩)) ⟨_, rfl, Or.inr ⟨by omega, rfl, rfl⟩⟩
  · refine ha_s (pc' := 5) (ls' := [haR 0 0, haI (k)]) (st' := [haI (k)]) hF (haEt hT (e := (9, 4, 0, 1, 0, [])) (k := 161) (pc := 4) (by decide) (by decide +kernel) rfl) rfl (fun RG => avS9) (fun nx => rfl) ?_
    refine ha_s (pc' := 6) (ls' := [haR 0 0, haI (k)]) (st' := [haI (3), haI (k)]) hF (haEt hT (e := (1, 5, 0, 0, 9223372036854775811, [])) (k := 161) (pc := 5) (by decide) (by decide +kernel) rfl) rfl (fun RG => avS1) (fun nx => rfl) ?_
    refine ha_iclt hF (haEt hT (e := (54, 6, 12, 0, 0, [])) (k := 161) (pc := 6) (by decide) (by decide +kernel) rfl) rfl rfl rfl (fun q2 => ?_) (fun q2 => ?_)
    · refine ha_s (pc' := 13) (ls' := [haR 0 0, haI (k)]) (st' := [haR 0 0]) hF (haEt hT (e := (13, 12, 0, 0, 0, [])) (k := 161) (pc := 12) (by decide) (by decide +kernel) rfl) rfl (fun RG => avS13) (fun nx => rfl) ?_
      refine ha_getR (r := 0) (j := 0) (i := 4) (r' := 47) (j' := 216) hF (haEt hT (e := (60, 13, 11, 4, 29, [532])) (k := 161) (pc := 13) (by decide) (by decide +kernel) rfl) rfl rfl rfl (by decide +kernel) (by decide) (by decide +kernel) (by rfl) ?_
      refine ha_s (pc' := 17) (ls' := [haR 0 0, haI (k)]) (st' := [haI (k), haR 47 216]) hF (haEt hT (e := (9, 16, 0, 1, 0, [])) (k := 161) (pc := 16) (by decide) (by decide +kernel) rfl) rfl (fun RG => avS9) (fun nx => rfl) ?_
      refine ha_aald (r := 47) (r' := 18) hF (haEt hT (e := (67, 17, 0, 0, 0, [])) (k := 161) (pc := 17) (by decide) (by decide +kernel) rfl) rfl rfl (by decide +kernel) (by omega) (by show _ < (3 : Int); omega) (by rfl) (fun j3 hj3 => ?_)
      refine ha_s (pc' := 19) (ls' := [haR 0 0, haI (k)]) (st' := [haR 0 0, haR 18 j3]) hF (haEt hT (e := (13, 18, 0, 0, 0, [])) (k := 161) (pc := 18) (by decide) (by decide +kernel) rfl) rfl (fun RG => avS13) (fun nx => rfl) ?_
      refine ha_getRv (r := 0) (j := 0) (i := 3) (r' := 18) hF (haEt hT (e := (60, 19, 11, 3, 25, [531])) (k := 161) (pc := 19) (by decide) (by decide +kernel) rfl) rfl rfl rfl (by decide +kernel) (by decide) (by decide +kernel) (by rfl) (fun j4 hj4 => ?_)
      refine ha_callV (q := 162) (d' := 2) (r := 18) (j := j3) (as := [haR 18 j4]) (rest := []) hT hF (haEt hT (e := (78, 22, 162, 0, 388, [1288, 1289, 1290])) (k := 161) (pc := 22) (by decide) (by decide +kernel) rfl) rfl rfl rfl (by decide +kernel) (by decide +kernel) (hm_copy hT (by omega) (by omega)) (by omega) rfl (show 1 = (abMe 162).2.1 from by decide +kernel) (show 0 + (abMe 162).1.2.2.1 ≤ 49 from by decide +kernel) (fun o5 ku5 h5 => ?_)
      obtain ⟨rfl, f5⟩ := h5
      show haW x _ 25 [haR 0 0, haI (k)] []
      refine ha_s (pc' := 26) (ls' := [haR 0 0, haI (k)]) (st' := [haR 0 0]) hF (haEt hT (e := (13, 25, 0, 0, 0, [])) (k := 161) (pc := 25) (by decide) (by decide +kernel) rfl) rfl (fun RG => avS13) (fun nx => rfl) ?_
      refine ha_getR (r := 0) (j := 0) (i := 5) (r' := 48) (j' := 805) hF (haEt hT (e := (60, 26, 11, 5, 33, [533])) (k := 161) (pc := 26) (by decide) (by decide +kernel) rfl) rfl rfl rfl (by decide +kernel) (by decide) (by decide +kernel) (by rfl) ?_
      refine ha_s (pc' := 30) (ls' := [haR 0 0, haI (k)]) (st' := [haI (k), haR 48 805]) hF (haEt hT (e := (9, 29, 0, 1, 0, [])) (k := 161) (pc := 29) (by decide) (by decide +kernel) rfl) rfl (fun RG => avS9) (fun nx => rfl) ?_
      refine ha_s (pc' := 31) (ls' := [haR 0 0, haI (k)]) (st' := [haI (1), haI (k), haR 48 805]) hF (haEt hT (e := (1, 30, 0, 0, 9223372036854775809, [])) (k := 161) (pc := 30) (by decide) (by decide +kernel) rfl) rfl (fun RG => avS1) (fun nx => rfl) ?_
      refine ha_bast (r := 48) hF (haEt hT (e := (70, 31, 0, 0, 0, [])) (k := 161) (pc := 31) (by decide) (by decide +kernel) rfl) rfl rfl (by decide +kernel) (by omega) (by show _ < (3 : Int); omega) (lo := 0) (up := 1) (by rfl) (by omega) (by omega) ⟨by omega, by omega⟩ ?_
      refine ha_s (pc' := 33) (ls' := [haR 0 0, haI (k)]) (st' := [haI (0)]) hF (haEt hT (e := (1, 32, 0, 0, 9223372036854775808, [])) (k := 161) (pc := 32) (by decide) (by decide +kernel) rfl) rfl (fun RG => avS1) (fun nx => rfl) ?_
      exact hR 33 _ _ _ _ (83, 33, 0, 0, 0, []) (haEt hT (e := (83, 33, 0, 0, 0, [])) (k := 161) (pc := 33) (by decide) (by decide +kernel) rfl) rfl (Or.inr (Or.inr ⟨rfl, _, rfl, rfl, rfl, fun h => by cases h⟩)) ⟨_, rfl, Or.inl ⟨by omega, rfl, haUp_s, fun j i hg ha => by rw [haUp_n ha]; exact f5 j i hg⟩⟩
    · refine ha_s (pc' := 11) (ls' := [haR 0 0, haI (k)]) (st' := [haI (-2)]) hF (haEt hT (e := (2, 9, 0, 0, 9223372036854775806, [])) (k := 161) (pc := 9) (by decide) (by decide +kernel) rfl) rfl (fun RG => avS2) (fun nx => rfl) ?_
      exact hR 11 _ _ _ _ (83, 11, 0, 0, 0, []) (haEt hT (e := (83, 11, 0, 0, 0, [])) (k := 161) (pc := 11) (by decide) (by decide +kernel) rfl) rfl (Or.inr (Or.inr ⟨rfl, _, rfl, rfl, rfl, fun h => by cases h⟩)) ⟨_, rfl, Or.inr ⟨by omega, rfl, rfl⟩⟩
theorem hm_rowR (hT : abTabs) {d : Nat} {s w n : Int} {mu : haMu} : haSp 265 (d + 2) [haR 51 860, haI (s), haI (w), haI (n)] mu (fun o mu' => ∃ z : Int, o = some (haI z) ∧ (((0 ≤ s ∧ s ≤ 3) ∧ (0 ≤ w ∧ w ≤ 3) ∧ (0 ≤ n ∧ n ≤ 60) ∧ z = 0 ∧ mu' 884 s = w ∧ mu' 883 s = n ∧ ∀ (j' : Nat) (i : Int), haGd j' i → ¬ (j' = 884 ∧ i = s) → ¬ (j' = 883 ∧ i = s) → mu' j' i = mu j' i) ∨ (mu' = mu ∧ (((0 ≤ s ∧ s ≤ 3) ∧ (0 ≤ w ∧ w ≤ 3) ∧ n < 0 ∧ z = -3) ∨ (¬ ((0 ≤ s ∧ s ≤ 3) ∧ (0 ≤ w ∧ w ≤ 3) ∧ n ≤ 60) ∧ z = -2))))) := by
  refine haMet (by decide) (hT.1 265 (by decide)) (haLe5 rfl) (show 4 ≤ (abMe 265).1.2.2.1 from by decide +kernel) (fun x hF hR => ?_)
  refine ha_s (pc' := 1) (ls' := [haR 51 860, haI (s), haI (w), haI (n), avJ]) (st' := [haI (s)]) hF (haEt hT (e := (9, 0, 0, 1, 0, [])) (k := 265) (pc := 0) (by decide) (by decide +kernel) rfl) rfl (fun RG => avS9) (fun nx => rfl) ?_
  refine ha_callS (q := 206) (d' := d + 1) (as := [haI (s)]) (rest := []) hT hF (haEt hT (e := (79, 1, 206, 0, 307, [1629, 1630])) (k := 265) (pc := 1) (by decide) (by decide +kernel) rfl) rfl rfl rfl (by decide +kernel) (hm_isSlotX hT) (by omega) rfl (show 1 = (abMe 206).2.1 from by decide +kernel) (show 0 + (abMe 206).1.2.2.1 ≤ 49 from by decide +kernel) (fun o1 ku1 h1 => ?_)
  obtain ⟨y1, rfl, e1, hy1⟩ := h1
  rw [e1]
  show haW x _ 4 [haR 51 860, haI (s), haI (w), haI (n), avJ] [haI (y1)]
  refine ha_ifeq hF (haEt hT (e := (46, 4, 25, 0, 0, [])) (k := 265) (pc := 4) (by decide) (by decide +kernel) rfl) rfl rfl rfl (fun q2 => ?_) (fun q2 => ?_)
  · refine ha_s (pc' := 27) (ls' := [haR 51 860, haI (s), haI (w), haI (n), avJ]) (st' := [haI (-2)]) hF (haEt hT (e := (2, 25, 0, 0, 9223372036854775806, [])) (k := 265) (pc := 25) (by decide) (by decide +kernel) rfl) rfl (fun RG => avS2) (fun nx => rfl) ?_
    exact hR 27 _ _ _ _ (83, 27, 0, 0, 0, []) (haEt hT (e := (83, 27, 0, 0, 0, [])) (k := 265) (pc := 27) (by decide) (by decide +kernel) rfl) rfl (Or.inr (Or.inr ⟨rfl, _, rfl, rfl, rfl, fun h => by cases h⟩)) ⟨_, rfl, Or.inr ⟨rfl, by omega⟩⟩
  · refine ha_s (pc' := 8) (ls' := [haR 51 860, haI (s), haI (w), haI (n), avJ]) (st' := [haI (w)]) hF (haEt hT (e := (9, 7, 0, 2, 0, [])) (k := 265) (pc := 7) (by decide) (by decide +kernel) rfl) rfl (fun RG => avS9) (fun nx => rfl) ?_
    refine ha_s (pc' := 9) (ls' := [haR 51 860, haI (s), haI (w), haI (n), avJ]) (st' := [haL (w)]) hF (haEt hT (e := (40, 8, 0, 0, 0, [])) (k := 265) (pc := 8) (by decide) (by decide +kernel) rfl) rfl (fun RG => avS40) (fun nx => rfl) ?_
    refine ha_s (pc' := 10) (ls' := [haR 51 860, haI (s), haI (w), haI (n), avJ]) (st' := [haL (0), haL (w)]) hF (haEt hT (e := (6, 9, 0, 0, 9223372036854775808, [])) (k := 265) (pc := 9) (by decide) (by decide +kernel) rfl) rfl (fun RG => avS6) (fun nx => rfl) ?_
    refine ha_s (pc' := 13) (ls' := [haR 51 860, haI (s), haI (w), haI (n), avJ]) (st' := [haL (3), haL (0), haL (w)]) hF (haEt hT (e := (7, 10, 230, 0, 9223372036854775811, [1563])) (k := 265) (pc := 10) (by decide) (by decide +kernel) rfl) rfl (fun RG => avS7) (fun nx => rfl) ?_
    refine ha_callS (q := 176) (d' := d + 1) (as := [haL (w), haL (0), haL (3)]) (rest := []) hT hF (haEt hT (e := (79, 13, 176, 0, 118, [1472, 1473])) (k := 265) (pc := 13) (by decide) (by decide +kernel) rfl) rfl rfl rfl (by decide +kernel) (hm_in hT) (by omega) rfl (show 3 = (abMe 176).2.1 from by decide +kernel) (show 0 + (abMe 176).1.2.2.1 ≤ 49 from by decide +kernel) (fun o3 ku3 h3 => ?_)
    obtain ⟨y3, rfl, e3, hy3⟩ := h3
    rw [e3]
    show haW x _ 16 [haR 51 860, haI (s), haI (w), haI (n), avJ] [haI (y3)]
    refine ha_ifeq hF (haEt hT (e := (46, 16, 25, 0, 0, [])) (k := 265) (pc := 16) (by decide) (by decide +kernel) rfl) rfl rfl rfl (fun q4 => ?_) (fun q4 => ?_)
    · refine ha_s (pc' := 27) (ls' := [haR 51 860, haI (s), haI (w), haI (n), avJ]) (st' := [haI (-2)]) hF (haEt hT (e := (2, 25, 0, 0, 9223372036854775806, [])) (k := 265) (pc := 25) (by decide) (by decide +kernel) rfl) rfl (fun RG => avS2) (fun nx => rfl) ?_
      exact hR 27 _ _ _ _ (83, 27, 0, 0, 0, []) (haEt hT (e := (83, 27, 0, 0, 0, [])) (k := 265) (pc := 27) (by decide) (by decide +kernel) rfl) rfl (Or.inr (Or.inr ⟨rfl, _, rfl, rfl, rfl, fun h => by cases h⟩)) ⟨_, rfl, Or.inr ⟨rfl, by omega⟩⟩
    · refine ha_s (pc' := 20) (ls' := [haR 51 860, haI (s), haI (w), haI (n), avJ]) (st' := [haI (n)]) hF (haEt hT (e := (9, 19, 0, 3, 0, [])) (k := 265) (pc := 19) (by decide) (by decide +kernel) rfl) rfl (fun RG => avS9) (fun nx => rfl) ?_
      refine ha_s (pc' := 22) (ls' := [haR 51 860, haI (s), haI (w), haI (n), avJ]) (st' := [haI (60), haI (n)]) hF (haEt hT (e := (2, 20, 0, 0, 9223372036854775868, [])) (k := 265) (pc := 20) (by decide) (by decide +kernel) rfl) rfl (fun RG => avS2) (fun nx => rfl) ?_
      refine ha_icle hF (haEt hT (e := (57, 22, 28, 0, 0, [])) (k := 265) (pc := 22) (by decide) (by decide +kernel) rfl) rfl rfl rfl (fun q5 => ?_) (fun q5 => ?_)
      · refine ha_s (pc' := 29) (ls' := [haR 51 860, haI (s), haI (w), haI (n), avJ]) (st' := [haI (n)]) hF (haEt hT (e := (9, 28, 0, 3, 0, [])) (k := 265) (pc := 28) (by decide) (by decide +kernel) rfl) rfl (fun RG => avS9) (fun nx => rfl) ?_
        refine ha_ifge hF (haEt hT (e := (49, 29, 35, 0, 0, [])) (k := 265) (pc := 29) (by decide) (by decide +kernel) rfl) rfl rfl rfl (fun q6 => ?_) (fun q6 => ?_)
        · have hs : 0 ≤ s ∧ s ≤ 3 := by omega
          have hw : 0 ≤ w ∧ w ≤ 3 := by omega
          have hn : 0 ≤ n ∧ n ≤ 60 := by omega
          have loop : ∀ (nn : Nat) (i : Int) (nu : haMu), (nn : Int) = 60 - i → 0 ≤ i → haFm (haUp (haUp mu 883 s n) 884 s w) nu → haW x nu 52 [haR 51 860, haI (s), haI (w), haI (n), haI (i)] [] := by
            intro nn
            induction nn with
            | zero =>
              intro i nu h1 h0 f1
              refine ha_s (pc' := 54) (ls' := [haR 51 860, haI (s), haI (w), haI (n), haI (i)]) (st' := [haI (i)]) hF (haEt hT (e := (8, 52, 0, 4, 0, [])) (k := 265) (pc := 52) (by decide) (by decide +kernel) rfl) rfl (fun RG => avS8) (fun nx => rfl) ?_
              refine ha_s (pc' := 56) (ls' := [haR 51 860, haI (s), haI (w), haI (n), haI (i)]) (st' := [haI (60), haI (i)]) hF (haEt hT (e := (2, 54, 0, 0, 9223372036854775868, [])) (k := 265) (pc := 54) (by decide) (by decide +kernel) rfl) rfl (fun RG => avS2) (fun nx => rfl) ?_
              refine ha_icge hF (haEt hT (e := (55, 56, 78, 0, 0, [])) (k := 265) (pc := 56) (by decide) (by decide +kernel) rfl) rfl rfl rfl (fun _ => ?_) (fun q => by omega)
              refine ha_s (pc' := 79) (ls' := [haR 51 860, haI (s), haI (w), haI (n), haI (i)]) (st' := [haI (0)]) hF (haEt hT (e := (1, 78, 0, 0, 9223372036854775808, [])) (k := 265) (pc := 78) (by decide) (by decide +kernel) rfl) rfl (fun RG => avS1) (fun nx => rfl) ?_
              exact hR 79 _ _ _ _ (83, 79, 0, 0, 0, []) (haEt hT (e := (83, 79, 0, 0, 0, [])) (k := 265) (pc := 79) (by decide) (by decide +kernel) rfl) rfl (Or.inr (Or.inr ⟨rfl, _, rfl, rfl, rfl, fun h => by cases h⟩)) ⟨_, rfl, Or.inl ⟨hs, hw, hn, rfl, by rw [f1 884 s (haGd_width hs.1), haUp_s], by rw [f1 883 s (haGd_many hs.1), haUp_n (fun z => absurd z.1 (by decide)), haUp_s], fun j' i' hg a1 a2 => by rw [f1 j' i' hg, haUp_n a1, haUp_n a2]⟩⟩
            | succ nn ih =>
              intro i nu h1 h0 f1
              refine ha_s (pc' := 54) (ls' := [haR 51 860, haI (s), haI (w), haI (n), haI (i)]) (st' := [haI (i)]) hF (haEt hT (e := (8, 52, 0, 4, 0, [])) (k := 265) (pc := 52) (by decide) (by decide +kernel) rfl) rfl (fun RG => avS8) (fun nx => rfl) ?_
              refine ha_s (pc' := 56) (ls' := [haR 51 860, haI (s), haI (w), haI (n), haI (i)]) (st' := [haI (60), haI (i)]) hF (haEt hT (e := (2, 54, 0, 0, 9223372036854775868, [])) (k := 265) (pc := 54) (by decide) (by decide +kernel) rfl) rfl (fun RG => avS2) (fun nx => rfl) ?_
              refine ha_icge hF (haEt hT (e := (55, 56, 78, 0, 0, [])) (k := 265) (pc := 56) (by decide) (by decide +kernel) rfl) rfl rfl rfl (fun q => by omega) (fun q => ?_)
              refine ha_s (pc' := 60) (ls' := [haR 51 860, haI (s), haI (w), haI (n), haI (i)]) (st' := [haR 51 860]) hF (haEt hT (e := (13, 59, 0, 0, 0, [])) (k := 265) (pc := 59) (by decide) (by decide +kernel) rfl) rfl (fun RG => avS13) (fun nx => rfl) ?_
              refine ha_getR (r := 51) (j := 860) (i := 39) (r' := 65) (j' := 885) hF (haEt hT (e := (60, 60, 12, 39, 98, [1382])) (k := 265) (pc := 60) (by decide) (by decide +kernel) rfl) rfl rfl rfl (by decide +kernel) (by decide) (by decide +kernel) (by rfl) ?_
              refine ha_s (pc' := 65) (ls' := [haR 51 860, haI (s), haI (w), haI (n), haI (i)]) (st' := [haI (60), haR 65 885]) hF (haEt hT (e := (2, 63, 0, 0, 9223372036854775868, [])) (k := 265) (pc := 63) (by decide) (by decide +kernel) rfl) rfl (fun RG => avS2) (fun nx => rfl) ?_
              refine ha_s (pc' := 66) (ls' := [haR 51 860, haI (s), haI (w), haI (n), haI (i)]) (st' := [haI (s), haI (60), haR 65 885]) hF (haEt hT (e := (9, 65, 0, 1, 0, [])) (k := 265) (pc := 65) (by decide) (by decide +kernel) rfl) rfl (fun RG => avS9) (fun nx => rfl) ?_
              refine ha_imul hF (haEt hT (e := (23, 66, 0, 0, 0, [])) (k := 265) (pc := 66) (by decide) (by decide +kernel) rfl) rfl rfl (by omega) (by omega) ?_
              refine ha_s (pc' := 69) (ls' := [haR 51 860, haI (s), haI (w), haI (n), haI (i)]) (st' := [haI (i), haI ((s) * (60)), haR 65 885]) hF (haEt hT (e := (8, 67, 0, 4, 0, [])) (k := 265) (pc := 67) (by decide) (by decide +kernel) rfl) rfl (fun RG => avS8) (fun nx => rfl) ?_
              refine ha_iadd hF (haEt hT (e := (21, 69, 0, 0, 0, [])) (k := 265) (pc := 69) (by decide) (by decide +kernel) rfl) rfl rfl (by omega) (by omega) ?_
              refine ha_s (pc' := 71) (ls' := [haR 51 860, haI (s), haI (w), haI (n), haI (i)]) (st' := [haL (0), haI ((s) * (60) + (i)), haR 65 885]) hF (haEt hT (e := (6, 70, 0, 0, 9223372036854775808, [])) (k := 265) (pc := 70) (by decide) (by decide +kernel) rfl) rfl (fun RG => avS6) (fun nx => rfl) ?_
              refine ha_last (r := 65) (lo := -9223372036854775808) (up := 9223372036854775807) hF (haEt hT (e := (71, 71, 0, 0, 0, [])) (k := 265) (pc := 71) (by decide) (by decide +kernel) rfl) rfl rfl (by decide +kernel) (by omega) (by show _ < (240 : Int); omega) (by rfl) (by omega) (by omega) (fun hg => ?_)
              refine ha_iinc (i := 4) (c := 1) hF (haEt hT (e := (20, 72, 0, 4, 9223372036854775809, [])) (k := 265) (pc := 72) (by decide) (by decide +kernel) rfl) rfl rfl rfl rfl rfl (by omega) (by omega) ?_
              show haW _ _ 75 [haR 51 860, haI (s), haI (w), haI (n), haI (i + 1)] []
              refine ha_s (pc' := 52) (ls' := [haR 51 860, haI (s), haI (w), haI (n), haI (i + 1)]) (st' := []) hF (haEt hT (e := (58, 75, 52, 0, 0, [])) (k := 265) (pc := 75) (by decide) (by decide +kernel) rfl) rfl (fun RG => avS58) (fun nx => rfl) ?_
              exact ih (i + 1) _ (by omega) (by omega) (haFm_up f1 (by rw [hg]; decide))
          refine ha_s (pc' := 36) (ls' := [haR 51 860, haI (s), haI (w), haI (n), avJ]) (st' := [haR 51 860]) hF (haEt hT (e := (13, 35, 0, 0, 0, [])) (k := 265) (pc := 35) (by decide) (by decide +kernel) rfl) rfl (fun RG => avS13) (fun nx => rfl) ?_
          refine ha_getR (r := 51) (j := 860) (i := 37) (r' := 63) (j' := 883) hF (haEt hT (e := (60, 36, 12, 37, 92, [1380])) (k := 265) (pc := 36) (by decide) (by decide +kernel) rfl) rfl rfl rfl (by decide +kernel) (by decide) (by decide +kernel) (by rfl) ?_
          refine ha_s (pc' := 40) (ls' := [haR 51 860, haI (s), haI (w), haI (n), avJ]) (st' := [haI (s), haR 63 883]) hF (haEt hT (e := (9, 39, 0, 1, 0, [])) (k := 265) (pc := 39) (by decide) (by decide +kernel) rfl) rfl (fun RG => avS9) (fun nx => rfl) ?_
          refine ha_s (pc' := 41) (ls' := [haR 51 860, haI (s), haI (w), haI (n), avJ]) (st' := [haI (n), haI (s), haR 63 883]) hF (haEt hT (e := (9, 40, 0, 3, 0, [])) (k := 265) (pc := 40) (by decide) (by decide +kernel) rfl) rfl (fun RG => avS9) (fun nx => rfl) ?_
          refine ha_iast (r := 63) hF (haEt hT (e := (69, 41, 0, 0, 0, [])) (k := 265) (pc := 41) (by decide) (by decide +kernel) rfl) rfl rfl (by decide +kernel) hs.1 (by show _ < (4 : Int); omega) (lo := -1) (up := 60) (by rfl) (by omega) (by omega) ?_
          refine ha_s (pc' := 43) (ls' := [haR 51 860, haI (s), haI (w), haI (n), avJ]) (st' := [haR 51 860]) hF (haEt hT (e := (13, 42, 0, 0, 0, [])) (k := 265) (pc := 42) (by decide) (by decide +kernel) rfl) rfl (fun RG => avS13) (fun nx => rfl) ?_
          refine ha_getR (r := 51) (j := 860) (i := 38) (r' := 76) (j' := 884) hF (haEt hT (e := (60, 43, 12, 38, 95, [1381])) (k := 265) (pc := 43) (by decide) (by decide +kernel) rfl) rfl rfl rfl (by decide +kernel) (by decide) (by decide +kernel) (by rfl) ?_
          refine ha_s (pc' := 47) (ls' := [haR 51 860, haI (s), haI (w), haI (n), avJ]) (st' := [haI (s), haR 76 884]) hF (haEt hT (e := (9, 46, 0, 1, 0, [])) (k := 265) (pc := 46) (by decide) (by decide +kernel) rfl) rfl (fun RG => avS9) (fun nx => rfl) ?_
          refine ha_s (pc' := 48) (ls' := [haR 51 860, haI (s), haI (w), haI (n), avJ]) (st' := [haI (w), haI (s), haR 76 884]) hF (haEt hT (e := (9, 47, 0, 2, 0, [])) (k := 265) (pc := 47) (by decide) (by decide +kernel) rfl) rfl (fun RG => avS9) (fun nx => rfl) ?_
          refine ha_iast (r := 76) hF (haEt hT (e := (69, 48, 0, 0, 0, [])) (k := 265) (pc := 48) (by decide) (by decide +kernel) rfl) rfl rfl (by decide +kernel) hs.1 (by show _ < (4 : Int); omega) (lo := 0) (up := 3) (by rfl) (by omega) (by omega) ?_
          refine ha_s (pc' := 50) (ls' := [haR 51 860, haI (s), haI (w), haI (n), avJ]) (st' := [haI (0)]) hF (haEt hT (e := (1, 49, 0, 0, 9223372036854775808, [])) (k := 265) (pc := 49) (by decide) (by decide +kernel) rfl) rfl (fun RG => avS1) (fun nx => rfl) ?_
          refine ha_s (pc' := 52) (ls' := [haR 51 860, haI (s), haI (w), haI (n), haI (0)]) (st' := []) hF (haEt hT (e := (14, 50, 0, 4, 0, [])) (k := 265) (pc := 50) (by decide) (by decide +kernel) rfl) rfl (fun RG => avS14) (fun nx => rfl) ?_
          exact loop 60 0 _ (by omega) (by omega) (haFm.rf _)
        · refine ha_s (pc' := 34) (ls' := [haR 51 860, haI (s), haI (w), haI (n), avJ]) (st' := [haI (-3)]) hF (haEt hT (e := (2, 32, 0, 0, 9223372036854775805, [])) (k := 265) (pc := 32) (by decide) (by decide +kernel) rfl) rfl (fun RG => avS2) (fun nx => rfl) ?_
          exact hR 34 _ _ _ _ (83, 34, 0, 0, 0, []) (haEt hT (e := (83, 34, 0, 0, 0, [])) (k := 265) (pc := 34) (by decide) (by decide +kernel) rfl) rfl (Or.inr (Or.inr ⟨rfl, _, rfl, rfl, rfl, fun h => by cases h⟩)) ⟨_, rfl, Or.inr ⟨rfl, by omega⟩⟩
      · refine ha_s (pc' := 27) (ls' := [haR 51 860, haI (s), haI (w), haI (n), avJ]) (st' := [haI (-2)]) hF (haEt hT (e := (2, 25, 0, 0, 9223372036854775806, [])) (k := 265) (pc := 25) (by decide) (by decide +kernel) rfl) rfl (fun RG => avS2) (fun nx => rfl) ?_
        exact hR 27 _ _ _ _ (83, 27, 0, 0, 0, []) (haEt hT (e := (83, 27, 0, 0, 0, [])) (k := 265) (pc := 27) (by decide) (by decide +kernel) rfl) rfl (Or.inr (Or.inr ⟨rfl, _, rfl, rfl, rfl, fun h => by cases h⟩)) ⟨_, rfl, Or.inr ⟨rfl, by omega⟩⟩
theorem hm_writeR (hT : abTabs) {d : Nat} {s i v : Int} {mu : haMu} (hv : -9223372036854775808 ≤ v ∧ v ≤ 9223372036854775807) : haSp 266 (d + 2) [haR 51 860, haI (s), haI (i), haL (v)] mu (fun o mu' => ∃ z : Int, o = some (haI z) ∧ haFm mu mu' ∧ ((¬ (0 ≤ s ∧ s ≤ 3) ∧ z = -2) ∨ ((0 ≤ s ∧ s ≤ 3) ∧ (mu 883 s) = -1 ∧ z = -6) ∨ ((0 ≤ s ∧ s ≤ 3) ∧ ¬ (mu 883 s) = -1 ∧ ¬ (0 ≤ i ∧ i < (mu 883 s)) ∧ z = -7) ∨ ((0 ≤ s ∧ s ≤ 3) ∧ ¬ (mu 883 s) = -1 ∧ (0 ≤ i ∧ i < (mu 883 s)) ∧ z = 0))) := by
  refine haMet (by decide) (hT.1 266 (by decide)) (haLe5 rfl) (show 5 ≤ (abMe 266).1.2.2.1 from by decide +kernel) (fun x hF hR => ?_)
  refine ha_s (pc' := 1) (ls' := [haR 51 860, haI (s), haI (i), haL (v), avJ]) (st' := [haI (s)]) hF (haEt hT (e := (9, 0, 0, 1, 0, [])) (k := 266) (pc := 0) (by decide) (by decide +kernel) rfl) rfl (fun RG => avS9) (fun nx => rfl) ?_
  refine ha_callS (q := 206) (d' := d + 1) (as := [haI (s)]) (rest := []) hT hF (haEt hT (e := (79, 1, 206, 0, 307, [1629, 1630])) (k := 266) (pc := 1) (by decide) (by decide +kernel) rfl) rfl rfl rfl (by decide +kernel) (hm_isSlotX hT) (by omega) rfl (show 1 = (abMe 206).2.1 from by decide +kernel) (show 0 + (abMe 206).1.2.2.1 ≤ 49 from by decide +kernel) (fun o1 ku1 h1 => ?_)
  obtain ⟨y1, rfl, e1, hy1⟩ := h1
  rw [e1]
  show haW x _ 4 [haR 51 860, haI (s), haI (i), haL (v), avJ] [haI (y1)]
  refine ha_ifne hF (haEt hT (e := (47, 4, 10, 0, 0, [])) (k := 266) (pc := 4) (by decide) (by decide +kernel) rfl) rfl rfl rfl (fun q2 => ?_) (fun q2 => ?_)
  · have hs : 0 ≤ s ∧ s ≤ 3 := by omega
    refine ha_bd (j := 883) (r := 63) (i := s) (lo := -1) (up := 60) hF (by decide) (by decide +kernel) (Or.inl (by decide +kernel)) hs.1 (by show _ < (4 : Int); omega) (by rfl) (fun b1 b2 => ?_)
    refine ha_bd (j := 884) (r := 76) (i := s) (lo := 0) (up := 3) hF (by decide) (by decide +kernel) (Or.inl (by decide +kernel)) hs.1 (by show _ < (4 : Int); omega) (by rfl) (fun b3 b4 => ?_)
    refine ha_s (pc' := 11) (ls' := [haR 51 860, haI (s), haI (i), haL (v), avJ]) (st' := [haR 51 860]) hF (haEt hT (e := (13, 10, 0, 0, 0, [])) (k := 266) (pc := 10) (by decide) (by decide +kernel) rfl) rfl (fun RG => avS13) (fun nx => rfl) ?_
    refine ha_getR (r := 51) (j := 860) (i := 37) (r' := 63) (j' := 883) hF (haEt hT (e := (60, 11, 12, 37, 92, [1380])) (k := 266) (pc := 11) (by decide) (by decide +kernel) rfl) rfl rfl rfl (by decide +kernel) (by decide) (by decide +kernel) (by rfl) ?_
    refine ha_s (pc' := 15) (ls' := [haR 51 860, haI (s), haI (i), haL (v), avJ]) (st' := [haI (s), haR 63 883]) hF (haEt hT (e := (9, 14, 0, 1, 0, [])) (k := 266) (pc := 14) (by decide) (by decide +kernel) rfl) rfl (fun RG => avS9) (fun nx => rfl) ?_
    refine ha_iald (r := 63) hF (haEt hT (e := (64, 15, 0, 0, 0, [])) (k := 266) (pc := 15) (by decide) (by decide +kernel) rfl) rfl rfl (by decide +kernel) (by omega) (by show _ < (4 : Int); omega) ?_
    refine ha_s (pc' := 17) (ls' := [haR 51 860, haI (s), haI (i), haL (v), avJ]) (st' := [haI (-1), haI (mu 883 (s))]) hF (haEt hT (e := (1, 16, 0, 0, 9223372036854775807, [])) (k := 266) (pc := 16) (by decide) (by decide +kernel) rfl) rfl (fun RG => avS1) (fun nx => rfl) ?_
    refine ha_icne hF (haEt hT (e := (53, 17, 23, 0, 0, [])) (k := 266) (pc := 17) (by decide) (by decide +kernel) rfl) rfl rfl rfl (fun q3 => ?_) (fun q3 => ?_)
    · refine ha_s (pc' := 24) (ls' := [haR 51 860, haI (s), haI (i), haL (v), avJ]) (st' := [haI (i)]) hF (haEt hT (e := (9, 23, 0, 2, 0, [])) (k := 266) (pc := 23) (by decide) (by decide +kernel) rfl) rfl (fun RG => avS9) (fun nx => rfl) ?_
      refine ha_s (pc' := 25) (ls' := [haR 51 860, haI (s), haI (i), haL (v), avJ]) (st' := [haL (i)]) hF (haEt hT (e := (40, 24, 0, 0, 0, [])) (k := 266) (pc := 24) (by decide) (by decide +kernel) rfl) rfl (fun RG => avS40) (fun nx => rfl) ?_
      refine ha_s (pc' := 26) (ls' := [haR 51 860, haI (s), haI (i), haL (v), avJ]) (st' := [haL (0), haL (i)]) hF (haEt hT (e := (6, 25, 0, 0, 9223372036854775808, [])) (k := 266) (pc := 25) (by decide) (by decide +kernel) rfl) rfl (fun RG => avS6) (fun nx => rfl) ?_
      refine ha_s (pc' := 27) (ls' := [haR 51 860, haI (s), haI (i), haL (v), avJ]) (st' := [haR 51 860, haL (0), haL (i)]) hF (haEt hT (e := (13, 26, 0, 0, 0, [])) (k := 266) (pc := 26) (by decide) (by decide +kernel) rfl) rfl (fun RG => avS13) (fun nx => rfl) ?_
      refine ha_getR (r := 51) (j := 860) (i := 37) (r' := 63) (j' := 883) hF (haEt hT (e := (60, 27, 12, 37, 92, [1380])) (k := 266) (pc := 27) (by decide) (by decide +kernel) rfl) rfl rfl rfl (by decide +kernel) (by decide) (by decide +kernel) (by rfl) ?_
      refine ha_s (pc' := 31) (ls' := [haR 51 860, haI (s), haI (i), haL (v), avJ]) (st' := [haI (s), haR 63 883, haL (0), haL (i)]) hF (haEt hT (e := (9, 30, 0, 1, 0, [])) (k := 266) (pc := 30) (by decide) (by decide +kernel) rfl) rfl (fun RG => avS9) (fun nx => rfl) ?_
      refine ha_iald (r := 63) hF (haEt hT (e := (64, 31, 0, 0, 0, [])) (k := 266) (pc := 31) (by decide) (by decide +kernel) rfl) rfl rfl (by decide +kernel) (by omega) (by show _ < (4 : Int); omega) ?_
      refine ha_s (pc' := 33) (ls' := [haR 51 860, haI (s), haI (i), haL (v), avJ]) (st' := [haI (1), haI (mu 883 (s)), haL (0), haL (i)]) hF (haEt hT (e := (1, 32, 0, 0, 9223372036854775809, [])) (k := 266) (pc := 32) (by decide) (by decide +kernel) rfl) rfl (fun RG => avS1) (fun nx => rfl) ?_
      refine ha_isub hF (haEt hT (e := (22, 33, 0, 0, 0, [])) (k := 266) (pc := 33) (by decide) (by decide +kernel) rfl) rfl rfl (by omega) (by omega) ?_
      refine ha_s (pc' := 35) (ls' := [haR 51 860, haI (s), haI (i), haL (v), avJ]) (st' := [haL (mu 883 (s) - (1)), haL (0), haL (i)]) hF (haEt hT (e := (40, 34, 0, 0, 0, [])) (k := 266) (pc := 34) (by decide) (by decide +kernel) rfl) rfl (fun RG => avS40) (fun nx => rfl) ?_
      refine ha_callS (q := 176) (d' := d + 1) (as := [haL (i), haL (0), haL (mu 883 (s) - (1))]) (rest := []) hT hF (haEt hT (e := (79, 35, 176, 0, 118, [1472, 1473])) (k := 266) (pc := 35) (by decide) (by decide +kernel) rfl) rfl rfl rfl (by decide +kernel) (hm_in hT) (by omega) rfl (show 3 = (abMe 176).2.1 from by decide +kernel) (show 0 + (abMe 176).1.2.2.1 ≤ 49 from by decide +kernel) (fun o4 ku4 h4 => ?_)
      obtain ⟨y4, rfl, e4, hy4⟩ := h4
      rw [e4]
      show haW x _ 38 [haR 51 860, haI (s), haI (i), haL (v), avJ] [haI (y4)]
      refine ha_ifne hF (haEt hT (e := (47, 38, 44, 0, 0, [])) (k := 266) (pc := 38) (by decide) (by decide +kernel) rfl) rfl rfl rfl (fun q5 => ?_) (fun q5 => ?_)
      · refine ha_s (pc' := 45) (ls' := [haR 51 860, haI (s), haI (i), haL (v), avJ]) (st' := [haR 51 860]) hF (haEt hT (e := (13, 44, 0, 0, 0, [])) (k := 266) (pc := 44) (by decide) (by decide +kernel) rfl) rfl (fun RG => avS13) (fun nx => rfl) ?_
        refine ha_getR (r := 51) (j := 860) (i := 39) (r' := 65) (j' := 885) hF (haEt hT (e := (60, 45, 12, 39, 98, [1382])) (k := 266) (pc := 45) (by decide) (by decide +kernel) rfl) rfl rfl rfl (by decide +kernel) (by decide) (by decide +kernel) (by rfl) ?_
        refine ha_s (pc' := 50) (ls' := [haR 51 860, haI (s), haI (i), haL (v), avJ]) (st' := [haI (60), haR 65 885]) hF (haEt hT (e := (2, 48, 0, 0, 9223372036854775868, [])) (k := 266) (pc := 48) (by decide) (by decide +kernel) rfl) rfl (fun RG => avS2) (fun nx => rfl) ?_
        refine ha_s (pc' := 51) (ls' := [haR 51 860, haI (s), haI (i), haL (v), avJ]) (st' := [haI (s), haI (60), haR 65 885]) hF (haEt hT (e := (9, 50, 0, 1, 0, [])) (k := 266) (pc := 50) (by decide) (by decide +kernel) rfl) rfl (fun RG => avS9) (fun nx => rfl) ?_
        refine ha_imul hF (haEt hT (e := (23, 51, 0, 0, 0, [])) (k := 266) (pc := 51) (by decide) (by decide +kernel) rfl) rfl rfl (by omega) (by omega) ?_
        refine ha_s (pc' := 53) (ls' := [haR 51 860, haI (s), haI (i), haL (v), avJ]) (st' := [haI (i), haI ((s) * (60)), haR 65 885]) hF (haEt hT (e := (9, 52, 0, 2, 0, [])) (k := 266) (pc := 52) (by decide) (by decide +kernel) rfl) rfl (fun RG => avS9) (fun nx => rfl) ?_
        refine ha_iadd hF (haEt hT (e := (21, 53, 0, 0, 0, [])) (k := 266) (pc := 53) (by decide) (by decide +kernel) rfl) rfl rfl (by omega) (by omega) ?_
        refine ha_s (pc' := 55) (ls' := [haR 51 860, haI (s), haI (i), haL (v), avJ]) (st' := [haL (v), haI ((s) * (60) + (i)), haR 65 885]) hF (haEt hT (e := (11, 54, 0, 3, 0, [])) (k := 266) (pc := 54) (by decide) (by decide +kernel) rfl) rfl (fun RG => avS11) (fun nx => rfl) ?_
        refine ha_s (pc' := 56) (ls' := [haR 51 860, haI (s), haI (i), haL (v), avJ]) (st' := [haR 51 860, haL (v), haI ((s) * (60) + (i)), haR 65 885]) hF (haEt hT (e := (13, 55, 0, 0, 0, [])) (k := 266) (pc := 55) (by decide) (by decide +kernel) rfl) rfl (fun RG => avS13) (fun nx => rfl) ?_
        refine ha_getR (r := 51) (j := 860) (i := 38) (r' := 76) (j' := 884) hF (haEt hT (e := (60, 56, 12, 38, 95, [1381])) (k := 266) (pc := 56) (by decide) (by decide +kernel) rfl) rfl rfl rfl (by decide +kernel) (by decide) (by decide +kernel) (by rfl) ?_
        refine ha_s (pc' := 60) (ls' := [haR 51 860, haI (s), haI (i), haL (v), avJ]) (st' := [haI (s), haR 76 884, haL (v), haI ((s) * (60) + (i)), haR 65 885]) hF (haEt hT (e := (9, 59, 0, 1, 0, [])) (k := 266) (pc := 59) (by decide) (by decide +kernel) rfl) rfl (fun RG => avS9) (fun nx => rfl) ?_
        refine ha_iald (r := 76) hF (haEt hT (e := (64, 60, 0, 0, 0, [])) (k := 266) (pc := 60) (by decide) (by decide +kernel) rfl) rfl rfl (by decide +kernel) (by omega) (by show _ < (4 : Int); omega) ?_
        refine ha_callS (q := 267) (d' := 0) (as := [haL (v), haI (mu 884 (s))]) (rest := [haI ((s) * (60) + (i)), haR 65 885]) hT hF (haEt hT (e := (79, 61, 267, 0, 461, [1897, 1898])) (k := 266) (pc := 61) (by decide) (by decide +kernel) rfl) rfl rfl rfl (by decide +kernel) (hm_cut hT hv ⟨b3, b4⟩) (by omega) rfl (show 2 = (abMe 267).2.1 from by decide +kernel) (show 2 + (abMe 267).1.2.2.1 ≤ 49 from by decide +kernel) (fun o6 ku6 h6 => ?_)
        obtain ⟨⟨y6, rfl, u6, w6⟩, f6⟩ := h6
        show haW x _ 64 [haR 51 860, haI (s), haI (i), haL (v), avJ] [haL (y6), haI ((s) * (60) + (i)), haR 65 885]
        refine ha_last (r := 65) (lo := -9223372036854775808) (up := 9223372036854775807) hF (haEt hT (e := (71, 64, 0, 0, 0, [])) (k := 266) (pc := 64) (by decide) (by decide +kernel) rfl) rfl rfl (by decide +kernel) (by omega) (by show _ < (240 : Int); omega) (by rfl) (by omega) (by omega) (fun hg => ?_)
        refine ha_s (pc' := 66) (ls' := [haR 51 860, haI (s), haI (i), haL (v), avJ]) (st' := [haI (0)]) hF (haEt hT (e := (1, 65, 0, 0, 9223372036854775808, [])) (k := 266) (pc := 65) (by decide) (by decide +kernel) rfl) rfl (fun RG => avS1) (fun nx => rfl) ?_
        exact hR 66 _ _ _ _ (83, 66, 0, 0, 0, []) (haEt hT (e := (83, 66, 0, 0, 0, [])) (k := 266) (pc := 66) (by decide) (by decide +kernel) rfl) rfl (Or.inr (Or.inr ⟨rfl, _, rfl, rfl, rfl, fun h => by cases h⟩)) ⟨_, rfl, haFm_up f6 (by rw [hg]; decide), by omega⟩
      · refine ha_s (pc' := 43) (ls' := [haR 51 860, haI (s), haI (i), haL (v), avJ]) (st' := [haI (-7)]) hF (haEt hT (e := (2, 41, 0, 0, 9223372036854775801, [])) (k := 266) (pc := 41) (by decide) (by decide +kernel) rfl) rfl (fun RG => avS2) (fun nx => rfl) ?_
        exact hR 43 _ _ _ _ (83, 43, 0, 0, 0, []) (haEt hT (e := (83, 43, 0, 0, 0, [])) (k := 266) (pc := 43) (by decide) (by decide +kernel) rfl) rfl (Or.inr (Or.inr ⟨rfl, _, rfl, rfl, rfl, fun h => by cases h⟩)) ⟨_, rfl, haFm.rf _, by omega⟩
    · refine ha_s (pc' := 22) (ls' := [haR 51 860, haI (s), haI (i), haL (v), avJ]) (st' := [haI (-6)]) hF (haEt hT (e := (2, 20, 0, 0, 9223372036854775802, [])) (k := 266) (pc := 20) (by decide) (by decide +kernel) rfl) rfl (fun RG => avS2) (fun nx => rfl) ?_
      exact hR 22 _ _ _ _ (83, 22, 0, 0, 0, []) (haEt hT (e := (83, 22, 0, 0, 0, [])) (k := 266) (pc := 22) (by decide) (by decide +kernel) rfl) rfl (Or.inr (Or.inr ⟨rfl, _, rfl, rfl, rfl, fun h => by cases h⟩)) ⟨_, rfl, haFm.rf _, by omega⟩
  · refine ha_s (pc' := 9) (ls' := [haR 51 860, haI (s), haI (i), haL (v), avJ]) (st' := [haI (-2)]) hF (haEt hT (e := (2, 7, 0, 0, 9223372036854775806, [])) (k := 266) (pc := 7) (by decide) (by decide +kernel) rfl) rfl (fun RG => avS2) (fun nx => rfl) ?_
    exact hR 9 _ _ _ _ (83, 9, 0, 0, 0, []) (haEt hT (e := (83, 9, 0, 0, 0, [])) (k := 266) (pc := 9) (by decide) (by decide +kernel) rfl) rfl (Or.inr (Or.inr ⟨rfl, _, rfl, rfl, rfl, fun h => by cases h⟩)) ⟨_, rfl, haFm.rf _, by omega⟩
