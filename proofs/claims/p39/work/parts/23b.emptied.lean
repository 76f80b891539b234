/-! TallBinsModel emptied, logs -/
section HAR
variable {x : haCx} {mu : haMu} {k d pc pc' : Nat} {ls st ls' st' : List avV} {e : abEy} {F : avPo}
theorem ha_irem {a b : Int} (hF : haF x k d) (hE : abEtOk k e) (hpc : e.2.1 = pc) (ho : e.1 = 25) (ha : 0 ≤ a) (hb1 : 1 ≤ b) (h : haW x mu (pc + 1) ls (haI (a % b) :: st)) : haW x mu pc ls (haI b :: haI a :: st) := by
  obtain ⟨D, z, sb, RG, w0, p, l, ev, R, s, m, args, below, meth, c, cc, cs, Q⟩ := x
  intro rh H locs ws A xs hH hX hL hS
  obtain ⟨⟨hx, hb, -⟩, hw0, hRG⟩ := hF
  obtain ⟨o, pc2, a1, a2, xx, ps⟩ := e
  have ho' : o = 25 := ho
  have hpc' : pc2 = pc := hpc
  subst ho'; subst hpc'
  have hd := abEt_dec hE (show ¬ (25 : Nat) = 85 by decide) rfl
  obtain ⟨y0, xr, rfl, gw, x0, xr', rfl, gv, hS'⟩ := hS
  obtain ⟨d1, x1, rfl, e1⟩ := avGv_i gv rfl
  obtain ⟨d2, y1, rfl, e2⟩ := avGv_i gw rfl
  have e1' : x1.toInt = a := by rw [e1]; exact haCst rh a
  have e2' : y1.toInt = b := by rw [e2]; exact haCst rh b
  have hy : 1 ≤ y1.toInt := by rw [e2']; exact hb1
  refine lv_irem hx hb hd (avNe0 hy) ?_
  refine h rh H locs ws A _ hH hX hL ⟨_, _, rfl, ⟨afNil_D rh, _, rfl, ?_⟩, hS'⟩
  rw [rem_toInt, e1', e2', show afV rh (haI (a % b)).2.2 = a % b from haCst rh _]
  exact Int.tmod_eq_emod_of_nonneg ha
end HAR
theorem haWe0 : ∀ i : Nat, i < 984 → ((avRT.get 77).2.2.get (520 + i)).1 = 0 ∧ ((avRT.get 77).2.2.get (520 + i)).2.1 ≤ 0 ∧ 0 ≤ ((avRT.get 77).2.2.get (520 + i)).2.2 := by decide +kernel
theorem haWe {i : Int} (h : 520 ≤ i ∧ i < 1504) : (avRT.get 77).2.2.get i.toNat = (0, ((avRT.get 77).2.2.get i.toNat).2.1, ((avRT.get 77).2.2.get i.toNat).2.2) ∧ ((avRT.get 77).2.2.get i.toNat).2.1 ≤ 0 ∧ 0 ≤ ((avRT.get 77).2.2.get i.toNat).2.2 := by
  have g := haWe0 (i.toNat - 520) (by omega)
  rw [show 520 + (i.toNat - 520) = i.toNat by omega] at g
  exact ⟨Prod.ext g.1 rfl, g.2⟩
theorem haWg0 : ∀ b : Nat, b < 6 → ∀ r : Nat, r < 12 → (avRT.get 77).2.2.get (528 + 164 * b + r) = (0, -30, 99) := by decide +kernel
theorem haWg {b r : Int} (hb : 0 ≤ b ∧ b ≤ 5) (hr : 0 ≤ r ∧ r < 12) : (avRT.get 77).2.2.get (520 + 164 * b + 8 + r).toNat = (0, -30, 99) := by
  have g := haWg0 b.toNat (by omega) r.toNat (by omega)
  rw [show 528 + 164 * b.toNat + r.toNat = (520 + 164 * b + 8 + r).toNat by omega] at g
  exact g
theorem haWf0 : ∀ i : Nat, i < 240 → (avRT.get 77).2.2.get (1505 + i) = (0, -2147483648, 2147483647) := by decide +kernel
theorem haWf {i : Int} (h : 1505 ≤ i ∧ i < 1745) : (avRT.get 77).2.2.get i.toNat = (0, -2147483648, 2147483647) := by
  have g := haWf0 (i.toNat - 1505) (by omega)
  rw [show 1505 + (i.toNat - 1505) = i.toNat by omega] at g
  exact g
theorem hm_emptied (hT : abTabs) {d : Nat} {b : Int} {mu : haMu} (hb : 0 ≤ b ∧ b ≤ 5) : haSp 174 d [haR 51 860, haI (520 + 164 * b)] mu (fun o mu' => o = none ∧ (∀ (j : Nat) (i : Int), ¬ (j = 861 ∧ 524 + 164 * b ≤ i ∧ i ≤ 683 + 164 * b) → mu' j i = mu j i) ∧ ∀ c : Int, 20 ≤ c → c < 164 → mu' 861 (520 + 164 * b + c) = 0) := by
  refine haMet (by decide) (hT.1 174 (by decide)) (haLe5 rfl) (show 2 ≤ (abMe 174).1.2.2.1 from by decide +kernel) (fun x hF hR => ?_)
  have untold : ∀ (nn : Nat) (i : Int) (nu : haMu), (nn : Int) = 12 - i → 0 ≤ i → (∀ (j : Nat) (q : Int), ¬ (j = 861 ∧ 524 + 164 * b ≤ q ∧ q ≤ 683 + 164 * b) → nu j q = mu j q) → (∀ c : Int, 20 ≤ c → c < 164 → nu 861 (520 + 164 * b + c) = 0) → haW x nu 35 [haR 51 860, haI (520 + 164 * b), haI (i)] [] := by
    intro nn
    induction nn with
    | zero =>
      intro i nu hn h0 f1 f2
      refine ha_s (pc' := 36) (ls' := [haR 51 860, haI (520 + 164 * b), haI (i)]) (st' := [haI (i)]) hF (haEt hT (e := (9, 35, 0, 2, 0, [])) (k := 174) (pc := 35) (by decide) (by decide +kernel) rfl) rfl (fun RG => avS9) (fun nx => rfl) ?_
      refine ha_s (pc' := 38) (ls' := [haR 51 860, haI (520 + 164 * b), haI (i)]) (st' := [haI (12), haI (i)]) hF (haEt hT (e := (2, 36, 0, 0, 9223372036854775820, [])) (k := 174) (pc := 36) (by decide) (by decide +kernel) rfl) rfl (fun RG => avS2) (fun nx => rfl) ?_
      refine ha_icge hF (haEt hT (e := (55, 38, 60, 0, 0, [])) (k := 174) (pc := 38) (by decide) (by decide +kernel) rfl) rfl rfl rfl (fun _ => ?_) (fun q => by omega)
      exact hR 60 _ _ _ none (82, 60, 0, 0, 0, []) (haEt hT (e := (82, 60, 0, 0, 0, [])) (k := 174) (pc := 60) (by decide) (by decide +kernel) rfl) rfl (Or.inl ⟨rfl, rfl, rfl⟩) ⟨rfl, f1, f2⟩
    | succ nn ih =>
      intro i nu hn h0 f1 f2
      refine ha_s (pc' := 36) (ls' := [haR 51 860, haI (520 + 164 * b), haI (i)]) (st' := [haI (i)]) hF (haEt hT (e := (9, 35, 0, 2, 0, [])) (k := 174) (pc := 35) (by decide) (by decide +kernel) rfl) rfl (fun RG => avS9) (fun nx => rfl) ?_
      refine ha_s (pc' := 38) (ls' := [haR 51 860, haI (520 + 164 * b), haI (i)]) (st' := [haI (12), haI (i)]) hF (haEt hT (e := (2, 36, 0, 0, 9223372036854775820, [])) (k := 174) (pc := 36) (by decide) (by decide +kernel) rfl) rfl (fun RG => avS2) (fun nx => rfl) ?_
      refine ha_icge hF (haEt hT (e := (55, 38, 60, 0, 0, [])) (k := 174) (pc := 38) (by decide) (by decide +kernel) rfl) rfl rfl rfl (fun q => by omega) (fun q => ?_)
      refine ha_s (pc' := 42) (ls' := [haR 51 860, haI (520 + 164 * b), haI (i)]) (st' := [haR 51 860]) hF (haEt hT (e := (13, 41, 0, 0, 0, [])) (k := 174) (pc := 41) (by decide) (by decide +kernel) rfl) rfl (fun RG => avS13) (fun nx => rfl) ?_
      refine ha_getR (r := 51) (j := 860) (i := 1) (r' := 77) (j' := 861) hF (haEt hT (e := (60, 42, 12, 1, 13, [1344])) (k := 174) (pc := 42) (by decide) (by decide +kernel) rfl) rfl rfl rfl (by decide +kernel) (by decide) (by decide +kernel) (by rfl) ?_
      refine ha_s (pc' := 46) (ls' := [haR 51 860, haI (520 + 164 * b), haI (i)]) (st' := [haI (520 + 164 * b), haR 77 861]) hF (haEt hT (e := (9, 45, 0, 1, 0, [])) (k := 174) (pc := 45) (by decide) (by decide +kernel) rfl) rfl (fun RG => avS9) (fun nx => rfl) ?_
      refine ha_s (pc' := 48) (ls' := [haR 51 860, haI (520 + 164 * b), haI (i)]) (st' := [haI (8), haI (520 + 164 * b), haR 77 861]) hF (haEt hT (e := (2, 46, 0, 0, 9223372036854775816, [])) (k := 174) (pc := 46) (by decide) (by decide +kernel) rfl) rfl (fun RG => avS2) (fun nx => rfl) ?_
      refine ha_iadd hF (haEt hT (e := (21, 48, 0, 0, 0, [])) (k := 174) (pc := 48) (by decide) (by decide +kernel) rfl) rfl rfl (by omega) (by omega) ?_
      refine ha_s (pc' := 50) (ls' := [haR 51 860, haI (520 + 164 * b), haI (i)]) (st' := [haI (i), haI (520 + 164 * b + (8)), haR 77 861]) hF (haEt hT (e := (9, 49, 0, 2, 0, [])) (k := 174) (pc := 49) (by decide) (by decide +kernel) rfl) rfl (fun RG => avS9) (fun nx => rfl) ?_
      refine ha_iadd hF (haEt hT (e := (21, 50, 0, 0, 0, [])) (k := 174) (pc := 50) (by decide) (by decide +kernel) rfl) rfl rfl (by omega) (by omega) ?_
      refine ha_s (pc' := 53) (ls' := [haR 51 860, haI (520 + 164 * b), haI (i)]) (st' := [haI (99), haI (520 + 164 * b + (8) + (i)), haR 77 861]) hF (haEt hT (e := (2, 51, 0, 0, 9223372036854775907, [])) (k := 174) (pc := 51) (by decide) (by decide +kernel) rfl) rfl (fun RG => avS2) (fun nx => rfl) ?_
      refine ha_iast (r := 77) hF (haEt hT (e := (69, 53, 0, 0, 0, [])) (k := 174) (pc := 53) (by decide) (by decide +kernel) rfl) rfl rfl (by decide +kernel) (by omega) (by show _ < (1745 : Int); omega) (haWg hb ⟨h0, q⟩) (by omega) (by omega) ?_
      refine ha_iinc (i := 2) (c := 1) hF (haEt hT (e := (20, 54, 0, 2, 9223372036854775809, [])) (k := 174) (pc := 54) (by decide) (by decide +kernel) rfl) rfl rfl rfl rfl rfl (by omega) (by omega) ?_
      show haW _ _ 57 [haR 51 860, haI (520 + 164 * b), haI (i + 1)] []
      refine ha_s (pc' := 35) (ls' := [haR 51 860, haI (520 + 164 * b), haI (i + 1)]) (st' := []) hF (haEt hT (e := (58, 57, 35, 0, 0, [])) (k := 174) (pc := 57) (by decide) (by decide +kernel) rfl) rfl (fun RG => avS58) (fun nx => rfl) ?_
      refine ih (i + 1) _ (by omega) (by omega) (fun j c hj => ?_) (fun c c0 c1 => ?_)
      · refine (haUp_n (fun z => hj ⟨z.1, by omega, by omega⟩)).trans (f1 j c hj)
      · exact (haUp_n (fun z => by omega)).trans (f2 c c0 c1)
  have clear : ∀ (nn : Nat) (i : Int) (nu : haMu), (nn : Int) = 164 - i → 4 ≤ i → (∀ (j : Nat) (q : Int), ¬ (j = 861 ∧ 524 + 164 * b ≤ q ∧ q ≤ 683 + 164 * b) → nu j q = mu j q) → (∀ c : Int, 4 ≤ c → c < i → nu 861 (520 + 164 * b + c) = 0) → haW x nu 2 [haR 51 860, haI (520 + 164 * b), haI (i)] [] := by
    intro nn
    induction nn with
    | zero =>
      intro i nu hn h0 f1 f2
      refine ha_s (pc' := 3) (ls' := [haR 51 860, haI (520 + 164 * b), haI (i)]) (st' := [haI (i)]) hF (haEt hT (e := (9, 2, 0, 2, 0, [])) (k := 174) (pc := 2) (by decide) (by decide +kernel) rfl) rfl (fun RG => avS9) (fun nx => rfl) ?_
      refine ha_s (pc' := 6) (ls' := [haR 51 860, haI (520 + 164 * b), haI (i)]) (st' := [haI (164), haI (i)]) hF (haEt hT (e := (3, 3, 0, 0, 9223372036854775972, [])) (k := 174) (pc := 3) (by decide) (by decide +kernel) rfl) rfl (fun RG => avS3) (fun nx => rfl) ?_
      refine ha_icge hF (haEt hT (e := (55, 6, 24, 0, 0, [])) (k := 174) (pc := 6) (by decide) (by decide +kernel) rfl) rfl rfl rfl (fun _ => ?_) (fun q => by omega)
      refine ha_s (pc' := 25) (ls' := [haR 51 860, haI (520 + 164 * b), haI (i)]) (st' := [haR 51 860]) hF (haEt hT (e := (13, 24, 0, 0, 0, [])) (k := 174) (pc := 24) (by decide) (by decide +kernel) rfl) rfl (fun RG => avS13) (fun nx => rfl) ?_
      refine ha_getR (r := 51) (j := 860) (i := 1) (r' := 77) (j' := 861) hF (haEt hT (e := (60, 25, 12, 1, 13, [1344])) (k := 174) (pc := 25) (by decide) (by decide +kernel) rfl) rfl rfl rfl (by decide +kernel) (by decide) (by decide +kernel) (by rfl) ?_
      refine ha_s (pc' := 29) (ls' := [haR 51 860, haI (520 + 164 * b), haI (i)]) (st' := [haI (520 + 164 * b), haR 77 861]) hF (haEt hT (e := (9, 28, 0, 1, 0, [])) (k := 174) (pc := 28) (by decide) (by decide +kernel) rfl) rfl (fun RG => avS9) (fun nx => rfl) ?_
      refine ha_s (pc' := 30) (ls' := [haR 51 860, haI (520 + 164 * b), haI (i)]) (st' := [haI (4), haI (520 + 164 * b), haR 77 861]) hF (haEt hT (e := (1, 29, 0, 0, 9223372036854775812, [])) (k := 174) (pc := 29) (by decide) (by decide +kernel) rfl) rfl (fun RG => avS1) (fun nx => rfl) ?_
      refine ha_iadd hF (haEt hT (e := (21, 30, 0, 0, 0, [])) (k := 174) (pc := 30) (by decide) (by decide +kernel) rfl) rfl rfl (by omega) (by omega) ?_
      refine ha_s (pc' := 32) (ls' := [haR 51 860, haI (520 + 164 * b), haI (i)]) (st' := [haI (-1), haI (520 + 164 * b + (4)), haR 77 861]) hF (haEt hT (e := (1, 31, 0, 0, 9223372036854775807, [])) (k := 174) (pc := 31) (by decide) (by decide +kernel) rfl) rfl (fun RG => avS1) (fun nx => rfl) ?_
      refine ha_iast (r := 77) hF (haEt hT (e := (69, 32, 0, 0, 0, [])) (k := 174) (pc := 32) (by decide) (by decide +kernel) rfl) rfl rfl (by decide +kernel) (by omega) (by show _ < (1745 : Int); omega) (haSl4 hb) (by omega) (by omega) ?_
      refine ha_s (pc' := 34) (ls' := [haR 51 860, haI (520 + 164 * b), haI (i)]) (st' := [haI (0)]) hF (haEt hT (e := (1, 33, 0, 0, 9223372036854775808, [])) (k := 174) (pc := 33) (by decide) (by decide +kernel) rfl) rfl (fun RG => avS1) (fun nx => rfl) ?_
      refine ha_s (pc' := 35) (ls' := [haR 51 860, haI (520 + 164 * b), haI (0)]) (st' := []) hF (haEt hT (e := (15, 34, 0, 2, 0, [])) (k := 174) (pc := 34) (by decide) (by decide +kernel) rfl) rfl (fun RG => avS15) (fun nx => rfl) ?_
      refine untold 12 0 _ rfl (Int.le_refl 0) (fun j c hj => ?_) (fun c c0 c1 => ?_)
      · exact (haUp_n (fun z => hj ⟨z.1, by omega, by omega⟩)).trans (f1 j c hj)
      · exact (haUp_n (fun z => by omega)).trans (f2 c (by omega) (by omega))
    | succ nn ih =>
      intro i nu hn h0 f1 f2
      refine ha_s (pc' := 3) (ls' := [haR 51 860, haI (520 + 164 * b), haI (i)]) (st' := [haI (i)]) hF (haEt hT (e := (9, 2, 0, 2, 0, [])) (k := 174) (pc := 2) (by decide) (by decide +kernel) rfl) rfl (fun RG => avS9) (fun nx => rfl) ?_
      refine ha_s (pc' := 6) (ls' := [haR 51 860, haI (520 + 164 * b), haI (i)]) (st' := [haI (164), haI (i)]) hF (haEt hT (e := (3, 3, 0, 0, 9223372036854775972, [])) (k := 174) (pc := 3) (by decide) (by decide +kernel) rfl) rfl (fun RG => avS3) (fun nx => rfl) ?_
      refine ha_icge hF (haEt hT (e := (55, 6, 24, 0, 0, [])) (k := 174) (pc := 6) (by decide) (by decide +kernel) rfl) rfl rfl rfl (fun q => by omega) (fun q => ?_)
      have hw := haWe (i := 520 + 164 * b + i) ⟨by omega, by omega⟩
      refine ha_s (pc' := 10) (ls' := [haR 51 860, haI (520 + 164 * b), haI (i)]) (st' := [haR 51 860]) hF (haEt hT (e := (13, 9, 0, 0, 0, [])) (k := 174) (pc := 9) (by decide) (by decide +kernel) rfl) rfl (fun RG => avS13) (fun nx => rfl) ?_
      refine ha_getR (r := 51) (j := 860) (i := 1) (r' := 77) (j' := 861) hF (haEt hT (e := (60, 10, 12, 1, 13, [1344])) (k := 174) (pc := 10) (by decide) (by decide +kernel) rfl) rfl rfl rfl (by decide +kernel) (by decide) (by decide +kernel) (by rfl) ?_
      refine ha_s (pc' := 14) (ls' := [haR 51 860, haI (520 + 164 * b), haI (i)]) (st' := [haI (520 + 164 * b), haR 77 861]) hF (haEt hT (e := (9, 13, 0, 1, 0, [])) (k := 174) (pc := 13) (by decide) (by decide +kernel) rfl) rfl (fun RG => avS9) (fun nx => rfl) ?_
      refine ha_s (pc' := 15) (ls' := [haR 51 860, haI (520 + 164 * b), haI (i)]) (st' := [haI (i), haI (520 + 164 * b), haR 77 861]) hF (haEt hT (e := (9, 14, 0, 2, 0, [])) (k := 174) (pc := 14) (by decide) (by decide +kernel) rfl) rfl (fun RG => avS9) (fun nx => rfl) ?_
      refine ha_iadd hF (haEt hT (e := (21, 15, 0, 0, 0, [])) (k := 174) (pc := 15) (by decide) (by decide +kernel) rfl) rfl rfl (by omega) (by omega) ?_
      refine ha_s (pc' := 17) (ls' := [haR 51 860, haI (520 + 164 * b), haI (i)]) (st' := [haI (0), haI (520 + 164 * b + (i)), haR 77 861]) hF (haEt hT (e := (1, 16, 0, 0, 9223372036854775808, [])) (k := 174) (pc := 16) (by decide) (by decide +kernel) rfl) rfl (fun RG => avS1) (fun nx => rfl) ?_
      refine ha_iast (r := 77) hF (haEt hT (e := (69, 17, 0, 0, 0, [])) (k := 174) (pc := 17) (by decide) (by decide +kernel) rfl) rfl rfl (by decide +kernel) (by omega) (by show _ < (1745 : Int); omega) hw.1 hw.2.1 hw.2.2 ?_
      refine ha_iinc (i := 2) (c := 1) hF (haEt hT (e := (20, 18, 0, 2, 9223372036854775809, [])) (k := 174) (pc := 18) (by decide) (by decide +kernel) rfl) rfl rfl rfl rfl rfl (by omega) (by omega) ?_
      show haW _ _ 21 [haR 51 860, haI (520 + 164 * b), haI (i + 1)] []
      refine ha_s (pc' := 2) (ls' := [haR 51 860, haI (520 + 164 * b), haI (i + 1)]) (st' := []) hF (haEt hT (e := (58, 21, 2, 0, 0, [])) (k := 174) (pc := 21) (by decide) (by decide +kernel) rfl) rfl (fun RG => avS58) (fun nx => rfl) ?_
      refine ih (i + 1) _ (by omega) (by omega) (fun j c hj => ?_) (fun c c0 c1 => ?_)
      · exact (haUp_n (fun z => hj ⟨z.1, by omega, by omega⟩)).trans (f1 j c hj)
      · by_cases hc : c = i
        · rw [hc]
          exact haUp_s
        · exact (haUp_n (fun z => by omega)).trans (f2 c c0 (by omega))
  refine ha_s (pc' := 1) (ls' := [haR 51 860, haI (520 + 164 * b), avJ]) (st' := [haI (4)]) hF (haEt hT (e := (1, 0, 0, 0, 9223372036854775812, [])) (k := 174) (pc := 0) (by decide) (by decide +kernel) rfl) rfl (fun RG => avS1) (fun nx => rfl) ?_
  refine ha_s (pc' := 2) (ls' := [haR 51 860, haI (520 + 164 * b), haI (4)]) (st' := []) hF (haEt hT (e := (15, 1, 0, 2, 0, [])) (k := 174) (pc := 1) (by decide) (by decide +kernel) rfl) rfl (fun RG => avS15) (fun nx => rfl) ?_
  exact clear 160 4 mu rfl (Int.le_refl 4) (fun _ _ _ => rfl) (fun c c0 c1 => by omega)
def haB32 (v : Int) : Prop := -2147483648 ≤ v ∧ v ≤ 2147483647
theorem hm_logs (hT : abTabs) {d : Nat} {a1 a2 a3 a4 a5 : Int} {mu : haMu} (hF0 : 0 ≤ mu 861 1504 ∧ mu 861 1504 ≤ 999999) (h1 : haB32 a1) (h2 : haB32 a2) (h3 : haB32 a3) (h4 : haB32 a4) (h5 : haB32 a5) : haSp 203 d [haR 51 860, haI a1, haI a2, haI a3, haI a4, haI a5] mu (fun o mu' => o = none ∧ (∀ (j : Nat) (i : Int), ¬ (j = 861 ∧ 1504 ≤ i ∧ i ≤ 1744) → mu' j i = mu j i) ∧ mu' 861 1504 = mu 861 1504 + 1) := by
  refine haMet (by decide) (hT.1 203 (by decide)) (haLe5 rfl) (show 6 ≤ (abMe 203).1.2.2.1 from by decide +kernel) (fun x hF hR => ?_)
  have y0 : 0 ≤ mu 861 1504 % 40 := Int.emod_nonneg _ (by decide)
  have y1 : mu 861 1504 % 40 < 40 := Int.emod_lt_of_pos _ (by decide)
  obtain ⟨yy, hyy⟩ : ∃ yy, yy = mu 861 1504 % 40 := ⟨_, rfl⟩
  rw [← hyy] at y0 y1
  refine ha_bd (j := 861) (r := 77) (i := 0) (lo := -2147483648) (up := 2147483647) hF (by decide) (by decide +kernel) (Or.inl (by decide +kernel)) (by decide) (by decide +kernel) (by rfl) (fun w1 w2 => ?_)
  refine ha_s (pc' := 3) (ls' := [haR 51 860, haI (a1), haI (a2), haI (a3), haI (a4), haI (a5), avJ]) (st' := [haI (1505)]) hF (haEt hT (e := (3, 0, 0, 0, 9223372036854777313, [])) (k := 203) (pc := 0) (by decide) (by decide +kernel) rfl) rfl (fun RG => avS3) (fun nx => rfl) ?_
  refine ha_s (pc' := 5) (ls' := [haR 51 860, haI (a1), haI (a2), haI (a3), haI (a4), haI (a5), avJ]) (st' := [haI (6), haI (1505)]) hF (haEt hT (e := (2, 3, 0, 0, 9223372036854775814, [])) (k := 203) (pc := 3) (by decide) (by decide +kernel) rfl) rfl (fun RG => avS2) (fun nx => rfl) ?_
  refine ha_s (pc' := 6) (ls' := [haR 51 860, haI (a1), haI (a2), haI (a3), haI (a4), haI (a5), avJ]) (st' := [haR 51 860, haI (6), haI (1505)]) hF (haEt hT (e := (13, 5, 0, 0, 0, [])) (k := 203) (pc := 5) (by decide) (by decide +kernel) rfl) rfl (fun RG => avS13) (fun nx => rfl) ?_
  refine ha_getR (r := 51) (j := 860) (i := 1) (r' := 77) (j' := 861) hF (haEt hT (e := (60, 6, 12, 1, 13, [1344])) (k := 203) (pc := 6) (by decide) (by decide +kernel) rfl) rfl rfl rfl (by decide +kernel) (by decide) (by decide +kernel) (by rfl) ?_
  refine ha_s (pc' := 12) (ls' := [haR 51 860, haI (a1), haI (a2), haI (a3), haI (a4), haI (a5), avJ]) (st' := [haI (1504), haR 77 861, haI (6), haI (1505)]) hF (haEt hT (e := (3, 9, 0, 0, 9223372036854777312, [])) (k := 203) (pc := 9) (by decide) (by decide +kernel) rfl) rfl (fun RG => avS3) (fun nx => rfl) ?_
  refine ha_iald (r := 77) hF (haEt hT (e := (64, 12, 0, 0, 0, [])) (k := 203) (pc := 12) (by decide) (by decide +kernel) rfl) rfl rfl (by decide +kernel) (by omega) (by show _ < (1745 : Int); omega) ?_
  refine ha_s (pc' := 15) (ls' := [haR 51 860, haI (a1), haI (a2), haI (a3), haI (a4), haI (a5), avJ]) (st' := [haI (40), haI (mu 861 (1504)), haI (6), haI (1505)]) hF (haEt hT (e := (2, 13, 0, 0, 9223372036854775848, [])) (k := 203) (pc := 13) (by decide) (by decide +kernel) rfl) rfl (fun RG => avS2) (fun nx => rfl) ?_
  refine ha_irem hF (haEt hT (e := (25, 15, 0, 0, 0, [])) (k := 203) (pc := 15) (by decide) (by decide +kernel) rfl) rfl rfl (by omega) (by omega) ?_
  rw [← hyy]
  refine ha_imul hF (haEt hT (e := (23, 16, 0, 0, 0, [])) (k := 203) (pc := 16) (by decide) (by decide +kernel) rfl) rfl rfl (by omega) (by omega) ?_
  refine ha_iadd hF (haEt hT (e := (21, 17, 0, 0, 0, [])) (k := 203) (pc := 17) (by decide) (by decide +kernel) rfl) rfl rfl (by omega) (by omega) ?_
  refine ha_s (pc' := 20) (ls' := [haR 51 860, haI (a1), haI (a2), haI (a3), haI (a4), haI (a5), haI (1505 + (yy) * (6))]) (st' := []) hF (haEt hT (e := (14, 18, 0, 6, 0, [])) (k := 203) (pc := 18) (by decide) (by decide +kernel) rfl) rfl (fun RG => avS14) (fun nx => rfl) ?_
  refine ha_s (pc' := 21) (ls' := [haR 51 860, haI (a1), haI (a2), haI (a3), haI (a4), haI (a5), haI (1505 + (yy) * (6))]) (st' := [haR 51 860]) hF (haEt hT (e := (13, 20, 0, 0, 0, [])) (k := 203) (pc := 20) (by decide) (by decide +kernel) rfl) rfl (fun RG => avS13) (fun nx => rfl) ?_
  refine ha_getR (r := 51) (j := 860) (i := 1) (r' := 77) (j' := 861) hF (haEt hT (e := (60, 21, 12, 1, 13, [1344])) (k := 203) (pc := 21) (by decide) (by decide +kernel) rfl) rfl rfl rfl (by decide +kernel) (by decide) (by decide +kernel) (by rfl) ?_
  refine ha_s (pc' := 26) (ls' := [haR 51 860, haI (a1), haI (a2), haI (a3), haI (a4), haI (a5), haI (1505 + (yy) * (6))]) (st' := [haI (1505 + (yy) * (6)), haR 77 861]) hF (haEt hT (e := (8, 24, 0, 6, 0, [])) (k := 203) (pc := 24) (by decide) (by decide +kernel) rfl) rfl (fun RG => avS8) (fun nx => rfl) ?_
  refine ha_s (pc' := 27) (ls' := [haR 51 860, haI (a1), haI (a2), haI (a3), haI (a4), haI (a5), haI (1505 + (yy) * (6))]) (st' := [haI (a1), haI (1505 + (yy) * (6)), haR 77 861]) hF (haEt hT (e := (9, 26, 0, 1, 0, [])) (k := 203) (pc := 26) (by decide) (by decide +kernel) rfl) rfl (fun RG => avS9) (fun nx => rfl) ?_
  refine ha_iast (r := 77) hF (haEt hT (e := (69, 27, 0, 0, 0, [])) (k := 203) (pc := 27) (by decide) (by decide +kernel) rfl) rfl rfl (by decide +kernel) (by omega) (by show _ < (1745 : Int); omega) (lo := -2147483648) (up := 2147483647) (haWf ⟨by omega, by omega⟩) h1.1 h1.2 ?_
  refine ha_s (pc' := 29) (ls' := [haR 51 860, haI (a1), haI (a2), haI (a3), haI (a4), haI (a5), haI (1505 + (yy) * (6))]) (st' := [haR 51 860]) hF (haEt hT (e := (13, 28, 0, 0, 0, [])) (k := 203) (pc := 28) (by decide) (by decide +kernel) rfl) rfl (fun RG => avS13) (fun nx => rfl) ?_
  refine ha_getR (r := 51) (j := 860) (i := 1) (r' := 77) (j' := 861) hF (haEt hT (e := (60, 29, 12, 1, 13, [1344])) (k := 203) (pc := 29) (by decide) (by decide +kernel) rfl) rfl rfl rfl (by decide +kernel) (by decide) (by decide +kernel) (by rfl) ?_
  refine ha_s (pc' := 34) (ls' := [haR 51 860, haI (a1), haI (a2), haI (a3), haI (a4), haI (a5), haI (1505 + (yy) * (6))]) (st' := [haI (1505 + (yy) * (6)), haR 77 861]) hF (haEt hT (e := (8, 32, 0, 6, 0, [])) (k := 203) (pc := 32) (by decide) (by decide +kernel) rfl) rfl (fun RG => avS8) (fun nx => rfl) ?_
  refine ha_s (pc' := 35) (ls' := [haR 51 860, haI (a1), haI (a2), haI (a3), haI (a4), haI (a5), haI (1505 + (yy) * (6))]) (st' := [haI (1), haI (1505 + (yy) * (6)), haR 77 861]) hF (haEt hT (e := (1, 34, 0, 0, 9223372036854775809, [])) (k := 203) (pc := 34) (by decide) (by decide +kernel) rfl) rfl (fun RG => avS1) (fun nx => rfl) ?_
  refine ha_iadd hF (haEt hT (e := (21, 35, 0, 0, 0, [])) (k := 203) (pc := 35) (by decide) (by decide +kernel) rfl) rfl rfl (by omega) (by omega) ?_
  refine ha_s (pc' := 37) (ls' := [haR 51 860, haI (a1), haI (a2), haI (a3), haI (a4), haI (a5), haI (1505 + (yy) * (6))]) (st' := [haI (a2), haI (1505 + (yy) * (6) + (1)), haR 77 861]) hF (haEt hT (e := (9, 36, 0, 2, 0, [])) (k := 203) (pc := 36) (by decide) (by decide +kernel) rfl) rfl (fun RG => avS9) (fun nx => rfl) ?_
  refine ha_iast (r := 77) hF (haEt hT (e := (69, 37, 0, 0, 0, [])) (k := 203) (pc := 37) (by decide) (by decide +kernel) rfl) rfl rfl (by decide +kernel) (by omega) (by show _ < (1745 : Int); omega) (lo := -2147483648) (up := 2147483647) (haWf ⟨by omega, by omega⟩) h2.1 h2.2 ?_
  refine ha_s (pc' := 39) (ls' := [haR 51 860, haI (a1), haI (a2), haI (a3), haI (a4), haI (a5), haI (1505 + (yy) * (6))]) (st' := [haR 51 860]) hF (haEt hT (e := (13, 38, 0, 0, 0, [])) (k := 203) (pc := 38) (by decide) (by decide +kernel) rfl) rfl (fun RG => avS13) (fun nx => rfl) ?_
  refine ha_getR (r := 51) (j := 860) (i := 1) (r' := 77) (j' := 861) hF (haEt hT (e := (60, 39, 12, 1, 13, [1344])) (k := 203) (pc := 39) (by decide) (by decide +kernel) rfl) rfl rfl rfl (by decide +kernel) (by decide) (by decide +kernel) (by rfl) ?_
  refine ha_s (pc' := 44) (ls' := [haR 51 860, haI (a1), haI (a2), haI (a3), haI (a4), haI (a5), haI (1505 + (yy) * (6))]) (st' := [haI (1505 + (yy) * (6)), haR 77 861]) hF (haEt hT (e := (8, 42, 0, 6, 0, [])) (k := 203) (pc := 42) (by decide) (by decide +kernel) rfl) rfl (fun RG => avS8) (fun nx => rfl) ?_
  refine ha_s (pc' := 45) (ls' := [haR 51 860, haI (a1), haI (a2), haI (a3), haI (a4), haI (a5), haI (1505 + (yy) * (6))]) (st' := [haI (2), haI (1505 + (yy) * (6)), haR 77 861]) hF (haEt hT (e := (1, 44, 0, 0, 9223372036854775810, [])) (k := 203) (pc := 44) (by decide) (by decide +kernel) rfl) rfl (fun RG => avS1) (fun nx => rfl) ?_
  refine ha_iadd hF (haEt hT (e := (21, 45, 0, 0, 0, [])) (k := 203) (pc := 45) (by decide) (by decide +kernel) rfl) rfl rfl (by omega) (by omega) ?_
  refine ha_s (pc' := 47) (ls' := [haR 51 860, haI (a1), haI (a2), haI (a3), haI (a4), haI (a5), haI (1505 + (yy) * (6))]) (st' := [haI (a3), haI (1505 + (yy) * (6) + (2)), haR 77 861]) hF (haEt hT (e := (9, 46, 0, 3, 0, [])) (k := 203) (pc := 46) (by decide) (by decide +kernel) rfl) rfl (fun RG => avS9) (fun nx => rfl) ?_
  refine ha_iast (r := 77) hF (haEt hT (e := (69, 47, 0, 0, 0, [])) (k := 203) (pc := 47) (by decide) (by decide +kernel) rfl) rfl rfl (by decide +kernel) (by omega) (by show _ < (1745 : Int); omega) (lo := -2147483648) (up := 2147483647) (haWf ⟨by omega, by omega⟩) h3.1 h3.2 ?_
  refine ha_s (pc' := 49) (ls' := [haR 51 860, haI (a1), haI (a2), haI (a3), haI (a4), haI (a5), haI (1505 + (yy) * (6))]) (st' := [haR 51 860]) hF (haEt hT (e := (13, 48, 0, 0, 0, [])) (k := 203) (pc := 48) (by decide) (by decide +kernel) rfl) rfl (fun RG => avS13) (fun nx => rfl) ?_
  refine ha_getR (r := 51) (j := 860) (i := 1) (r' := 77) (j' := 861) hF (haEt hT (e := (60, 49, 12, 1, 13, [1344])) (k := 203) (pc := 49) (by decide) (by decide +kernel) rfl) rfl rfl rfl (by decide +kernel) (by decide) (by decide +kernel) (by rfl) ?_
  refine ha_s (pc' := 54) (ls' := [haR 51 860, haI (a1), haI (a2), haI (a3), haI (a4), haI (a5), haI (1505 + (yy) * (6))]) (st' := [haI (1505 + (yy) * (6)), haR 77 861]) hF (haEt hT (e := (8, 52, 0, 6, 0, [])) (k := 203) (pc := 52) (by decide) (by decide +kernel) rfl) rfl (fun RG => avS8) (fun nx => rfl) ?_
  refine ha_s (pc' := 55) (ls' := [haR 51 860, haI (a1), haI (a2), haI (a3), haI (a4), haI (a5), haI (1505 + (yy) * (6))]) (st' := [haI (3), haI (1505 + (yy) * (6)), haR 77 861]) hF (haEt hT (e := (1, 54, 0, 0, 9223372036854775811, [])) (k := 203) (pc := 54) (by decide) (by decide +kernel) rfl) rfl (fun RG => avS1) (fun nx => rfl) ?_
  refine ha_iadd hF (haEt hT (e := (21, 55, 0, 0, 0, [])) (k := 203) (pc := 55) (by decide) (by decide +kernel) rfl) rfl rfl (by omega) (by omega) ?_
  refine ha_s (pc' := 58) (ls' := [haR 51 860, haI (a1), haI (a2), haI (a3), haI (a4), haI (a5), haI (1505 + (yy) * (6))]) (st' := [haI (a4), haI (1505 + (yy) * (6) + (3)), haR 77 861]) hF (haEt hT (e := (8, 56, 0, 4, 0, [])) (k := 203) (pc := 56) (by decide) (by decide +kernel) rfl) rfl (fun RG => avS8) (fun nx => rfl) ?_
  refine ha_iast (r := 77) hF (haEt hT (e := (69, 58, 0, 0, 0, [])) (k := 203) (pc := 58) (by decide) (by decide +kernel) rfl) rfl rfl (by decide +kernel) (by omega) (by show _ < (1745 : Int); omega) (lo := -2147483648) (up := 2147483647) (haWf ⟨by omega, by omega⟩) h4.1 h4.2 ?_
  refine ha_s (pc' := 60) (ls' := [haR 51 860, haI (a1), haI (a2), haI (a3), haI (a4), haI (a5), haI (1505 + (yy) * (6))]) (st' := [haR 51 860]) hF (haEt hT (e := (13, 59, 0, 0, 0, [])) (k := 203) (pc := 59) (by decide) (by decide +kernel) rfl) rfl (fun RG => avS13) (fun nx => rfl) ?_
  refine ha_getR (r := 51) (j := 860) (i := 1) (r' := 77) (j' := 861) hF (haEt hT (e := (60, 60, 12, 1, 13, [1344])) (k := 203) (pc := 60) (by decide) (by decide +kernel) rfl) rfl rfl rfl (by decide +kernel) (by decide) (by decide +kernel) (by rfl) ?_
  refine ha_s (pc' := 65) (ls' := [haR 51 860, haI (a1), haI (a2), haI (a3), haI (a4), haI (a5), haI (1505 + (yy) * (6))]) (st' := [haI (1505 + (yy) * (6)), haR 77 861]) hF (haEt hT (e := (8, 63, 0, 6, 0, [])) (k := 203) (pc := 63) (by decide) (by decide +kernel) rfl) rfl (fun RG => avS8) (fun nx => rfl) ?_
  refine ha_s (pc' := 66) (ls' := [haR 51 860, haI (a1), haI (a2), haI (a3), haI (a4), haI (a5), haI (1505 + (yy) * (6))]) (st' := [haI (4), haI (1505 + (yy) * (6)), haR 77 861]) hF (haEt hT (e := (1, 65, 0, 0, 9223372036854775812, [])) (k := 203) (pc := 65) (by decide) (by decide +kernel) rfl) rfl (fun RG => avS1) (fun nx => rfl) ?_
  refine ha_iadd hF (haEt hT (e := (21, 66, 0, 0, 0, [])) (k := 203) (pc := 66) (by decide) (by decide +kernel) rfl) rfl rfl (by omega) (by omega) ?_
  refine ha_s (pc' := 68) (ls' := [haR 51 860, haI (a1), haI (a2), haI (a3), haI (a4), haI (a5), haI (1505 + (yy) * (6))]) (st' := [haR 51 860, haI (1505 + (yy) * (6) + (4)), haR 77 861]) hF (haEt hT (e := (13, 67, 0, 0, 0, [])) (k := 203) (pc := 67) (by decide) (by decide +kernel) rfl) rfl (fun RG => avS13) (fun nx => rfl) ?_
  refine ha_getR (r := 51) (j := 860) (i := 1) (r' := 77) (j' := 861) hF (haEt hT (e := (60, 68, 12, 1, 13, [1344])) (k := 203) (pc := 68) (by decide) (by decide +kernel) rfl) rfl rfl rfl (by decide +kernel) (by decide) (by decide +kernel) (by rfl) ?_
  refine ha_s (pc' := 72) (ls' := [haR 51 860, haI (a1), haI (a2), haI (a3), haI (a4), haI (a5), haI (1505 + (yy) * (6))]) (st' := [haI (0), haR 77 861, haI (1505 + (yy) * (6) + (4)), haR 77 861]) hF (haEt hT (e := (1, 71, 0, 0, 9223372036854775808, [])) (k := 203) (pc := 71) (by decide) (by decide +kernel) rfl) rfl (fun RG => avS1) (fun nx => rfl) ?_
  refine ha_iald (r := 77) hF (haEt hT (e := (64, 72, 0, 0, 0, [])) (k := 203) (pc := 72) (by decide) (by decide +kernel) rfl) rfl rfl (by decide +kernel) (by omega) (by show _ < (1745 : Int); omega) ?_
  rw [show (haUp (haUp (haUp (haUp mu 861 (1505 + (yy) * (6)) a1) 861 (1505 + (yy) * (6) + (1)) a2) 861 (1505 + (yy) * (6) + (2)) a3) 861 (1505 + (yy) * (6) + (3)) a4) 861 0 = mu 861 0 from by rw [haUp_n (fun z => by omega), haUp_n (fun z => by omega), haUp_n (fun z => by omega), haUp_n (fun z => by omega)]]
  refine ha_iast (r := 77) hF (haEt hT (e := (69, 73, 0, 0, 0, [])) (k := 203) (pc := 73) (by decide) (by decide +kernel) rfl) rfl rfl (by decide +kernel) (by omega) (by show _ < (1745 : Int); omega) (lo := -2147483648) (up := 2147483647) (haWf ⟨by omega, by omega⟩) w1 w2 ?_
  refine ha_s (pc' := 75) (ls' := [haR 51 860, haI (a1), haI (a2), haI (a3), haI (a4), haI (a5), haI (1505 + (yy) * (6))]) (st' := [haR 51 860]) hF (haEt hT (e := (13, 74, 0, 0, 0, [])) (k := 203) (pc := 74) (by decide) (by decide +kernel) rfl) rfl (fun RG => avS13) (fun nx => rfl) ?_
  refine ha_getR (r := 51) (j := 860) (i := 1) (r' := 77) (j' := 861) hF (haEt hT (e := (60, 75, 12, 1, 13, [1344])) (k := 203) (pc := 75) (by decide) (by decide +kernel) rfl) rfl rfl rfl (by decide +kernel) (by decide) (by decide +kernel) (by rfl) ?_
  refine ha_s (pc' := 80) (ls' := [haR 51 860, haI (a1), haI (a2), haI (a3), haI (a4), haI (a5), haI (1505 + (yy) * (6))]) (st' := [haI (1505 + (yy) * (6)), haR 77 861]) hF (haEt hT (e := (8, 78, 0, 6, 0, [])) (k := 203) (pc := 78) (by decide) (by decide +kernel) rfl) rfl (fun RG => avS8) (fun nx => rfl) ?_
  refine ha_s (pc' := 81) (ls' := [haR 51 860, haI (a1), haI (a2), haI (a3), haI (a4), haI (a5), haI (1505 + (yy) * (6))]) (st' := [haI (5), haI (1505 + (yy) * (6)), haR 77 861]) hF (haEt hT (e := (1, 80, 0, 0, 9223372036854775813, [])) (k := 203) (pc := 80) (by decide) (by decide +kernel) rfl) rfl (fun RG => avS1) (fun nx => rfl) ?_
  refine ha_iadd hF (haEt hT (e := (21, 81, 0, 0, 0, [])) (k := 203) (pc := 81) (by decide) (by decide +kernel) rfl) rfl rfl (by omega) (by omega) ?_
  refine ha_s (pc' := 84) (ls' := [haR 51 860, haI (a1), haI (a2), haI (a3), haI (a4), haI (a5), haI (1505 + (yy) * (6))]) (st' := [haI (a5), haI (1505 + (yy) * (6) + (5)), haR 77 861]) hF (haEt hT (e := (8, 82, 0, 5, 0, [])) (k := 203) (pc := 82) (by decide) (by decide +kernel) rfl) rfl (fun RG => avS8) (fun nx => rfl) ?_
  refine ha_iast (r := 77) hF (haEt hT (e := (69, 84, 0, 0, 0, [])) (k := 203) (pc := 84) (by decide) (by decide +kernel) rfl) rfl rfl (by decide +kernel) (by omega) (by show _ < (1745 : Int); omega) (lo := -2147483648) (up := 2147483647) (haWf ⟨by omega, by omega⟩) h5.1 h5.2 ?_
  refine ha_s (pc' := 86) (ls' := [haR 51 860, haI (a1), haI (a2), haI (a3), haI (a4), haI (a5), haI (1505 + (yy) * (6))]) (st' := [haR 51 860]) hF (haEt hT (e := (13, 85, 0, 0, 0, [])) (k := 203) (pc := 85) (by decide) (by decide +kernel) rfl) rfl (fun RG => avS13) (fun nx => rfl) ?_
  refine ha_getR (r := 51) (j := 860) (i := 1) (r' := 77) (j' := 861) hF (haEt hT (e := (60, 86, 12, 1, 13, [1344])) (k := 203) (pc := 86) (by decide) (by decide +kernel) rfl) rfl rfl rfl (by decide +kernel) (by decide) (by decide +kernel) (by rfl) ?_
  refine ha_s (pc' := 92) (ls' := [haR 51 860, haI (a1), haI (a2), haI (a3), haI (a4), haI (a5), haI (1505 + (yy) * (6))]) (st' := [haI (1504), haR 77 861]) hF (haEt hT (e := (3, 89, 0, 0, 9223372036854777312, [])) (k := 203) (pc := 89) (by decide) (by decide +kernel) rfl) rfl (fun RG => avS3) (fun nx => rfl) ?_
  refine ha_s (pc' := 93) (ls' := [haR 51 860, haI (a1), haI (a2), haI (a3), haI (a4), haI (a5), haI (1505 + (yy) * (6))]) (st' := [haI (1504), haR 77 861, haI (1504), haR 77 861]) hF (haEt hT (e := (45, 92, 0, 0, 0, [])) (k := 203) (pc := 92) (by decide) (by decide +kernel) rfl) rfl (fun RG => avS45) (fun nx => rfl) ?_
  refine ha_iald (r := 77) hF (haEt hT (e := (64, 93, 0, 0, 0, [])) (k := 203) (pc := 93) (by decide) (by decide +kernel) rfl) rfl rfl (by decide +kernel) (by omega) (by show _ < (1745 : Int); omega) ?_
  rw [show (haUp (haUp (haUp (haUp (haUp (haUp mu 861 (1505 + (yy) * (6)) a1) 861 (1505 + (yy) * (6) + (1)) a2) 861 (1505 + (yy) * (6) + (2)) a3) 861 (1505 + (yy) * (6) + (3)) a4) 861 (1505 + (yy) * (6) + (4)) (mu 861 0)) 861 (1505 + (yy) * (6) + (5)) a5) 861 1504 = mu 861 1504 from by rw [haUp_n (fun z => by omega), haUp_n (fun z => by omega), haUp_n (fun z => by omega), haUp_n (fun z => by omega), haUp_n (fun z => by omega), haUp_n (fun z => by omega)]]
  refine ha_s (pc' := 95) (ls' := [haR 51 860, haI (a1), haI (a2), haI (a3), haI (a4), haI (a5), haI (1505 + (yy) * (6))]) (st' := [haI (1), haI (mu 861 1504), haI (1504), haR 77 861]) hF (haEt hT (e := (1, 94, 0, 0, 9223372036854775809, [])) (k := 203) (pc := 94) (by decide) (by decide +kernel) rfl) rfl (fun RG => avS1) (fun nx => rfl) ?_
  refine ha_iadd hF (haEt hT (e := (21, 95, 0, 0, 0, [])) (k := 203) (pc := 95) (by decide) (by decide +kernel) rfl) rfl rfl (by omega) (by omega) ?_
  refine ha_iast (r := 77) hF (haEt hT (e := (69, 96, 0, 0, 0, [])) (k := 203) (pc := 96) (by decide) (by decide +kernel) rfl) rfl rfl (by decide +kernel) (by omega) (by show _ < (1745 : Int); omega) (lo := 0) (up := 1000000) (by rfl) (by omega) (by omega) ?_
  refine hR 97 _ _ _ none (82, 97, 0, 0, 0, []) (haEt hT (e := (82, 97, 0, 0, 0, [])) (k := 203) (pc := 97) (by decide) (by decide +kernel) rfl) rfl (Or.inl ⟨rfl, rfl, rfl⟩) ⟨rfl, fun j i hj => ?_, ?_⟩
  · rw [haUp_n (fun z => hj ⟨z.1, by omega, by omega⟩), haUp_n (fun z => hj ⟨z.1, by omega, by omega⟩), haUp_n (fun z => hj ⟨z.1, by omega, by omega⟩), haUp_n (fun z => hj ⟨z.1, by omega, by omega⟩), haUp_n (fun z => hj ⟨z.1, by omega, by omega⟩), haUp_n (fun z => hj ⟨z.1, by omega, by omega⟩), haUp_n (fun z => hj ⟨z.1, by omega, by omega⟩)]
  · exact haUp_s
