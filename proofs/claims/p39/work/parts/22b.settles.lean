/-! TallBinsModel.settles -/
theorem haWd_lays {mu mu' : haMu} (h : haWd mu) {b r n : Int} (hb : 0 ≤ b ∧ b ≤ 5) (hr : 0 ≤ r ∧ r ≤ 11) (p2 : mu 868 0 = n) (hn : 0 ≤ n) (p3 : ∀ c : Int, 0 ≤ c → c < 8 → 0 ≤ mu 868 (4 + c)) (p4 : haS (fun c => mu 868 (4 + c)) 8 = n) (hh : mu 861 (540 + 164 * b + 12 * r) + n ≤ mu 861 (521 + 164 * b)) :
    (∀ c : Int, 0 ≤ c → c ≤ 11 → ¬ (1 ≤ c ∧ c ≤ 3) → 0 ≤ mu 861 (540 + 164 * b + 12 * r + c) + mu 868 c ∧ mu 861 (540 + 164 * b + 12 * r + c) + mu 868 c ≤ 1000) ∧
    ((∀ (j : Nat) (i : Int), ¬ (j = 861 ∧ 540 + 164 * b + 12 * r ≤ i ∧ i ≤ 540 + 164 * b + 12 * r + 11) → mu' j i = mu j i) → (∀ c : Int, 0 ≤ c → c ≤ 11 → ¬ (1 ≤ c ∧ c ≤ 3) → mu' 861 (540 + 164 * b + 12 * r + c) = mu 861 (540 + 164 * b + 12 * r + c) + mu 868 c) → haWd mu') := by
  obtain ⟨h1, h2, h3, h4⟩ := h.2 b r hb.1 hb.2 hr.1 hr.2
  have h5 := h.1 b hb.1 hb.2
  refine ⟨fun c c0 c1 c2 => ?_, fun g1 g2 => ?_⟩
  · by_cases e : c = 0
    · rw [e, Int.add_zero, p2]
      omega
    · have a1 := haRing_lot h hb hr (c := c - 4) ⟨by omega, by omega⟩
      have a2 := haS_mem (f := fun c => mu 868 (4 + c)) (n := 8) p3 (j := c - 4) (by omega) (by omega)
      have a3 := p3 (c - 4) (by omega) (by omega)
      rw [show 4 + (c - 4) = c by omega, p4] at a2
      rw [show 4 + (c - 4) = c by omega] at a3
      rw [show 540 + 164 * b + 12 * r + 4 + (c - 4) = 540 + 164 * b + 12 * r + c by omega] at a1
      omega
  · have e0 := g2 0 (by omega) (by omega) (by omega)
    rw [Int.add_zero, p2] at e0
    have e1 := g1 861 (520 + 164 * b + 1) (fun q => haAp1 hb hr (i := 1) ⟨by omega, by omega⟩ q.2)
    rw [show 520 + 164 * b + 1 = 521 + 164 * b by omega] at e1
    have e2 : ∀ c : Int, 0 ≤ c → c < 8 → mu' 861 (540 + 164 * b + 12 * r + 4 + c) = mu 861 (540 + 164 * b + 12 * r + 4 + c) + mu 868 (4 + c) := fun c c0 c1 => by
      have := g2 (4 + c) (by omega) (by omega) (by omega)
      rw [show 540 + 164 * b + 12 * r + (4 + c) = 540 + 164 * b + 12 * r + 4 + c by omega] at this
      exact this
    refine haWd_ring h hb hr (fun i _ hi => g1 861 i (fun q => hi q.2)) ⟨by rw [e0]; omega, by rw [e0, e1]; exact hh, fun c c0 c1 => ?_, ?_⟩
    · rw [e2 c c0 c1]
      have := h3 c c0 c1
      have := p3 c c0 c1
      omega
    · have e : haS (fun c => mu' 861 (540 + 164 * b + 12 * r + 4 + c)) 8 = 1 * haS (fun c => mu 861 (540 + 164 * b + 12 * r + 4 + c)) 8 + 1 * haS (fun c => mu 868 (4 + c)) 8 := haS_lin (fun c c0 c1 => by
        rw [e2 c c0 c1]
        omega)
      rw [e, h4, p4, e0]
      omega
theorem hm_settles (hT : abTabs) {d : Nat} {b : Int} {mu : haMu} (hb : 0 ≤ b ∧ b ≤ 5) (hW : haWd mu) :
    haSp 216 (d + 2) [haR 51 860, haI b] mu (fun o mu' => o = none ∧ haWd mu' ∧ ∀ (j : Nat) (i : Int), haGd j i → ¬ j = 868 → ¬ j = 869 → ¬ (j = 861 ∧ 540 + 164 * b ≤ i ∧ i ≤ 683 + 164 * b) → mu' j i = mu j i) := by
  refine haMet (by decide) (hT.1 216 (by decide)) (haLe5 rfl) (show 2 ≤ (abMe 216).1.2.2.1 from by decide +kernel) (fun x hF hR => ?_)
  have hB := hW.1 b hb.1 hb.2
  have inner : ∀ (nn : Nat) (up r : Int) (nu : haMu) (v5 : avV), (nn : Int) = 12 - up → 0 ≤ r → r < up → haWd nu → (∀ (j : Nat) (i : Int), haGd j i → ¬ j = 868 → ¬ j = 869 → ¬ (j = 861 ∧ 540 + 164 * b ≤ i ∧ i ≤ 683 + 164 * b) → nu j i = mu j i) →
      (∀ (nu' : haMu) (v4 v5 : avV), haWd nu' → (∀ (j : Nat) (i : Int), haGd j i → ¬ j = 868 → ¬ j = 869 → ¬ (j = 861 ∧ 540 + 164 * b ≤ i ∧ i ≤ 683 + 164 * b) → nu' j i = mu j i) → haW x nu' 103 [haR 51 860, haI (b), haI (520 + 164 * b), haI (r), v4, v5] []) → haW x nu 22 [haR 51 860, haI (b), haI (520 + 164 * b), haI (r), haI (up), v5] [] := by
    intro nn
    induction nn with
    | zero =>
      intro up r nu v5 hn0 h0 h1 f1 f2 hx
      have hR0 := f2 861 (520 + 164 * b + 0) (haGd_hold hb ⟨by omega, by omega⟩) (by decide) (by decide) (by omega)
      rw [Int.add_zero] at hR0
      refine ha_s (pc' := 24) (ls' := [haR 51 860, haI (b), haI (520 + 164 * b), haI (r), haI (up), v5]) (st' := [haI (up)]) hF (haEt hT (e := (8, 22, 0, 4, 0, [])) (k := 216) (pc := 22) (by decide) (by decide +kernel) rfl) rfl (fun RG => avS8) (fun nx => rfl) ?_
      refine ha_s (pc' := 25) (ls' := [haR 51 860, haI (b), haI (520 + 164 * b), haI (r), haI (up), v5]) (st' := [haR 51 860, haI (up)]) hF (haEt hT (e := (13, 24, 0, 0, 0, [])) (k := 216) (pc := 24) (by decide) (by decide +kernel) rfl) rfl (fun RG => avS13) (fun nx => rfl) ?_
      refine ha_getR (r := 51) (j := 860) (i := 1) (r' := 77) (j' := 861) hF (haEt hT (e := (60, 25, 12, 1, 13, [1344])) (k := 216) (pc := 25) (by decide) (by decide +kernel) rfl) rfl rfl rfl (by decide +kernel) (by decide) (by decide +kernel) (by rfl) ?_
      refine ha_s (pc' := 29) (ls' := [haR 51 860, haI (b), haI (520 + 164 * b), haI (r), haI (up), v5]) (st' := [haI (520 + 164 * b), haR 77 861, haI (up)]) hF (haEt hT (e := (9, 28, 0, 2, 0, [])) (k := 216) (pc := 28) (by decide) (by decide +kernel) rfl) rfl (fun RG => avS9) (fun nx => rfl) ?_
      refine ha_iald (r := 77) hF (haEt hT (e := (64, 29, 0, 0, 0, [])) (k := 216) (pc := 29) (by decide) (by decide +kernel) rfl) rfl rfl (by decide +kernel) (by omega) (by show _ < (1745 : Int); omega) ?_
      exact ha_icge hF (haEt hT (e := (55, 30, 103, 0, 0, [])) (k := 216) (pc := 30) (by decide) (by decide +kernel) rfl) rfl rfl rfl (fun _ => hx nu _ _ f1 f2) (fun q => by omega)
    | succ nn ih =>
      intro up r nu v5 hn0 h0 h1 f1 f2 hx
      have hR0 := f2 861 (520 + 164 * b + 0) (haGd_hold hb ⟨by omega, by omega⟩) (by decide) (by decide) (by omega)
      rw [Int.add_zero] at hR0
      refine ha_s (pc' := 24) (ls' := [haR 51 860, haI (b), haI (520 + 164 * b), haI (r), haI (up), v5]) (st' := [haI (up)]) hF (haEt hT (e := (8, 22, 0, 4, 0, [])) (k := 216) (pc := 22) (by decide) (by decide +kernel) rfl) rfl (fun RG => avS8) (fun nx => rfl) ?_
      refine ha_s (pc' := 25) (ls' := [haR 51 860, haI (b), haI (520 + 164 * b), haI (r), haI (up), v5]) (st' := [haR 51 860, haI (up)]) hF (haEt hT (e := (13, 24, 0, 0, 0, [])) (k := 216) (pc := 24) (by decide) (by decide +kernel) rfl) rfl (fun RG => avS13) (fun nx => rfl) ?_
      refine ha_getR (r := 51) (j := 860) (i := 1) (r' := 77) (j' := 861) hF (haEt hT (e := (60, 25, 12, 1, 13, [1344])) (k := 216) (pc := 25) (by decide) (by decide +kernel) rfl) rfl rfl rfl (by decide +kernel) (by decide) (by decide +kernel) (by rfl) ?_
      refine ha_s (pc' := 29) (ls' := [haR 51 860, haI (b), haI (520 + 164 * b), haI (r), haI (up), v5]) (st' := [haI (520 + 164 * b), haR 77 861, haI (up)]) hF (haEt hT (e := (9, 28, 0, 2, 0, [])) (k := 216) (pc := 28) (by decide) (by decide +kernel) rfl) rfl (fun RG => avS9) (fun nx => rfl) ?_
      refine ha_iald (r := 77) hF (haEt hT (e := (64, 29, 0, 0, 0, [])) (k := 216) (pc := 29) (by decide) (by decide +kernel) rfl) rfl rfl (by decide +kernel) (by omega) (by show _ < (1745 : Int); omega) ?_
      refine ha_icge hF (haEt hT (e := (55, 30, 103, 0, 0, [])) (k := 216) (pc := 30) (by decide) (by decide +kernel) rfl) rfl rfl rfl (fun _ => hx nu _ _ f1 f2) (fun q => ?_)
      have hr : 0 ≤ r ∧ r ≤ 11 := ⟨h0, by omega⟩
      have hup : 0 ≤ up ∧ up ≤ 11 := ⟨by omega, by omega⟩
      have hBn := f1.1 b hb.1 hb.2
      obtain ⟨r1, r2, r3, r4⟩ := f1.2 b r hb.1 hb.2 hr.1 hr.2
      obtain ⟨u1, u2, u3, u4⟩ := f1.2 b up hb.1 hb.2 hup.1 hup.2
      refine ha_s (pc' := 34) (ls' := [haR 51 860, haI (b), haI (520 + 164 * b), haI (r), haI (up), v5]) (st' := [haR 51 860]) hF (haEt hT (e := (13, 33, 0, 0, 0, [])) (k := 216) (pc := 33) (by decide) (by decide +kernel) rfl) rfl (fun RG => avS13) (fun nx => rfl) ?_
      refine ha_getR (r := 51) (j := 860) (i := 1) (r' := 77) (j' := 861) hF (haEt hT (e := (60, 34, 12, 1, 13, [1344])) (k := 216) (pc := 34) (by decide) (by decide +kernel) rfl) rfl rfl rfl (by decide +kernel) (by decide) (by decide +kernel) (by rfl) ?_
      refine ha_s (pc' := 38) (ls' := [haR 51 860, haI (b), haI (520 + 164 * b), haI (r), haI (up), v5]) (st' := [haI (520 + 164 * b), haR 77 861]) hF (haEt hT (e := (9, 37, 0, 2, 0, [])) (k := 216) (pc := 37) (by decide) (by decide +kernel) rfl) rfl (fun RG => avS9) (fun nx => rfl) ?_
      refine ha_s (pc' := 39) (ls' := [haR 51 860, haI (b), haI (520 + 164 * b), haI (r), haI (up), v5]) (st' := [haI (1), haI (520 + 164 * b), haR 77 861]) hF (haEt hT (e := (1, 38, 0, 0, 9223372036854775809, [])) (k := 216) (pc := 38) (by decide) (by decide +kernel) rfl) rfl (fun RG => avS1) (fun nx => rfl) ?_
      refine ha_iadd hF (haEt hT (e := (21, 39, 0, 0, 0, [])) (k := 216) (pc := 39) (by decide) (by decide +kernel) rfl) rfl rfl (by omega) (by omega) ?_
      refine ha_iald (r := 77) hF (haEt hT (e := (64, 40, 0, 0, 0, [])) (k := 216) (pc := 40) (by decide) (by decide +kernel) rfl) rfl rfl (by decide +kernel) (by omega) (by show _ < (1745 : Int); omega) ?_
      refine ha_s (pc' := 42) (ls' := [haR 51 860, haI (b), haI (520 + 164 * b), haI (r), haI (up), v5]) (st' := [haR 51 860, haI (nu 861 (520 + 164 * b + (1)))]) hF (haEt hT (e := (13, 41, 0, 0, 0, [])) (k := 216) (pc := 41) (by decide) (by decide +kernel) rfl) rfl (fun RG => avS13) (fun nx => rfl) ?_
      refine ha_getR (r := 51) (j := 860) (i := 1) (r' := 77) (j' := 861) hF (haEt hT (e := (60, 42, 12, 1, 13, [1344])) (k := 216) (pc := 42) (by decide) (by decide +kernel) rfl) rfl rfl rfl (by decide +kernel) (by decide) (by decide +kernel) (by rfl) ?_
      refine ha_s (pc' := 46) (ls' := [haR 51 860, haI (b), haI (520 + 164 * b), haI (r), haI (up), v5]) (st' := [haI (b), haR 77 861, haI (nu 861 (520 + 164 * b + (1)))]) hF (haEt hT (e := (9, 45, 0, 1, 0, [])) (k := 216) (pc := 45) (by decide) (by decide +kernel) rfl) rfl (fun RG => avS9) (fun nx => rfl) ?_
      refine ha_s (pc' := 47) (ls' := [haR 51 860, haI (b), haI (520 + 164 * b), haI (r), haI (up), v5]) (st' := [haI (r), haI (b), haR 77 861, haI (nu 861 (520 + 164 * b + (1)))]) hF (haEt hT (e := (9, 46, 0, 3, 0, [])) (k := 216) (pc := 46) (by decide) (by decide +kernel) rfl) rfl (fun RG => avS9) (fun nx => rfl) ?_
      refine ha_callS (q := 182) (d' := d + 1) (as := [haI b, haI r]) (rest := [haR 77 861, haI (nu 861 (520 + 164 * b + (1)))]) hT hF (haEt hT (e := (79, 47, 182, 0, 126, [1495, 1496])) (k := 216) (pc := 47) (by decide) (by decide +kernel) rfl) rfl rfl rfl (by decide +kernel) (hm_ringAt hT hb hr) (Nat.le_refl _) rfl (show 2 = (abMe 182).2.1 from by decide +kernel) (show 2 + (abMe 182).1.2.2.1 ≤ 49 from by decide +kernel) (fun o ku h => ?_)
      obtain ⟨rfl, rfl⟩ := h
      show haW x _ 50 [haR 51 860, haI (b), haI (520 + 164 * b), haI (r), haI (up), v5] [haI (540 + 164 * b + 12 * r), haR 77 861, haI (ku 861 (520 + 164 * b + 1))]
      refine ha_iald (r := 77) hF (haEt hT (e := (64, 50, 0, 0, 0, [])) (k := 216) (pc := 50) (by decide) (by decide +kernel) rfl) rfl rfl (by decide +kernel) (by omega) (by show _ < (1745 : Int); omega) ?_
      refine ha_isub hF (haEt hT (e := (22, 51, 0, 0, 0, [])) (k := 216) (pc := 51) (by decide) (by decide +kernel) rfl) rfl rfl (by rw [show 520 + 164 * b + 1 = 521 + 164 * b by omega]; omega) (by rw [show 520 + 164 * b + 1 = 521 + 164 * b by omega]; omega) ?_
      refine ha_s (pc' := 53) (ls' := [haR 51 860, haI (b), haI (520 + 164 * b), haI (r), haI (up), v5]) (st' := [haR 51 860, haI (ku 861 (520 + 164 * b + 1) - (ku 861 (540 + 164 * b + 12 * r)))]) hF (haEt hT (e := (13, 52, 0, 0, 0, [])) (k := 216) (pc := 52) (by decide) (by decide +kernel) rfl) rfl (fun RG => avS13) (fun nx => rfl) ?_
      refine ha_getR (r := 51) (j := 860) (i := 1) (r' := 77) (j' := 861) hF (haEt hT (e := (60, 53, 12, 1, 13, [1344])) (k := 216) (pc := 53) (by decide) (by decide +kernel) rfl) rfl rfl rfl (by decide +kernel) (by decide) (by decide +kernel) (by rfl) ?_
      refine ha_s (pc' := 57) (ls' := [haR 51 860, haI (b), haI (520 + 164 * b), haI (r), haI (up), v5]) (st' := [haI (b), haR 77 861, haI (ku 861 (520 + 164 * b + 1) - (ku 861 (540 + 164 * b + 12 * r)))]) hF (haEt hT (e := (9, 56, 0, 1, 0, [])) (k := 216) (pc := 56) (by decide) (by decide +kernel) rfl) rfl (fun RG => avS9) (fun nx => rfl) ?_
      refine ha_s (pc' := 59) (ls' := [haR 51 860, haI (b), haI (520 + 164 * b), haI (r), haI (up), v5]) (st' := [haI (up), haI (b), haR 77 861, haI (ku 861 (520 + 164 * b + 1) - (ku 861 (540 + 164 * b + 12 * r)))]) hF (haEt hT (e := (8, 57, 0, 4, 0, [])) (k := 216) (pc := 57) (by decide) (by decide +kernel) rfl) rfl (fun RG => avS8) (fun nx => rfl) ?_
      refine ha_callS (q := 182) (d' := d + 1) (as := [haI b, haI up]) (rest := [haR 77 861, haI (ku 861 (520 + 164 * b + 1) - (ku 861 (540 + 164 * b + 12 * r)))]) hT hF (haEt hT (e := (79, 59, 182, 0, 126, [1495, 1496])) (k := 216) (pc := 59) (by decide) (by decide +kernel) rfl) rfl rfl rfl (by decide +kernel) (hm_ringAt hT hb hup) (Nat.le_refl _) rfl (show 2 = (abMe 182).2.1 from by decide +kernel) (show 2 + (abMe 182).1.2.2.1 ≤ 49 from by decide +kernel) (fun o ku h => ?_)
      obtain ⟨rfl, rfl⟩ := h
      rw [show 520 + 164 * b + 1 = 521 + 164 * b by omega]
      show haW x _ 62 [haR 51 860, haI (b), haI (520 + 164 * b), haI (r), haI (up), v5] [haI (540 + 164 * b + 12 * up), haR 77 861, haI (ku 861 (521 + 164 * b) - ku 861 (540 + 164 * b + 12 * r))]
      refine ha_iald (r := 77) hF (haEt hT (e := (64, 62, 0, 0, 0, [])) (k := 216) (pc := 62) (by decide) (by decide +kernel) rfl) rfl rfl (by decide +kernel) (by omega) (by show _ < (1745 : Int); omega) ?_
      refine ha_callS (q := 269) (d' := d + 1) (as := [haI (ku 861 (521 + 164 * b) - ku 861 (540 + 164 * b + 12 * r)), haI (ku 861 (540 + 164 * b + 12 * up))]) (rest := []) hT hF (haEt hT (e := (79, 63, 269, 0, 171, [1515, 598])) (k := 216) (pc := 63) (by decide) (by decide +kernel) rfl) rfl rfl rfl (by decide +kernel) (hm_min hT) (Nat.le_refl _) rfl (show 2 = (abMe 269).2.1 from by decide +kernel) (show 0 + (abMe 269).1.2.2.1 ≤ 49 from by decide +kernel) (fun o ku h => ?_)
      obtain ⟨n, rfl, rfl, hn⟩ := h
      show haW x _ 66 [haR 51 860, haI (b), haI (520 + 164 * b), haI (r), haI (up), v5] [haI (n)]
      refine ha_s (pc' := 68) (ls' := [haR 51 860, haI (b), haI (520 + 164 * b), haI (r), haI (up), haI (n)]) (st' := []) hF (haEt hT (e := (14, 66, 0, 5, 0, [])) (k := 216) (pc := 66) (by decide) (by decide +kernel) rfl) rfl (fun RG => avS14) (fun nx => rfl) ?_
      refine ha_s (pc' := 70) (ls' := [haR 51 860, haI (b), haI (520 + 164 * b), haI (r), haI (up), haI (n)]) (st' := [haI (n)]) hF (haEt hT (e := (8, 68, 0, 5, 0, [])) (k := 216) (pc := 68) (by decide) (by decide +kernel) rfl) rfl (fun RG => avS8) (fun nx => rfl) ?_
      refine ha_ifne hF (haEt hT (e := (47, 70, 76, 0, 0, [])) (k := 216) (pc := 70) (by decide) (by decide +kernel) rfl) rfl rfl rfl (fun hne => ?_) (fun he => ?_)
      · skip
        refine ha_s (pc' := 77) (ls' := [haR 51 860, haI (b), haI (520 + 164 * b), haI (r), haI (up), haI (n)]) (st' := [haR 51 860]) hF (haEt hT (e := (13, 76, 0, 0, 0, [])) (k := 216) (pc := 76) (by decide) (by decide +kernel) rfl) rfl (fun RG => avS13) (fun nx => rfl) ?_
        refine ha_s (pc' := 78) (ls' := [haR 51 860, haI (b), haI (520 + 164 * b), haI (r), haI (up), haI (n)]) (st' := [haI (b), haR 51 860]) hF (haEt hT (e := (9, 77, 0, 1, 0, [])) (k := 216) (pc := 77) (by decide) (by decide +kernel) rfl) rfl (fun RG => avS9) (fun nx => rfl) ?_
        refine ha_s (pc' := 80) (ls' := [haR 51 860, haI (b), haI (520 + 164 * b), haI (r), haI (up), haI (n)]) (st' := [haI (up), haI (b), haR 51 860]) hF (haEt hT (e := (8, 78, 0, 4, 0, [])) (k := 216) (pc := 78) (by decide) (by decide +kernel) rfl) rfl (fun RG => avS8) (fun nx => rfl) ?_
        refine ha_callS (q := 182) (d' := d + 1) (as := [haI b, haI up]) (rest := [haR 51 860]) hT hF (haEt hT (e := (79, 80, 182, 0, 126, [1495, 1496])) (k := 216) (pc := 80) (by decide) (by decide +kernel) rfl) rfl rfl rfl (by decide +kernel) (hm_ringAt hT hb hup) (Nat.le_refl _) rfl (show 2 = (abMe 182).2.1 from by decide +kernel) (show 1 + (abMe 182).1.2.2.1 ≤ 49 from by decide +kernel) (fun o ku h => ?_)
        obtain ⟨rfl, rfl⟩ := h
        show haW x _ 83 [haR 51 860, haI (b), haI (520 + 164 * b), haI (r), haI (up), haI (n)] [haI (540 + 164 * b + 12 * up), haR 51 860]
        refine ha_s (pc' := 85) (ls' := [haR 51 860, haI (b), haI (520 + 164 * b), haI (r), haI (up), haI (n)]) (st' := [haI (n), haI (540 + 164 * b + 12 * up), haR 51 860]) hF (haEt hT (e := (8, 83, 0, 5, 0, [])) (k := 216) (pc := 83) (by decide) (by decide +kernel) rfl) rfl (fun RG => avS8) (fun nx => rfl) ?_
        refine ha_callV (q := 215) (d' := d + 1) (r := 51) (j := 860) (as := [haI (540 + 164 * b + 12 * up), haI n]) (rest := []) hT hF (haEt hT (e := (78, 85, 215, 0, 330, [1668, 1670, 60])) (k := 216) (pc := 85) (by decide) (by decide +kernel) rfl) rfl rfl rfl (by decide +kernel) (by decide +kernel) (hm_parts hT hb hup rfl (m := ku 861 (540 + 164 * b + 12 * up)) (by omega) (by omega) rfl (fun c c0 c1 => by have := haRing_lot f1 hb hup ⟨c0, c1⟩; omega) u4) (Nat.le_refl _) rfl (show 2 = (abMe 215).2.1 from by decide +kernel) (show 0 + (abMe 215).1.2.2.1 ≤ 49 from by decide +kernel) (fun o mu1 h => ?_)
        obtain ⟨rfl, p1, p2, p3, p4, p5⟩ := h
        show haW x _ 88 [haR 51 860, haI (b), haI (520 + 164 * b), haI (r), haI (up), haI (n)] []
        have hW1 : haWd mu1 := haWd_parts f1 hb hup (by omega) p1 p3 p4 p5
        have q1 := p1 861 (520 + 164 * b + 1) (haGd_hold hb ⟨by omega, by omega⟩) (by decide) (by decide) (fun z => haAp1 hb hup (i := 1) ⟨by omega, by omega⟩ z.2)
        rw [show 520 + 164 * b + 1 = 521 + 164 * b by omega] at q1
        have q2 := p1 861 (540 + 164 * b + 12 * r + 0) (haGd_ring hb hr ⟨by omega, by omega⟩ (by omega)) (by decide) (by decide) (fun z => by have := haAp2 hup hr (c := 0) ⟨by omega, by omega⟩ z.2; omega)
        rw [Int.add_zero] at q2
        have lay := fun (mu' : haMu) => haWd_lays (mu := mu1) (mu' := mu') hW1 hb hr p2 (by omega) (fun c c0 c1 => (p3 c c0 c1).1) p4 (by rw [q1, q2]; omega)
        refine ha_s (pc' := 89) (ls' := [haR 51 860, haI (b), haI (520 + 164 * b), haI (r), haI (up), haI (n)]) (st' := [haR 51 860]) hF (haEt hT (e := (13, 88, 0, 0, 0, [])) (k := 216) (pc := 88) (by decide) (by decide +kernel) rfl) rfl (fun RG => avS13) (fun nx => rfl) ?_
        refine ha_s (pc' := 90) (ls' := [haR 51 860, haI (b), haI (520 + 164 * b), haI (r), haI (up), haI (n)]) (st' := [haI (b), haR 51 860]) hF (haEt hT (e := (9, 89, 0, 1, 0, [])) (k := 216) (pc := 89) (by decide) (by decide +kernel) rfl) rfl (fun RG => avS9) (fun nx => rfl) ?_
        refine ha_s (pc' := 91) (ls' := [haR 51 860, haI (b), haI (520 + 164 * b), haI (r), haI (up), haI (n)]) (st' := [haI (r), haI (b), haR 51 860]) hF (haEt hT (e := (9, 90, 0, 3, 0, [])) (k := 216) (pc := 90) (by decide) (by decide +kernel) rfl) rfl (fun RG => avS9) (fun nx => rfl) ?_
        refine ha_callS (q := 182) (d' := d + 1) (as := [haI b, haI r]) (rest := [haR 51 860]) hT hF (haEt hT (e := (79, 91, 182, 0, 126, [1495, 1496])) (k := 216) (pc := 91) (by decide) (by decide +kernel) rfl) rfl rfl rfl (by decide +kernel) (hm_ringAt hT hb hr) (Nat.le_refl _) rfl (show 2 = (abMe 182).2.1 from by decide +kernel) (show 1 + (abMe 182).1.2.2.1 ≤ 49 from by decide +kernel) (fun o ku h => ?_)
        obtain ⟨rfl, rfl⟩ := h
        show haW x _ 94 [haR 51 860, haI (b), haI (520 + 164 * b), haI (r), haI (up), haI (n)] [haI (540 + 164 * b + 12 * r), haR 51 860]
        refine ha_callV (q := 217) (d' := 0) (r := 51) (j := 860) (as := [haI (540 + 164 * b + 12 * r)]) (rest := []) hT hF (haEt hT (e := (78, 94, 217, 0, 334, [1677, 1679, 62])) (k := 216) (pc := 94) (by decide) (by decide +kernel) rfl) rfl rfl rfl (by decide +kernel) (by decide +kernel) (hm_lays hT hb hr rfl (lay ku).1) (by omega) rfl (show 1 = (abMe 217).2.1 from by decide +kernel) (show 0 + (abMe 217).1.2.2.1 ≤ 49 from by decide +kernel) (fun o mu2 h => ?_)
        obtain ⟨rfl, l1, l2⟩ := h
        show haW x _ 97 [haR 51 860, haI (b), haI (520 + 164 * b), haI (r), haI (up), haI (n)] []
        refine ha_iinc (i := 4) (c := 1) hF (haEt hT (e := (20, 97, 0, 4, 9223372036854775809, [])) (k := 216) (pc := 97) (by decide) (by decide +kernel) rfl) rfl rfl rfl rfl rfl (by omega) (by omega) ?_
        show haW _ _ 100 [haR 51 860, haI (b), haI (520 + 164 * b), haI (r), haI (up + 1), haI (n)] []
        refine ha_s (pc' := 22) (ls' := [haR 51 860, haI (b), haI (520 + 164 * b), haI (r), haI (up + 1), haI (n)]) (st' := []) hF (haEt hT (e := (58, 100, 22, 0, 0, [])) (k := 216) (pc := 100) (by decide) (by decide +kernel) rfl) rfl (fun RG => avS58) (fun nx => rfl) ?_
        refine ih (up + 1) r mu2 _ (by omega) h0 (by omega) ((lay mu2).2 l1 l2) (fun j i hg a1 a2 a3 => ?_) hx
        rw [l1 j i (fun z => a3 ⟨z.1, by omega, by omega⟩), p1 j i hg a1 a2 (fun z => a3 ⟨z.1, by omega, by omega⟩)]
        exact f2 j i hg a1 a2 a3
      · skip
        refine ha_s (pc' := 97) (ls' := [haR 51 860, haI (b), haI (520 + 164 * b), haI (r), haI (up), haI (n)]) (st' := []) hF (haEt hT (e := (58, 73, 97, 0, 0, [])) (k := 216) (pc := 73) (by decide) (by decide +kernel) rfl) rfl (fun RG => avS58) (fun nx => rfl) ?_
        refine ha_iinc (i := 4) (c := 1) hF (haEt hT (e := (20, 97, 0, 4, 9223372036854775809, [])) (k := 216) (pc := 97) (by decide) (by decide +kernel) rfl) rfl rfl rfl rfl rfl (by omega) (by omega) ?_
        show haW _ _ 100 [haR 51 860, haI (b), haI (520 + 164 * b), haI (r), haI (up + 1), haI (n)] []
        refine ha_s (pc' := 22) (ls' := [haR 51 860, haI (b), haI (520 + 164 * b), haI (r), haI (up + 1), haI (n)]) (st' := []) hF (haEt hT (e := (58, 100, 22, 0, 0, [])) (k := 216) (pc := 100) (by decide) (by decide +kernel) rfl) rfl (fun RG => avS58) (fun nx => rfl) ?_
        exact ih (up + 1) r ku _ (by omega) h0 (by omega) f1 f2 hx
  have outer : ∀ (nn : Nat) (r : Int) (nu : haMu) (v4 v5 : avV), (nn : Int) = 12 - r → 0 ≤ r → haWd nu → (∀ (j : Nat) (i : Int), haGd j i → ¬ j = 868 → ¬ j = 869 → ¬ (j = 861 ∧ 540 + 164 * b ≤ i ∧ i ≤ 683 + 164 * b) → nu j i = mu j i) → haW x nu 7 [haR 51 860, haI (b), haI (520 + 164 * b), haI (r), v4, v5] [] := by
    intro nn
    induction nn with
    | zero =>
      intro r nu v4 v5 hn0 h0 f1 f2
      have hR0 := f2 861 (520 + 164 * b + 0) (haGd_hold hb ⟨by omega, by omega⟩) (by decide) (by decide) (by omega)
      rw [Int.add_zero] at hR0
      refine ha_s (pc' := 8) (ls' := [haR 51 860, haI (b), haI (520 + 164 * b), haI (r), v4, v5]) (st' := [haI (r)]) hF (haEt hT (e := (9, 7, 0, 3, 0, [])) (k := 216) (pc := 7) (by decide) (by decide +kernel) rfl) rfl (fun RG => avS9) (fun nx => rfl) ?_
      refine ha_s (pc' := 9) (ls' := [haR 51 860, haI (b), haI (520 + 164 * b), haI (r), v4, v5]) (st' := [haR 51 860, haI (r)]) hF (haEt hT (e := (13, 8, 0, 0, 0, [])) (k := 216) (pc := 8) (by decide) (by decide +kernel) rfl) rfl (fun RG => avS13) (fun nx => rfl) ?_
      refine ha_getR (r := 51) (j := 860) (i := 1) (r' := 77) (j' := 861) hF (haEt hT (e := (60, 9, 12, 1, 13, [1344])) (k := 216) (pc := 9) (by decide) (by decide +kernel) rfl) rfl rfl rfl (by decide +kernel) (by decide) (by decide +kernel) (by rfl) ?_
      refine ha_s (pc' := 13) (ls' := [haR 51 860, haI (b), haI (520 + 164 * b), haI (r), v4, v5]) (st' := [haI (520 + 164 * b), haR 77 861, haI (r)]) hF (haEt hT (e := (9, 12, 0, 2, 0, [])) (k := 216) (pc := 12) (by decide) (by decide +kernel) rfl) rfl (fun RG => avS9) (fun nx => rfl) ?_
      refine ha_iald (r := 77) hF (haEt hT (e := (64, 13, 0, 0, 0, [])) (k := 216) (pc := 13) (by decide) (by decide +kernel) rfl) rfl rfl (by decide +kernel) (by omega) (by show _ < (1745 : Int); omega) ?_
      refine ha_icge hF (haEt hT (e := (55, 14, 109, 0, 0, [])) (k := 216) (pc := 14) (by decide) (by decide +kernel) rfl) rfl rfl rfl (fun _ => ?_) (fun q => by omega)
      exact hR 109 _ _ _ none (82, 109, 0, 0, 0, []) (haEt hT (e := (82, 109, 0, 0, 0, [])) (k := 216) (pc := 109) (by decide) (by decide +kernel) rfl) rfl (Or.inl ⟨rfl, rfl, rfl⟩) ⟨rfl, f1, f2⟩
    | succ nn ih =>
      intro r nu v4 v5 hn0 h0 f1 f2
      have hR0 := f2 861 (520 + 164 * b + 0) (haGd_hold hb ⟨by omega, by omega⟩) (by decide) (by decide) (by omega)
      rw [Int.add_zero] at hR0
      refine ha_s (pc' := 8) (ls' := [haR 51 860, haI (b), haI (520 + 164 * b), haI (r), v4, v5]) (st' := [haI (r)]) hF (haEt hT (e := (9, 7, 0, 3, 0, [])) (k := 216) (pc := 7) (by decide) (by decide +kernel) rfl) rfl (fun RG => avS9) (fun nx => rfl) ?_
      refine ha_s (pc' := 9) (ls' := [haR 51 860, haI (b), haI (520 + 164 * b), haI (r), v4, v5]) (st' := [haR 51 860, haI (r)]) hF (haEt hT (e := (13, 8, 0, 0, 0, [])) (k := 216) (pc := 8) (by decide) (by decide +kernel) rfl) rfl (fun RG => avS13) (fun nx => rfl) ?_
      refine ha_getR (r := 51) (j := 860) (i := 1) (r' := 77) (j' := 861) hF (haEt hT (e := (60, 9, 12, 1, 13, [1344])) (k := 216) (pc := 9) (by decide) (by decide +kernel) rfl) rfl rfl rfl (by decide +kernel) (by decide) (by decide +kernel) (by rfl) ?_
      refine ha_s (pc' := 13) (ls' := [haR 51 860, haI (b), haI (520 + 164 * b), haI (r), v4, v5]) (st' := [haI (520 + 164 * b), haR 77 861, haI (r)]) hF (haEt hT (e := (9, 12, 0, 2, 0, [])) (k := 216) (pc := 12) (by decide) (by decide +kernel) rfl) rfl (fun RG => avS9) (fun nx => rfl) ?_
      refine ha_iald (r := 77) hF (haEt hT (e := (64, 13, 0, 0, 0, [])) (k := 216) (pc := 13) (by decide) (by decide +kernel) rfl) rfl rfl (by decide +kernel) (by omega) (by show _ < (1745 : Int); omega) ?_
      refine ha_icge hF (haEt hT (e := (55, 14, 109, 0, 0, [])) (k := 216) (pc := 14) (by decide) (by decide +kernel) rfl) rfl rfl rfl (fun _ => ?_) (fun q => ?_)
      · exact hR 109 _ _ _ none (82, 109, 0, 0, 0, []) (haEt hT (e := (82, 109, 0, 0, 0, [])) (k := 216) (pc := 109) (by decide) (by decide +kernel) rfl) rfl (Or.inl ⟨rfl, rfl, rfl⟩) ⟨rfl, f1, f2⟩
      refine ha_s (pc' := 18) (ls' := [haR 51 860, haI (b), haI (520 + 164 * b), haI (r), v4, v5]) (st' := [haI (r)]) hF (haEt hT (e := (9, 17, 0, 3, 0, [])) (k := 216) (pc := 17) (by decide) (by decide +kernel) rfl) rfl (fun RG => avS9) (fun nx => rfl) ?_
      refine ha_s (pc' := 19) (ls' := [haR 51 860, haI (b), haI (520 + 164 * b), haI (r), v4, v5]) (st' := [haI (1), haI (r)]) hF (haEt hT (e := (1, 18, 0, 0, 9223372036854775809, [])) (k := 216) (pc := 18) (by decide) (by decide +kernel) rfl) rfl (fun RG => avS1) (fun nx => rfl) ?_
      refine ha_iadd hF (haEt hT (e := (21, 19, 0, 0, 0, [])) (k := 216) (pc := 19) (by decide) (by decide +kernel) rfl) rfl rfl (by omega) (by omega) ?_
      refine ha_s (pc' := 22) (ls' := [haR 51 860, haI (b), haI (520 + 164 * b), haI (r), haI (r + (1)), v5]) (st' := []) hF (haEt hT (e := (14, 20, 0, 4, 0, [])) (k := 216) (pc := 20) (by decide) (by decide +kernel) rfl) rfl (fun RG => avS14) (fun nx => rfl) ?_
      refine inner (11 - r).toNat (r + 1) r nu v5 (by omega) h0 (by omega) f1 f2 (fun nu' v4 v5 g1 g2 => ?_)
      refine ha_iinc (i := 3) (c := 1) hF (haEt hT (e := (20, 103, 0, 3, 9223372036854775809, [])) (k := 216) (pc := 103) (by decide) (by decide +kernel) rfl) rfl rfl rfl rfl rfl (by omega) (by omega) ?_
      show haW _ _ 106 [haR 51 860, haI (b), haI (520 + 164 * b), haI (r + 1), v4, v5] []
      refine ha_s (pc' := 7) (ls' := [haR 51 860, haI (b), haI (520 + 164 * b), haI (r + 1), v4, v5]) (st' := []) hF (haEt hT (e := (58, 106, 7, 0, 0, [])) (k := 216) (pc := 106) (by decide) (by decide +kernel) rfl) rfl (fun RG => avS58) (fun nx => rfl) ?_
      exact ih (r + 1) nu' v4 v5 (by omega) (by omega) g1 g2
  refine ha_s (pc' := 1) (ls' := [haR 51 860, haI (b), avJ, avJ, avJ, avJ]) (st' := [haI (b)]) hF (haEt hT (e := (9, 0, 0, 1, 0, [])) (k := 216) (pc := 0) (by decide) (by decide +kernel) rfl) rfl (fun RG => avS9) (fun nx => rfl) ?_
  refine ha_callS (q := 173) (d' := d + 1) (as := [haI b]) (rest := []) hT hF (haEt hT (e := (79, 1, 173, 0, 108, [1337, 1338])) (k := 216) (pc := 1) (by decide) (by decide +kernel) rfl) rfl rfl rfl (by decide +kernel) (hm_binAt hT hb) (Nat.le_refl _) rfl (show 1 = (abMe 173).2.1 from by decide +kernel) (show 0 + (abMe 173).1.2.2.1 ≤ 49 from by decide +kernel) (fun o ku h => ?_)
  obtain ⟨rfl, rfl⟩ := h
  show haW x _ 4 [haR 51 860, haI (b), avJ, avJ, avJ, avJ] [haI (520 + 164 * b)]
  refine ha_s (pc' := 5) (ls' := [haR 51 860, haI (b), haI (520 + 164 * b), avJ, avJ, avJ]) (st' := []) hF (haEt hT (e := (15, 4, 0, 2, 0, [])) (k := 216) (pc := 4) (by decide) (by decide +kernel) rfl) rfl (fun RG => avS15) (fun nx => rfl) ?_
  refine ha_s (pc' := 6) (ls' := [haR 51 860, haI (b), haI (520 + 164 * b), avJ, avJ, avJ]) (st' := [haI (0)]) hF (haEt hT (e := (1, 5, 0, 0, 9223372036854775808, [])) (k := 216) (pc := 5) (by decide) (by decide +kernel) rfl) rfl (fun RG => avS1) (fun nx => rfl) ?_
  refine ha_s (pc' := 7) (ls' := [haR 51 860, haI (b), haI (520 + 164 * b), haI (0), avJ, avJ]) (st' := []) hF (haEt hT (e := (15, 6, 0, 3, 0, [])) (k := 216) (pc := 6) (by decide) (by decide +kernel) rfl) rfl (fun RG => avS15) (fun nx => rfl) ?_
  exact outer 12 0 ku _ _ rfl (Int.le_refl 0) hW (fun _ _ _ _ _ _ => rfl)
