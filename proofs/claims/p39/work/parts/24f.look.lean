/-! Planner.lookAtBins -/
theorem haGd_wanted : haGd 817 3 := by
  refine ⟨by omega, fun hm => ?_⟩
  rcases hm with q | ⟨c, c1, c2, c3⟩
  · exact q (by rw [show avRG0 817 = 23 from by decide +kernel]; decide)
  · rw [show avRG0 817 = 23 from by decide +kernel] at c2
    have key : ∀ c ∈ avGUt.2, c.1 = 23 → c.2.1 = [] ∧ c.2.2.1 = 0 := by decide +kernel
    obtain ⟨e, e2⟩ := key c c1 c2
    rw [e, e2] at c3
    exact absurd (show (((3 : Int).toNat : Nat) : Int) - 0 = 0 from c3) (by decide)
def haLk (mu nu : haMu) : Prop := ∀ (j : Nat) (i : Int), haGd j i → ¬ j = 817 → ¬ j = 820 → ¬ j = 821 → ¬ j = 822 → nu j i = mu j i
theorem haLk.fm {mu nu nu' : haMu} (h : haLk mu nu) (f : haFm nu nu') : haLk mu nu' := fun j i hg a1 a2 a3 a4 => (f j i hg).trans (h j i hg a1 a2 a3 a4)
theorem haLk.up {mu nu : haMu} {j0 : Nat} {i0 v : Int} (h : haLk mu nu) (hj : j0 = 817 ∨ j0 = 820 ∨ j0 = 821 ∨ j0 = 822) : haLk mu (haUp nu j0 i0 v) := fun j i hg a1 a2 a3 a4 => by
  rw [haUp_n (fun z => by omega)]
  exact h j i hg a1 a2 a3 a4
theorem hm_look (hT : abTabs) {d jh : Nat} {v : Int} {mu : haMu} (hjh : jh < 4096) (hv : -2147483648 ≤ v ∧ v ≤ 2147483647) : haSp 84 (d + 7) [haR 23 817, haR 18 jh, haI v] mu (fun o mu' => (∃ z : Int, o = some (haI z) ∧ 0 ≤ z ∧ z ≤ 1) ∧ haLk mu mu') := by
  refine haMet (by decide) (hT.1 84 (by decide)) (haLe5 rfl) (show 3 ≤ (abMe 84).1.2.2.1 from by decide +kernel) (fun x hF hR => ?_)
  have loop : ∀ (mm : Nat) (b : Int) (nu : haMu) (v4 : avV), (mm : Int) = 6 - b → 0 ≤ b → (0 ≤ nu 817 3 ∧ nu 817 3 ≤ b) → haLk mu nu → haW x nu 7 [haR 23 817, haR 18 jh, haI (v), haI (b), v4] [] := by
    intro mm
    induction mm with
    | zero =>
      intro b nu v4 hm b0 hw h1
      refine ha_s (pc' := 8) (ls' := [haR 23 817, haR 18 jh, haI (v), haI (b), v4]) (st' := [haI (b)]) hF (haEt hT (e := (9, 7, 0, 3, 0, [])) (k := 84) (pc := 7) (by decide) (by decide +kernel) rfl) rfl (fun RG => avS9) (fun nx => rfl) ?_
      refine ha_s (pc' := 10) (ls' := [haR 23 817, haR 18 jh, haI (v), haI (b), v4]) (st' := [haI (6), haI (b)]) hF (haEt hT (e := (2, 8, 0, 0, 9223372036854775814, [])) (k := 84) (pc := 8) (by decide) (by decide +kernel) rfl) rfl (fun RG => avS2) (fun nx => rfl) ?_
      refine ha_icge hF (haEt hT (e := (55, 10, 119, 0, 0, [])) (k := 84) (pc := 10) (by decide) (by decide +kernel) rfl) rfl rfl rfl (fun _ => ?_) (fun q => by omega)
      refine ha_s (pc' := 120) (ls' := [haR 23 817, haR 18 jh, haI (v), haI (b), v4]) (st' := [haI (1)]) hF (haEt hT (e := (1, 119, 0, 0, 9223372036854775809, [])) (k := 84) (pc := 119) (by decide) (by decide +kernel) rfl) rfl (fun RG => avS1) (fun nx => rfl) ?_
      exact hR 120 _ _ _ _ (83, 120, 1, 0, 0, []) (haEt hT (e := (83, 120, 1, 0, 0, [])) (k := 84) (pc := 120) (by decide) (by decide +kernel) rfl) rfl (Or.inr (Or.inr ⟨rfl, _, rfl, rfl, rfl, fun _ => ⟨haGe (by omega), haGe (s := haS0) (z := 1 - 1) (by omega)⟩⟩)) ⟨⟨_, rfl, by omega, by omega⟩, h1⟩
    | succ mm ih =>
      intro b nu v4 hm b0 hw h1
      have hb : 0 ≤ b ∧ b ≤ 5 := by omega
      refine ha_s (pc' := 8) (ls' := [haR 23 817, haR 18 jh, haI (v), haI (b), v4]) (st' := [haI (b)]) hF (haEt hT (e := (9, 7, 0, 3, 0, [])) (k := 84) (pc := 7) (by decide) (by decide +kernel) rfl) rfl (fun RG => avS9) (fun nx => rfl) ?_
      refine ha_s (pc' := 10) (ls' := [haR 23 817, haR 18 jh, haI (v), haI (b), v4]) (st' := [haI (6), haI (b)]) hF (haEt hT (e := (2, 8, 0, 0, 9223372036854775814, [])) (k := 84) (pc := 8) (by decide) (by decide +kernel) rfl) rfl (fun RG => avS2) (fun nx => rfl) ?_
      refine ha_icge hF (haEt hT (e := (55, 10, 119, 0, 0, [])) (k := 84) (pc := 10) (by decide) (by decide +kernel) rfl) rfl rfl rfl (fun q => by omega) (fun _ => ?_)
      refine ha_s (pc' := 14) (ls' := [haR 23 817, haR 18 jh, haI (v), haI (b), v4]) (st' := [haR 18 jh]) hF (haEt hT (e := (13, 13, 0, 1, 0, [])) (k := 84) (pc := 13) (by decide) (by decide +kernel) rfl) rfl (fun RG => avS13) (fun nx => rfl) ?_
      refine ha_getRv (r := 18) (j := jh) (i := 1) (r' := 19) hF (haEt hT (e := (60, 14, 4, 1, 55, [398])) (k := 84) (pc := 14) (by decide) (by decide +kernel) rfl) rfl rfl rfl (by decide +kernel) (by decide) (by decide +kernel) (by rfl) (fun jr hjr => ?_)
      refine ha_s (pc' := 18) (ls' := [haR 23 817, haR 18 jh, haI (v), haI (b), v4]) (st' := [haI (b), haR 19 jr]) hF (haEt hT (e := (9, 17, 0, 3, 0, [])) (k := 84) (pc := 17) (by decide) (by decide +kernel) rfl) rfl (fun RG => avS9) (fun nx => rfl) ?_
      refine ha_aald (r := 19) (r' := 7) hF (haEt hT (e := (67, 18, 0, 0, 0, [])) (k := 84) (pc := 18) (by decide) (by decide +kernel) rfl) rfl rfl (by decide +kernel) (by omega) (by show _ < (6 : Int); omega) (by rfl) (fun jb hjb => ?_)
      refine ha_s (pc' := 21) (ls' := [haR 23 817, haR 18 jh, haI (v), haI (b), haR 7 jb]) (st' := []) hF (haEt hT (e := (18, 19, 0, 4, 0, [])) (k := 84) (pc := 19) (by decide) (by decide +kernel) rfl) rfl (fun RG => avS18) (fun nx => rfl) ?_
      refine ha_s (pc' := 22) (ls' := [haR 23 817, haR 18 jh, haI (v), haI (b), haR 7 jb]) (st' := [haR 23 817]) hF (haEt hT (e := (13, 21, 0, 0, 0, [])) (k := 84) (pc := 21) (by decide) (by decide +kernel) rfl) rfl (fun RG => avS13) (fun nx => rfl) ?_
      refine ha_getR (r := 23) (j := 817) (i := 5) (r' := 30) (j' := 821) hF (haEt hT (e := (60, 22, 6, 5, 22, [470])) (k := 84) (pc := 22) (by decide) (by decide +kernel) rfl) rfl rfl rfl (by decide +kernel) (by decide) (by decide +kernel) (by rfl) ?_
      refine ha_s (pc' := 26) (ls' := [haR 23 817, haR 18 jh, haI (v), haI (b), haR 7 jb]) (st' := [haI (b), haR 30 821]) hF (haEt hT (e := (9, 25, 0, 3, 0, [])) (k := 84) (pc := 25) (by decide) (by decide +kernel) rfl) rfl (fun RG => avS9) (fun nx => rfl) ?_
      refine ha_s (pc' := 28) (ls' := [haR 23 817, haR 18 jh, haI (v), haI (b), haR 7 jb]) (st' := [haR 7 jb, haI (b), haR 30 821]) hF (haEt hT (e := (12, 26, 0, 4, 0, [])) (k := 84) (pc := 26) (by decide) (by decide +kernel) rfl) rfl (fun RG => avS12) (fun nx => rfl) ?_
      refine ha_callV (q := 51) (d' := 0) (r := 7) (j := jb) (as := []) (rest := [haI b, haR 30 821]) hT hF (haEt hT (e := (78, 28, 51, 0, 61, [944, 795, 796])) (k := 84) (pc := 28) (by decide) (by decide +kernel) rfl) rfl rfl rfl (by decide +kernel) (by decide +kernel) (hm_binUnits hT hjb) (by omega) rfl (show 0 = (abMe 51).2.1 from by decide +kernel) (show 2 + (abMe 51).1.2.2.1 ≤ 49 from by decide +kernel) (fun o k1 h => ?_)
      obtain ⟨⟨u, rfl, u1, u2⟩, f1⟩ := h
      replace h1 := h1.fm f1
      replace hw : 0 ≤ k1 817 3 ∧ k1 817 3 ≤ b := by rw [f1 817 3 haGd_wanted]; exact hw
      show haW x k1 31 [haR 23 817, haR 18 jh, haI (v), haI (b), haR 7 jb] [haI u, haI b, haR 30 821]
      refine ha_iast (r := 30) hF (haEt hT (e := (69, 31, 0, 0, 0, [])) (k := 84) (pc := 31) (by decide) (by decide +kernel) rfl) rfl rfl (by decide +kernel) (by omega) (by show _ < (6 : Int); omega) (by rfl) u1 u2 ?_
      replace h1 := h1.up (j0 := 821) (i0 := b) (v := u) (Or.inr (Or.inr (Or.inl rfl)))
      replace hw : 0 ≤ haUp k1 821 b u 817 3 ∧ haUp k1 821 b u 817 3 ≤ b := by rw [haUp_n (fun z => absurd z.1 (by decide))]; exact hw
      generalize haUp k1 821 b u = k1 at h1 hw ⊢
      have e61 : ∀ w : Int, -2147483648 ≤ w → w ≤ 2147483647 → haW x k1 61 [haR 23 817, haR 18 jh, haI (v), haI (b), haR 7 jb] [haI w, haI b, haR 26 822] := by
        intro w w1 w2
        refine ha_iast (r := 26) hF (haEt hT (e := (69, 61, 0, 0, 0, [])) (k := 84) (pc := 61) (by decide) (by decide +kernel) rfl) rfl rfl (by decide +kernel) (by omega) (by show _ < (6 : Int); omega) (by rfl) w1 w2 ?_
        replace h1 := h1.up (j0 := 822) (i0 := b) (v := w) (Or.inr (Or.inr (Or.inr rfl)))
        replace hw : 0 ≤ haUp k1 822 b w 817 3 ∧ haUp k1 822 b w 817 3 ≤ b := by rw [haUp_n (fun z => absurd z.1 (by decide))]; exact hw
        generalize haUp k1 822 b w = k1 at h1 hw ⊢
        refine ha_s (pc' := 63) (ls' := [haR 23 817, haR 18 jh, haI (v), haI (b), haR 7 jb]) (st' := [haR 23 817]) hF (haEt hT (e := (13, 62, 0, 0, 0, [])) (k := 84) (pc := 62) (by decide) (by decide +kernel) rfl) rfl (fun RG => avS13) (fun nx => rfl) ?_
        refine ha_getR (r := 23) (j := 817) (i := 4) (r' := 24) (j' := 820) hF (haEt hT (e := (60, 63, 6, 4, 18, [469])) (k := 84) (pc := 63) (by decide) (by decide +kernel) rfl) rfl rfl rfl (by decide +kernel) (by decide) (by decide +kernel) (by rfl) ?_
        refine ha_s (pc' := 67) (ls' := [haR 23 817, haR 18 jh, haI (v), haI (b), haR 7 jb]) (st' := [haI (b), haR 24 820]) hF (haEt hT (e := (9, 66, 0, 3, 0, [])) (k := 84) (pc := 66) (by decide) (by decide +kernel) rfl) rfl (fun RG => avS9) (fun nx => rfl) ?_
        refine ha_s (pc' := 69) (ls' := [haR 23 817, haR 18 jh, haI (v), haI (b), haR 7 jb]) (st' := [haR 7 jb, haI (b), haR 24 820]) hF (haEt hT (e := (12, 67, 0, 4, 0, [])) (k := 84) (pc := 67) (by decide) (by decide +kernel) rfl) rfl (fun RG => avS12) (fun nx => rfl) ?_
        refine ha_s (pc' := 70) (ls' := [haR 23 817, haR 18 jh, haI (v), haI (b), haR 7 jb]) (st' := [haI (0), haR 7 jb, haI (b), haR 24 820]) hF (haEt hT (e := (1, 69, 0, 0, 9223372036854775808, [])) (k := 84) (pc := 69) (by decide) (by decide +kernel) rfl) rfl (fun RG => avS1) (fun nx => rfl) ?_
        refine ha_s (pc' := 71) (ls' := [haR 23 817, haR 18 jh, haI (v), haI (b), haR 7 jb]) (st' := [haI (v), haI (0), haR 7 jb, haI (b), haR 24 820]) hF (haEt hT (e := (9, 70, 0, 2, 0, [])) (k := 84) (pc := 70) (by decide) (by decide +kernel) rfl) rfl (fun RG => avS9) (fun nx => rfl) ?_
        refine ha_callV (q := 85) (d' := 2) (r := 7) (j := jb) (as := [haI 0, haI v]) (rest := [haI b, haR 24 820]) hT hF (haEt hT (e := (78, 71, 85, 0, 75, [945, 946, 947])) (k := 84) (pc := 71) (by decide) (by decide +kernel) rfl) rfl rfl rfl (by decide +kernel) (by decide +kernel) (hm_lowestAt hT hjb hv.1 hv.2) (by omega) rfl (show 2 = (abMe 85).2.1 from by decide +kernel) (show 2 + (abMe 85).1.2.2.1 ≤ 49 from by decide +kernel) (fun o k2 h => ?_)
        obtain ⟨⟨y, rfl, y1, y2⟩, f2⟩ := h
        replace h1 := h1.fm f2
        replace hw : 0 ≤ k2 817 3 ∧ k2 817 3 ≤ b := by rw [f2 817 3 haGd_wanted]; exact hw
        show haW x k2 74 [haR 23 817, haR 18 jh, haI (v), haI (b), haR 7 jb] [haI y, haI b, haR 24 820]
        refine ha_s (pc' := 75) (ls' := [haR 23 817, haR 18 jh, haI (v), haI (b), haR 7 jb]) (st' := [haI (-1), haI (y), haI (b), haR 24 820]) hF (haEt hT (e := (1, 74, 0, 0, 9223372036854775807, [])) (k := 84) (pc := 74) (by decide) (by decide +kernel) rfl) rfl (fun RG => avS1) (fun nx => rfl) ?_
        have e83 : ∀ g : Int, (0 ≤ g ∧ g ≤ 1) → haW x k2 83 [haR 23 817, haR 18 jh, haI (v), haI (b), haR 7 jb] [haI g, haI b, haR 24 820] := by
          intro g hg
          refine ha_bast (r := 24) hF (haEt hT (e := (70, 83, 0, 0, 0, [])) (k := 84) (pc := 83) (by decide) (by decide +kernel) rfl) rfl rfl (by decide +kernel) (by omega) (by show _ < (6 : Int); omega) (by rfl) hg.1 hg.2 hg ?_
          replace h1 := h1.up (j0 := 820) (i0 := b) (v := g) (Or.inr (Or.inl rfl))
          replace hw : 0 ≤ haUp k2 820 b g 817 3 ∧ haUp k2 820 b g 817 3 ≤ b := by rw [haUp_n (fun z => absurd z.1 (by decide))]; exact hw
          generalize haUp k2 820 b g = k2 at h1 hw ⊢
          have e113 : ∀ nu : haMu, (0 ≤ nu 817 3 ∧ nu 817 3 ≤ b + 1) → haLk mu nu → haW x nu 113 [haR 23 817, haR 18 jh, haI (v), haI (b), haR 7 jb] [] := by
            intro nu hw h1
            refine ha_iinc (i := 3) (c := 1) hF (haEt hT (e := (20, 113, 0, 3, 9223372036854775809, [])) (k := 84) (pc := 113) (by decide) (by decide +kernel) rfl) rfl rfl rfl rfl rfl (by omega) (by omega) ?_
            show haW _ _ 116 [haR 23 817, haR 18 jh, haI (v), haI (b + 1), haR 7 jb] []
            refine ha_s (pc' := 7) (ls' := [haR 23 817, haR 18 jh, haI (v), haI (b + 1), haR 7 jb]) (st' := []) hF (haEt hT (e := (58, 116, 7, 0, 0, [])) (k := 84) (pc := 116) (by decide) (by decide +kernel) rfl) rfl (fun RG => avS58) (fun nx => rfl) ?_
            exact ih (b + 1) nu _ (by omega) (by omega) hw h1
          refine ha_s (pc' := 85) (ls' := [haR 23 817, haR 18 jh, haI (v), haI (b), haR 7 jb]) (st' := [haR 23 817]) hF (haEt hT (e := (13, 84, 0, 0, 0, [])) (k := 84) (pc := 84) (by decide) (by decide +kernel) rfl) rfl (fun RG => avS13) (fun nx => rfl) ?_
          refine ha_getR (r := 23) (j := 817) (i := 4) (r' := 24) (j' := 820) hF (haEt hT (e := (60, 85, 6, 4, 18, [469])) (k := 84) (pc := 85) (by decide) (by decide +kernel) rfl) rfl rfl rfl (by decide +kernel) (by decide) (by decide +kernel) (by rfl) ?_
          refine ha_s (pc' := 89) (ls' := [haR 23 817, haR 18 jh, haI (v), haI (b), haR 7 jb]) (st' := [haI (b), haR 24 820]) hF (haEt hT (e := (9, 88, 0, 3, 0, [])) (k := 84) (pc := 88) (by decide) (by decide +kernel) rfl) rfl (fun RG => avS9) (fun nx => rfl) ?_
          refine ha_bald (r := 24) hF (haEt hT (e := (65, 89, 0, 0, 0, [])) (k := 84) (pc := 89) (by decide) (by decide +kernel) rfl) rfl rfl (by decide +kernel) (by omega) (by show _ < (6 : Int); omega) ?_
          refine ha_ifeq hF (haEt hT (e := (46, 90, 113, 0, 0, [])) (k := 84) (pc := 90) (by decide) (by decide +kernel) rfl) rfl rfl rfl (fun _ => e113 k2 ⟨hw.1, by omega⟩ h1) (fun _ => ?_)
          refine ha_s (pc' := 94) (ls' := [haR 23 817, haR 18 jh, haI (v), haI (b), haR 7 jb]) (st' := [haR 18 jh]) hF (haEt hT (e := (13, 93, 0, 1, 0, [])) (k := 84) (pc := 93) (by decide) (by decide +kernel) rfl) rfl (fun RG => avS13) (fun nx => rfl) ?_
          refine ha_s (pc' := 95) (ls' := [haR 23 817, haR 18 jh, haI (v), haI (b), haR 7 jb]) (st' := [haI (b), haR 18 jh]) hF (haEt hT (e := (9, 94, 0, 3, 0, [])) (k := 84) (pc := 94) (by decide) (by decide +kernel) rfl) rfl (fun RG => avS9) (fun nx => rfl) ?_
          refine ha_callV (q := 86) (d' := 6) (r := 18) (j := jh) (as := [haI b]) (rest := []) hT hF (haEt hT (e := (78, 95, 86, 0, 79, [950, 951, 952])) (k := 84) (pc := 95) (by decide) (by decide +kernel) rfl) rfl rfl rfl (by decide +kernel) (by decide +kernel) (hm_isOpen hT hjh hb) (by omega) rfl (show 1 = (abMe 86).2.1 from by decide +kernel) (show 0 + (abMe 86).1.2.2.1 ≤ 49 from by decide +kernel) (fun o k3 h => ?_)
          obtain ⟨⟨y3, rfl, -, -⟩, f3⟩ := h
          replace h1 := h1.fm f3
          replace hw : 0 ≤ k3 817 3 ∧ k3 817 3 ≤ b := by rw [f3 817 3 haGd_wanted]; exact hw
          show haW x k3 98 [haR 23 817, haR 18 jh, haI (v), haI (b), haR 7 jb] [haI y3]
          refine ha_ifne hF (haEt hT (e := (47, 98, 103, 0, 0, [])) (k := 84) (pc := 98) (by decide) (by decide +kernel) rfl) rfl rfl rfl (fun _ => ?_) (fun _ => ?_)
          rotate_left
          · refine ha_s (pc' := 102) (ls' := [haR 23 817, haR 18 jh, haI (v), haI (b), haR 7 jb]) (st' := [haI (0)]) hF (haEt hT (e := (1, 101, 0, 0, 9223372036854775808, [])) (k := 84) (pc := 101) (by decide) (by decide +kernel) rfl) rfl (fun RG => avS1) (fun nx => rfl) ?_
            exact hR 102 _ _ _ _ (83, 102, 1, 0, 0, []) (haEt hT (e := (83, 102, 1, 0, 0, [])) (k := 84) (pc := 102) (by decide) (by decide +kernel) rfl) rfl (Or.inr (Or.inr ⟨rfl, _, rfl, rfl, rfl, fun _ => ⟨haGe (by omega), haGe (s := haS0) (z := 1 - 0) (by omega)⟩⟩)) ⟨⟨_, rfl, by omega, by omega⟩, h1⟩
          obtain ⟨n, hn⟩ : ∃ n : Int, n = k3 817 3 := ⟨_, rfl⟩
          refine ha_s (pc' := 104) (ls' := [haR 23 817, haR 18 jh, haI (v), haI (b), haR 7 jb]) (st' := [haR 23 817]) hF (haEt hT (e := (13, 103, 0, 0, 0, [])) (k := 84) (pc := 103) (by decide) (by decide +kernel) rfl) rfl (fun RG => avS13) (fun nx => rfl) ?_
          refine ha_s (pc' := 105) (ls' := [haR 23 817, haR 18 jh, haI (v), haI (b), haR 7 jb]) (st' := [haR 23 817, haR 23 817]) hF (haEt hT (e := (44, 104, 0, 0, 0, [])) (k := 84) (pc := 104) (by decide) (by decide +kernel) rfl) rfl (fun RG => avS44) (fun nx => rfl) ?_
          refine ha_getI (r := 23) (j := 817) (i := 3) (lo := 0) (up := 6) hF (haEt hT (e := (60, 105, 6, 3, 42, [468])) (k := 84) (pc := 105) (by decide) (by decide +kernel) rfl) rfl rfl rfl (by decide +kernel) (by decide) (by decide +kernel) (by rfl) ?_
          rw [show k3 817 ((3 : Nat) : Int) = n from hn.symm]
          refine ha_s (pc' := 109) (ls' := [haR 23 817, haR 18 jh, haI (v), haI (b), haR 7 jb]) (st' := [haI (1), haI (n), haR 23 817]) hF (haEt hT (e := (1, 108, 0, 0, 9223372036854775809, [])) (k := 84) (pc := 108) (by decide) (by decide +kernel) rfl) rfl (fun RG => avS1) (fun nx => rfl) ?_
          refine ha_iadd hF (haEt hT (e := (21, 109, 0, 0, 0, [])) (k := 84) (pc := 109) (by decide) (by decide +kernel) rfl) rfl rfl (by omega) (by omega) ?_
          refine ha_putI (r := 23) (j := 817) (i := 3) (lo := 0) (up := 6) hF (haEt hT (e := (61, 110, 6, 3, 42, [468])) (k := 84) (pc := 110) (by decide) (by decide +kernel) rfl) rfl rfl rfl (by decide +kernel) (by decide +kernel) (fun q hq => by cases hq; rfl) (by rfl) (by omega) (by omega) ?_
          exact e113 (haUp k3 817 3 (n + 1)) (by rw [haUp_s]; omega) (h1.up (Or.inl rfl))
        refine ha_iceq hF (haEt hT (e := (52, 75, 82, 0, 0, [])) (k := 84) (pc := 75) (by decide) (by decide +kernel) rfl) rfl rfl rfl (fun _ => ?_) (fun _ => ?_)
        · refine ha_s (pc' := 83) (ls' := [haR 23 817, haR 18 jh, haI (v), haI (b), haR 7 jb]) (st' := [haI (0), haI (b), haR 24 820]) hF (haEt hT (e := (1, 82, 0, 0, 9223372036854775808, [])) (k := 84) (pc := 82) (by decide) (by decide +kernel) rfl) rfl (fun RG => avS1) (fun nx => rfl) ?_
          exact e83 0 ⟨by omega, by omega⟩
        · refine ha_s (pc' := 79) (ls' := [haR 23 817, haR 18 jh, haI (v), haI (b), haR 7 jb]) (st' := [haI (1), haI (b), haR 24 820]) hF (haEt hT (e := (1, 78, 0, 0, 9223372036854775809, [])) (k := 84) (pc := 78) (by decide) (by decide +kernel) rfl) rfl (fun RG => avS1) (fun nx => rfl) ?_
          refine ha_s (pc' := 83) (ls' := [haR 23 817, haR 18 jh, haI (v), haI (b), haR 7 jb]) (st' := [haI (1), haI (b), haR 24 820]) hF (haEt hT (e := (58, 79, 83, 0, 0, [])) (k := 84) (pc := 79) (by decide) (by decide +kernel) rfl) rfl (fun RG => avS58) (fun nx => rfl) ?_
          exact e83 1 ⟨by omega, by omega⟩
      refine ha_s (pc' := 33) (ls' := [haR 23 817, haR 18 jh, haI (v), haI (b), haR 7 jb]) (st' := [haR 23 817]) hF (haEt hT (e := (13, 32, 0, 0, 0, [])) (k := 84) (pc := 32) (by decide) (by decide +kernel) rfl) rfl (fun RG => avS13) (fun nx => rfl) ?_
      refine ha_getR (r := 23) (j := 817) (i := 6) (r' := 26) (j' := 822) hF (haEt hT (e := (60, 33, 6, 6, 25, [471])) (k := 84) (pc := 33) (by decide) (by decide +kernel) rfl) rfl rfl rfl (by decide +kernel) (by decide) (by decide +kernel) (by rfl) ?_
      refine ha_s (pc' := 37) (ls' := [haR 23 817, haR 18 jh, haI (v), haI (b), haR 7 jb]) (st' := [haI (b), haR 26 822]) hF (haEt hT (e := (9, 36, 0, 3, 0, [])) (k := 84) (pc := 36) (by decide) (by decide +kernel) rfl) rfl (fun RG => avS9) (fun nx => rfl) ?_
      refine ha_s (pc' := 39) (ls' := [haR 23 817, haR 18 jh, haI (v), haI (b), haR 7 jb]) (st' := [haR 7 jb, haI (b), haR 26 822]) hF (haEt hT (e := (12, 37, 0, 4, 0, [])) (k := 84) (pc := 37) (by decide) (by decide +kernel) rfl) rfl (fun RG => avS12) (fun nx => rfl) ?_
      refine ha_getI (r := 7) (j := jb) (i := 6) (lo := -1) (up := 3) hF (haEt hT (e := (60, 39, 1, 6, 66, [358])) (k := 84) (pc := 39) (by decide) (by decide +kernel) rfl) rfl rfl rfl (by decide +kernel) (by decide) (by decide +kernel) (by rfl) ?_
      refine ha_s (pc' := 43) (ls' := [haR 23 817, haR 18 jh, haI (v), haI (b), haR 7 jb]) (st' := [haI (-1), haI (k1 jb 6), haI (b), haR 26 822]) hF (haEt hT (e := (1, 42, 0, 0, 9223372036854775807, [])) (k := 84) (pc := 42) (by decide) (by decide +kernel) rfl) rfl (fun RG => avS1) (fun nx => rfl) ?_
      refine ha_icne hF (haEt hT (e := (53, 43, 60, 0, 0, [])) (k := 84) (pc := 43) (by decide) (by decide +kernel) rfl) rfl rfl rfl (fun _ => ?_) (fun _ => ?_)
      · refine ha_s (pc' := 61) (ls' := [haR 23 817, haR 18 jh, haI (v), haI (b), haR 7 jb]) (st' := [haI (0), haI (b), haR 26 822]) hF (haEt hT (e := (1, 60, 0, 0, 9223372036854775808, [])) (k := 84) (pc := 60) (by decide) (by decide +kernel) rfl) rfl (fun RG => avS1) (fun nx => rfl) ?_
        exact e61 0 (by omega) (by omega)
      · refine ha_s (pc' := 48) (ls' := [haR 23 817, haR 18 jh, haI (v), haI (b), haR 7 jb]) (st' := [haR 7 jb, haI (b), haR 26 822]) hF (haEt hT (e := (12, 46, 0, 4, 0, [])) (k := 84) (pc := 46) (by decide) (by decide +kernel) rfl) rfl (fun RG => avS12) (fun nx => rfl) ?_
        refine ha_getI (r := 7) (j := jb) (i := 0) (lo := 0) (up := 12) hF (haEt hT (e := (60, 48, 1, 0, 69, [338])) (k := 84) (pc := 48) (by decide) (by decide +kernel) rfl) rfl rfl rfl (by decide +kernel) (by decide) (by decide +kernel) (by rfl) ?_
        refine ha_s (pc' := 53) (ls' := [haR 23 817, haR 18 jh, haI (v), haI (b), haR 7 jb]) (st' := [haR 7 jb, haI (k1 jb 0), haI (b), haR 26 822]) hF (haEt hT (e := (12, 51, 0, 4, 0, [])) (k := 84) (pc := 51) (by decide) (by decide +kernel) rfl) rfl (fun RG => avS12) (fun nx => rfl) ?_
        refine ha_getI (r := 7) (j := jb) (i := 1) (lo := 0) (up := 1000) hF (haEt hT (e := (60, 53, 1, 1, 72, [342])) (k := 84) (pc := 53) (by decide) (by decide +kernel) rfl) rfl rfl rfl (by decide +kernel) (by decide) (by decide +kernel) (by rfl) ?_
        refine ha_imulA hF (haEt hT (e := (23, 56, 0, 0, 0, [])) (k := 84) (pc := 56) (by decide) (by decide +kernel) rfl) rfl rfl (fun w w1 w2 w3 => ?_)
        refine ha_s (pc' := 61) (ls' := [haR 23 817, haR 18 jh, haI (v), haI (b), haR 7 jb]) (st' := [haI (w), haI (b), haR 26 822]) hF (haEt hT (e := (58, 57, 61, 0, 0, [])) (k := 84) (pc := 57) (by decide) (by decide +kernel) rfl) rfl (fun RG => avS58) (fun nx => rfl) ?_
        exact e61 w w1 w2
  refine ha_s (pc' := 1) (ls' := [haR 23 817, haR 18 jh, haI (v), avJ, avJ]) (st' := [haR 23 817]) hF (haEt hT (e := (13, 0, 0, 0, 0, [])) (k := 84) (pc := 0) (by decide) (by decide +kernel) rfl) rfl (fun RG => avS13) (fun nx => rfl) ?_
  refine ha_s (pc' := 2) (ls' := [haR 23 817, haR 18 jh, haI (v), avJ, avJ]) (st' := [haI (0), haR 23 817]) hF (haEt hT (e := (1, 1, 0, 0, 9223372036854775808, [])) (k := 84) (pc := 1) (by decide) (by decide +kernel) rfl) rfl (fun RG => avS1) (fun nx => rfl) ?_
  refine ha_putI (r := 23) (j := 817) (i := 3) (lo := 0) (up := 6) hF (haEt hT (e := (61, 2, 6, 3, 42, [468])) (k := 84) (pc := 2) (by decide) (by decide +kernel) rfl) rfl rfl rfl (by decide +kernel) (by decide +kernel) (fun q hq => by cases hq; rfl) (by rfl) (by omega) (by omega) ?_
  refine ha_s (pc' := 6) (ls' := [haR 23 817, haR 18 jh, haI (v), avJ, avJ]) (st' := [haI (0)]) hF (haEt hT (e := (1, 5, 0, 0, 9223372036854775808, [])) (k := 84) (pc := 5) (by decide) (by decide +kernel) rfl) rfl (fun RG => avS1) (fun nx => rfl) ?_
  refine ha_s (pc' := 7) (ls' := [haR 23 817, haR 18 jh, haI (v), haI (0), avJ]) (st' := []) hF (haEt hT (e := (15, 6, 0, 3, 0, [])) (k := 84) (pc := 6) (by decide) (by decide +kernel) rfl) rfl (fun RG => avS15) (fun nx => rfl) ?_
  exact loop 6 0 (haUp mu 817 3 0) _ rfl (Int.le_refl 0) (by rw [haUp_s]; omega) (haLk.up (mu := mu) (nu := mu) (fun _ _ _ _ _ _ _ => rfl) (Or.inl rfl))
