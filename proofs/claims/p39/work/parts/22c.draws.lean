/-! TallBinsModel.draws -/
theorem haWd_ext {mu mu' : haMu} (h : haWd mu) (h1 : ∀ b' : Int, 0 ≤ b' → b' ≤ 5 → mu' 861 (520 + 164 * b') = mu 861 (520 + 164 * b') ∧ mu' 861 (521 + 164 * b') = mu 861 (521 + 164 * b')) (h2 : ∀ b' r' c : Int, 0 ≤ b' → b' ≤ 5 → 0 ≤ r' → r' ≤ 11 → 0 ≤ c → c ≤ 11 → ¬ (1 ≤ c ∧ c ≤ 3) → mu' 861 (540 + 164 * b' + 12 * r' + c) = mu 861 (540 + 164 * b' + 12 * r' + c)) : haWd mu' := by
  refine ⟨fun b' b0 b1 => by rw [(h1 b' b0 b1).1, (h1 b' b0 b1).2]; exact h.1 b' b0 b1, fun b' r' b0 b1 r0 r1 => ?_⟩
  obtain ⟨g1, g2, g3, g4⟩ := h.2 b' r' b0 b1 r0 r1
  have e0 := h2 b' r' 0 b0 b1 r0 r1 (by omega) (by omega) (by omega)
  rw [Int.add_zero] at e0
  have e2 : ∀ c : Int, 0 ≤ c → c < 8 → mu' 861 (540 + 164 * b' + 12 * r' + 4 + c) = mu 861 (540 + 164 * b' + 12 * r' + 4 + c) := fun c c0 c1 => by
    have := h2 b' r' (4 + c) b0 b1 r0 r1 (by omega) (by omega) (by omega)
    rw [show 540 + 164 * b' + 12 * r' + (4 + c) = 540 + 164 * b' + 12 * r' + 4 + c by omega] at this
    exact this
  refine ⟨by rw [e0]; exact g1, by rw [e0, (h1 b' b0 b1).2]; exact g2, fun c c0 c1 => by rw [e2 c c0 c1]; exact g3 c c0 c1, ?_⟩
  rw [haS_congr (g := fun c => mu 861 (540 + 164 * b' + 12 * r' + 4 + c)) e2, e0]
  exact g4
theorem haOff {b b' s : Int} (hs : 2 ≤ s ∧ s ≤ 19) : (¬ 520 + 164 * b' = 520 + 164 * b + s) ∧ (¬ 521 + 164 * b' = 520 + 164 * b + s) ∧ ∀ r' c : Int, 0 ≤ r' → r' ≤ 11 → 0 ≤ c → c ≤ 11 → ¬ 540 + 164 * b' + 12 * r' + c = 520 + 164 * b + s := by
  rcases Int.lt_trichotomy b' b with g | g | g
  · exact ⟨by omega, by omega, fun r' c _ _ _ _ => by omega⟩
  · exact ⟨by omega, by omega, fun r' c _ _ _ _ => by omega⟩
  · exact ⟨by omega, by omega, fun r' c _ _ _ _ => by omega⟩
/-- a slot of a BIN that is no RING's, nor rings, nor hold -/
theorem haWd_up {mu : haMu} {b s v : Int} (h : haWd mu) (hs : 2 ≤ s ∧ s ≤ 19) : haWd (haUp mu 861 (520 + 164 * b + s) v) := haWd_ext h (fun b' _ _ => ⟨haUp_n (fun z => (haOff hs).1 z.2), haUp_n (fun z => (haOff hs).2.1 z.2)⟩) (fun b' r' c _ _ r0 r1 c0 c1 _ => haUp_n (fun z => (haOff hs).2.2 r' c r0 r1 c0 c1 z.2))
theorem haWd_low {mu : haMu} {w v : Int} (h : haWd mu) (hw : w ≤ 519) : haWd (haUp mu 861 w v) := haWd_ext h (fun b' _ _ => ⟨haUp_n (fun z => by omega), haUp_n (fun z => by omega)⟩) (fun b' r' c _ _ _ _ _ _ _ => haUp_n (fun z => by omega))
theorem haWd_other {mu mu' : haMu} (h : haWd mu) (he : ∀ i : Int, mu' 861 i = mu 861 i) : haWd mu' := haWd_ext h (fun b' _ _ => ⟨he _, he _⟩) (fun b' r' c _ _ _ _ _ _ _ => he _)
theorem haSl6 {b : Int} (hb : 0 ≤ b ∧ b ≤ 5) : (avRT.get 77).2.2.get (520 + 164 * b + 6).toNat = (0, -2147483648, 2147483647) := by
  rcases (show b = 0 ∨ b = 1 ∨ b = 2 ∨ b = 3 ∨ b = 4 ∨ b = 5 by omega) with e | e | e | e | e | e <;> subst e <;> rfl
theorem haSl4 {b : Int} (hb : 0 ≤ b ∧ b ≤ 5) : (avRT.get 77).2.2.get (520 + 164 * b + 4).toNat = (0, -1, 3) := by
  rcases (show b = 0 ∨ b = 1 ∨ b = 2 ∨ b = 3 ∨ b = 4 ∨ b = 5 by omega) with e | e | e | e | e | e <;> subst e <;> rfl
theorem haSl20 {l : Int} (hl : 0 ≤ l ∧ l ≤ 7) : (avRT.get 77).2.2.get (20 + l).toNat = (0, -2147483648, 2147483647) := by
  rcases (show l = 0 ∨ l = 1 ∨ l = 2 ∨ l = 3 ∨ l = 4 ∨ l = 5 ∨ l = 6 ∨ l = 7 by omega) with e | e | e | e | e | e | e | e <;> subst e <;> rfl
theorem hm_flowOf (hT : abTabs) {b : Int} {mu : haMu} (hb : 0 ≤ b ∧ b ≤ 5) : haSp 208 3 [haR 51 860, haI b] mu (fun o mu' => (∃ z : Int, o = some (haI z)) ∧ haFm mu mu') :=
  (haSp_con (N := 4) (fun D z sb RG hJ => avCn0 hT 4 D z sb RG hJ) (q := 208) (by decide) (c := avC208_0) (show avC208_0 ∈ [avC208_0] from List.mem_cons_self) (by decide) (Or.inr (by decide)) (haFit1 (r := 51) (j := 860) hb.1 hb.2) (haLe5 rfl) (show 2 ≤ (abMe 208).1.2.2.1 from by decide +kernel)).mono (fun o mu' h => by
    obtain ⟨z, h1, -, -⟩ := h.1.2 (by decide)
    exact ⟨⟨z, h1⟩, h.2⟩)
theorem hm_unitsOf (hT : abTabs) {b : Int} {mu : haMu} (hb : 0 ≤ b ∧ b ≤ 5) : haSp 181 2 [haR 51 860, haI b] mu (fun o mu' => (∃ z : Int, o = some (haI z) ∧ -2147483648 ≤ z ∧ z ≤ 2147483647) ∧ haFm mu mu') :=
  (haSp_con (N := 3) (fun D z sb RG hJ => avCn0 hT 3 D z sb RG hJ) (q := 181) (by decide) (c := avC181_0) (show avC181_0 ∈ [avC181_0] from List.mem_cons_self) (by decide) (Or.inr (by decide)) (haFit1 (r := 51) (j := 860) hb.1 hb.2) (haLe5 rfl) (show 2 ≤ (abMe 181).1.2.2.1 from by decide +kernel)).mono (fun o mu' h => ⟨h.1.2 (by decide), h.2⟩)
theorem haWd_fm {mu mu' : haMu} (h : haWd mu) (hf : haFm mu mu') : haWd mu' := haWd_ext h (fun b' b0 b1 => by
    have e0 := hf 861 _ (haGd_hold (i := 0) ⟨b0, b1⟩ ⟨by omega, by omega⟩)
    have e1 := hf 861 _ (haGd_hold (i := 1) ⟨b0, b1⟩ ⟨by omega, by omega⟩)
    rw [Int.add_zero] at e0
    rw [show 520 + 164 * b' + 1 = 521 + 164 * b' by omega] at e1
    exact ⟨e0, e1⟩) (fun b' r' c b0 b1 r0 r1 c0 c1 c2 => hf 861 _ (haGd_ring ⟨b0, b1⟩ ⟨r0, r1⟩ ⟨c0, c1⟩ c2))
theorem haGd_fills : haGd 861 1504 := haGd_w (by decide) (by decide +kernel)
theorem haGd_drawn {i : Int} (h : 0 ≤ i) : haGd 870 i := haGd_r (r := 54) h (by decide +kernel) (by decide) (by decide +kernel)
theorem hm_draws (hT : abTabs) {d : Nat} {b units : Int} {mu : haMu} (hb : 0 ≤ b ∧ b ≤ 5) (hu : 0 ≤ units ∧ units ≤ 9999) (hW : haWd mu) :
    haSp 213 (d + 4) [haR 51 860, haI b, haI units] mu (fun o mu' => o = none ∧ haWd mu' ∧ (∀ (j : Nat) (i : Int), haGd j i → ¬ j = 861 → ¬ j = 868 → ¬ j = 869 → ¬ j = 870 → ¬ j = 860 → mu' j i = mu j i) ∧ mu' 861 1504 = mu 861 1504) := by
  refine haMet (by decide) (hT.1 213 (by decide)) (haLe5 rfl) (show 3 ≤ (abMe 213).1.2.2.1 from by decide +kernel) (fun x hF hR => ?_)
  have hB := hW.1 b hb.1 hb.2
  -- the end
  have fin : ∀ (nu : haMu) (v4 v5 : avV), haWd nu → (∀ (j : Nat) (i : Int), haGd j i → ¬ j = 861 → ¬ j = 868 → ¬ j = 869 → ¬ j = 870 → nu j i = mu j i) ∧ nu 861 1504 = mu 861 1504 ∧ nu 861 (520 + 164 * b) = mu 861 (520 + 164 * b) → haW x nu 196 [haR 51 860, haI (b), haI (units), haI (520 + 164 * b), v4, v5] [] := by
    intro nu v4 v5 f1 f2
    refine ha_s (pc' := 197) (ls' := [haR 51 860, haI (b), haI (units), haI (520 + 164 * b), v4, v5]) (st' := [haR 51 860]) hF (haEt hT (e := (13, 196, 0, 0, 0, [])) (k := 213) (pc := 196) (by decide) (by decide +kernel) rfl) rfl (fun RG => avS13) (fun nx => rfl) ?_
    refine ha_s (pc' := 198) (ls' := [haR 51 860, haI (b), haI (units), haI (520 + 164 * b), v4, v5]) (st' := [haI (0), haR 51 860]) hF (haEt hT (e := (1, 197, 0, 0, 9223372036854775808, [])) (k := 213) (pc := 197) (by decide) (by decide +kernel) rfl) rfl (fun RG => avS1) (fun nx => rfl) ?_
    refine ha_putZ (r := 51) (j := 860) (i := 32) (lo := 0) (up := 1) hF (haEt hT (e := (62, 198, 12, 32, 137, [1375])) (k := 213) (pc := 198) (by decide) (by decide +kernel) rfl) rfl rfl rfl (by decide +kernel) (by decide +kernel) (fun q hq => by cases hq; rfl) (by rfl) (by omega) (by omega) ⟨by omega, by omega⟩ ?_
    refine hR 201 _ _ _ none (82, 201, 0, 0, 0, []) (haEt hT (e := (82, 201, 0, 0, 0, [])) (k := 213) (pc := 201) (by decide) (by decide +kernel) rfl) rfl (Or.inl ⟨rfl, rfl, rfl⟩) ⟨rfl, haWd_other f1 (fun i => haUp_n (fun z => absurd z.1 (by decide))), fun j i hg a1 a2 a3 a4 a5 => ?_, ?_⟩
    · rw [haUp_n (fun z => a5 z.1)]
      exact f2.1 j i hg a1 a2 a3 a4
    · rw [haUp_n (fun z => absurd z.1 (by decide))]
      exact f2.2.1
  -- behind the books
  have tail : ∀ (nu : haMu) (v4 v5 : avV), haWd nu → (∀ (j : Nat) (i : Int), haGd j i → ¬ j = 861 → ¬ j = 868 → ¬ j = 869 → ¬ j = 870 → nu j i = mu j i) ∧ nu 861 1504 = mu 861 1504 ∧ nu 861 (520 + 164 * b) = mu 861 (520 + 164 * b) → haW x nu 179 [haR 51 860, haI (b), haI (units), haI (520 + 164 * b), v4, v5] [] := by
    intro nu v4 v5 f1 f2
    refine ha_s (pc' := 180) (ls' := [haR 51 860, haI (b), haI (units), haI (520 + 164 * b), v4, v5]) (st' := [haR 51 860]) hF (haEt hT (e := (13, 179, 0, 0, 0, [])) (k := 213) (pc := 179) (by decide) (by decide +kernel) rfl) rfl (fun RG => avS13) (fun nx => rfl) ?_
    refine ha_s (pc' := 181) (ls' := [haR 51 860, haI (b), haI (units), haI (520 + 164 * b), v4, v5]) (st' := [haI (b), haR 51 860]) hF (haEt hT (e := (9, 180, 0, 1, 0, [])) (k := 213) (pc := 180) (by decide) (by decide +kernel) rfl) rfl (fun RG => avS9) (fun nx => rfl) ?_
    refine ha_callV (q := 181) (d' := 2) (r := 51) (j := 860) (as := [haI b]) (rest := []) hT hF (haEt hT (e := (78, 181, 181, 0, 273, [1491, 1493, 34])) (k := 213) (pc := 181) (by decide) (by decide +kernel) rfl) rfl rfl rfl (by decide +kernel) (by decide +kernel) (hm_unitsOf hT hb) (by omega) rfl (show 1 = (abMe 181).2.1 from by decide +kernel) (show 0 + (abMe 181).1.2.2.1 ≤ 49 from by decide +kernel) (fun o ku h => ?_)
    obtain ⟨⟨y, rfl, y1, y2⟩, hfm⟩ := h
    have g1 := haWd_fm f1 hfm
    have g2 : (∀ (j : Nat) (i : Int), haGd j i → ¬ j = 861 → ¬ j = 868 → ¬ j = 869 → ¬ j = 870 → ku j i = mu j i) ∧ ku 861 1504 = mu 861 1504 ∧ ku 861 (520 + 164 * b) = mu 861 (520 + 164 * b) := ⟨fun j i hg a1 a2 a3 a4 => (hfm j i hg).trans (f2.1 j i hg a1 a2 a3 a4), (hfm _ _ haGd_fills).trans f2.2.1, by
      have := hfm 861 _ (haGd_hold (i := 0) hb ⟨by omega, by omega⟩)
      rw [Int.add_zero] at this
      exact this.trans f2.2.2⟩
    show haW x ku 184 [haR 51 860, haI (b), haI (units), haI (520 + 164 * b), v4, v5] [haI y]
    refine ha_ifne hF (haEt hT (e := (47, 184, 196, 0, 0, [])) (k := 213) (pc := 184) (by decide) (by decide +kernel) rfl) rfl rfl rfl (fun _ => fin ku v4 v5 g1 g2) (fun _ => ?_)
    refine ha_s (pc' := 188) (ls' := [haR 51 860, haI (b), haI (units), haI (520 + 164 * b), v4, v5]) (st' := [haR 51 860]) hF (haEt hT (e := (13, 187, 0, 0, 0, [])) (k := 213) (pc := 187) (by decide) (by decide +kernel) rfl) rfl (fun RG => avS13) (fun nx => rfl) ?_
    refine ha_getR (r := 51) (j := 860) (i := 1) (r' := 77) (j' := 861) hF (haEt hT (e := (60, 188, 12, 1, 13, [1344])) (k := 213) (pc := 188) (by decide) (by decide +kernel) rfl) rfl rfl rfl (by decide +kernel) (by decide) (by decide +kernel) (by rfl) ?_
    refine ha_s (pc' := 192) (ls' := [haR 51 860, haI (b), haI (units), haI (520 + 164 * b), v4, v5]) (st' := [haI (520 + 164 * b), haR 77 861]) hF (haEt hT (e := (9, 191, 0, 3, 0, [])) (k := 213) (pc := 191) (by decide) (by decide +kernel) rfl) rfl (fun RG => avS9) (fun nx => rfl) ?_
    refine ha_s (pc' := 193) (ls' := [haR 51 860, haI (b), haI (units), haI (520 + 164 * b), v4, v5]) (st' := [haI (4), haI (520 + 164 * b), haR 77 861]) hF (haEt hT (e := (1, 192, 0, 0, 9223372036854775812, [])) (k := 213) (pc := 192) (by decide) (by decide +kernel) rfl) rfl (fun RG => avS1) (fun nx => rfl) ?_
    refine ha_iadd hF (haEt hT (e := (21, 193, 0, 0, 0, [])) (k := 213) (pc := 193) (by decide) (by decide +kernel) rfl) rfl rfl (by omega) (by omega) ?_
    refine ha_s (pc' := 195) (ls' := [haR 51 860, haI (b), haI (units), haI (520 + 164 * b), v4, v5]) (st' := [haI (-1), haI (520 + 164 * b + (4)), haR 77 861]) hF (haEt hT (e := (1, 194, 0, 0, 9223372036854775807, [])) (k := 213) (pc := 194) (by decide) (by decide +kernel) rfl) rfl (fun RG => avS1) (fun nx => rfl) ?_
    refine ha_iast (r := 77) hF (haEt hT (e := (69, 195, 0, 0, 0, [])) (k := 213) (pc := 195) (by decide) (by decide +kernel) rfl) rfl rfl (by decide +kernel) (by omega) (by show _ < (1745 : Int); omega) (lo := -1) (up := 3) (haSl4 hb) (by omega) (by omega) ?_
    refine fin _ v4 v5 (haWd_up g1 ⟨by omega, by omega⟩) ⟨fun j i hg a1 a2 a3 a4 => ?_, ?_, ?_⟩
    · rw [haUp_n (fun z => a1 z.1)]
      exact g2.1 j i hg a1 a2 a3 a4
    · rw [haUp_n (fun z => by omega)]
      exact g2.2.1
    · rw [haUp_n (fun z => by omega)]
      exact g2.2.2
  -- what went of each LOT
  have lots : ∀ (nn : Nat) (l : Int) (nu : haMu) (s4 : Int), (nn : Int) = 8 - l → 0 ≤ l → haWd nu → (∀ (j : Nat) (i : Int), haGd j i → ¬ j = 861 → ¬ j = 868 → ¬ j = 869 → ¬ j = 870 → nu j i = mu j i) ∧ nu 861 1504 = mu 861 1504 ∧ nu 861 (520 + 164 * b) = mu 861 (520 + 164 * b) → haW x nu 144 [haR 51 860, haI (b), haI (units), haI (520 + 164 * b), haI (s4), haI (l)] [] := by
    intro nn
    induction nn with
    | zero =>
      intro l nu s4 hn h0 f1 f2
      refine ha_s (pc' := 146) (ls' := [haR 51 860, haI (b), haI (units), haI (520 + 164 * b), haI (s4), haI (l)]) (st' := [haI (l)]) hF (haEt hT (e := (8, 144, 0, 5, 0, [])) (k := 213) (pc := 144) (by decide) (by decide +kernel) rfl) rfl (fun RG => avS8) (fun nx => rfl) ?_
      refine ha_s (pc' := 148) (ls' := [haR 51 860, haI (b), haI (units), haI (520 + 164 * b), haI (s4), haI (l)]) (st' := [haI (8), haI (l)]) hF (haEt hT (e := (2, 146, 0, 0, 9223372036854775816, [])) (k := 213) (pc := 146) (by decide) (by decide +kernel) rfl) rfl (fun RG => avS2) (fun nx => rfl) ?_
      exact ha_icge hF (haEt hT (e := (55, 148, 179, 0, 0, [])) (k := 213) (pc := 148) (by decide) (by decide +kernel) rfl) rfl rfl rfl (fun _ => tail nu _ _ f1 f2) (fun q => by omega)
    | succ nn ih =>
      intro l nu s4 hn h0 f1 f2
      refine ha_s (pc' := 146) (ls' := [haR 51 860, haI (b), haI (units), haI (520 + 164 * b), haI (s4), haI (l)]) (st' := [haI (l)]) hF (haEt hT (e := (8, 144, 0, 5, 0, [])) (k := 213) (pc := 144) (by decide) (by decide +kernel) rfl) rfl (fun RG => avS8) (fun nx => rfl) ?_
      refine ha_s (pc' := 148) (ls' := [haR 51 860, haI (b), haI (units), haI (520 + 164 * b), haI (s4), haI (l)]) (st' := [haI (8), haI (l)]) hF (haEt hT (e := (2, 146, 0, 0, 9223372036854775816, [])) (k := 213) (pc := 146) (by decide) (by decide +kernel) rfl) rfl (fun RG => avS2) (fun nx => rfl) ?_
      refine ha_icge hF (haEt hT (e := (55, 148, 179, 0, 0, [])) (k := 213) (pc := 148) (by decide) (by decide +kernel) rfl) rfl rfl rfl (fun _ => tail nu _ _ f1 f2) (fun q => ?_)
      refine ha_s (pc' := 152) (ls' := [haR 51 860, haI (b), haI (units), haI (520 + 164 * b), haI (s4), haI (l)]) (st' := [haR 51 860]) hF (haEt hT (e := (13, 151, 0, 0, 0, [])) (k := 213) (pc := 151) (by decide) (by decide +kernel) rfl) rfl (fun RG => avS13) (fun nx => rfl) ?_
      refine ha_getR (r := 51) (j := 860) (i := 1) (r' := 77) (j' := 861) hF (haEt hT (e := (60, 152, 12, 1, 13, [1344])) (k := 213) (pc := 152) (by decide) (by decide +kernel) rfl) rfl rfl rfl (by decide +kernel) (by decide) (by decide +kernel) (by rfl) ?_
      refine ha_s (pc' := 157) (ls' := [haR 51 860, haI (b), haI (units), haI (520 + 164 * b), haI (s4), haI (l)]) (st' := [haI (20), haR 77 861]) hF (haEt hT (e := (2, 155, 0, 0, 9223372036854775828, [])) (k := 213) (pc := 155) (by decide) (by decide +kernel) rfl) rfl (fun RG => avS2) (fun nx => rfl) ?_
      refine ha_s (pc' := 159) (ls' := [haR 51 860, haI (b), haI (units), haI (520 + 164 * b), haI (s4), haI (l)]) (st' := [haI (l), haI (20), haR 77 861]) hF (haEt hT (e := (8, 157, 0, 5, 0, [])) (k := 213) (pc := 157) (by decide) (by decide +kernel) rfl) rfl (fun RG => avS8) (fun nx => rfl) ?_
      refine ha_iadd hF (haEt hT (e := (21, 159, 0, 0, 0, [])) (k := 213) (pc := 159) (by decide) (by decide +kernel) rfl) rfl rfl (by omega) (by omega) ?_
      refine ha_s (pc' := 161) (ls' := [haR 51 860, haI (b), haI (units), haI (520 + 164 * b), haI (s4), haI (l)]) (st' := [haI (20 + (l)), haR 77 861, haI (20 + (l)), haR 77 861]) hF (haEt hT (e := (45, 160, 0, 0, 0, [])) (k := 213) (pc := 160) (by decide) (by decide +kernel) rfl) rfl (fun RG => avS45) (fun nx => rfl) ?_
      refine ha_iald (r := 77) hF (haEt hT (e := (64, 161, 0, 0, 0, [])) (k := 213) (pc := 161) (by decide) (by decide +kernel) rfl) rfl rfl (by decide +kernel) (by omega) (by show _ < (1745 : Int); omega) ?_
      refine ha_s (pc' := 163) (ls' := [haR 51 860, haI (b), haI (units), haI (520 + 164 * b), haI (s4), haI (l)]) (st' := [haR 51 860, haI (nu 861 (20 + (l))), haI (20 + (l)), haR 77 861]) hF (haEt hT (e := (13, 162, 0, 0, 0, [])) (k := 213) (pc := 162) (by decide) (by decide +kernel) rfl) rfl (fun RG => avS13) (fun nx => rfl) ?_
      refine ha_getR (r := 51) (j := 860) (i := 18) (r' := 54) (j' := 870) hF (haEt hT (e := (60, 163, 12, 18, 46, [1361])) (k := 213) (pc := 163) (by decide) (by decide +kernel) rfl) rfl rfl rfl (by decide +kernel) (by decide) (by decide +kernel) (by rfl) ?_
      refine ha_s (pc' := 167) (ls' := [haR 51 860, haI (b), haI (units), haI (520 + 164 * b), haI (s4), haI (l)]) (st' := [haI (4), haR 54 870, haI (nu 861 (20 + (l))), haI (20 + (l)), haR 77 861]) hF (haEt hT (e := (1, 166, 0, 0, 9223372036854775812, [])) (k := 213) (pc := 166) (by decide) (by decide +kernel) rfl) rfl (fun RG => avS1) (fun nx => rfl) ?_
      refine ha_s (pc' := 169) (ls' := [haR 51 860, haI (b), haI (units), haI (520 + 164 * b), haI (s4), haI (l)]) (st' := [haI (l), haI (4), haR 54 870, haI (nu 861 (20 + (l))), haI (20 + (l)), haR 77 861]) hF (haEt hT (e := (8, 167, 0, 5, 0, [])) (k := 213) (pc := 167) (by decide) (by decide +kernel) rfl) rfl (fun RG => avS8) (fun nx => rfl) ?_
      refine ha_iadd hF (haEt hT (e := (21, 169, 0, 0, 0, [])) (k := 213) (pc := 169) (by decide) (by decide +kernel) rfl) rfl rfl (by omega) (by omega) ?_
      refine ha_iald (r := 54) hF (haEt hT (e := (64, 170, 0, 0, 0, [])) (k := 213) (pc := 170) (by decide) (by decide +kernel) rfl) rfl rfl (by decide +kernel) (by omega) (by show _ < (12 : Int); omega) ?_
      refine ha_iaddA hF (haEt hT (e := (21, 171, 0, 0, 0, [])) (k := 213) (pc := 171) (by decide) (by decide +kernel) rfl) rfl rfl (fun w w1 w2 w3 => ?_)
      refine ha_iast (r := 77) hF (haEt hT (e := (69, 172, 0, 0, 0, [])) (k := 213) (pc := 172) (by decide) (by decide +kernel) rfl) rfl rfl (by decide +kernel) (by omega) (by show _ < (1745 : Int); omega) (lo := -2147483648) (up := 2147483647) (haSl20 ⟨by omega, by omega⟩) w1 w2 ?_
      refine ha_iinc (i := 5) (c := 1) hF (haEt hT (e := (20, 173, 0, 5, 9223372036854775809, [])) (k := 213) (pc := 173) (by decide) (by decide +kernel) rfl) rfl rfl rfl rfl rfl (by omega) (by omega) ?_
      show haW _ _ 176 [haR 51 860, haI (b), haI (units), haI (520 + 164 * b), haI (s4), haI (l + 1)] []
      refine ha_s (pc' := 144) (ls' := [haR 51 860, haI (b), haI (units), haI (520 + 164 * b), haI (s4), haI (l + 1)]) (st' := []) hF (haEt hT (e := (58, 176, 144, 0, 0, [])) (k := 213) (pc := 176) (by decide) (by decide +kernel) rfl) rfl (fun RG => avS58) (fun nx => rfl) ?_
      refine ih (l + 1) _ s4 (by omega) (by omega) (haWd_low f1 (by omega)) ⟨fun j i hg a1 a2 a3 a4 => ?_, ?_, ?_⟩
      · rw [haUp_n (fun z => a1 z.1)]
        exact f2.1 j i hg a1 a2 a3 a4
      · rw [haUp_n (fun z => by omega)]
        exact f2.2.1
      · rw [haUp_n (fun z => by omega)]
        exact f2.2.2
  -- the books
  have books : ∀ (nu : haMu) (s4 : Int) (v5 : avV), haWd nu → (∀ (j : Nat) (i : Int), haGd j i → ¬ j = 861 → ¬ j = 868 → ¬ j = 869 → ¬ j = 870 → nu j i = mu j i) ∧ nu 861 1504 = mu 861 1504 ∧ nu 861 (520 + 164 * b) = mu 861 (520 + 164 * b) → haW x nu 108 [haR 51 860, haI (b), haI (units), haI (520 + 164 * b), haI (s4), v5] [] := by
    intro nu s4 v5 f1 f2
    refine ha_s (pc' := 109) (ls' := [haR 51 860, haI (b), haI (units), haI (520 + 164 * b), haI (s4), v5]) (st' := [haR 51 860]) hF (haEt hT (e := (13, 108, 0, 0, 0, [])) (k := 213) (pc := 108) (by decide) (by decide +kernel) rfl) rfl (fun RG => avS13) (fun nx => rfl) ?_
    refine ha_getR (r := 51) (j := 860) (i := 1) (r' := 77) (j' := 861) hF (haEt hT (e := (60, 109, 12, 1, 13, [1344])) (k := 213) (pc := 109) (by decide) (by decide +kernel) rfl) rfl rfl rfl (by decide +kernel) (by decide) (by decide +kernel) (by rfl) ?_
    refine ha_s (pc' := 113) (ls' := [haR 51 860, haI (b), haI (units), haI (520 + 164 * b), haI (s4), v5]) (st' := [haI (520 + 164 * b), haR 77 861]) hF (haEt hT (e := (9, 112, 0, 3, 0, [])) (k := 213) (pc := 112) (by decide) (by decide +kernel) rfl) rfl (fun RG => avS9) (fun nx => rfl) ?_
    refine ha_s (pc' := 115) (ls' := [haR 51 860, haI (b), haI (units), haI (520 + 164 * b), haI (s4), v5]) (st' := [haI (6), haI (520 + 164 * b), haR 77 861]) hF (haEt hT (e := (2, 113, 0, 0, 9223372036854775814, [])) (k := 213) (pc := 113) (by decide) (by decide +kernel) rfl) rfl (fun RG => avS2) (fun nx => rfl) ?_
    refine ha_iadd hF (haEt hT (e := (21, 115, 0, 0, 0, [])) (k := 213) (pc := 115) (by decide) (by decide +kernel) rfl) rfl rfl (by omega) (by omega) ?_
    refine ha_s (pc' := 117) (ls' := [haR 51 860, haI (b), haI (units), haI (520 + 164 * b), haI (s4), v5]) (st' := [haI (520 + 164 * b + (6)), haR 77 861, haI (520 + 164 * b + (6)), haR 77 861]) hF (haEt hT (e := (45, 116, 0, 0, 0, [])) (k := 213) (pc := 116) (by decide) (by decide +kernel) rfl) rfl (fun RG => avS45) (fun nx => rfl) ?_
    refine ha_iald (r := 77) hF (haEt hT (e := (64, 117, 0, 0, 0, [])) (k := 213) (pc := 117) (by decide) (by decide +kernel) rfl) rfl rfl (by decide +kernel) (by omega) (by show _ < (1745 : Int); omega) ?_
    refine ha_s (pc' := 119) (ls' := [haR 51 860, haI (b), haI (units), haI (520 + 164 * b), haI (s4), v5]) (st' := [haR 51 860, haI (nu 861 (520 + 164 * b + (6))), haI (520 + 164 * b + (6)), haR 77 861]) hF (haEt hT (e := (13, 118, 0, 0, 0, [])) (k := 213) (pc := 118) (by decide) (by decide +kernel) rfl) rfl (fun RG => avS13) (fun nx => rfl) ?_
    refine ha_getR (r := 51) (j := 860) (i := 18) (r' := 54) (j' := 870) hF (haEt hT (e := (60, 119, 12, 18, 46, [1361])) (k := 213) (pc := 119) (by decide) (by decide +kernel) rfl) rfl rfl rfl (by decide +kernel) (by decide) (by decide +kernel) (by rfl) ?_
    refine ha_s (pc' := 123) (ls' := [haR 51 860, haI (b), haI (units), haI (520 + 164 * b), haI (s4), v5]) (st' := [haI (0), haR 54 870, haI (nu 861 (520 + 164 * b + (6))), haI (520 + 164 * b + (6)), haR 77 861]) hF (haEt hT (e := (1, 122, 0, 0, 9223372036854775808, [])) (k := 213) (pc := 122) (by decide) (by decide +kernel) rfl) rfl (fun RG => avS1) (fun nx => rfl) ?_
    refine ha_iald (r := 54) hF (haEt hT (e := (64, 123, 0, 0, 0, [])) (k := 213) (pc := 123) (by decide) (by decide +kernel) rfl) rfl rfl (by decide +kernel) (by omega) (by show _ < (12 : Int); omega) ?_
    refine ha_iaddA hF (haEt hT (e := (21, 124, 0, 0, 0, [])) (k := 213) (pc := 124) (by decide) (by decide +kernel) rfl) rfl rfl (fun w w1 w2 w3 => ?_)
    refine ha_iast (r := 77) hF (haEt hT (e := (69, 125, 0, 0, 0, [])) (k := 213) (pc := 125) (by decide) (by decide +kernel) rfl) rfl rfl (by decide +kernel) (by omega) (by show _ < (1745 : Int); omega) (lo := -2147483648) (up := 2147483647) (haSl6 hb) w1 w2 ?_
    have w4 : haWd (haUp nu 861 (520 + 164 * b + 6) w) := haWd_up f1 ⟨by omega, by omega⟩
    refine ha_s (pc' := 127) (ls' := [haR 51 860, haI (b), haI (units), haI (520 + 164 * b), haI (s4), v5]) (st' := [haR 51 860]) hF (haEt hT (e := (13, 126, 0, 0, 0, [])) (k := 213) (pc := 126) (by decide) (by decide +kernel) rfl) rfl (fun RG => avS13) (fun nx => rfl) ?_
    refine ha_getR (r := 51) (j := 860) (i := 1) (r' := 77) (j' := 861) hF (haEt hT (e := (60, 127, 12, 1, 13, [1344])) (k := 213) (pc := 127) (by decide) (by decide +kernel) rfl) rfl rfl rfl (by decide +kernel) (by decide) (by decide +kernel) (by rfl) ?_
    refine ha_s (pc' := 131) (ls' := [haR 51 860, haI (b), haI (units), haI (520 + 164 * b), haI (s4), v5]) (st' := [haI (2), haR 77 861]) hF (haEt hT (e := (1, 130, 0, 0, 9223372036854775810, [])) (k := 213) (pc := 130) (by decide) (by decide +kernel) rfl) rfl (fun RG => avS1) (fun nx => rfl) ?_
    refine ha_s (pc' := 132) (ls' := [haR 51 860, haI (b), haI (units), haI (520 + 164 * b), haI (s4), v5]) (st' := [haI (2), haR 77 861, haI (2), haR 77 861]) hF (haEt hT (e := (45, 131, 0, 0, 0, [])) (k := 213) (pc := 131) (by decide) (by decide +kernel) rfl) rfl (fun RG => avS45) (fun nx => rfl) ?_
    refine ha_iald (r := 77) hF (haEt hT (e := (64, 132, 0, 0, 0, [])) (k := 213) (pc := 132) (by decide) (by decide +kernel) rfl) rfl rfl (by decide +kernel) (by omega) (by show _ < (1745 : Int); omega) ?_
    refine ha_s (pc' := 134) (ls' := [haR 51 860, haI (b), haI (units), haI (520 + 164 * b), haI (s4), v5]) (st' := [haR 51 860, haI ((haUp nu 861 (520 + 164 * b + 6) w) 861 (2)), haI (2), haR 77 861]) hF (haEt hT (e := (13, 133, 0, 0, 0, [])) (k := 213) (pc := 133) (by decide) (by decide +kernel) rfl) rfl (fun RG => avS13) (fun nx => rfl) ?_
    refine ha_getR (r := 51) (j := 860) (i := 18) (r' := 54) (j' := 870) hF (haEt hT (e := (60, 134, 12, 18, 46, [1361])) (k := 213) (pc := 134) (by decide) (by decide +kernel) rfl) rfl rfl rfl (by decide +kernel) (by decide) (by decide +kernel) (by rfl) ?_
    refine ha_s (pc' := 138) (ls' := [haR 51 860, haI (b), haI (units), haI (520 + 164 * b), haI (s4), v5]) (st' := [haI (0), haR 54 870, haI ((haUp nu 861 (520 + 164 * b + 6) w) 861 (2)), haI (2), haR 77 861]) hF (haEt hT (e := (1, 137, 0, 0, 9223372036854775808, [])) (k := 213) (pc := 137) (by decide) (by decide +kernel) rfl) rfl (fun RG => avS1) (fun nx => rfl) ?_
    refine ha_iald (r := 54) hF (haEt hT (e := (64, 138, 0, 0, 0, [])) (k := 213) (pc := 138) (by decide) (by decide +kernel) rfl) rfl rfl (by decide +kernel) (by omega) (by show _ < (12 : Int); omega) ?_
    refine ha_iaddA hF (haEt hT (e := (21, 139, 0, 0, 0, [])) (k := 213) (pc := 139) (by decide) (by decide +kernel) rfl) rfl rfl (fun y y1 y2 y3 => ?_)
    refine ha_iast (r := 77) hF (haEt hT (e := (69, 140, 0, 0, 0, [])) (k := 213) (pc := 140) (by decide) (by decide +kernel) rfl) rfl rfl (by decide +kernel) (by omega) (by show _ < (1745 : Int); omega) (lo := -2147483648) (up := 2147483647) (by rfl) y1 y2 ?_
    refine ha_s (pc' := 142) (ls' := [haR 51 860, haI (b), haI (units), haI (520 + 164 * b), haI (s4), v5]) (st' := [haI (0)]) hF (haEt hT (e := (1, 141, 0, 0, 9223372036854775808, [])) (k := 213) (pc := 141) (by decide) (by decide +kernel) rfl) rfl (fun RG => avS1) (fun nx => rfl) ?_
    refine ha_s (pc' := 144) (ls' := [haR 51 860, haI (b), haI (units), haI (520 + 164 * b), haI (s4), haI (0)]) (st' := []) hF (haEt hT (e := (14, 142, 0, 5, 0, [])) (k := 213) (pc := 142) (by decide) (by decide +kernel) rfl) rfl (fun RG => avS14) (fun nx => rfl) ?_
    refine lots 8 0 _ s4 rfl (Int.le_refl 0) (haWd_low w4 (by omega)) ⟨fun j i hg a1 a2 a3 a4 => ?_, ?_, ?_⟩
    · rw [haUp_n (fun z => a1 z.1), haUp_n (fun z => a1 z.1)]
      exact f2.1 j i hg a1 a2 a3 a4
    · rw [haUp_n (fun z => by omega), haUp_n (fun z => by omega)]
      exact f2.2.1
    · rw [haUp_n (fun z => by omega), haUp_n (fun z => by omega)]
      exact f2.2.2
  -- the RINGS in turn
  have turn : ∀ (nn : Nat) (i al : Int) (nu : haMu), (nn : Int) = 12 - i → 0 ≤ i → haWd nu → (∀ (j : Nat) (i : Int), haGd j i → ¬ j = 861 → ¬ j = 868 → ¬ j = 869 → ¬ j = 870 → nu j i = mu j i) ∧ nu 861 1504 = mu 861 1504 ∧ nu 861 (520 + 164 * b) = mu 861 (520 + 164 * b) → 0 ≤ nu 870 0 ∧ nu 870 0 ≤ units → haW x nu 47 [haR 51 860, haI (b), haI (units), haI (520 + 164 * b), haI (al), haI (i)] [] := by
    intro nn
    induction nn with
    | zero =>
      intro i al nu hn h0 f1 f2 f3
      have hR0 := f2.2.2
      refine ha_s (pc' := 49) (ls' := [haR 51 860, haI (b), haI (units), haI (520 + 164 * b), haI (al), haI (i)]) (st' := [haI (i)]) hF (haEt hT (e := (8, 47, 0, 5, 0, [])) (k := 213) (pc := 47) (by decide) (by decide +kernel) rfl) rfl (fun RG => avS8) (fun nx => rfl) ?_
      refine ha_s (pc' := 50) (ls' := [haR 51 860, haI (b), haI (units), haI (520 + 164 * b), haI (al), haI (i)]) (st' := [haR 51 860, haI (i)]) hF (haEt hT (e := (13, 49, 0, 0, 0, [])) (k := 213) (pc := 49) (by decide) (by decide +kernel) rfl) rfl (fun RG => avS13) (fun nx => rfl) ?_
      refine ha_getR (r := 51) (j := 860) (i := 1) (r' := 77) (j' := 861) hF (haEt hT (e := (60, 50, 12, 1, 13, [1344])) (k := 213) (pc := 50) (by decide) (by decide +kernel) rfl) rfl rfl rfl (by decide +kernel) (by decide) (by decide +kernel) (by rfl) ?_
      refine ha_s (pc' := 54) (ls' := [haR 51 860, haI (b), haI (units), haI (520 + 164 * b), haI (al), haI (i)]) (st' := [haI (520 + 164 * b), haR 77 861, haI (i)]) hF (haEt hT (e := (9, 53, 0, 3, 0, [])) (k := 213) (pc := 53) (by decide) (by decide +kernel) rfl) rfl (fun RG => avS9) (fun nx => rfl) ?_
      refine ha_iald (r := 77) hF (haEt hT (e := (64, 54, 0, 0, 0, [])) (k := 213) (pc := 54) (by decide) (by decide +kernel) rfl) rfl rfl (by decide +kernel) (by omega) (by show _ < (1745 : Int); omega) ?_
      refine ha_icge hF (haEt hT (e := (55, 55, 98, 0, 0, [])) (k := 213) (pc := 55) (by decide) (by decide +kernel) rfl) rfl rfl rfl (fun _ => ?_) (fun q => by omega)
      refine ha_s (pc' := 100) (ls' := [haR 51 860, haI (b), haI (units), haI (520 + 164 * b), haI (al), haI (i)]) (st' := [haI (al)]) hF (haEt hT (e := (8, 98, 0, 4, 0, [])) (k := 213) (pc := 98) (by decide) (by decide +kernel) rfl) rfl (fun RG => avS8) (fun nx => rfl) ?_
      refine ha_ifeq hF (haEt hT (e := (46, 100, 108, 0, 0, [])) (k := 213) (pc := 100) (by decide) (by decide +kernel) rfl) rfl rfl rfl (fun _ => books nu al _ f1 f2) (fun _ => ?_)
      refine ha_s (pc' := 104) (ls' := [haR 51 860, haI (b), haI (units), haI (520 + 164 * b), haI (al), haI (i)]) (st' := [haR 51 860]) hF (haEt hT (e := (13, 103, 0, 0, 0, [])) (k := 213) (pc := 103) (by decide) (by decide +kernel) rfl) rfl (fun RG => avS13) (fun nx => rfl) ?_
      refine ha_s (pc' := 105) (ls' := [haR 51 860, haI (b), haI (units), haI (520 + 164 * b), haI (al), haI (i)]) (st' := [haI (b), haR 51 860]) hF (haEt hT (e := (9, 104, 0, 1, 0, [])) (k := 213) (pc := 104) (by decide) (by decide +kernel) rfl) rfl (fun RG => avS9) (fun nx => rfl) ?_
      refine ha_callV (q := 216) (d' := d + 3) (r := 51) (j := 860) (as := [haI b]) (rest := []) hT hF (haEt hT (e := (78, 105, 216, 0, 341, [1673, 1675, 61])) (k := 213) (pc := 105) (by decide) (by decide +kernel) rfl) rfl rfl rfl (by decide +kernel) (by decide +kernel) (hm_settles (d := d + 1) hT hb f1) (Nat.le_refl _) rfl (show 1 = (abMe 216).2.1 from by decide +kernel) (show 0 + (abMe 216).1.2.2.1 ≤ 49 from by decide +kernel) (fun o ku h => ?_)
      obtain ⟨rfl, g1, g2⟩ := h
      refine books ku al _ g1 ⟨fun j q hg a1 a2 a3 a4 => (g2 j q hg a2 a3 (fun z => a1 z.1)).trans (f2.1 j q hg a1 a2 a3 a4), (g2 861 1504 haGd_fills (by decide) (by decide) (fun z => by omega)).trans f2.2.1, ?_⟩
      have := g2 861 (520 + 164 * b + 0) (haGd_hold hb ⟨by omega, by omega⟩) (by decide) (by decide) (fun z => by omega)
      rw [Int.add_zero] at this
      exact this.trans f2.2.2
    | succ nn ih =>
      intro i al nu hn h0 f1 f2 f3
      have hR0 := f2.2.2
      refine ha_s (pc' := 49) (ls' := [haR 51 860, haI (b), haI (units), haI (520 + 164 * b), haI (al), haI (i)]) (st' := [haI (i)]) hF (haEt hT (e := (8, 47, 0, 5, 0, [])) (k := 213) (pc := 47) (by decide) (by decide +kernel) rfl) rfl (fun RG => avS8) (fun nx => rfl) ?_
      refine ha_s (pc' := 50) (ls' := [haR 51 860, haI (b), haI (units), haI (520 + 164 * b), haI (al), haI (i)]) (st' := [haR 51 860, haI (i)]) hF (haEt hT (e := (13, 49, 0, 0, 0, [])) (k := 213) (pc := 49) (by decide) (by decide +kernel) rfl) rfl (fun RG => avS13) (fun nx => rfl) ?_
      refine ha_getR (r := 51) (j := 860) (i := 1) (r' := 77) (j' := 861) hF (haEt hT (e := (60, 50, 12, 1, 13, [1344])) (k := 213) (pc := 50) (by decide) (by decide +kernel) rfl) rfl rfl rfl (by decide +kernel) (by decide) (by decide +kernel) (by rfl) ?_
      refine ha_s (pc' := 54) (ls' := [haR 51 860, haI (b), haI (units), haI (520 + 164 * b), haI (al), haI (i)]) (st' := [haI (520 + 164 * b), haR 77 861, haI (i)]) hF (haEt hT (e := (9, 53, 0, 3, 0, [])) (k := 213) (pc := 53) (by decide) (by decide +kernel) rfl) rfl (fun RG => avS9) (fun nx => rfl) ?_
      refine ha_iald (r := 77) hF (haEt hT (e := (64, 54, 0, 0, 0, [])) (k := 213) (pc := 54) (by decide) (by decide +kernel) rfl) rfl rfl (by decide +kernel) (by omega) (by show _ < (1745 : Int); omega) ?_
      refine ha_icge hF (haEt hT (e := (55, 55, 98, 0, 0, [])) (k := 213) (pc := 55) (by decide) (by decide +kernel) rfl) rfl rfl rfl (fun _ => ?_) (fun q => ?_)
      · refine ha_s (pc' := 100) (ls' := [haR 51 860, haI (b), haI (units), haI (520 + 164 * b), haI (al), haI (i)]) (st' := [haI (al)]) hF (haEt hT (e := (8, 98, 0, 4, 0, [])) (k := 213) (pc := 98) (by decide) (by decide +kernel) rfl) rfl (fun RG => avS8) (fun nx => rfl) ?_
        refine ha_ifeq hF (haEt hT (e := (46, 100, 108, 0, 0, [])) (k := 213) (pc := 100) (by decide) (by decide +kernel) rfl) rfl rfl rfl (fun _ => books nu al _ f1 f2) (fun _ => ?_)
        refine ha_s (pc' := 104) (ls' := [haR 51 860, haI (b), haI (units), haI (520 + 164 * b), haI (al), haI (i)]) (st' := [haR 51 860]) hF (haEt hT (e := (13, 103, 0, 0, 0, [])) (k := 213) (pc := 103) (by decide) (by decide +kernel) rfl) rfl (fun RG => avS13) (fun nx => rfl) ?_
        refine ha_s (pc' := 105) (ls' := [haR 51 860, haI (b), haI (units), haI (520 + 164 * b), haI (al), haI (i)]) (st' := [haI (b), haR 51 860]) hF (haEt hT (e := (9, 104, 0, 1, 0, [])) (k := 213) (pc := 104) (by decide) (by decide +kernel) rfl) rfl (fun RG => avS9) (fun nx => rfl) ?_
        refine ha_callV (q := 216) (d' := d + 3) (r := 51) (j := 860) (as := [haI b]) (rest := []) hT hF (haEt hT (e := (78, 105, 216, 0, 341, [1673, 1675, 61])) (k := 213) (pc := 105) (by decide) (by decide +kernel) rfl) rfl rfl rfl (by decide +kernel) (by decide +kernel) (hm_settles (d := d + 1) hT hb f1) (Nat.le_refl _) rfl (show 1 = (abMe 216).2.1 from by decide +kernel) (show 0 + (abMe 216).1.2.2.1 ≤ 49 from by decide +kernel) (fun o ku h => ?_)
        obtain ⟨rfl, g1, g2⟩ := h
        refine books ku al _ g1 ⟨fun j q hg a1 a2 a3 a4 => (g2 j q hg a2 a3 (fun z => a1 z.1)).trans (f2.1 j q hg a1 a2 a3 a4), (g2 861 1504 haGd_fills (by decide) (by decide) (fun z => by omega)).trans f2.2.1, ?_⟩
        have := g2 861 (520 + 164 * b + 0) (haGd_hold hb ⟨by omega, by omega⟩) (by decide) (by decide) (fun z => by omega)
        rw [Int.add_zero] at this
        exact this.trans f2.2.2
      have call : ∀ idx : Int, 0 ≤ idx ∧ idx ≤ 11 → haW x nu 81 [haR 51 860, haI (b), haI (units), haI (520 + 164 * b), haI (al), haI (i)] [haI (idx), haI (b), haR 51 860] := by
        intro idx hi
        refine ha_s (pc' := 82) (ls' := [haR 51 860, haI (b), haI (units), haI (520 + 164 * b), haI (al), haI (i)]) (st' := [haI (units), haI (idx), haI (b), haR 51 860]) hF (haEt hT (e := (9, 81, 0, 2, 0, [])) (k := 213) (pc := 81) (by decide) (by decide +kernel) rfl) rfl (fun RG => avS9) (fun nx => rfl) ?_
        refine ha_s (pc' := 83) (ls' := [haR 51 860, haI (b), haI (units), haI (520 + 164 * b), haI (al), haI (i)]) (st' := [haR 51 860, haI (units), haI (idx), haI (b), haR 51 860]) hF (haEt hT (e := (13, 82, 0, 0, 0, [])) (k := 213) (pc := 82) (by decide) (by decide +kernel) rfl) rfl (fun RG => avS13) (fun nx => rfl) ?_
        refine ha_getR (r := 51) (j := 860) (i := 18) (r' := 54) (j' := 870) hF (haEt hT (e := (60, 83, 12, 18, 46, [1361])) (k := 213) (pc := 83) (by decide) (by decide +kernel) rfl) rfl rfl rfl (by decide +kernel) (by decide) (by decide +kernel) (by rfl) ?_
        refine ha_s (pc' := 87) (ls' := [haR 51 860, haI (b), haI (units), haI (520 + 164 * b), haI (al), haI (i)]) (st' := [haI (0), haR 54 870, haI (units), haI (idx), haI (b), haR 51 860]) hF (haEt hT (e := (1, 86, 0, 0, 9223372036854775808, [])) (k := 213) (pc := 86) (by decide) (by decide +kernel) rfl) rfl (fun RG => avS1) (fun nx => rfl) ?_
        refine ha_iald (r := 54) hF (haEt hT (e := (64, 87, 0, 0, 0, [])) (k := 213) (pc := 87) (by decide) (by decide +kernel) rfl) rfl rfl (by decide +kernel) (by omega) (by show _ < (12 : Int); omega) ?_
        refine ha_isub hF (haEt hT (e := (22, 88, 0, 0, 0, [])) (k := 213) (pc := 88) (by decide) (by decide +kernel) rfl) rfl rfl (by omega) (by omega) ?_
        refine ha_callV (q := 214) (d' := d + 3) (r := 51) (j := 860) (as := [haI b, haI idx, haI (units - nu 870 0)]) (rest := []) hT hF (haEt hT (e := (78, 89, 214, 0, 337, [1664, 1666, 59])) (k := 213) (pc := 89) (by decide) (by decide +kernel) rfl) rfl rfl rfl (by decide +kernel) (by decide +kernel) (hm_takes0 (d := d + 1) hT hb hi ⟨by omega, by omega⟩ f1 ⟨by omega, by omega⟩) (Nat.le_refl _) rfl (show 3 = (abMe 214).2.1 from by decide +kernel) (show 0 + (abMe 214).1.2.2.1 ≤ 49 from by decide +kernel) (fun o ku h => ?_)
        obtain ⟨rfl, g1, g2, tt, t0, t1, t2⟩ := h
        show haW x ku 92 [haR 51 860, haI (b), haI (units), haI (520 + 164 * b), haI (al), haI (i)] []
        refine ha_iinc (i := 5) (c := 1) hF (haEt hT (e := (20, 92, 0, 5, 9223372036854775809, [])) (k := 213) (pc := 92) (by decide) (by decide +kernel) rfl) rfl rfl rfl rfl rfl (by omega) (by omega) ?_
        show haW _ _ 95 [haR 51 860, haI (b), haI (units), haI (520 + 164 * b), haI (al), haI (i + 1)] []
        refine ha_s (pc' := 47) (ls' := [haR 51 860, haI (b), haI (units), haI (520 + 164 * b), haI (al), haI (i + 1)]) (st' := []) hF (haEt hT (e := (58, 95, 47, 0, 0, [])) (k := 213) (pc := 95) (by decide) (by decide +kernel) rfl) rfl (fun RG => avS58) (fun nx => rfl) ?_
        refine ih (i + 1) al ku (by omega) (by omega) g1 ⟨fun j q hg a1 a2 a3 a4 => (g2 j q hg a2 a3 a4 (fun z => a1 z.1)).trans (f2.1 j q hg a1 a2 a3 a4), (g2 861 1504 haGd_fills (by decide) (by decide) (by decide) (fun z => by omega)).trans f2.2.1, ?_⟩ (by omega)
        have := g2 861 (520 + 164 * b + 0) (haGd_hold hb ⟨by omega, by omega⟩) (by decide) (by decide) (by decide) (fun z => haAp1 hb hi (i := 0) ⟨by omega, by omega⟩ z.2)
        rw [Int.add_zero] at this
        exact this.trans f2.2.2
      refine ha_s (pc' := 59) (ls' := [haR 51 860, haI (b), haI (units), haI (520 + 164 * b), haI (al), haI (i)]) (st' := [haR 51 860]) hF (haEt hT (e := (13, 58, 0, 0, 0, [])) (k := 213) (pc := 58) (by decide) (by decide +kernel) rfl) rfl (fun RG => avS13) (fun nx => rfl) ?_
      refine ha_s (pc' := 60) (ls' := [haR 51 860, haI (b), haI (units), haI (520 + 164 * b), haI (al), haI (i)]) (st' := [haI (b), haR 51 860]) hF (haEt hT (e := (9, 59, 0, 1, 0, [])) (k := 213) (pc := 59) (by decide) (by decide +kernel) rfl) rfl (fun RG => avS9) (fun nx => rfl) ?_
      refine ha_s (pc' := 62) (ls' := [haR 51 860, haI (b), haI (units), haI (520 + 164 * b), haI (al), haI (i)]) (st' := [haI (al), haI (b), haR 51 860]) hF (haEt hT (e := (8, 60, 0, 4, 0, [])) (k := 213) (pc := 60) (by decide) (by decide +kernel) rfl) rfl (fun RG => avS8) (fun nx => rfl) ?_
      refine ha_ifeq hF (haEt hT (e := (46, 62, 70, 0, 0, [])) (k := 213) (pc := 62) (by decide) (by decide +kernel) rfl) rfl rfl rfl (fun _ => ?_) (fun _ => ?_)
      · refine ha_s (pc' := 71) (ls' := [haR 51 860, haI (b), haI (units), haI (520 + 164 * b), haI (al), haI (i)]) (st' := [haR 51 860, haI (b), haR 51 860]) hF (haEt hT (e := (13, 70, 0, 0, 0, [])) (k := 213) (pc := 70) (by decide) (by decide +kernel) rfl) rfl (fun RG => avS13) (fun nx => rfl) ?_
        refine ha_getR (r := 51) (j := 860) (i := 1) (r' := 77) (j' := 861) hF (haEt hT (e := (60, 71, 12, 1, 13, [1344])) (k := 213) (pc := 71) (by decide) (by decide +kernel) rfl) rfl rfl rfl (by decide +kernel) (by decide) (by decide +kernel) (by rfl) ?_
        refine ha_s (pc' := 75) (ls' := [haR 51 860, haI (b), haI (units), haI (520 + 164 * b), haI (al), haI (i)]) (st' := [haI (520 + 164 * b), haR 77 861, haI (b), haR 51 860]) hF (haEt hT (e := (9, 74, 0, 3, 0, [])) (k := 213) (pc := 74) (by decide) (by decide +kernel) rfl) rfl (fun RG => avS9) (fun nx => rfl) ?_
        refine ha_iald (r := 77) hF (haEt hT (e := (64, 75, 0, 0, 0, [])) (k := 213) (pc := 75) (by decide) (by decide +kernel) rfl) rfl rfl (by decide +kernel) (by omega) (by show _ < (1745 : Int); omega) ?_
        refine ha_s (pc' := 77) (ls' := [haR 51 860, haI (b), haI (units), haI (520 + 164 * b), haI (al), haI (i)]) (st' := [haI (1), haI (nu 861 (520 + 164 * b)), haI (b), haR 51 860]) hF (haEt hT (e := (1, 76, 0, 0, 9223372036854775809, [])) (k := 213) (pc := 76) (by decide) (by decide +kernel) rfl) rfl (fun RG => avS1) (fun nx => rfl) ?_
        refine ha_isub hF (haEt hT (e := (22, 77, 0, 0, 0, [])) (k := 213) (pc := 77) (by decide) (by decide +kernel) rfl) rfl rfl (by omega) (by omega) ?_
        refine ha_s (pc' := 80) (ls' := [haR 51 860, haI (b), haI (units), haI (520 + 164 * b), haI (al), haI (i)]) (st' := [haI (i), haI (nu 861 (520 + 164 * b) - (1)), haI (b), haR 51 860]) hF (haEt hT (e := (8, 78, 0, 5, 0, [])) (k := 213) (pc := 78) (by decide) (by decide +kernel) rfl) rfl (fun RG => avS8) (fun nx => rfl) ?_
        refine ha_isub hF (haEt hT (e := (22, 80, 0, 0, 0, [])) (k := 213) (pc := 80) (by decide) (by decide +kernel) rfl) rfl rfl (by omega) (by omega) ?_
        exact call _ ⟨by omega, by omega⟩
      · refine ha_s (pc' := 67) (ls' := [haR 51 860, haI (b), haI (units), haI (520 + 164 * b), haI (al), haI (i)]) (st' := [haI (i), haI (b), haR 51 860]) hF (haEt hT (e := (8, 65, 0, 5, 0, [])) (k := 213) (pc := 65) (by decide) (by decide +kernel) rfl) rfl (fun RG => avS8) (fun nx => rfl) ?_
        refine ha_s (pc' := 81) (ls' := [haR 51 860, haI (b), haI (units), haI (520 + 164 * b), haI (al), haI (i)]) (st' := [haI (i), haI (b), haR 51 860]) hF (haEt hT (e := (58, 67, 81, 0, 0, [])) (k := 213) (pc := 67) (by decide) (by decide +kernel) rfl) rfl (fun RG => avS58) (fun nx => rfl) ?_
        exact call i ⟨by omega, by omega⟩
  -- drawn begins at 0
  have start : ∀ (al : Int) (nu : haMu) (v4 : avV), haWd nu → (∀ (j : Nat) (i : Int), haGd j i → ¬ j = 861 → ¬ j = 868 → ¬ j = 869 → ¬ j = 870 → nu j i = mu j i) ∧ nu 861 1504 = mu 861 1504 ∧ nu 861 (520 + 164 * b) = mu 861 (520 + 164 * b) → nu 870 0 = 0 → haW x nu 42 [haR 51 860, haI (b), haI (units), haI (520 + 164 * b), v4, avJ] [haI al] := by
    intro al nu v4 f1 f2 f3
    refine ha_s (pc' := 44) (ls' := [haR 51 860, haI (b), haI (units), haI (520 + 164 * b), haI (al), avJ]) (st' := []) hF (haEt hT (e := (14, 42, 0, 4, 0, [])) (k := 213) (pc := 42) (by decide) (by decide +kernel) rfl) rfl (fun RG => avS14) (fun nx => rfl) ?_
    refine ha_s (pc' := 45) (ls' := [haR 51 860, haI (b), haI (units), haI (520 + 164 * b), haI (al), avJ]) (st' := [haI (0)]) hF (haEt hT (e := (1, 44, 0, 0, 9223372036854775808, [])) (k := 213) (pc := 44) (by decide) (by decide +kernel) rfl) rfl (fun RG => avS1) (fun nx => rfl) ?_
    refine ha_s (pc' := 47) (ls' := [haR 51 860, haI (b), haI (units), haI (520 + 164 * b), haI (al), haI (0)]) (st' := []) hF (haEt hT (e := (14, 45, 0, 5, 0, [])) (k := 213) (pc := 45) (by decide) (by decide +kernel) rfl) rfl (fun RG => avS14) (fun nx => rfl) ?_
    exact turn 12 0 al nu rfl (Int.le_refl 0) f1 f2 ⟨by omega, by omega⟩
  have zero : ∀ (nn : Nat) (i : Int) (nu : haMu), (nn : Int) = 12 - i → 0 ≤ i → (∀ (j : Nat) (q : Int), ¬ j = 870 → nu j q = mu j q) → (0 < i → nu 870 0 = 0) → haW x nu 8 [haR 51 860, haI (b), haI (units), haI (520 + 164 * b), haI (i), avJ] [] := by
    intro nn
    induction nn with
    | zero =>
      intro i nu hn h0 f1 f2
      refine ha_s (pc' := 10) (ls' := [haR 51 860, haI (b), haI (units), haI (520 + 164 * b), haI (i), avJ]) (st' := [haI (i)]) hF (haEt hT (e := (8, 8, 0, 4, 0, [])) (k := 213) (pc := 8) (by decide) (by decide +kernel) rfl) rfl (fun RG => avS8) (fun nx => rfl) ?_
      refine ha_s (pc' := 12) (ls' := [haR 51 860, haI (b), haI (units), haI (520 + 164 * b), haI (i), avJ]) (st' := [haI (12), haI (i)]) hF (haEt hT (e := (2, 10, 0, 0, 9223372036854775820, [])) (k := 213) (pc := 10) (by decide) (by decide +kernel) rfl) rfl (fun RG => avS2) (fun nx => rfl) ?_
      refine ha_icge hF (haEt hT (e := (55, 12, 29, 0, 0, [])) (k := 213) (pc := 12) (by decide) (by decide +kernel) rfl) rfl rfl rfl (fun _ => ?_) (fun q => by omega)
      refine ha_s (pc' := 30) (ls' := [haR 51 860, haI (b), haI (units), haI (520 + 164 * b), haI (i), avJ]) (st' := [haR 51 860]) hF (haEt hT (e := (13, 29, 0, 0, 0, [])) (k := 213) (pc := 29) (by decide) (by decide +kernel) rfl) rfl (fun RG => avS13) (fun nx => rfl) ?_
      refine ha_s (pc' := 31) (ls' := [haR 51 860, haI (b), haI (units), haI (520 + 164 * b), haI (i), avJ]) (st' := [haI (b), haR 51 860]) hF (haEt hT (e := (9, 30, 0, 1, 0, [])) (k := 213) (pc := 30) (by decide) (by decide +kernel) rfl) rfl (fun RG => avS9) (fun nx => rfl) ?_
      refine ha_callV (q := 208) (d' := 3) (r := 51) (j := 860) (as := [haI b]) (rest := []) hT hF (haEt hT (e := (78, 31, 208, 0, 327, [1639, 1641, 54])) (k := 213) (pc := 31) (by decide) (by decide +kernel) rfl) rfl rfl rfl (by decide +kernel) (by decide +kernel) (hm_flowOf hT hb) (by omega) rfl (show 1 = (abMe 208).2.1 from by decide +kernel) (show 0 + (abMe 208).1.2.2.1 ≤ 49 from by decide +kernel) (fun o ku h => ?_)
      obtain ⟨⟨y, rfl⟩, hfm⟩ := h
      have g0 : haWd nu := haWd_other hW (fun q => f1 861 q (by decide))
      have g1 := haWd_fm g0 hfm
      have g2 : (∀ (j : Nat) (i : Int), haGd j i → ¬ j = 861 → ¬ j = 868 → ¬ j = 869 → ¬ j = 870 → ku j i = mu j i) ∧ ku 861 1504 = mu 861 1504 ∧ ku 861 (520 + 164 * b) = mu 861 (520 + 164 * b) := ⟨fun j i hg a1 a2 a3 a4 => (hfm j i hg).trans (f1 j i a4), (hfm _ _ haGd_fills).trans (f1 861 _ (by decide)), by
        have := hfm 861 _ (haGd_hold (i := 0) hb ⟨by omega, by omega⟩)
        rw [Int.add_zero] at this
        exact this.trans (f1 861 _ (by decide))⟩
      have g3 : ku 870 0 = 0 := (hfm 870 0 (haGd_drawn (Int.le_refl 0))).trans (f2 (by omega))
      show haW x ku 34 [haR 51 860, haI (b), haI (units), haI (520 + 164 * b), haI (i), avJ] [haI y]
      refine ha_ifne hF (haEt hT (e := (47, 34, 41, 0, 0, [])) (k := 213) (pc := 34) (by decide) (by decide +kernel) rfl) rfl rfl rfl (fun _ => ?_) (fun _ => ?_)
      · refine ha_s (pc' := 42) (ls' := [haR 51 860, haI (b), haI (units), haI (520 + 164 * b), haI (i), avJ]) (st' := [haI (0)]) hF (haEt hT (e := (1, 41, 0, 0, 9223372036854775808, [])) (k := 213) (pc := 41) (by decide) (by decide +kernel) rfl) rfl (fun RG => avS1) (fun nx => rfl) ?_
        exact start 0 ku _ g1 g2 g3
      · refine ha_s (pc' := 38) (ls' := [haR 51 860, haI (b), haI (units), haI (520 + 164 * b), haI (i), avJ]) (st' := [haI (1)]) hF (haEt hT (e := (1, 37, 0, 0, 9223372036854775809, [])) (k := 213) (pc := 37) (by decide) (by decide +kernel) rfl) rfl (fun RG => avS1) (fun nx => rfl) ?_
        refine ha_s (pc' := 42) (ls' := [haR 51 860, haI (b), haI (units), haI (520 + 164 * b), haI (i), avJ]) (st' := [haI (1)]) hF (haEt hT (e := (58, 38, 42, 0, 0, [])) (k := 213) (pc := 38) (by decide) (by decide +kernel) rfl) rfl (fun RG => avS58) (fun nx => rfl) ?_
        exact start 1 ku _ g1 g2 g3
    | succ nn ih =>
      intro i nu hn h0 f1 f2
      refine ha_s (pc' := 10) (ls' := [haR 51 860, haI (b), haI (units), haI (520 + 164 * b), haI (i), avJ]) (st' := [haI (i)]) hF (haEt hT (e := (8, 8, 0, 4, 0, [])) (k := 213) (pc := 8) (by decide) (by decide +kernel) rfl) rfl (fun RG => avS8) (fun nx => rfl) ?_
      refine ha_s (pc' := 12) (ls' := [haR 51 860, haI (b), haI (units), haI (520 + 164 * b), haI (i), avJ]) (st' := [haI (12), haI (i)]) hF (haEt hT (e := (2, 10, 0, 0, 9223372036854775820, [])) (k := 213) (pc := 10) (by decide) (by decide +kernel) rfl) rfl (fun RG => avS2) (fun nx => rfl) ?_
      refine ha_icge hF (haEt hT (e := (55, 12, 29, 0, 0, [])) (k := 213) (pc := 12) (by decide) (by decide +kernel) rfl) rfl rfl rfl (fun q => by omega) (fun q => ?_)
      refine ha_s (pc' := 16) (ls' := [haR 51 860, haI (b), haI (units), haI (520 + 164 * b), haI (i), avJ]) (st' := [haR 51 860]) hF (haEt hT (e := (13, 15, 0, 0, 0, [])) (k := 213) (pc := 15) (by decide) (by decide +kernel) rfl) rfl (fun RG => avS13) (fun nx => rfl) ?_
      refine ha_getR (r := 51) (j := 860) (i := 18) (r' := 54) (j' := 870) hF (haEt hT (e := (60, 16, 12, 18, 46, [1361])) (k := 213) (pc := 16) (by decide) (by decide +kernel) rfl) rfl rfl rfl (by decide +kernel) (by decide) (by decide +kernel) (by rfl) ?_
      refine ha_s (pc' := 21) (ls' := [haR 51 860, haI (b), haI (units), haI (520 + 164 * b), haI (i), avJ]) (st' := [haI (i), haR 54 870]) hF (haEt hT (e := (8, 19, 0, 4, 0, [])) (k := 213) (pc := 19) (by decide) (by decide +kernel) rfl) rfl (fun RG => avS8) (fun nx => rfl) ?_
      refine ha_s (pc' := 22) (ls' := [haR 51 860, haI (b), haI (units), haI (520 + 164 * b), haI (i), avJ]) (st' := [haI (0), haI (i), haR 54 870]) hF (haEt hT (e := (1, 21, 0, 0, 9223372036854775808, [])) (k := 213) (pc := 21) (by decide) (by decide +kernel) rfl) rfl (fun RG => avS1) (fun nx => rfl) ?_
      refine ha_iast (r := 54) hF (haEt hT (e := (69, 22, 0, 0, 0, [])) (k := 213) (pc := 22) (by decide) (by decide +kernel) rfl) rfl rfl (by decide +kernel) (by omega) (by show _ < (12 : Int); omega) (lo := -2147483648) (up := 2147483647) (by rfl) (by omega) (by omega) ?_
      refine ha_iinc (i := 4) (c := 1) hF (haEt hT (e := (20, 23, 0, 4, 9223372036854775809, [])) (k := 213) (pc := 23) (by decide) (by decide +kernel) rfl) rfl rfl rfl rfl rfl (by omega) (by omega) ?_
      show haW _ _ 26 [haR 51 860, haI (b), haI (units), haI (520 + 164 * b), haI (i + 1), avJ] []
      refine ha_s (pc' := 8) (ls' := [haR 51 860, haI (b), haI (units), haI (520 + 164 * b), haI (i + 1), avJ]) (st' := []) hF (haEt hT (e := (58, 26, 8, 0, 0, [])) (k := 213) (pc := 26) (by decide) (by decide +kernel) rfl) rfl (fun RG => avS58) (fun nx => rfl) ?_
      refine ih (i + 1) _ (by omega) (by omega) (fun j q hj => ?_) (fun _ => ?_)
      · rw [haUp_n (fun z => hj z.1)]
        exact f1 j q hj
      · by_cases e : i = 0
        · rw [e, haUp_s]
        · rw [haUp_n (fun z => by omega)]
          exact f2 (by omega)
  refine ha_s (pc' := 1) (ls' := [haR 51 860, haI (b), haI (units), avJ, avJ, avJ]) (st' := [haI (b)]) hF (haEt hT (e := (9, 0, 0, 1, 0, [])) (k := 213) (pc := 0) (by decide) (by decide +kernel) rfl) rfl (fun RG => avS9) (fun nx => rfl) ?_
  refine ha_callS (q := 173) (d' := d + 3) (as := [haI b]) (rest := []) hT hF (haEt hT (e := (79, 1, 173, 0, 108, [1337, 1338])) (k := 213) (pc := 1) (by decide) (by decide +kernel) rfl) rfl rfl rfl (by decide +kernel) (hm_binAt hT hb) (Nat.le_refl _) rfl (show 1 = (abMe 173).2.1 from by decide +kernel) (show 0 + (abMe 173).1.2.2.1 ≤ 49 from by decide +kernel) (fun o ku h => ?_)
  obtain ⟨rfl, rfl⟩ := h
  show haW x _ 4 [haR 51 860, haI (b), haI (units), avJ, avJ, avJ] [haI (520 + 164 * b)]
  refine ha_s (pc' := 5) (ls' := [haR 51 860, haI (b), haI (units), haI (520 + 164 * b), avJ, avJ]) (st' := []) hF (haEt hT (e := (15, 4, 0, 3, 0, [])) (k := 213) (pc := 4) (by decide) (by decide +kernel) rfl) rfl (fun RG => avS15) (fun nx => rfl) ?_
  refine ha_s (pc' := 6) (ls' := [haR 51 860, haI (b), haI (units), haI (520 + 164 * b), avJ, avJ]) (st' := [haI (0)]) hF (haEt hT (e := (1, 5, 0, 0, 9223372036854775808, [])) (k := 213) (pc := 5) (by decide) (by decide +kernel) rfl) rfl (fun RG => avS1) (fun nx => rfl) ?_
  refine ha_s (pc' := 8) (ls' := [haR 51 860, haI (b), haI (units), haI (520 + 164 * b), haI (0), avJ]) (st' := []) hF (haEt hT (e := (14, 6, 0, 4, 0, [])) (k := 213) (pc := 6) (by decide) (by decide +kernel) rfl) rfl (fun RG => avS14) (fun nx => rfl) ?_
  exact zero 12 0 ku rfl (Int.le_refl 0) (fun _ _ _ => rfl) (fun q => by omega)
