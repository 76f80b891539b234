/-! TallBinsModel readCond, readBar -/
theorem haGd_f {v : Int} (h : (0 ≤ v ∧ v ≤ 27) ∨ (40 ≤ v ∧ v ≤ 519)) : haGd 866 v := by
  refine ⟨by omega, fun hm => ?_⟩
  rcases hm with q | ⟨c, c1, c2, c3⟩
  · exact q (by rw [show avRG0 866 = 56 from by decide +kernel]; decide)
  · rw [show avRG0 866 = 56 from by decide +kernel] at c2
    have key : ∀ c ∈ avGUt.2, c.1 = 56 → (c.2.1 = [(164, 0, 5)] ∧ 520 ≤ c.2.2.1) ∨ (c.2.1 = [(3, 0, 3)] ∧ 28 ≤ c.2.2.1 ∧ c.2.2.1 ≤ 30) := by decide +kernel
    rcases key c c1 c2 with ⟨e, e2⟩ | ⟨e, e2, e3⟩
    · rw [e] at c3
      obtain ⟨y, y1, y2, y3⟩ := c3
      have y1 : (0 : Int) ≤ y := y1
      have y3 : ((v.toNat : Nat) : Int) - c.2.2.1 - 164 * y = 0 := y3
      omega
    · rw [e] at c3
      obtain ⟨y, y1, y2, y3⟩ := c3
      have y1 : (0 : Int) ≤ y := y1
      have y2 : y ≤ (3 : Int) := y2
      have y3 : ((v.toNat : Nat) : Int) - c.2.2.1 - 3 * y = 0 := y3
      omega
theorem haFc1 : ∀ b : Nat, b < 30 → avEqS ((avRT.get 56).2.2.get (130 + 13 * b)) (0, 0, 3) = true ∧ ∀ c : Nat, c < 3 → avEqS ((avRT.get 56).2.2.get (130 + 13 * b + 1 + 4 * c)) (0, 0, 1) = true ∧ avEqS ((avRT.get 56).2.2.get (130 + 13 * b + 1 + 4 * c + 1)) (0, 0, 5) = true ∧ avEqS ((avRT.get 56).2.2.get (130 + 13 * b + 1 + 4 * c + 2)) (0, 0, 62) = true ∧ avEqS ((avRT.get 56).2.2.get (130 + 13 * b + 1 + 4 * c + 3)) (0, 0, 9999) = true := by decide +kernel
theorem haFc0 (b : Nat) (hb : b < 30) : (avRT.get 56).2.2.get (130 + 13 * b) = (0, 0, 3) ∧ ∀ c : Nat, c < 3 → (avRT.get 56).2.2.get (130 + 13 * b + 1 + 4 * c) = (0, 0, 1) ∧ (avRT.get 56).2.2.get (130 + 13 * b + 1 + 4 * c + 1) = (0, 0, 5) ∧ (avRT.get 56).2.2.get (130 + 13 * b + 1 + 4 * c + 2) = (0, 0, 62) ∧ (avRT.get 56).2.2.get (130 + 13 * b + 1 + 4 * c + 3) = (0, 0, 9999) := by
  obtain ⟨h0, h1⟩ := haFc1 b hb
  refine ⟨avEqS_ok h0, fun c hc => ?_⟩
  obtain ⟨g1, g2, g3, g4⟩ := h1 c hc
  exact ⟨avEqS_ok g1, avEqS_ok g2, avEqS_ok g3, avEqS_ok g4⟩
theorem haFk {k b : Int} (hb : 0 ≤ b ∧ b ≤ 29) (hk : k = 130 + 13 * b) : (avRT.get 56).2.2.get k.toNat = (0, 0, 3) := by
  have h := (haFc0 b.toNat (by omega)).1
  rwa [show 130 + 13 * b.toNat = k.toNat by omega] at h
theorem haFc {k b c n : Int} (hb : 0 ≤ b ∧ b ≤ 29) (hk : k = 130 + 13 * b) (hn : 0 ≤ n ∧ n ≤ 2) (hc : c = k + 1 + n * 4) : (avRT.get 56).2.2.get c.toNat = (0, 0, 1) ∧ (avRT.get 56).2.2.get (c + 1).toNat = (0, 0, 5) ∧ (avRT.get 56).2.2.get (c + 2).toNat = (0, 0, 62) ∧ (avRT.get 56).2.2.get (c + 3).toNat = (0, 0, 9999) := by
  obtain ⟨h0, h1, h2, h3⟩ := (haFc0 b.toNat (by omega)).2 n.toNat (by omega)
  rw [show 130 + 13 * b.toNat + 1 + 4 * n.toNat = c.toNat by omega] at h0 h1 h2 h3
  rw [show c.toNat + 1 = (c + 1).toNat by omega] at h1
  rw [show c.toNat + 2 = (c + 2).toNat by omega] at h2
  rw [show c.toNat + 3 = (c + 3).toNat by omega] at h3
  exact ⟨h0, h1, h2, h3⟩
def haCf (mu nu : haMu) (k : Int) : Prop := (∀ (j : Nat) (i : Int), haGd j i → ¬ (j = 866 ∧ k ≤ i ∧ i ≤ k + 12) → ¬ j = 860 → nu j i = mu j i) ∧ nu 866 k = mu 866 k
theorem haCf.fm {mu nu nu' : haMu} {k b : Int} (h : haCf mu nu k) (hb : 0 ≤ b ∧ b ≤ 29) (hk : k = 130 + 13 * b) (hf : haFm nu nu') : haCf mu nu' k := ⟨fun j i hg a1 a2 => (hf j i hg).trans (h.1 j i hg a1 a2), (hf 866 k (haGd_f (Or.inr (by omega)))).trans h.2⟩
theorem haCf.wr {mu nu nu' : haMu} {k : Int} (h : haCf mu nu k) (hf : ∀ (j : Nat) (i : Int), ¬ j = 860 → nu' j i = nu j i) : haCf mu nu' k := ⟨fun j i hg a1 a2 => (hf j i a2).trans (h.1 j i hg a1 a2), (hf 866 k (by decide)).trans h.2⟩
theorem haCf.up {mu nu : haMu} {k c v : Int} (h : haCf mu nu k) (hc : k < c ∧ c ≤ k + 12) : haCf mu (haUp nu 866 c v) k := ⟨fun j i hg a1 a2 => by
    rw [haUp_n (fun z => a1 ⟨z.1, by omega, by omega⟩)]
    exact h.1 j i hg a1 a2, by
    rw [haUp_n (fun z => by omega)]
    exact h.2⟩
theorem hm_readCond (hT : abTabs) {d : Nat} {k b : Int} {mu : haMu} (hb : 0 ≤ b ∧ b ≤ 29) (hk : k = 130 + 13 * b) : haSp 196 (d + 3) [haR 51 860, haI k] mu (fun o mu' => o = none ∧ (∀ (j : Nat) (i : Int), haGd j i → ¬ (j = 866 ∧ k ≤ i ∧ i ≤ k + 12) → ¬ j = 860 → mu' j i = mu j i) ∧ (¬ mu' 860 12 = 0 ∨ mu' 866 k = mu 866 k + 1)) := by
  refine haMet (by decide) (hT.1 196 (by decide)) (haLe5 rfl) (show 2 ≤ (abMe 196).1.2.2.1 from by decide +kernel) (fun x hF hR => ?_)
  have j213 : ∀ (nu : haMu) (v2 v3 v4 : avV), haCf mu nu k → nu 866 k ≤ 2 → haW x nu 213 [haR 51 860, haI (k), v2, v3, v4] [] := by
    intro nu v2 v3 v4 h1 h2
    refine ha_bd (j := 866) (r := 56) (i := k) (lo := 0) (up := 3) hF (by decide) (by decide +kernel) (Or.inl (by decide +kernel)) (by omega) (by show _ < (1745 : Int); omega) (haFk hb hk) (fun u1 u2 => ?_)
    refine ha_s (pc' := 214) (ls' := [haR 51 860, haI (k), v2, v3, v4]) (st' := [haR 51 860]) hF (haEt hT (e := (13, 213, 0, 0, 0, [])) (k := 196) (pc := 213) (by decide) (by decide +kernel) rfl) rfl (fun RG => avS13) (fun nx => rfl) ?_
    refine ha_getR (r := 51) (j := 860) (i := 14) (r' := 56) (j' := 866) hF (haEt hT (e := (60, 214, 12, 14, 34, [1357])) (k := 196) (pc := 214) (by decide) (by decide +kernel) rfl) rfl rfl rfl (by decide +kernel) (by decide) (by decide +kernel) (by rfl) ?_
    refine ha_s (pc' := 218) (ls' := [haR 51 860, haI (k), v2, v3, v4]) (st' := [haI (k), haR 56 866]) hF (haEt hT (e := (9, 217, 0, 1, 0, [])) (k := 196) (pc := 217) (by decide) (by decide +kernel) rfl) rfl (fun RG => avS9) (fun nx => rfl) ?_
    refine ha_s (pc' := 219) (ls' := [haR 51 860, haI (k), v2, v3, v4]) (st' := [haI (k), haR 56 866, haI (k), haR 56 866]) hF (haEt hT (e := (45, 218, 0, 0, 0, [])) (k := 196) (pc := 218) (by decide) (by decide +kernel) rfl) rfl (fun RG => avS45) (fun nx => rfl) ?_
    refine ha_iald (r := 56) hF (haEt hT (e := (64, 219, 0, 0, 0, [])) (k := 196) (pc := 219) (by decide) (by decide +kernel) rfl) rfl rfl (by decide +kernel) (by omega) (by show _ < (1745 : Int); omega) ?_
    refine ha_s (pc' := 221) (ls' := [haR 51 860, haI (k), v2, v3, v4]) (st' := [haI (1), haI (nu 866 (k)), haI (k), haR 56 866]) hF (haEt hT (e := (1, 220, 0, 0, 9223372036854775809, [])) (k := 196) (pc := 220) (by decide) (by decide +kernel) rfl) rfl (fun RG => avS1) (fun nx => rfl) ?_
    refine ha_iadd hF (haEt hT (e := (21, 221, 0, 0, 0, [])) (k := 196) (pc := 221) (by decide) (by decide +kernel) rfl) rfl rfl (by omega) (by omega) ?_
    refine ha_iast (r := 56) hF (haEt hT (e := (69, 222, 0, 0, 0, [])) (k := 196) (pc := 222) (by decide) (by decide +kernel) rfl) rfl rfl (by decide +kernel) (by omega) (by show _ < (1745 : Int); omega) (haFk hb hk) (by omega) (by omega) ?_
    exact hR 223 _ _ _ none (82, 223, 0, 0, 0, []) (haEt hT (e := (82, 223, 0, 0, 0, [])) (k := 196) (pc := 223) (by decide) (by decide +kernel) rfl) rfl (Or.inl ⟨rfl, rfl, rfl⟩) ⟨rfl, fun j i hg a1 a2 => by rw [haUp_n (fun z => a1 ⟨z.1, by omega, by omega⟩)]; exact h1.1 j i hg a1 a2, Or.inr (by rw [haUp_s, h1.2])⟩
  have j46 : ∀ (nu : haMu) (m2 : Int), haCf mu nu k → (nu 866 k = 3 → ¬ nu 860 12 = 0) → haW x nu 46 [haR 51 860, haI (k), haI (m2), avJ, avJ] [] := by
    intro nu m2 h1 h3
    refine ha_s (pc' := 47) (ls' := [haR 51 860, haI (k), haI (m2), avJ, avJ]) (st' := [haR 51 860]) hF (haEt hT (e := (13, 46, 0, 0, 0, [])) (k := 196) (pc := 46) (by decide) (by decide +kernel) rfl) rfl (fun RG => avS13) (fun nx => rfl) ?_
    refine ha_callV (q := 186) (d' := d) (r := 51) (j := 860) (as := []) (rest := []) hT hF (haEt hT (e := (78, 47, 186, 0, 177, [1516, 1518, 38])) (k := 196) (pc := 47) (by decide) (by decide +kernel) rfl) rfl rfl rfl (by decide +kernel) (by decide +kernel) (hm_good hT) (by omega) rfl (show 0 = (abMe 186).2.1 from by decide +kernel) (show 0 + (abMe 186).1.2.2.1 ≤ 49 from by decide +kernel) (fun o ku h => ?_)
    obtain ⟨z, rfl, e9, hz⟩ := h
    have e9 := e9.symm
    subst e9
    show haW x nu 50 [haR 51 860, haI (k), haI (m2), avJ, avJ] [haI z]
    refine ha_ifne hF (haEt hT (e := (47, 50, 54, 0, 0, [])) (k := 196) (pc := 50) (by decide) (by decide +kernel) rfl) rfl rfl rfl (fun q => ?_) (fun q => ?_)
    rotate_left
    · skip
      exact hR 53 _ _ _ none (82, 53, 0, 0, 0, []) (haEt hT (e := (82, 53, 0, 0, 0, [])) (k := 196) (pc := 53) (by decide) (by decide +kernel) rfl) rfl (Or.inl ⟨rfl, rfl, rfl⟩) ⟨rfl, h1.1, Or.inl (by omega)⟩
    refine ha_bd (j := 866) (r := 56) (i := k) (lo := 0) (up := 3) hF (by decide) (by decide +kernel) (Or.inl (by decide +kernel)) (by omega) (by show _ < (1745 : Int); omega) (haFk hb hk) (fun u1 u2 => ?_)
    obtain ⟨n, hn⟩ : ∃ n : Int, n = nu 866 k := ⟨_, rfl⟩
    have hn2 : 0 ≤ n ∧ n ≤ 2 := by omega
    refine ha_s (pc' := 55) (ls' := [haR 51 860, haI (k), haI (m2), avJ, avJ]) (st' := [haI (k)]) hF (haEt hT (e := (9, 54, 0, 1, 0, [])) (k := 196) (pc := 54) (by decide) (by decide +kernel) rfl) rfl (fun RG => avS9) (fun nx => rfl) ?_
    refine ha_s (pc' := 56) (ls' := [haR 51 860, haI (k), haI (m2), avJ, avJ]) (st' := [haI (1), haI (k)]) hF (haEt hT (e := (1, 55, 0, 0, 9223372036854775809, [])) (k := 196) (pc := 55) (by decide) (by decide +kernel) rfl) rfl (fun RG => avS1) (fun nx => rfl) ?_
    refine ha_iadd hF (haEt hT (e := (21, 56, 0, 0, 0, [])) (k := 196) (pc := 56) (by decide) (by decide +kernel) rfl) rfl rfl (by omega) (by omega) ?_
    refine ha_s (pc' := 58) (ls' := [haR 51 860, haI (k), haI (m2), avJ, avJ]) (st' := [haI (4), haI (k + (1))]) hF (haEt hT (e := (1, 57, 0, 0, 9223372036854775812, [])) (k := 196) (pc := 57) (by decide) (by decide +kernel) rfl) rfl (fun RG => avS1) (fun nx => rfl) ?_
    refine ha_s (pc' := 59) (ls' := [haR 51 860, haI (k), haI (m2), avJ, avJ]) (st' := [haR 51 860, haI (4), haI (k + (1))]) hF (haEt hT (e := (13, 58, 0, 0, 0, [])) (k := 196) (pc := 58) (by decide) (by decide +kernel) rfl) rfl (fun RG => avS13) (fun nx => rfl) ?_
    refine ha_getR (r := 51) (j := 860) (i := 14) (r' := 56) (j' := 866) hF (haEt hT (e := (60, 59, 12, 14, 34, [1357])) (k := 196) (pc := 59) (by decide) (by decide +kernel) rfl) rfl rfl rfl (by decide +kernel) (by decide) (by decide +kernel) (by rfl) ?_
    refine ha_s (pc' := 63) (ls' := [haR 51 860, haI (k), haI (m2), avJ, avJ]) (st' := [haI (k), haR 56 866, haI (4), haI (k + (1))]) hF (haEt hT (e := (9, 62, 0, 1, 0, [])) (k := 196) (pc := 62) (by decide) (by decide +kernel) rfl) rfl (fun RG => avS9) (fun nx => rfl) ?_
    refine ha_iald (r := 56) hF (haEt hT (e := (64, 63, 0, 0, 0, [])) (k := 196) (pc := 63) (by decide) (by decide +kernel) rfl) rfl rfl (by decide +kernel) (by omega) (by show _ < (1745 : Int); omega) ?_
    rw [← hn]
    refine ha_imul hF (haEt hT (e := (23, 64, 0, 0, 0, [])) (k := 196) (pc := 64) (by decide) (by decide +kernel) rfl) rfl rfl (by omega) (by omega) ?_
    refine ha_iadd hF (haEt hT (e := (21, 65, 0, 0, 0, [])) (k := 196) (pc := 65) (by decide) (by decide +kernel) rfl) rfl rfl (by omega) (by omega) ?_
    obtain ⟨c, hc⟩ : ∃ c : Int, c = k + 1 + n * 4 := ⟨_, rfl⟩
    rw [← hc]
    obtain ⟨s0, s1, s2, s3⟩ := haFc hb hk hn2 hc
    have hck : k < c ∧ c + 3 ≤ k + 12 := by omega
    have hk2 : nu 866 k ≤ 2 := by omega
    have le2 : ∀ nu' : haMu, haCf mu nu' k → nu' 866 k ≤ 2 := fun nu' g => by rw [g.2, ← h1.2]; exact hk2
    refine ha_s (pc' := 67) (ls' := [haR 51 860, haI (k), haI (m2), haI (c), avJ]) (st' := []) hF (haEt hT (e := (15, 66, 0, 3, 0, [])) (k := 196) (pc := 66) (by decide) (by decide +kernel) rfl) rfl (fun RG => avS15) (fun nx => rfl) ?_
    refine ha_s (pc' := 68) (ls' := [haR 51 860, haI (k), haI (m2), haI (c), avJ]) (st' := [haR 51 860]) hF (haEt hT (e := (13, 67, 0, 0, 0, [])) (k := 196) (pc := 67) (by decide) (by decide +kernel) rfl) rfl (fun RG => avS13) (fun nx => rfl) ?_
    refine ha_getR (r := 51) (j := 860) (i := 14) (r' := 56) (j' := 866) hF (haEt hT (e := (60, 68, 12, 14, 34, [1357])) (k := 196) (pc := 68) (by decide) (by decide +kernel) rfl) rfl rfl rfl (by decide +kernel) (by decide) (by decide +kernel) (by rfl) ?_
    refine ha_s (pc' := 72) (ls' := [haR 51 860, haI (k), haI (m2), haI (c), avJ]) (st' := [haI (c), haR 56 866]) hF (haEt hT (e := (9, 71, 0, 3, 0, [])) (k := 196) (pc := 71) (by decide) (by decide +kernel) rfl) rfl (fun RG => avS9) (fun nx => rfl) ?_
    refine ha_s (pc' := 73) (ls' := [haR 51 860, haI (k), haI (m2), haI (c), avJ]) (st' := [haR 51 860, haI (c), haR 56 866]) hF (haEt hT (e := (13, 72, 0, 0, 0, [])) (k := 196) (pc := 72) (by decide) (by decide +kernel) rfl) rfl (fun RG => avS13) (fun nx => rfl) ?_
    refine ha_opE (e := (93, 73, 33, 0, 238, [])) (F := avOldS 2) hF rfl (fun RG => avN196_73) (fun nx hn => hn 75 [haR 51 860, haI (k), haI (m2), haI (c), avJ] [haX 33, haR 51 860, haI (c), haR 56 866] ?_)
    refine ha_callV (q := 190) (d' := 2) (r := 51) (j := 860) (as := [haX 33]) (rest := [haI c, haR 56 866]) hT hF (haEt hT (e := (78, 75, 190, 0, 201, [1538, 1540, 42])) (k := 196) (pc := 75) (by decide) (by decide +kernel) rfl) rfl rfl rfl (by decide +kernel) (by decide +kernel) (hm_takes33 hT) (by omega) rfl (show 1 = (abMe 190).2.1 from by decide +kernel) (show 2 + (abMe 190).1.2.2.1 ≤ 49 from by decide +kernel) (fun o k1 h => ?_)
    obtain ⟨⟨z1, rfl, -, -⟩, f1⟩ := h
    replace f1 := h1.fm hb hk f1
    show haW x k1 78 [haR 51 860, haI (k), haI (m2), haI (c), avJ] [haI z1, haI c, haR 56 866]
    have j86 : ∀ y : Int, (0 ≤ y ∧ y ≤ 1) → haW x k1 86 [haR 51 860, haI (k), haI (m2), haI (c), avJ] [haI y, haI c, haR 56 866] := by
      intro y hy
      refine ha_iast (r := 56) hF (haEt hT (e := (69, 86, 0, 0, 0, [])) (k := 196) (pc := 86) (by decide) (by decide +kernel) rfl) rfl rfl (by decide +kernel) (by omega) (by show _ < (1745 : Int); omega) s0 (by omega) (by omega) ?_
      replace f1 := f1.up (c := c) (v := y) ⟨by omega, by omega⟩
      generalize haUp k1 866 c y = k1 at f1 ⊢
      refine ha_s (pc' := 88) (ls' := [haR 51 860, haI (k), haI (m2), haI (c), avJ]) (st' := [haR 51 860]) hF (haEt hT (e := (13, 87, 0, 0, 0, [])) (k := 196) (pc := 87) (by decide) (by decide +kernel) rfl) rfl (fun RG => avS13) (fun nx => rfl) ?_
      refine ha_callV (q := 197) (d' := 2) (r := 51) (j := 860) (as := []) (rest := []) hT hF (haEt hT (e := (78, 88, 197, 0, 240, [1576, 1578, 49])) (k := 196) (pc := 88) (by decide) (by decide +kernel) rfl) rfl rfl rfl (by decide +kernel) (by decide +kernel) (hm_wordHere hT) (by omega) rfl (show 0 = (abMe 197).2.1 from by decide +kernel) (show 0 + (abMe 197).1.2.2.1 ≤ 49 from by decide +kernel) (fun o k2 h => ?_)
      obtain ⟨⟨w, rfl, w1, w2⟩, f2⟩ := h
      replace f2 := f1.fm hb hk f2
      show haW x k2 91 [haR 51 860, haI (k), haI (m2), haI (c), avJ] [haI w]
      refine ha_s (pc' := 93) (ls' := [haR 51 860, haI (k), haI (m2), haI (c), haI (w)]) (st' := []) hF (haEt hT (e := (14, 91, 0, 4, 0, [])) (k := 196) (pc := 91) (by decide) (by decide +kernel) rfl) rfl (fun RG => avS14) (fun nx => rfl) ?_
      refine ha_s (pc' := 95) (ls' := [haR 51 860, haI (k), haI (m2), haI (c), haI (w)]) (st' := [haI (w)]) hF (haEt hT (e := (8, 93, 0, 4, 0, [])) (k := 196) (pc := 93) (by decide) (by decide +kernel) rfl) rfl (fun RG => avS8) (fun nx => rfl) ?_
      refine ha_s (pc' := 96) (ls' := [haR 51 860, haI (k), haI (m2), haI (c), haI (w)]) (st' := [haI (-1), haI (w)]) hF (haEt hT (e := (1, 95, 0, 0, 9223372036854775807, [])) (k := 196) (pc := 95) (by decide) (by decide +kernel) rfl) rfl (fun RG => avS1) (fun nx => rfl) ?_
      have j104 : ∀ nu : haMu, haCf mu nu k → (w = -1 → ¬ nu 860 12 = 0) → haW x nu 104 [haR 51 860, haI (k), haI (m2), haI (c), haI (w)] [] := by
        intro nu g1 g2
        refine ha_s (pc' := 105) (ls' := [haR 51 860, haI (k), haI (m2), haI (c), haI (w)]) (st' := [haR 51 860]) hF (haEt hT (e := (13, 104, 0, 0, 0, [])) (k := 196) (pc := 104) (by decide) (by decide +kernel) rfl) rfl (fun RG => avS13) (fun nx => rfl) ?_
        refine ha_callV (q := 186) (d' := d) (r := 51) (j := 860) (as := []) (rest := []) hT hF (haEt hT (e := (78, 105, 186, 0, 177, [1516, 1518, 38])) (k := 196) (pc := 105) (by decide) (by decide +kernel) rfl) rfl rfl rfl (by decide +kernel) (by decide +kernel) (hm_good hT) (by omega) rfl (show 0 = (abMe 186).2.1 from by decide +kernel) (show 0 + (abMe 186).1.2.2.1 ≤ 49 from by decide +kernel) (fun o ku h => ?_)
        obtain ⟨z, rfl, e9, hz⟩ := h
        have e9 := e9.symm
        subst e9
        show haW x nu 108 [haR 51 860, haI (k), haI (m2), haI (c), haI (w)] [haI z]
        refine ha_ifne hF (haEt hT (e := (47, 108, 112, 0, 0, [])) (k := 196) (pc := 108) (by decide) (by decide +kernel) rfl) rfl rfl rfl (fun q => ?_) (fun q => ?_)
        rotate_left
        · skip
          exact hR 111 _ _ _ none (82, 111, 0, 0, 0, []) (haEt hT (e := (82, 111, 0, 0, 0, [])) (k := 196) (pc := 111) (by decide) (by decide +kernel) rfl) rfl (Or.inl ⟨rfl, rfl, rfl⟩) ⟨rfl, g1.1, Or.inl (by omega)⟩
        have hw : 0 ≤ w ∧ w ≤ 5 := by omega
        refine ha_s (pc' := 113) (ls' := [haR 51 860, haI (k), haI (m2), haI (c), haI (w)]) (st' := [haR 51 860]) hF (haEt hT (e := (13, 112, 0, 0, 0, [])) (k := 196) (pc := 112) (by decide) (by decide +kernel) rfl) rfl (fun RG => avS13) (fun nx => rfl) ?_
        refine ha_callV (q := 184) (d' := 1) (r := 51) (j := 860) (as := []) (rest := []) hT hF (haEt hT (e := (78, 113, 184, 0, 195, [1502, 1504, 36])) (k := 196) (pc := 113) (by decide) (by decide +kernel) rfl) rfl rfl rfl (by decide +kernel) (by decide +kernel) (hm_step hT) (by omega) rfl (show 0 = (abMe 184).2.1 from by decide +kernel) (show 0 + (abMe 184).1.2.2.1 ≤ 49 from by decide +kernel) (fun o k3 h => ?_)
        obtain ⟨rfl, f3⟩ := h
        replace f3 := g1.fm hb hk f3
        show haW x k3 116 [haR 51 860, haI (k), haI (m2), haI (c), haI (w)] []
        refine ha_s (pc' := 117) (ls' := [haR 51 860, haI (k), haI (m2), haI (c), haI (w)]) (st' := [haR 51 860]) hF (haEt hT (e := (13, 116, 0, 0, 0, [])) (k := 196) (pc := 116) (by decide) (by decide +kernel) rfl) rfl (fun RG => avS13) (fun nx => rfl) ?_
        refine ha_getR (r := 51) (j := 860) (i := 14) (r' := 56) (j' := 866) hF (haEt hT (e := (60, 117, 12, 14, 34, [1357])) (k := 196) (pc := 117) (by decide) (by decide +kernel) rfl) rfl rfl rfl (by decide +kernel) (by decide) (by decide +kernel) (by rfl) ?_
        refine ha_s (pc' := 121) (ls' := [haR 51 860, haI (k), haI (m2), haI (c), haI (w)]) (st' := [haI (c), haR 56 866]) hF (haEt hT (e := (9, 120, 0, 3, 0, [])) (k := 196) (pc := 120) (by decide) (by decide +kernel) rfl) rfl (fun RG => avS9) (fun nx => rfl) ?_
        refine ha_s (pc' := 122) (ls' := [haR 51 860, haI (k), haI (m2), haI (c), haI (w)]) (st' := [haI (1), haI (c), haR 56 866]) hF (haEt hT (e := (1, 121, 0, 0, 9223372036854775809, [])) (k := 196) (pc := 121) (by decide) (by decide +kernel) rfl) rfl (fun RG => avS1) (fun nx => rfl) ?_
        refine ha_iadd hF (haEt hT (e := (21, 122, 0, 0, 0, [])) (k := 196) (pc := 122) (by decide) (by decide +kernel) rfl) rfl rfl (by omega) (by omega) ?_
        refine ha_s (pc' := 125) (ls' := [haR 51 860, haI (k), haI (m2), haI (c), haI (w)]) (st' := [haI (w), haI (c + (1)), haR 56 866]) hF (haEt hT (e := (8, 123, 0, 4, 0, [])) (k := 196) (pc := 123) (by decide) (by decide +kernel) rfl) rfl (fun RG => avS8) (fun nx => rfl) ?_
        refine ha_iast (r := 56) hF (haEt hT (e := (69, 125, 0, 0, 0, [])) (k := 196) (pc := 125) (by decide) (by decide +kernel) rfl) rfl rfl (by decide +kernel) (by omega) (by show _ < (1745 : Int); omega) s1 (by omega) (by omega) ?_
        refine ha_s (pc' := 127) (ls' := [haR 51 860, haI (k), haI (m2), haI (c), haI (w)]) (st' := [haR 51 860]) hF (haEt hT (e := (13, 126, 0, 0, 0, [])) (k := 196) (pc := 126) (by decide) (by decide +kernel) rfl) rfl (fun RG => avS13) (fun nx => rfl) ?_
        refine ha_getR (r := 51) (j := 860) (i := 14) (r' := 56) (j' := 866) hF (haEt hT (e := (60, 127, 12, 14, 34, [1357])) (k := 196) (pc := 127) (by decide) (by decide +kernel) rfl) rfl rfl rfl (by decide +kernel) (by decide) (by decide +kernel) (by rfl) ?_
        refine ha_s (pc' := 131) (ls' := [haR 51 860, haI (k), haI (m2), haI (c), haI (w)]) (st' := [haI (c), haR 56 866]) hF (haEt hT (e := (9, 130, 0, 3, 0, [])) (k := 196) (pc := 130) (by decide) (by decide +kernel) rfl) rfl (fun RG => avS9) (fun nx => rfl) ?_
        refine ha_s (pc' := 132) (ls' := [haR 51 860, haI (k), haI (m2), haI (c), haI (w)]) (st' := [haI (2), haI (c), haR 56 866]) hF (haEt hT (e := (1, 131, 0, 0, 9223372036854775810, [])) (k := 196) (pc := 131) (by decide) (by decide +kernel) rfl) rfl (fun RG => avS1) (fun nx => rfl) ?_
        refine ha_iadd hF (haEt hT (e := (21, 132, 0, 0, 0, [])) (k := 196) (pc := 132) (by decide) (by decide +kernel) rfl) rfl rfl (by omega) (by omega) ?_
        refine ha_s (pc' := 134) (ls' := [haR 51 860, haI (k), haI (m2), haI (c), haI (w)]) (st' := [haI (0), haI (c + (2)), haR 56 866]) hF (haEt hT (e := (1, 133, 0, 0, 9223372036854775808, [])) (k := 196) (pc := 133) (by decide) (by decide +kernel) rfl) rfl (fun RG => avS1) (fun nx => rfl) ?_
        refine ha_iast (r := 56) hF (haEt hT (e := (69, 134, 0, 0, 0, [])) (k := 196) (pc := 134) (by decide) (by decide +kernel) rfl) rfl rfl (by decide +kernel) (by omega) (by show _ < (1745 : Int); omega) s2 (by omega) (by omega) ?_
        refine ha_s (pc' := 136) (ls' := [haR 51 860, haI (k), haI (m2), haI (c), haI (w)]) (st' := [haR 51 860]) hF (haEt hT (e := (13, 135, 0, 0, 0, [])) (k := 196) (pc := 135) (by decide) (by decide +kernel) rfl) rfl (fun RG => avS13) (fun nx => rfl) ?_
        refine ha_getR (r := 51) (j := 860) (i := 14) (r' := 56) (j' := 866) hF (haEt hT (e := (60, 136, 12, 14, 34, [1357])) (k := 196) (pc := 136) (by decide) (by decide +kernel) rfl) rfl rfl rfl (by decide +kernel) (by decide) (by decide +kernel) (by rfl) ?_
        refine ha_s (pc' := 140) (ls' := [haR 51 860, haI (k), haI (m2), haI (c), haI (w)]) (st' := [haI (c), haR 56 866]) hF (haEt hT (e := (9, 139, 0, 3, 0, [])) (k := 196) (pc := 139) (by decide) (by decide +kernel) rfl) rfl (fun RG => avS9) (fun nx => rfl) ?_
        refine ha_s (pc' := 141) (ls' := [haR 51 860, haI (k), haI (m2), haI (c), haI (w)]) (st' := [haI (3), haI (c), haR 56 866]) hF (haEt hT (e := (1, 140, 0, 0, 9223372036854775811, [])) (k := 196) (pc := 140) (by decide) (by decide +kernel) rfl) rfl (fun RG => avS1) (fun nx => rfl) ?_
        refine ha_iadd hF (haEt hT (e := (21, 141, 0, 0, 0, [])) (k := 196) (pc := 141) (by decide) (by decide +kernel) rfl) rfl rfl (by omega) (by omega) ?_
        refine ha_s (pc' := 143) (ls' := [haR 51 860, haI (k), haI (m2), haI (c), haI (w)]) (st' := [haI (0), haI (c + (3)), haR 56 866]) hF (haEt hT (e := (1, 142, 0, 0, 9223372036854775808, [])) (k := 196) (pc := 142) (by decide) (by decide +kernel) rfl) rfl (fun RG => avS1) (fun nx => rfl) ?_
        refine ha_iast (r := 56) hF (haEt hT (e := (69, 143, 0, 0, 0, [])) (k := 196) (pc := 143) (by decide) (by decide +kernel) rfl) rfl rfl (by decide +kernel) (by omega) (by show _ < (1745 : Int); omega) s3 (by omega) (by omega) ?_
        replace f3 := f3.up (c := c + 1) (v := w) ⟨by omega, by omega⟩
        replace f3 := f3.up (c := c + 2) (v := 0) ⟨by omega, by omega⟩
        replace f3 := f3.up (c := c + 3) (v := 0) ⟨by omega, by omega⟩
        generalize haUp (haUp (haUp k3 866 (c + 1) w) 866 (c + 2) 0) 866 (c + 3) 0 = k3 at f3 ⊢
        refine ha_s (pc' := 146) (ls' := [haR 51 860, haI (k), haI (m2), haI (c), haI (w)]) (st' := [haI (w)]) hF (haEt hT (e := (8, 144, 0, 4, 0, [])) (k := 196) (pc := 144) (by decide) (by decide +kernel) rfl) rfl (fun RG => avS8) (fun nx => rfl) ?_
        refine ha_s (pc' := 147) (ls' := [haR 51 860, haI (k), haI (m2), haI (c), haI (w)]) (st' := [haI (4), haI (w)]) hF (haEt hT (e := (1, 146, 0, 0, 9223372036854775812, [])) (k := 196) (pc := 146) (by decide) (by decide +kernel) rfl) rfl (fun RG => avS1) (fun nx => rfl) ?_
        refine ha_icge hF (haEt hT (e := (55, 147, 213, 0, 0, [])) (k := 196) (pc := 147) (by decide) (by decide +kernel) rfl) rfl rfl rfl (fun _ => j213 k3 _ _ _ f3 (le2 k3 f3)) (fun _ => ?_)
        have j173 : ∀ nu : haMu, haCf mu nu k → (nu 860 11 = 60 ∨ nu 860 11 = 62 ∨ ¬ nu 860 12 = 0) → haW x nu 173 [haR 51 860, haI (k), haI (m2), haI (c), haI (w)] [] := by
          intro nu g1 g2
          refine ha_s (pc' := 174) (ls' := [haR 51 860, haI (k), haI (m2), haI (c), haI (w)]) (st' := [haR 51 860]) hF (haEt hT (e := (13, 173, 0, 0, 0, [])) (k := 196) (pc := 173) (by decide) (by decide +kernel) rfl) rfl (fun RG => avS13) (fun nx => rfl) ?_
          refine ha_callV (q := 186) (d' := d) (r := 51) (j := 860) (as := []) (rest := []) hT hF (haEt hT (e := (78, 174, 186, 0, 177, [1516, 1518, 38])) (k := 196) (pc := 174) (by decide) (by decide +kernel) rfl) rfl rfl rfl (by decide +kernel) (by decide +kernel) (hm_good hT) (by omega) rfl (show 0 = (abMe 186).2.1 from by decide +kernel) (show 0 + (abMe 186).1.2.2.1 ≤ 49 from by decide +kernel) (fun o ku h => ?_)
          obtain ⟨z, rfl, e9, hz⟩ := h
          have e9 := e9.symm
          subst e9
          show haW x nu 177 [haR 51 860, haI (k), haI (m2), haI (c), haI (w)] [haI z]
          refine ha_ifne hF (haEt hT (e := (47, 177, 181, 0, 0, [])) (k := 196) (pc := 177) (by decide) (by decide +kernel) rfl) rfl rfl rfl (fun q => ?_) (fun q => ?_)
          rotate_left
          · skip
            exact hR 180 _ _ _ none (82, 180, 0, 0, 0, []) (haEt hT (e := (82, 180, 0, 0, 0, [])) (k := 196) (pc := 180) (by decide) (by decide +kernel) rfl) rfl (Or.inl ⟨rfl, rfl, rfl⟩) ⟨rfl, g1.1, Or.inl (by omega)⟩
          have hv : 0 ≤ nu 860 11 ∧ nu 860 11 ≤ 62 := by
            rcases g2 with g2 | g2 | g2
            · omega
            · omega
            · exact absurd (show nu 860 12 = 0 by omega) g2
          refine ha_s (pc' := 182) (ls' := [haR 51 860, haI (k), haI (m2), haI (c), haI (w)]) (st' := [haR 51 860]) hF (haEt hT (e := (13, 181, 0, 0, 0, [])) (k := 196) (pc := 181) (by decide) (by decide +kernel) rfl) rfl (fun RG => avS13) (fun nx => rfl) ?_
          refine ha_getR (r := 51) (j := 860) (i := 14) (r' := 56) (j' := 866) hF (haEt hT (e := (60, 182, 12, 14, 34, [1357])) (k := 196) (pc := 182) (by decide) (by decide +kernel) rfl) rfl rfl rfl (by decide +kernel) (by decide) (by decide +kernel) (by rfl) ?_
          refine ha_s (pc' := 186) (ls' := [haR 51 860, haI (k), haI (m2), haI (c), haI (w)]) (st' := [haI (c), haR 56 866]) hF (haEt hT (e := (9, 185, 0, 3, 0, [])) (k := 196) (pc := 185) (by decide) (by decide +kernel) rfl) rfl (fun RG => avS9) (fun nx => rfl) ?_
          refine ha_s (pc' := 187) (ls' := [haR 51 860, haI (k), haI (m2), haI (c), haI (w)]) (st' := [haI (2), haI (c), haR 56 866]) hF (haEt hT (e := (1, 186, 0, 0, 9223372036854775810, [])) (k := 196) (pc := 186) (by decide) (by decide +kernel) rfl) rfl (fun RG => avS1) (fun nx => rfl) ?_
          refine ha_iadd hF (haEt hT (e := (21, 187, 0, 0, 0, [])) (k := 196) (pc := 187) (by decide) (by decide +kernel) rfl) rfl rfl (by omega) (by omega) ?_
          refine ha_s (pc' := 189) (ls' := [haR 51 860, haI (k), haI (m2), haI (c), haI (w)]) (st' := [haR 51 860, haI (c + (2)), haR 56 866]) hF (haEt hT (e := (13, 188, 0, 0, 0, [])) (k := 196) (pc := 188) (by decide) (by decide +kernel) rfl) rfl (fun RG => avS13) (fun nx => rfl) ?_
          refine ha_getI (r := 51) (j := 860) (i := 11) (lo := -2147483648) (up := 999999) hF (haEt hT (e := (60, 189, 12, 11, 167, [1354])) (k := 196) (pc := 189) (by decide) (by decide +kernel) rfl) rfl rfl rfl (by decide +kernel) (by decide) (by decide +kernel) (by rfl) ?_
          refine ha_iast (r := 56) hF (haEt hT (e := (69, 192, 0, 0, 0, [])) (k := 196) (pc := 192) (by decide) (by decide +kernel) rfl) rfl rfl (by decide +kernel) (by omega) (by show _ < (1745 : Int); omega) s2 hv.1 hv.2 ?_
          replace g1 := g1.up (c := c + 2) (v := nu 860 11) ⟨by omega, by omega⟩
          generalize haUp nu 866 (c + 2) (nu 860 11) = k4 at g1 ⊢
          refine ha_s (pc' := 194) (ls' := [haR 51 860, haI (k), haI (m2), haI (c), haI (w)]) (st' := [haR 51 860]) hF (haEt hT (e := (13, 193, 0, 0, 0, [])) (k := 196) (pc := 193) (by decide) (by decide +kernel) rfl) rfl (fun RG => avS13) (fun nx => rfl) ?_
          refine ha_callV (q := 184) (d' := 1) (r := 51) (j := 860) (as := []) (rest := []) hT hF (haEt hT (e := (78, 194, 184, 0, 195, [1502, 1504, 36])) (k := 196) (pc := 194) (by decide) (by decide +kernel) rfl) rfl rfl rfl (by decide +kernel) (by decide +kernel) (hm_step hT) (by omega) rfl (show 0 = (abMe 184).2.1 from by decide +kernel) (show 0 + (abMe 184).1.2.2.1 ≤ 49 from by decide +kernel) (fun o k5 h => ?_)
          obtain ⟨rfl, f5⟩ := h
          replace f5 := g1.fm hb hk f5
          show haW x k5 197 [haR 51 860, haI (k), haI (m2), haI (c), haI (w)] []
          refine ha_s (pc' := 198) (ls' := [haR 51 860, haI (k), haI (m2), haI (c), haI (w)]) (st' := [haR 51 860]) hF (haEt hT (e := (13, 197, 0, 0, 0, [])) (k := 196) (pc := 197) (by decide) (by decide +kernel) rfl) rfl (fun RG => avS13) (fun nx => rfl) ?_
          refine ha_getR (r := 51) (j := 860) (i := 14) (r' := 56) (j' := 866) hF (haEt hT (e := (60, 198, 12, 14, 34, [1357])) (k := 196) (pc := 198) (by decide) (by decide +kernel) rfl) rfl rfl rfl (by decide +kernel) (by decide) (by decide +kernel) (by rfl) ?_
          refine ha_s (pc' := 202) (ls' := [haR 51 860, haI (k), haI (m2), haI (c), haI (w)]) (st' := [haI (c), haR 56 866]) hF (haEt hT (e := (9, 201, 0, 3, 0, [])) (k := 196) (pc := 201) (by decide) (by decide +kernel) rfl) rfl (fun RG => avS9) (fun nx => rfl) ?_
          refine ha_s (pc' := 203) (ls' := [haR 51 860, haI (k), haI (m2), haI (c), haI (w)]) (st' := [haI (3), haI (c), haR 56 866]) hF (haEt hT (e := (1, 202, 0, 0, 9223372036854775811, [])) (k := 196) (pc := 202) (by decide) (by decide +kernel) rfl) rfl (fun RG => avS1) (fun nx => rfl) ?_
          refine ha_iadd hF (haEt hT (e := (21, 203, 0, 0, 0, [])) (k := 196) (pc := 203) (by decide) (by decide +kernel) rfl) rfl rfl (by omega) (by omega) ?_
          refine ha_s (pc' := 205) (ls' := [haR 51 860, haI (k), haI (m2), haI (c), haI (w)]) (st' := [haR 51 860, haI (c + (3)), haR 56 866]) hF (haEt hT (e := (13, 204, 0, 0, 0, [])) (k := 196) (pc := 204) (by decide) (by decide +kernel) rfl) rfl (fun RG => avS13) (fun nx => rfl) ?_
          refine ha_s (pc' := 206) (ls' := [haR 51 860, haI (k), haI (m2), haI (c), haI (w)]) (st' := [haI (0), haR 51 860, haI (c + (3)), haR 56 866]) hF (haEt hT (e := (1, 205, 0, 0, 9223372036854775808, [])) (k := 196) (pc := 205) (by decide) (by decide +kernel) rfl) rfl (fun RG => avS1) (fun nx => rfl) ?_
          refine ha_s (pc' := 209) (ls' := [haR 51 860, haI (k), haI (m2), haI (c), haI (w)]) (st' := [haI (9999), haI (0), haR 51 860, haI (c + (3)), haR 56 866]) hF (haEt hT (e := (3, 206, 0, 0, 9223372036854785807, [])) (k := 196) (pc := 206) (by decide) (by decide +kernel) rfl) rfl (fun RG => avS3) (fun nx => rfl) ?_
          refine ha_callV (q := 192) (d' := 2) (r := 51) (j := 860) (as := [haI 0, haI 9999]) (rest := [haI (c + 3), haR 56 866]) hT hF (haEt hT (e := (78, 209, 192, 0, 204, [1547, 1549, 44])) (k := 196) (pc := 209) (by decide) (by decide +kernel) rfl) rfl rfl rfl (by decide +kernel) (by decide +kernel) (hm_number9999 hT) (by omega) rfl (show 2 = (abMe 192).2.1 from by decide +kernel) (show 2 + (abMe 192).1.2.2.1 ≤ 49 from by decide +kernel) (fun o k6 h => ?_)
          obtain ⟨⟨z6, rfl, z61, z62⟩, f6⟩ := h
          replace f6 := f5.fm hb hk f6
          show haW x k6 212 [haR 51 860, haI (k), haI (m2), haI (c), haI (w)] [haI z6, haI (c + 3), haR 56 866]
          refine ha_iast (r := 56) hF (haEt hT (e := (69, 212, 0, 0, 0, [])) (k := 196) (pc := 212) (by decide) (by decide +kernel) rfl) rfl rfl (by decide +kernel) (by omega) (by show _ < (1745 : Int); omega) s3 (by omega) (by omega) ?_
          replace f6 := f6.up (c := c + 3) (v := z6) ⟨by omega, by omega⟩
          exact j213 _ _ _ _ f6 (le2 _ f6)
        refine ha_s (pc' := 151) (ls' := [haR 51 860, haI (k), haI (m2), haI (c), haI (w)]) (st' := [haR 51 860]) hF (haEt hT (e := (13, 150, 0, 0, 0, [])) (k := 196) (pc := 150) (by decide) (by decide +kernel) rfl) rfl (fun RG => avS13) (fun nx => rfl) ?_
        refine ha_s (pc' := 153) (ls' := [haR 51 860, haI (k), haI (m2), haI (c), haI (w)]) (st' := [haI (60), haR 51 860]) hF (haEt hT (e := (2, 151, 0, 0, 9223372036854775868, [])) (k := 196) (pc := 151) (by decide) (by decide +kernel) rfl) rfl (fun RG => avS2) (fun nx => rfl) ?_
        refine ha_callV (q := 198) (d' := d + 1) (r := 51) (j := 860) (as := [haI 60]) (rest := []) hT hF (haEt hT (e := (78, 153, 198, 0, 243, [1586, 1588, 50])) (k := 196) (pc := 153) (by decide) (by decide +kernel) rfl) rfl rfl rfl (by decide +kernel) (by decide +kernel) (hm_isSign hT) (by omega) rfl (show 1 = (abMe 198).2.1 from by decide +kernel) (show 0 + (abMe 198).1.2.2.1 ≤ 49 from by decide +kernel) (fun o ku h => ?_)
        obtain ⟨z4, rfl, e9, h40, h41⟩ := h
        have e9 := e9.symm
        subst e9
        show haW x k3 156 [haR 51 860, haI (k), haI (m2), haI (c), haI (w)] [haI z4]
        refine ha_ifne hF (haEt hT (e := (47, 156, 173, 0, 0, [])) (k := 196) (pc := 156) (by decide) (by decide +kernel) rfl) rfl rfl rfl (fun q4 => j173 k3 f3 (Or.inl (h41 (by omega)))) (fun _ => ?_)
        refine ha_s (pc' := 160) (ls' := [haR 51 860, haI (k), haI (m2), haI (c), haI (w)]) (st' := [haR 51 860]) hF (haEt hT (e := (13, 159, 0, 0, 0, [])) (k := 196) (pc := 159) (by decide) (by decide +kernel) rfl) rfl (fun RG => avS13) (fun nx => rfl) ?_
        refine ha_s (pc' := 162) (ls' := [haR 51 860, haI (k), haI (m2), haI (c), haI (w)]) (st' := [haI (62), haR 51 860]) hF (haEt hT (e := (2, 160, 0, 0, 9223372036854775870, [])) (k := 196) (pc := 160) (by decide) (by decide +kernel) rfl) rfl (fun RG => avS2) (fun nx => rfl) ?_
        refine ha_callV (q := 198) (d' := d + 1) (r := 51) (j := 860) (as := [haI 62]) (rest := []) hT hF (haEt hT (e := (78, 162, 198, 0, 243, [1586, 1588, 50])) (k := 196) (pc := 162) (by decide) (by decide +kernel) rfl) rfl rfl rfl (by decide +kernel) (by decide +kernel) (hm_isSign hT) (by omega) rfl (show 1 = (abMe 198).2.1 from by decide +kernel) (show 0 + (abMe 198).1.2.2.1 ≤ 49 from by decide +kernel) (fun o ku h => ?_)
        obtain ⟨z5, rfl, e9, h50, h51⟩ := h
        have e9 := e9.symm
        subst e9
        show haW x k3 165 [haR 51 860, haI (k), haI (m2), haI (c), haI (w)] [haI z5]
        refine ha_ifne hF (haEt hT (e := (47, 165, 173, 0, 0, [])) (k := 196) (pc := 165) (by decide) (by decide +kernel) rfl) rfl rfl rfl (fun q5 => j173 k3 f3 (Or.inr (Or.inl (h51 (by omega))))) (fun _ => ?_)
        refine ha_s (pc' := 169) (ls' := [haR 51 860, haI (k), haI (m2), haI (c), haI (w)]) (st' := [haR 51 860]) hF (haEt hT (e := (13, 168, 0, 0, 0, [])) (k := 196) (pc := 168) (by decide) (by decide +kernel) rfl) rfl (fun RG => avS13) (fun nx => rfl) ?_
        refine ha_s (pc' := 170) (ls' := [haR 51 860, haI (k), haI (m2), haI (c), haI (w)]) (st' := [haI (1), haR 51 860]) hF (haEt hT (e := (1, 169, 0, 0, 9223372036854775809, [])) (k := 196) (pc := 169) (by decide) (by decide +kernel) rfl) rfl (fun RG => avS1) (fun nx => rfl) ?_
        refine ha_callV (q := 189) (d' := d + 1) (r := 51) (j := 860) (as := [haI 1]) (rest := []) hT hF (haEt hT (e := (78, 170, 189, 0, 198, [1534, 1536, 41])) (k := 196) (pc := 170) (by decide) (by decide +kernel) rfl) rfl rfl rfl (by decide +kernel) (by decide +kernel) (hm_wrong hT ⟨by omega, by omega⟩) (by omega) rfl (show 1 = (abMe 189).2.1 from by decide +kernel) (show 0 + (abMe 189).1.2.2.1 ≤ 49 from by decide +kernel) (fun o k4 h => ?_)
        obtain ⟨rfl, b1, b2⟩ := h
        show haW x k4 173 [haR 51 860, haI (k), haI (m2), haI (c), haI (w)] []
        exact j173 k4 (f3.wr b2) (Or.inr (Or.inr b1))
      refine ha_icne hF (haEt hT (e := (53, 96, 104, 0, 0, [])) (k := 196) (pc := 96) (by decide) (by decide +kernel) rfl) rfl rfl rfl (fun q => j104 k2 f2 (fun e => absurd e q)) (fun _ => ?_)
      refine ha_s (pc' := 100) (ls' := [haR 51 860, haI (k), haI (m2), haI (c), haI (w)]) (st' := [haR 51 860]) hF (haEt hT (e := (13, 99, 0, 0, 0, [])) (k := 196) (pc := 99) (by decide) (by decide +kernel) rfl) rfl (fun RG => avS13) (fun nx => rfl) ?_
      refine ha_s (pc' := 101) (ls' := [haR 51 860, haI (k), haI (m2), haI (c), haI (w)]) (st' := [haI (1), haR 51 860]) hF (haEt hT (e := (1, 100, 0, 0, 9223372036854775809, [])) (k := 196) (pc := 100) (by decide) (by decide +kernel) rfl) rfl (fun RG => avS1) (fun nx => rfl) ?_
      refine ha_callV (q := 189) (d' := d + 1) (r := 51) (j := 860) (as := [haI 1]) (rest := []) hT hF (haEt hT (e := (78, 101, 189, 0, 198, [1534, 1536, 41])) (k := 196) (pc := 101) (by decide) (by decide +kernel) rfl) rfl rfl rfl (by decide +kernel) (by decide +kernel) (hm_wrong hT ⟨by omega, by omega⟩) (by omega) rfl (show 1 = (abMe 189).2.1 from by decide +kernel) (show 0 + (abMe 189).1.2.2.1 ≤ 49 from by decide +kernel) (fun o k3 h => ?_)
      obtain ⟨rfl, b1, b2⟩ := h
      show haW x k3 104 [haR 51 860, haI (k), haI (m2), haI (c), haI (w)] []
      exact j104 k3 (f2.wr b2) (fun _ => b1)
    refine ha_ifeq hF (haEt hT (e := (46, 78, 85, 0, 0, [])) (k := 196) (pc := 78) (by decide) (by decide +kernel) rfl) rfl rfl rfl (fun _ => ?_) (fun _ => ?_)
    · refine ha_s (pc' := 86) (ls' := [haR 51 860, haI (k), haI (m2), haI (c), avJ]) (st' := [haI (0), haI (c), haR 56 866]) hF (haEt hT (e := (1, 85, 0, 0, 9223372036854775808, [])) (k := 196) (pc := 85) (by decide) (by decide +kernel) rfl) rfl (fun RG => avS1) (fun nx => rfl) ?_
      exact j86 0 ⟨by omega, by omega⟩
    · refine ha_s (pc' := 82) (ls' := [haR 51 860, haI (k), haI (m2), haI (c), avJ]) (st' := [haI (1), haI (c), haR 56 866]) hF (haEt hT (e := (1, 81, 0, 0, 9223372036854775809, [])) (k := 196) (pc := 81) (by decide) (by decide +kernel) rfl) rfl (fun RG => avS1) (fun nx => rfl) ?_
      refine ha_s (pc' := 86) (ls' := [haR 51 860, haI (k), haI (m2), haI (c), avJ]) (st' := [haI (1), haI (c), haR 56 866]) hF (haEt hT (e := (58, 82, 86, 0, 0, [])) (k := 196) (pc := 82) (by decide) (by decide +kernel) rfl) rfl (fun RG => avS58) (fun nx => rfl) ?_
      exact j86 1 ⟨by omega, by omega⟩
  have j22 : ∀ (nu : haMu) (my : Int), haCf mu nu k → haW x nu 22 [haR 51 860, haI (k), avJ, avJ, avJ] [haI my] := by
    intro nu my h1
    refine ha_s (pc' := 23) (ls' := [haR 51 860, haI (k), haI (my), avJ, avJ]) (st' := []) hF (haEt hT (e := (15, 22, 0, 2, 0, [])) (k := 196) (pc := 22) (by decide) (by decide +kernel) rfl) rfl (fun RG => avS15) (fun nx => rfl) ?_
    refine ha_s (pc' := 24) (ls' := [haR 51 860, haI (k), haI (my), avJ, avJ]) (st' := [haR 51 860]) hF (haEt hT (e := (13, 23, 0, 0, 0, [])) (k := 196) (pc := 23) (by decide) (by decide +kernel) rfl) rfl (fun RG => avS13) (fun nx => rfl) ?_
    refine ha_getR (r := 51) (j := 860) (i := 14) (r' := 56) (j' := 866) hF (haEt hT (e := (60, 24, 12, 14, 34, [1357])) (k := 196) (pc := 24) (by decide) (by decide +kernel) rfl) rfl rfl rfl (by decide +kernel) (by decide) (by decide +kernel) (by rfl) ?_
    refine ha_s (pc' := 28) (ls' := [haR 51 860, haI (k), haI (my), avJ, avJ]) (st' := [haI (k), haR 56 866]) hF (haEt hT (e := (9, 27, 0, 1, 0, [])) (k := 196) (pc := 27) (by decide) (by decide +kernel) rfl) rfl (fun RG => avS9) (fun nx => rfl) ?_
    refine ha_iald (r := 56) hF (haEt hT (e := (64, 28, 0, 0, 0, [])) (k := 196) (pc := 28) (by decide) (by decide +kernel) rfl) rfl rfl (by decide +kernel) (by omega) (by show _ < (1745 : Int); omega) ?_
    refine ha_s (pc' := 30) (ls' := [haR 51 860, haI (k), haI (my), avJ, avJ]) (st' := [haI (3), haI (nu 866 (k))]) hF (haEt hT (e := (1, 29, 0, 0, 9223372036854775811, [])) (k := 196) (pc := 29) (by decide) (by decide +kernel) rfl) rfl (fun RG => avS1) (fun nx => rfl) ?_
    refine ha_icne hF (haEt hT (e := (53, 30, 46, 0, 0, [])) (k := 196) (pc := 30) (by decide) (by decide +kernel) rfl) rfl rfl rfl (fun q => j46 nu _ h1 (fun e => absurd e q)) (fun _ => ?_)
    have j43 : ∀ kd : Int, (1 ≤ kd ∧ kd ≤ 3) → haW x nu 43 [haR 51 860, haI (k), haI (my), avJ, avJ] [haI kd, haR 51 860] := by
      intro kd hkd
      refine ha_callV (q := 189) (d' := d + 1) (r := 51) (j := 860) (as := [haI kd]) (rest := []) hT hF (haEt hT (e := (78, 43, 189, 0, 198, [1534, 1536, 41])) (k := 196) (pc := 43) (by decide) (by decide +kernel) rfl) rfl rfl rfl (by decide +kernel) (by decide +kernel) (hm_wrong hT hkd) (by omega) rfl (show 1 = (abMe 189).2.1 from by decide +kernel) (show 0 + (abMe 189).1.2.2.1 ≤ 49 from by decide +kernel) (fun o k3 h => ?_)
      obtain ⟨rfl, b1, b2⟩ := h
      show haW x k3 46 [haR 51 860, haI (k), haI (my), avJ, avJ] []
      exact j46 k3 _ (h1.wr b2) (fun _ => b1)
    refine ha_s (pc' := 34) (ls' := [haR 51 860, haI (k), haI (my), avJ, avJ]) (st' := [haR 51 860]) hF (haEt hT (e := (13, 33, 0, 0, 0, [])) (k := 196) (pc := 33) (by decide) (by decide +kernel) rfl) rfl (fun RG => avS13) (fun nx => rfl) ?_
    refine ha_s (pc' := 35) (ls' := [haR 51 860, haI (k), haI (my), avJ, avJ]) (st' := [haI (my), haR 51 860]) hF (haEt hT (e := (9, 34, 0, 2, 0, [])) (k := 196) (pc := 34) (by decide) (by decide +kernel) rfl) rfl (fun RG => avS9) (fun nx => rfl) ?_
    refine ha_ifeq hF (haEt hT (e := (46, 35, 42, 0, 0, [])) (k := 196) (pc := 35) (by decide) (by decide +kernel) rfl) rfl rfl rfl (fun _ => ?_) (fun _ => ?_)
    · refine ha_s (pc' := 43) (ls' := [haR 51 860, haI (k), haI (my), avJ, avJ]) (st' := [haI (1), haR 51 860]) hF (haEt hT (e := (1, 42, 0, 0, 9223372036854775809, [])) (k := 196) (pc := 42) (by decide) (by decide +kernel) rfl) rfl (fun RG => avS1) (fun nx => rfl) ?_
      exact j43 1 ⟨by omega, by omega⟩
    · refine ha_s (pc' := 39) (ls' := [haR 51 860, haI (k), haI (my), avJ, avJ]) (st' := [haI (3), haR 51 860]) hF (haEt hT (e := (1, 38, 0, 0, 9223372036854775811, [])) (k := 196) (pc := 38) (by decide) (by decide +kernel) rfl) rfl (fun RG => avS1) (fun nx => rfl) ?_
      refine ha_s (pc' := 43) (ls' := [haR 51 860, haI (k), haI (my), avJ, avJ]) (st' := [haI (3), haR 51 860]) hF (haEt hT (e := (58, 39, 43, 0, 0, [])) (k := 196) (pc := 39) (by decide) (by decide +kernel) rfl) rfl (fun RG => avS58) (fun nx => rfl) ?_
      exact j43 3 ⟨by omega, by omega⟩
  have h0 : haCf mu mu k := ⟨fun _ _ _ _ _ => rfl, rfl⟩
  refine ha_s (pc' := 1) (ls' := [haR 51 860, haI (k), avJ, avJ, avJ]) (st' := [haR 51 860]) hF (haEt hT (e := (13, 0, 0, 0, 0, [])) (k := 196) (pc := 0) (by decide) (by decide +kernel) rfl) rfl (fun RG => avS13) (fun nx => rfl) ?_
  refine ha_opE (e := (93, 1, 33, 0, 238, [])) (F := avOldS 2) hF rfl (fun RG => avN196_1) (fun nx hn => hn 3 [haR 51 860, haI (k), avJ, avJ, avJ] [haX 33, haR 51 860] ?_)
  refine ha_callV (q := 188) (d' := 1) (r := 51) (j := 860) (as := [haX 33]) (rest := []) hT hF (haEt hT (e := (78, 3, 188, 0, 191, [1525, 1527, 40])) (k := 196) (pc := 3) (by decide) (by decide +kernel) rfl) rfl rfl rfl (by decide +kernel) (by decide +kernel) (hm_is33 hT) (by omega) rfl (show 1 = (abMe 188).2.1 from by decide +kernel) (show 0 + (abMe 188).1.2.2.1 ≤ 49 from by decide +kernel) (fun o k1 h => ?_)
  obtain ⟨⟨z1, rfl, -, -⟩, f1⟩ := h
  replace f1 := h0.fm hb hk f1
  show haW x k1 6 [haR 51 860, haI (k), avJ, avJ, avJ] [haI z1]
  have j17 : ∀ nu : haMu, haCf mu nu k → haW x nu 17 [haR 51 860, haI (k), avJ, avJ, avJ] [] := by
    intro nu g
    refine ha_s (pc' := 18) (ls' := [haR 51 860, haI (k), avJ, avJ, avJ]) (st' := [haI (1)]) hF (haEt hT (e := (1, 17, 0, 0, 9223372036854775809, [])) (k := 196) (pc := 17) (by decide) (by decide +kernel) rfl) rfl (fun RG => avS1) (fun nx => rfl) ?_
    refine ha_s (pc' := 22) (ls' := [haR 51 860, haI (k), avJ, avJ, avJ]) (st' := [haI (1)]) hF (haEt hT (e := (58, 18, 22, 0, 0, [])) (k := 196) (pc := 18) (by decide) (by decide +kernel) rfl) rfl (fun RG => avS58) (fun nx => rfl) ?_
    exact j22 nu 1 g
  refine ha_ifne hF (haEt hT (e := (47, 6, 17, 0, 0, [])) (k := 196) (pc := 6) (by decide) (by decide +kernel) rfl) rfl rfl rfl (fun _ => j17 k1 f1) (fun _ => ?_)
  refine ha_s (pc' := 10) (ls' := [haR 51 860, haI (k), avJ, avJ, avJ]) (st' := [haR 51 860]) hF (haEt hT (e := (13, 9, 0, 0, 0, [])) (k := 196) (pc := 9) (by decide) (by decide +kernel) rfl) rfl (fun RG => avS13) (fun nx => rfl) ?_
  refine ha_callV (q := 197) (d' := 2) (r := 51) (j := 860) (as := []) (rest := []) hT hF (haEt hT (e := (78, 10, 197, 0, 240, [1576, 1578, 49])) (k := 196) (pc := 10) (by decide) (by decide +kernel) rfl) rfl rfl rfl (by decide +kernel) (by decide +kernel) (hm_wordHere hT) (by omega) rfl (show 0 = (abMe 197).2.1 from by decide +kernel) (show 0 + (abMe 197).1.2.2.1 ≤ 49 from by decide +kernel) (fun o k2 h => ?_)
  obtain ⟨⟨z2, rfl, -, -⟩, f2⟩ := h
  replace f2 := f1.fm hb hk f2
  show haW x k2 13 [haR 51 860, haI (k), avJ, avJ, avJ] [haI z2]
  refine ha_s (pc' := 14) (ls' := [haR 51 860, haI (k), avJ, avJ, avJ]) (st' := [haI (-1), haI (z2)]) hF (haEt hT (e := (1, 13, 0, 0, 9223372036854775807, [])) (k := 196) (pc := 13) (by decide) (by decide +kernel) rfl) rfl (fun RG => avS1) (fun nx => rfl) ?_
  refine ha_iceq hF (haEt hT (e := (52, 14, 21, 0, 0, [])) (k := 196) (pc := 14) (by decide) (by decide +kernel) rfl) rfl rfl rfl (fun _ => ?_) (fun _ => j17 k2 f2)
  refine ha_s (pc' := 22) (ls' := [haR 51 860, haI (k), avJ, avJ, avJ]) (st' := [haI (0)]) hF (haEt hT (e := (1, 21, 0, 0, 9223372036854775808, [])) (k := 196) (pc := 21) (by decide) (by decide +kernel) rfl) rfl (fun RG => avS1) (fun nx => rfl) ?_
  exact j22 k2 0 f2
theorem hm_readBar (hT : abTabs) {d : Nat} {mu : haMu} (hB : 0 ≤ mu 866 7 ∧ mu 866 7 ≤ 29) : haSp 195 (d + 4) [haR 51 860] mu (fun o mu' => o = none ∧ (∀ (j : Nat) (i : Int), haGd j i → ¬ (j = 866 ∧ 130 ≤ i ∧ i ≤ 519) → ¬ (j = 866 ∧ i = 7) → ¬ j = 860 → mu' j i = mu j i) ∧ (mu' 866 7 = mu 866 7 ∨ mu' 866 7 = mu 866 7 + 1)) := by
  refine haMet (by decide) (hT.1 195 (by decide)) (haLe5 rfl) (show 1 ≤ (abMe 195).1.2.2.1 from by decide +kernel) (fun x hF hR => ?_)
  obtain ⟨b, hb0⟩ : ∃ b : Int, b = mu 866 7 := ⟨_, rfl⟩
  have hb : 0 ≤ b ∧ b ≤ 29 := by omega
  obtain ⟨k, hk⟩ : ∃ k : Int, k = 130 + 13 * b := ⟨_, rfl⟩
  have j50 : ∀ (nu : haMu) (v2 : avV), (∀ (j : Nat) (i : Int), haGd j i → ¬ (j = 866 ∧ k ≤ i ∧ i ≤ k + 12) → ¬ j = 860 → nu j i = mu j i) → haW x nu 50 [haR 51 860, haI (k), v2] [] := by
    intro nu v2 h1
    have h7 := h1 866 7 (haGd_f (Or.inl ⟨by omega, by omega⟩)) (fun z => by omega) (by decide)
    refine ha_s (pc' := 51) (ls' := [haR 51 860, haI (k), v2]) (st' := [haR 51 860]) hF (haEt hT (e := (13, 50, 0, 0, 0, [])) (k := 195) (pc := 50) (by decide) (by decide +kernel) rfl) rfl (fun RG => avS13) (fun nx => rfl) ?_
    refine ha_callV (q := 186) (d' := d) (r := 51) (j := 860) (as := []) (rest := []) hT hF (haEt hT (e := (78, 51, 186, 0, 177, [1516, 1518, 38])) (k := 195) (pc := 51) (by decide) (by decide +kernel) rfl) rfl rfl rfl (by decide +kernel) (by decide +kernel) (hm_good hT) (by omega) rfl (show 0 = (abMe 186).2.1 from by decide +kernel) (show 0 + (abMe 186).1.2.2.1 ≤ 49 from by decide +kernel) (fun o ku h => ?_)
    obtain ⟨z, rfl, e9, hz⟩ := h
    have e9 := e9.symm
    subst e9
    show haW x nu 54 [haR 51 860, haI (k), v2] [haI z]
    refine ha_ifeq hF (haEt hT (e := (46, 54, 68, 0, 0, [])) (k := 195) (pc := 54) (by decide) (by decide +kernel) rfl) rfl rfl rfl (fun _ => ?_) (fun _ => ?_)
    · skip
      exact hR 68 _ _ _ none (82, 68, 0, 0, 0, []) (haEt hT (e := (82, 68, 0, 0, 0, [])) (k := 195) (pc := 68) (by decide) (by decide +kernel) rfl) rfl (Or.inl ⟨rfl, rfl, rfl⟩) ⟨rfl, fun j i hg a1 a2 a3 => h1 j i hg (fun z => a1 ⟨z.1, by omega, by omega⟩) a3, Or.inl h7⟩
    · skip
      refine ha_s (pc' := 58) (ls' := [haR 51 860, haI (k), v2]) (st' := [haR 51 860]) hF (haEt hT (e := (13, 57, 0, 0, 0, [])) (k := 195) (pc := 57) (by decide) (by decide +kernel) rfl) rfl (fun RG => avS13) (fun nx => rfl) ?_
      refine ha_getR (r := 51) (j := 860) (i := 14) (r' := 56) (j' := 866) hF (haEt hT (e := (60, 58, 12, 14, 34, [1357])) (k := 195) (pc := 58) (by decide) (by decide +kernel) rfl) rfl rfl rfl (by decide +kernel) (by decide) (by decide +kernel) (by rfl) ?_
      refine ha_s (pc' := 63) (ls' := [haR 51 860, haI (k), v2]) (st' := [haI (7), haR 56 866]) hF (haEt hT (e := (2, 61, 0, 0, 9223372036854775815, [])) (k := 195) (pc := 61) (by decide) (by decide +kernel) rfl) rfl (fun RG => avS2) (fun nx => rfl) ?_
      refine ha_s (pc' := 64) (ls' := [haR 51 860, haI (k), v2]) (st' := [haI (7), haR 56 866, haI (7), haR 56 866]) hF (haEt hT (e := (45, 63, 0, 0, 0, [])) (k := 195) (pc := 63) (by decide) (by decide +kernel) rfl) rfl (fun RG => avS45) (fun nx => rfl) ?_
      refine ha_iald (r := 56) hF (haEt hT (e := (64, 64, 0, 0, 0, [])) (k := 195) (pc := 64) (by decide) (by decide +kernel) rfl) rfl rfl (by decide +kernel) (by omega) (by show _ < (1745 : Int); omega) ?_
      refine ha_s (pc' := 66) (ls' := [haR 51 860, haI (k), v2]) (st' := [haI (1), haI (nu 866 (7)), haI (7), haR 56 866]) hF (haEt hT (e := (1, 65, 0, 0, 9223372036854775809, [])) (k := 195) (pc := 65) (by decide) (by decide +kernel) rfl) rfl (fun RG => avS1) (fun nx => rfl) ?_
      refine ha_iadd hF (haEt hT (e := (21, 66, 0, 0, 0, [])) (k := 195) (pc := 66) (by decide) (by decide +kernel) rfl) rfl rfl (by omega) (by omega) ?_
      refine ha_iast (r := 56) hF (haEt hT (e := (69, 67, 0, 0, 0, [])) (k := 195) (pc := 67) (by decide) (by decide +kernel) rfl) rfl rfl (by decide +kernel) (by omega) (by show _ < (1745 : Int); omega) (by rfl) (by omega) (by omega) ?_
      exact hR 68 _ _ _ none (82, 68, 0, 0, 0, []) (haEt hT (e := (82, 68, 0, 0, 0, [])) (k := 195) (pc := 68) (by decide) (by decide +kernel) rfl) rfl (Or.inl ⟨rfl, rfl, rfl⟩) ⟨rfl, fun j i hg a1 a2 a3 => by rw [haUp_n (fun z => a2 z)]; exact h1 j i hg (fun z => a1 ⟨z.1, by omega, by omega⟩) a3, Or.inr (by rw [haUp_s, h7])⟩
  have loop : ∀ (mm : Nat) (nu : haMu) (mo : Int), 3 - nu 866 k < (mm : Int) → (∀ (j : Nat) (i : Int), haGd j i → ¬ (j = 866 ∧ k ≤ i ∧ i ≤ k + 12) → ¬ j = 860 → nu j i = mu j i) → haW x nu 24 [haR 51 860, haI (k), haI (mo)] [] := by
    intro mm
    induction mm with
    | zero =>
      intro nu mo hm h1
      refine ha_bd (j := 866) (r := 56) (i := k) (lo := 0) (up := 3) hF (by decide) (by decide +kernel) (Or.inl (by decide +kernel)) (by omega) (by show _ < (1745 : Int); omega) (haFk hb hk) (fun u1 u2 => ?_)
      omega
    | succ mm ih =>
      intro nu mo hm h1
      refine ha_s (pc' := 25) (ls' := [haR 51 860, haI (k), haI (mo)]) (st' := [haI (mo)]) hF (haEt hT (e := (9, 24, 0, 2, 0, [])) (k := 195) (pc := 24) (by decide) (by decide +kernel) rfl) rfl (fun RG => avS9) (fun nx => rfl) ?_
      refine ha_ifeq hF (haEt hT (e := (46, 25, 50, 0, 0, [])) (k := 195) (pc := 25) (by decide) (by decide +kernel) rfl) rfl rfl rfl (fun _ => j50 nu _ h1) (fun _ => ?_)
      refine ha_s (pc' := 29) (ls' := [haR 51 860, haI (k), haI (mo)]) (st' := [haR 51 860]) hF (haEt hT (e := (13, 28, 0, 0, 0, [])) (k := 195) (pc := 28) (by decide) (by decide +kernel) rfl) rfl (fun RG => avS13) (fun nx => rfl) ?_
      refine ha_callV (q := 186) (d' := d) (r := 51) (j := 860) (as := []) (rest := []) hT hF (haEt hT (e := (78, 29, 186, 0, 177, [1516, 1518, 38])) (k := 195) (pc := 29) (by decide) (by decide +kernel) rfl) rfl rfl rfl (by decide +kernel) (by decide +kernel) (hm_good hT) (by omega) rfl (show 0 = (abMe 186).2.1 from by decide +kernel) (show 0 + (abMe 186).1.2.2.1 ≤ 49 from by decide +kernel) (fun o ku h => ?_)
      obtain ⟨z, rfl, e9, hz⟩ := h
      have e9 := e9.symm
      subst e9
      show haW x nu 32 [haR 51 860, haI (k), haI (mo)] [haI z]
      refine ha_ifeq hF (haEt hT (e := (46, 32, 50, 0, 0, [])) (k := 195) (pc := 32) (by decide) (by decide +kernel) rfl) rfl rfl rfl (fun _ => j50 nu _ h1) (fun _ => ?_)
      refine ha_s (pc' := 36) (ls' := [haR 51 860, haI (k), haI (mo)]) (st' := [haR 51 860]) hF (haEt hT (e := (13, 35, 0, 0, 0, [])) (k := 195) (pc := 35) (by decide) (by decide +kernel) rfl) rfl (fun RG => avS13) (fun nx => rfl) ?_
      refine ha_s (pc' := 37) (ls' := [haR 51 860, haI (k), haI (mo)]) (st' := [haI (k), haR 51 860]) hF (haEt hT (e := (9, 36, 0, 1, 0, [])) (k := 195) (pc := 36) (by decide) (by decide +kernel) rfl) rfl (fun RG => avS9) (fun nx => rfl) ?_
      refine ha_callV (q := 196) (d' := d + 3) (r := 51) (j := 860) (as := [haI k]) (rest := []) hT hF (haEt hT (e := (78, 37, 196, 0, 246, [1571, 1573, 48])) (k := 195) (pc := 37) (by decide) (by decide +kernel) rfl) rfl rfl rfl (by decide +kernel) (by decide +kernel) (hm_readCond hT hb hk) (by omega) rfl (show 1 = (abMe 196).2.1 from by decide +kernel) (show 0 + (abMe 196).1.2.2.1 ≤ 49 from by decide +kernel) (fun o k1 h => ?_)
      obtain ⟨rfl, g1, g2⟩ := h
      replace g1 : ∀ (j : Nat) (i : Int), haGd j i → ¬ (j = 866 ∧ k ≤ i ∧ i ≤ k + 12) → ¬ j = 860 → k1 j i = mu j i := fun j i hg a1 a2 => (g1 j i hg a1 a2).trans (h1 j i hg a1 a2)
      show haW x k1 40 [haR 51 860, haI (k), haI (mo)] []
      refine ha_s (pc' := 41) (ls' := [haR 51 860, haI (k), haI (mo)]) (st' := [haR 51 860]) hF (haEt hT (e := (13, 40, 0, 0, 0, [])) (k := 195) (pc := 40) (by decide) (by decide +kernel) rfl) rfl (fun RG => avS13) (fun nx => rfl) ?_
      refine ha_opE (e := (93, 41, 40, 0, 249, [])) (F := avOldS 2) hF rfl (fun RG => avN195_41) (fun nx hn => hn 43 [haR 51 860, haI (k), haI (mo)] [haX 40, haR 51 860] ?_)
      rcases g2 with g2 | g2
      · skip
        refine ha_callV (q := 190) (d' := d + 2) (r := 51) (j := 860) (as := [haX 40]) (rest := []) hT hF (haEt hT (e := (78, 43, 190, 0, 201, [1538, 1540, 42])) (k := 195) (pc := 43) (by decide) (by decide +kernel) rfl) rfl rfl rfl (by decide +kernel) (by decide +kernel) (hm_takesBad hT g2) (by omega) rfl (show 1 = (abMe 190).2.1 from by decide +kernel) (show 0 + (abMe 190).1.2.2.1 ≤ 49 from by decide +kernel) (fun o ku h => ?_)
        obtain ⟨rfl, e9⟩ := h
        have e9 := e9.symm
        subst e9
        show haW x k1 46 [haR 51 860, haI (k), haI (mo)] [haI 0]
        refine ha_s (pc' := 47) (ls' := [haR 51 860, haI (k), haI (0)]) (st' := []) hF (haEt hT (e := (15, 46, 0, 2, 0, [])) (k := 195) (pc := 46) (by decide) (by decide +kernel) rfl) rfl (fun RG => avS15) (fun nx => rfl) ?_
        refine ha_s (pc' := 24) (ls' := [haR 51 860, haI (k), haI (0)]) (st' := []) hF (haEt hT (e := (58, 47, 24, 0, 0, [])) (k := 195) (pc := 47) (by decide) (by decide +kernel) rfl) rfl (fun RG => avS58) (fun nx => rfl) ?_
        refine ha_s (pc' := 25) (ls' := [haR 51 860, haI (k), haI (0)]) (st' := [haI (0)]) hF (haEt hT (e := (9, 24, 0, 2, 0, [])) (k := 195) (pc := 24) (by decide) (by decide +kernel) rfl) rfl (fun RG => avS9) (fun nx => rfl) ?_
        refine ha_ifeq hF (haEt hT (e := (46, 25, 50, 0, 0, [])) (k := 195) (pc := 25) (by decide) (by decide +kernel) rfl) rfl rfl rfl (fun _ => j50 k1 _ g1) (fun q => absurd rfl q)
      · skip
        refine ha_callV (q := 190) (d' := 2) (r := 51) (j := 860) (as := [haX 40]) (rest := []) hT hF (haEt hT (e := (78, 43, 190, 0, 201, [1538, 1540, 42])) (k := 195) (pc := 43) (by decide) (by decide +kernel) rfl) rfl rfl rfl (by decide +kernel) (by decide +kernel) (hm_takes40 hT) (by omega) rfl (show 1 = (abMe 190).2.1 from by decide +kernel) (show 0 + (abMe 190).1.2.2.1 ≤ 49 from by decide +kernel) (fun o k2 h => ?_)
        obtain ⟨⟨z2, rfl, -, -⟩, f2⟩ := h
        have f3 := f2 866 k (haGd_f (Or.inr (by omega)))
        show haW x k2 46 [haR 51 860, haI (k), haI (mo)] [haI z2]
        refine ha_s (pc' := 47) (ls' := [haR 51 860, haI (k), haI (z2)]) (st' := []) hF (haEt hT (e := (15, 46, 0, 2, 0, [])) (k := 195) (pc := 46) (by decide) (by decide +kernel) rfl) rfl (fun RG => avS15) (fun nx => rfl) ?_
        refine ha_s (pc' := 24) (ls' := [haR 51 860, haI (k), haI (z2)]) (st' := []) hF (haEt hT (e := (58, 47, 24, 0, 0, [])) (k := 195) (pc := 47) (by decide) (by decide +kernel) rfl) rfl (fun RG => avS58) (fun nx => rfl) ?_
        exact ih k2 z2 (by rw [f3, g2]; omega) (fun j i hg a1 a2 => (f2 j i hg).trans (g1 j i hg a1 a2))
  refine ha_s (pc' := 3) (ls' := [haR 51 860, avJ, avJ]) (st' := [haI (130)]) hF (haEt hT (e := (3, 0, 0, 0, 9223372036854775938, [])) (k := 195) (pc := 0) (by decide) (by decide +kernel) rfl) rfl (fun RG => avS3) (fun nx => rfl) ?_
  refine ha_s (pc' := 5) (ls' := [haR 51 860, avJ, avJ]) (st' := [haI (13), haI (130)]) hF (haEt hT (e := (2, 3, 0, 0, 9223372036854775821, [])) (k := 195) (pc := 3) (by decide) (by decide +kernel) rfl) rfl (fun RG => avS2) (fun nx => rfl) ?_
  refine ha_s (pc' := 6) (ls' := [haR 51 860, avJ, avJ]) (st' := [haR 51 860, haI (13), haI (130)]) hF (haEt hT (e := (13, 5, 0, 0, 0, [])) (k := 195) (pc := 5) (by decide) (by decide +kernel) rfl) rfl (fun RG => avS13) (fun nx => rfl) ?_
  refine ha_getR (r := 51) (j := 860) (i := 14) (r' := 56) (j' := 866) hF (haEt hT (e := (60, 6, 12, 14, 34, [1357])) (k := 195) (pc := 6) (by decide) (by decide +kernel) rfl) rfl rfl rfl (by decide +kernel) (by decide) (by decide +kernel) (by rfl) ?_
  refine ha_s (pc' := 11) (ls' := [haR 51 860, avJ, avJ]) (st' := [haI (7), haR 56 866, haI (13), haI (130)]) hF (haEt hT (e := (2, 9, 0, 0, 9223372036854775815, [])) (k := 195) (pc := 9) (by decide) (by decide +kernel) rfl) rfl (fun RG => avS2) (fun nx => rfl) ?_
  refine ha_iald (r := 56) hF (haEt hT (e := (64, 11, 0, 0, 0, [])) (k := 195) (pc := 11) (by decide) (by decide +kernel) rfl) rfl rfl (by decide +kernel) (by omega) (by show _ < (1745 : Int); omega) ?_
  rw [← hb0]
  refine ha_imul hF (haEt hT (e := (23, 12, 0, 0, 0, [])) (k := 195) (pc := 12) (by decide) (by decide +kernel) rfl) rfl rfl (by omega) (by omega) ?_
  refine ha_iadd hF (haEt hT (e := (21, 13, 0, 0, 0, [])) (k := 195) (pc := 13) (by decide) (by decide +kernel) rfl) rfl rfl (by omega) (by omega) ?_
  rw [show 130 + (b) * (13) = k by omega]
  refine ha_s (pc' := 15) (ls' := [haR 51 860, haI (k), avJ]) (st' := []) hF (haEt hT (e := (15, 14, 0, 1, 0, [])) (k := 195) (pc := 14) (by decide) (by decide +kernel) rfl) rfl (fun RG => avS15) (fun nx => rfl) ?_
  refine ha_s (pc' := 16) (ls' := [haR 51 860, haI (k), avJ]) (st' := [haR 51 860]) hF (haEt hT (e := (13, 15, 0, 0, 0, [])) (k := 195) (pc := 15) (by decide) (by decide +kernel) rfl) rfl (fun RG => avS13) (fun nx => rfl) ?_
  refine ha_getR (r := 51) (j := 860) (i := 14) (r' := 56) (j' := 866) hF (haEt hT (e := (60, 16, 12, 14, 34, [1357])) (k := 195) (pc := 16) (by decide) (by decide +kernel) rfl) rfl rfl rfl (by decide +kernel) (by decide) (by decide +kernel) (by rfl) ?_
  refine ha_s (pc' := 20) (ls' := [haR 51 860, haI (k), avJ]) (st' := [haI (k), haR 56 866]) hF (haEt hT (e := (9, 19, 0, 1, 0, [])) (k := 195) (pc := 19) (by decide) (by decide +kernel) rfl) rfl (fun RG => avS9) (fun nx => rfl) ?_
  refine ha_s (pc' := 21) (ls' := [haR 51 860, haI (k), avJ]) (st' := [haI (0), haI (k), haR 56 866]) hF (haEt hT (e := (1, 20, 0, 0, 9223372036854775808, [])) (k := 195) (pc := 20) (by decide) (by decide +kernel) rfl) rfl (fun RG => avS1) (fun nx => rfl) ?_
  refine ha_iast (r := 56) hF (haEt hT (e := (69, 21, 0, 0, 0, [])) (k := 195) (pc := 21) (by decide) (by decide +kernel) rfl) rfl rfl (by decide +kernel) (by omega) (by show _ < (1745 : Int); omega) (haFk hb hk) (by omega) (by omega) ?_
  refine ha_s (pc' := 23) (ls' := [haR 51 860, haI (k), avJ]) (st' := [haI (1)]) hF (haEt hT (e := (1, 22, 0, 0, 9223372036854775809, [])) (k := 195) (pc := 22) (by decide) (by decide +kernel) rfl) rfl (fun RG => avS1) (fun nx => rfl) ?_
  refine ha_s (pc' := 24) (ls' := [haR 51 860, haI (k), haI (1)]) (st' := []) hF (haEt hT (e := (15, 23, 0, 2, 0, [])) (k := 195) (pc := 23) (by decide) (by decide +kernel) rfl) rfl (fun RG => avS15) (fun nx => rfl) ?_
  refine loop 4 _ 1 (by rw [haUp_s]; omega) (fun j i hg a1 a2 => by rw [haUp_n (fun z => a1 ⟨z.1, by omega, by omega⟩)])
