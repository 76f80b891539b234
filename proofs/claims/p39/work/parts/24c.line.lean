/-! TallBinsModel.readLine -/
theorem haFb1 : ∀ b : Nat, b < 30 → avEqS ((avRT.get 56).2.2.get (40 + 3 * b)) (0, 0, 9999) = true ∧ avEqS ((avRT.get 56).2.2.get (40 + 3 * b + 1)) (0, 0, 9999) = true ∧ avEqS ((avRT.get 56).2.2.get (40 + 3 * b + 2)) (0, 0, 9) = true := by decide +kernel
theorem haFb {k b : Int} (hb : 0 ≤ b ∧ b ≤ 29) (hk : k = 40 + 3 * b) : (avRT.get 56).2.2.get k.toNat = (0, 0, 9999) ∧ (avRT.get 56).2.2.get (k + 1).toNat = (0, 0, 9999) ∧ (avRT.get 56).2.2.get (k + 2).toNat = (0, 0, 9) := by
  obtain ⟨h0, h1, h2⟩ := haFb1 b.toNat (by omega)
  rw [show 40 + 3 * b.toNat = k.toNat by omega] at h0 h1 h2
  rw [show k.toNat + 1 = (k + 1).toNat by omega] at h1
  rw [show k.toNat + 2 = (k + 2).toNat by omega] at h2
  exact ⟨avEqS_ok h0, avEqS_ok h1, avEqS_ok h2⟩
/-- the counts of a TEXT that is read -/
def haLi (nu : haMu) : Prop := (0 ≤ nu 866 5 ∧ nu 866 5 ≤ 30) ∧ (0 ≤ nu 866 6 ∧ nu 866 6 ≤ nu 866 5) ∧ (0 ≤ nu 866 7 ∧ nu 866 7 ≤ nu 866 5)
def haLf (mu nu : haMu) : Prop := ∀ (j : Nat) (i : Int), haGd j i → ¬ j = 866 → ¬ j = 860 → nu j i = mu j i
theorem haLi.eq {mu nu : haMu} (h : haLi mu) (h5 : nu 866 5 = mu 866 5) (h6 : nu 866 6 = mu 866 6) (h7 : nu 866 7 = mu 866 7) : haLi nu := by
  unfold haLi
  rw [h5, h6, h7]
  exact h
theorem haFm567 {mu nu : haMu} (h : haFm mu nu) : nu 866 5 = mu 866 5 ∧ nu 866 6 = mu 866 6 ∧ nu 866 7 = mu 866 7 := ⟨h 866 5 (haGd_f (Or.inl ⟨by omega, by omega⟩)), h 866 6 (haGd_f (Or.inl ⟨by omega, by omega⟩)), h 866 7 (haGd_f (Or.inl ⟨by omega, by omega⟩))⟩
/-- before a line is counted: all stays; behind: the counts -/
def haLa (mu nu : haMu) : Prop := haLf mu nu ∧ nu 866 5 = mu 866 5 ∧ nu 866 6 = mu 866 6 ∧ nu 866 7 = mu 866 7
theorem haLa.fm {mu nu nu' : haMu} (h : haLa mu nu) (f : haFm nu nu') : haLa mu nu' := by
  obtain ⟨e5, e6, e7⟩ := haFm567 f
  exact ⟨fun j i hg a1 a2 => (f j i hg).trans (h.1 j i hg a1 a2), e5.trans h.2.1, e6.trans h.2.2.1, e7.trans h.2.2.2⟩
theorem haLa.wr {mu nu nu' : haMu} (h : haLa mu nu) (f : ∀ (j : Nat) (i : Int), ¬ j = 860 → nu' j i = nu j i) : haLa mu nu' := ⟨fun j i hg a1 a2 => (f j i a2).trans (h.1 j i hg a1 a2), (f 866 5 (by decide)).trans h.2.1, (f 866 6 (by decide)).trans h.2.2.1, (f 866 7 (by decide)).trans h.2.2.2⟩
theorem haLa.li {mu nu : haMu} (h : haLa mu nu) (hL : haLi mu) : haLi nu := hL.eq h.2.1 h.2.2.1 h.2.2.2
theorem haLa.up {mu nu : haMu} {c v : Int} (h : haLa mu nu) (hc : 40 ≤ c) : haLa mu (haUp nu 866 c v) := ⟨fun j i hg a1 a2 => by
    rw [haUp_n (fun z => a1 z.1)]
    exact h.1 j i hg a1 a2, by rw [haUp_n (fun z => by omega)]; exact h.2.1, by rw [haUp_n (fun z => by omega)]; exact h.2.2.1, by rw [haUp_n (fun z => by omega)]; exact h.2.2.2⟩
theorem hm_readLine (hT : abTabs) {d : Nat} {mu : haMu} (hL : haLi mu) : haSp 187 (d + 5) [haR 51 860] mu (fun o mu' => o = none ∧ haLi mu' ∧ (¬ mu' 860 12 = 0 ∨ mu' 866 5 = mu 866 5 + 1) ∧ haLf mu mu') := by
  refine haMet (by decide) (hT.1 187 (by decide)) (haLe5 rfl) (show 1 ≤ (abMe 187).1.2.2.1 from by decide +kernel) (fun x hF hR => ?_)
  have j210 : ∀ (nu : haMu) (v1 : avV), haLf mu nu → haLi nu → nu 866 5 = mu 866 5 + 1 → haW x nu 210 [haR 51 860, v1] [] := by
    intro nu v1 h1 h2 h3
    have j224 : ∀ nu : haMu, haLf mu nu → haLi nu → nu 866 5 = mu 866 5 + 1 → haW x nu 224 [haR 51 860, v1] [] := by
      intro nu h1 h2 h3
      refine ha_s (pc' := 225) (ls' := [haR 51 860, v1]) (st' := [haR 51 860]) hF (haEt hT (e := (13, 224, 0, 0, 0, [])) (k := 187) (pc := 224) (by decide) (by decide +kernel) rfl) rfl (fun RG => avS13) (fun nx => rfl) ?_
      refine ha_callV (q := 186) (d' := d) (r := 51) (j := 860) (as := []) (rest := []) hT hF (haEt hT (e := (78, 225, 186, 0, 177, [1516, 1518, 38])) (k := 187) (pc := 225) (by decide) (by decide +kernel) rfl) rfl rfl rfl (by decide +kernel) (by decide +kernel) (hm_good hT) (by omega) rfl (show 0 = (abMe 186).2.1 from by decide +kernel) (show 0 + (abMe 186).1.2.2.1 ≤ 49 from by decide +kernel) (fun o ku h => ?_)
      obtain ⟨z, rfl, e9, hz⟩ := h
      have e9 := e9.symm
      subst e9
      show haW x nu 228 [haR 51 860, v1] [haI z]
      refine ha_ifeq hF (haEt hT (e := (46, 228, 235, 0, 0, [])) (k := 187) (pc := 228) (by decide) (by decide +kernel) rfl) rfl rfl rfl (fun _ => ?_) (fun _ => ?_)
      · skip
        exact hR 235 _ _ _ none (82, 235, 0, 0, 0, []) (haEt hT (e := (82, 235, 0, 0, 0, [])) (k := 187) (pc := 235) (by decide) (by decide +kernel) rfl) rfl (Or.inl ⟨rfl, rfl, rfl⟩) ⟨rfl, h2, Or.inr h3, h1⟩
      · refine ha_s (pc' := 232) (ls' := [haR 51 860, v1]) (st' := [haR 51 860]) hF (haEt hT (e := (13, 231, 0, 0, 0, [])) (k := 187) (pc := 231) (by decide) (by decide +kernel) rfl) rfl (fun RG => avS13) (fun nx => rfl) ?_
        refine ha_callV (q := 184) (d' := 1) (r := 51) (j := 860) (as := []) (rest := []) hT hF (haEt hT (e := (78, 232, 184, 0, 195, [1502, 1504, 36])) (k := 187) (pc := 232) (by decide) (by decide +kernel) rfl) rfl rfl rfl (by decide +kernel) (by decide +kernel) (hm_step hT) (by omega) rfl (show 0 = (abMe 184).2.1 from by decide +kernel) (show 0 + (abMe 184).1.2.2.1 ≤ 49 from by decide +kernel) (fun o k1 h => ?_)
        obtain ⟨rfl, f⟩ := h
        obtain ⟨e5, e6, e7⟩ := haFm567 f
        show haW x k1 235 [haR 51 860, v1] []
        exact hR 235 _ _ _ none (82, 235, 0, 0, 0, []) (haEt hT (e := (82, 235, 0, 0, 0, [])) (k := 187) (pc := 235) (by decide) (by decide +kernel) rfl) rfl (Or.inl ⟨rfl, rfl, rfl⟩) ⟨rfl, h2.eq e5 e6 e7, Or.inr (e5.trans h3), fun j i hg a1 a2 => (f j i hg).trans (h1 j i hg a1 a2)⟩
    refine ha_s (pc' := 211) (ls' := [haR 51 860, v1]) (st' := [haR 51 860]) hF (haEt hT (e := (13, 210, 0, 0, 0, [])) (k := 187) (pc := 210) (by decide) (by decide +kernel) rfl) rfl (fun RG => avS13) (fun nx => rfl) ?_
    refine ha_s (pc' := 213) (ls' := [haR 51 860, v1]) (st' := [haI (59), haR 51 860]) hF (haEt hT (e := (2, 211, 0, 0, 9223372036854775867, [])) (k := 187) (pc := 211) (by decide) (by decide +kernel) rfl) rfl (fun RG => avS2) (fun nx => rfl) ?_
    refine ha_callV (q := 198) (d' := d + 1) (r := 51) (j := 860) (as := [haI 59]) (rest := []) hT hF (haEt hT (e := (78, 213, 198, 0, 243, [1586, 1588, 50])) (k := 187) (pc := 213) (by decide) (by decide +kernel) rfl) rfl rfl rfl (by decide +kernel) (by decide +kernel) (hm_isSign hT) (by omega) rfl (show 1 = (abMe 198).2.1 from by decide +kernel) (show 0 + (abMe 198).1.2.2.1 ≤ 49 from by decide +kernel) (fun o ku h => ?_)
    obtain ⟨z, rfl, e9, -, -⟩ := h
    have e9 := e9.symm
    subst e9
    show haW x nu 216 [haR 51 860, v1] [haI z]
    refine ha_ifne hF (haEt hT (e := (47, 216, 224, 0, 0, [])) (k := 187) (pc := 216) (by decide) (by decide +kernel) rfl) rfl rfl rfl (fun _ => j224 nu h1 h2 h3) (fun _ => ?_)
    refine ha_s (pc' := 220) (ls' := [haR 51 860, v1]) (st' := [haR 51 860]) hF (haEt hT (e := (13, 219, 0, 0, 0, [])) (k := 187) (pc := 219) (by decide) (by decide +kernel) rfl) rfl (fun RG => avS13) (fun nx => rfl) ?_
    refine ha_s (pc' := 221) (ls' := [haR 51 860, v1]) (st' := [haI (1), haR 51 860]) hF (haEt hT (e := (1, 220, 0, 0, 9223372036854775809, [])) (k := 187) (pc := 220) (by decide) (by decide +kernel) rfl) rfl (fun RG => avS1) (fun nx => rfl) ?_
    refine ha_callV (q := 189) (d' := d + 1) (r := 51) (j := 860) (as := [haI 1]) (rest := []) hT hF (haEt hT (e := (78, 221, 189, 0, 198, [1534, 1536, 41])) (k := 187) (pc := 221) (by decide) (by decide +kernel) rfl) rfl rfl rfl (by decide +kernel) (by decide +kernel) (hm_wrong hT ⟨by omega, by omega⟩) (by omega) rfl (show 1 = (abMe 189).2.1 from by decide +kernel) (show 0 + (abMe 189).1.2.2.1 ≤ 49 from by decide +kernel) (fun o k1 h => ?_)
    obtain ⟨rfl, b1, b2⟩ := h
    show haW x k1 224 [haR 51 860, v1] []
    exact j224 k1 (fun j i hg a1 a2 => (b2 j i a2).trans (h1 j i hg a1 a2)) (h2.eq (b2 866 5 (by decide)) (b2 866 6 (by decide)) (b2 866 7 (by decide))) ((b2 866 5 (by decide)).trans h3)
  have j61 : ∀ nu : haMu, haLa mu nu → (nu 866 5 = 30 → ¬ nu 860 12 = 0) → haW x nu 61 [haR 51 860, avJ] [] := by
    intro nu h1 h2
    have hl := h1.li hL
    refine ha_s (pc' := 62) (ls' := [haR 51 860, avJ]) (st' := [haR 51 860]) hF (haEt hT (e := (13, 61, 0, 0, 0, [])) (k := 187) (pc := 61) (by decide) (by decide +kernel) rfl) rfl (fun RG => avS13) (fun nx => rfl) ?_
    refine ha_callV (q := 186) (d' := d) (r := 51) (j := 860) (as := []) (rest := []) hT hF (haEt hT (e := (78, 62, 186, 0, 177, [1516, 1518, 38])) (k := 187) (pc := 62) (by decide) (by decide +kernel) rfl) rfl rfl rfl (by decide +kernel) (by decide +kernel) (hm_good hT) (by omega) rfl (show 0 = (abMe 186).2.1 from by decide +kernel) (show 0 + (abMe 186).1.2.2.1 ≤ 49 from by decide +kernel) (fun o ku h => ?_)
    obtain ⟨z, rfl, e9, hz⟩ := h
    have e9 := e9.symm
    subst e9
    show haW x nu 65 [haR 51 860, avJ] [haI z]
    refine ha_ifne hF (haEt hT (e := (47, 65, 69, 0, 0, [])) (k := 187) (pc := 65) (by decide) (by decide +kernel) rfl) rfl rfl rfl (fun q => ?_) (fun q => ?_)
    rotate_left
    · skip
      exact hR 68 _ _ _ none (82, 68, 0, 0, 0, []) (haEt hT (e := (82, 68, 0, 0, 0, [])) (k := 187) (pc := 68) (by decide) (by decide +kernel) rfl) rfl (Or.inl ⟨rfl, rfl, rfl⟩) ⟨rfl, hl, Or.inl (by omega), h1.1⟩
    have h29 : nu 866 5 ≤ 29 := by
      have := hl.1.2
      omega
    have e5 := h1.2.1
    refine ha_s (pc' := 70) (ls' := [haR 51 860, avJ]) (st' := [haR 51 860]) hF (haEt hT (e := (13, 69, 0, 0, 0, [])) (k := 187) (pc := 69) (by decide) (by decide +kernel) rfl) rfl (fun RG => avS13) (fun nx => rfl) ?_
    refine ha_getR (r := 51) (j := 860) (i := 14) (r' := 56) (j' := 866) hF (haEt hT (e := (60, 70, 12, 14, 34, [1357])) (k := 187) (pc := 70) (by decide) (by decide +kernel) rfl) rfl rfl rfl (by decide +kernel) (by decide) (by decide +kernel) (by rfl) ?_
    refine ha_s (pc' := 74) (ls' := [haR 51 860, avJ]) (st' := [haI (5), haR 56 866]) hF (haEt hT (e := (1, 73, 0, 0, 9223372036854775813, [])) (k := 187) (pc := 73) (by decide) (by decide +kernel) rfl) rfl (fun RG => avS1) (fun nx => rfl) ?_
    refine ha_s (pc' := 75) (ls' := [haR 51 860, avJ]) (st' := [haI (5), haR 56 866, haI (5), haR 56 866]) hF (haEt hT (e := (45, 74, 0, 0, 0, [])) (k := 187) (pc := 74) (by decide) (by decide +kernel) rfl) rfl (fun RG => avS45) (fun nx => rfl) ?_
    refine ha_iald (r := 56) hF (haEt hT (e := (64, 75, 0, 0, 0, [])) (k := 187) (pc := 75) (by decide) (by decide +kernel) rfl) rfl rfl (by decide +kernel) (by omega) (by show _ < (1745 : Int); omega) ?_
    refine ha_s (pc' := 77) (ls' := [haR 51 860, avJ]) (st' := [haI (1), haI (nu 866 (5)), haI (5), haR 56 866]) hF (haEt hT (e := (1, 76, 0, 0, 9223372036854775809, [])) (k := 187) (pc := 76) (by decide) (by decide +kernel) rfl) rfl (fun RG => avS1) (fun nx => rfl) ?_
    refine ha_iadd hF (haEt hT (e := (21, 77, 0, 0, 0, [])) (k := 187) (pc := 77) (by decide) (by decide +kernel) rfl) rfl rfl (by have := hl.1; omega) (by have := hl.1; omega) ?_
    refine ha_iast (r := 56) hF (haEt hT (e := (69, 78, 0, 0, 0, [])) (k := 187) (pc := 78) (by decide) (by decide +kernel) rfl) rfl rfl (by decide +kernel) (by omega) (by show _ < (1745 : Int); omega) (by rfl) (by have := hl.1; omega) (by omega) ?_
    have g0 : haLf mu (haUp nu 866 5 (nu 866 5 + 1)) := fun j i hg a1 a2 => by
      rw [haUp_n (fun z => a1 z.1)]
      exact h1.1 j i hg a1 a2
    have g5 : haUp nu 866 5 (nu 866 5 + 1) 866 5 = mu 866 5 + 1 := by rw [haUp_s, h1.2.1]
    have gl : haLi (haUp nu 866 5 (nu 866 5 + 1)) := by
      obtain ⟨⟨a1, a2⟩, ⟨a3, a4⟩, a5, a6⟩ := hl
      unfold haLi
      rw [haUp_s, haUp_n (fun z => absurd z.2 (by decide)), haUp_n (fun z => absurd z.2 (by decide))]
      omega
    have gb : haUp nu 866 5 (nu 866 5 + 1) 866 7 ≤ 29 ∧ haUp nu 866 5 (nu 866 5 + 1) 866 6 ≤ 29 := by
      obtain ⟨⟨a1, a2⟩, ⟨a3, a4⟩, a5, a6⟩ := hl
      rw [haUp_n (fun z => absurd z.2 (by decide)), haUp_n (fun z => absurd z.2 (by decide))]
      omega
    have gs : 0 ≤ haUp nu 866 5 (nu 866 5 + 1) 866 5 - 1 ∧ haUp nu 866 5 (nu 866 5 + 1) 866 6 ≤ haUp nu 866 5 (nu 866 5 + 1) 866 5 - 1 ∧ haUp nu 866 5 (nu 866 5 + 1) 866 7 ≤ haUp nu 866 5 (nu 866 5 + 1) 866 5 - 1 := by
      obtain ⟨⟨a1, a2⟩, ⟨a3, a4⟩, a5, a6⟩ := hl
      rw [haUp_s, haUp_n (fun z => absurd z.2 (by decide)), haUp_n (fun z => absurd z.2 (by decide))]
      omega
    generalize haUp nu 866 5 (nu 866 5 + 1) = m1 at g0 g5 gl gb gs ⊢
    have fin : ∀ (k : haMu) (v1 : avV), haLa m1 k → haW x k 210 [haR 51 860, v1] [] := fun k v1 g => j210 k v1 (fun j i hg a1 a2 => (g.1 j i hg a1 a2).trans (g0 j i hg a1 a2)) (g.li gl) (g.2.1.trans g5)
    have a0 : haLa m1 m1 := ⟨fun _ _ _ _ _ => rfl, rfl, rfl, rfl⟩
    clear h1 h2 hl
    refine ha_s (pc' := 80) (ls' := [haR 51 860, avJ]) (st' := [haR 51 860]) hF (haEt hT (e := (13, 79, 0, 0, 0, [])) (k := 187) (pc := 79) (by decide) (by decide +kernel) rfl) rfl (fun RG => avS13) (fun nx => rfl) ?_
    refine ha_opE (e := (93, 80, 22, 0, 251, [])) (F := avOldS 2) hF rfl (fun RG => avN187_80) (fun nx hn => hn 82 [haR 51 860, avJ] [haX 22, haR 51 860] ?_)
    refine ha_callV (q := 190) (d' := 2) (r := 51) (j := 860) (as := [haX 22]) (rest := []) hT hF (haEt hT (e := (78, 82, 190, 0, 201, [1538, 1540, 42])) (k := 187) (pc := 82) (by decide) (by decide +kernel) rfl) rfl rfl rfl (by decide +kernel) (by decide +kernel) (hm_takes22 hT) (by omega) rfl (show 1 = (abMe 190).2.1 from by decide +kernel) (show 0 + (abMe 190).1.2.2.1 ≤ 49 from by decide +kernel) (fun o k1 h => ?_)
    obtain ⟨⟨z1, rfl, -, -⟩, f1⟩ := h
    replace f1 := a0.fm f1
    show haW x k1 85 [haR 51 860, avJ] [haI z1]
    refine ha_ifeq hF (haEt hT (e := (46, 85, 95, 0, 0, [])) (k := 187) (pc := 85) (by decide) (by decide +kernel) rfl) rfl rfl rfl (fun _ => ?_) (fun _ => ?_)
    rotate_left
    · refine ha_s (pc' := 89) (ls' := [haR 51 860, avJ]) (st' := [haR 51 860]) hF (haEt hT (e := (13, 88, 0, 0, 0, [])) (k := 187) (pc := 88) (by decide) (by decide +kernel) rfl) rfl (fun RG => avS13) (fun nx => rfl) ?_
      refine ha_callV (q := 191) (d' := 4) (r := 51) (j := 860) (as := []) (rest := []) hT hF (haEt hT (e := (78, 89, 191, 0, 259, [1542, 1544, 43])) (k := 187) (pc := 89) (by decide) (by decide +kernel) rfl) rfl rfl rfl (by decide +kernel) (by decide +kernel) (hm_readBin hT) (by omega) rfl (show 0 = (abMe 191).2.1 from by decide +kernel) (show 0 + (abMe 191).1.2.2.1 ≤ 49 from by decide +kernel) (fun o k2 h => ?_)
      obtain ⟨rfl, f2⟩ := h
      replace f2 := f1.fm f2
      show haW x k2 92 [haR 51 860, avJ] []
      refine ha_s (pc' := 210) (ls' := [haR 51 860, avJ]) (st' := []) hF (haEt hT (e := (58, 92, 210, 0, 0, [])) (k := 187) (pc := 92) (by decide) (by decide +kernel) rfl) rfl (fun RG => avS58) (fun nx => rfl) ?_
      exact fin k2 _ f2
    refine ha_s (pc' := 96) (ls' := [haR 51 860, avJ]) (st' := [haR 51 860]) hF (haEt hT (e := (13, 95, 0, 0, 0, [])) (k := 187) (pc := 95) (by decide) (by decide +kernel) rfl) rfl (fun RG => avS13) (fun nx => rfl) ?_
    refine ha_opE (e := (93, 96, 23, 0, 253, [])) (F := avOldS 2) hF rfl (fun RG => avN187_96) (fun nx hn => hn 98 [haR 51 860, avJ] [haX 23, haR 51 860] ?_)
    refine ha_callV (q := 190) (d' := 2) (r := 51) (j := 860) (as := [haX 23]) (rest := []) hT hF (haEt hT (e := (78, 98, 190, 0, 201, [1538, 1540, 42])) (k := 187) (pc := 98) (by decide) (by decide +kernel) rfl) rfl rfl rfl (by decide +kernel) (by decide +kernel) (hm_takes23 hT) (by omega) rfl (show 1 = (abMe 190).2.1 from by decide +kernel) (show 0 + (abMe 190).1.2.2.1 ≤ 49 from by decide +kernel) (fun o k2 h => ?_)
    obtain ⟨⟨z2, rfl, -, -⟩, f2⟩ := h
    replace f2 := f1.fm f2
    show haW x k2 101 [haR 51 860, avJ] [haI z2]
    refine ha_ifeq hF (haEt hT (e := (46, 101, 111, 0, 0, [])) (k := 187) (pc := 101) (by decide) (by decide +kernel) rfl) rfl rfl rfl (fun _ => ?_) (fun _ => ?_)
    rotate_left
    · refine ha_s (pc' := 105) (ls' := [haR 51 860, avJ]) (st' := [haR 51 860]) hF (haEt hT (e := (13, 104, 0, 0, 0, [])) (k := 187) (pc := 104) (by decide) (by decide +kernel) rfl) rfl (fun RG => avS13) (fun nx => rfl) ?_
      refine ha_callV (q := 194) (d' := 4) (r := 51) (j := 860) (as := []) (rest := []) hT hF (haEt hT (e := (78, 105, 194, 0, 262, [1559, 1561, 46])) (k := 187) (pc := 105) (by decide) (by decide +kernel) rfl) rfl rfl rfl (by decide +kernel) (by decide +kernel) (hm_readGrain hT) (by omega) rfl (show 0 = (abMe 194).2.1 from by decide +kernel) (show 0 + (abMe 194).1.2.2.1 ≤ 49 from by decide +kernel) (fun o k3 h => ?_)
      obtain ⟨rfl, f3⟩ := h
      replace f3 := f2.fm f3
      show haW x k3 108 [haR 51 860, avJ] []
      refine ha_s (pc' := 210) (ls' := [haR 51 860, avJ]) (st' := []) hF (haEt hT (e := (58, 108, 210, 0, 0, [])) (k := 187) (pc := 108) (by decide) (by decide +kernel) rfl) rfl (fun RG => avS58) (fun nx => rfl) ?_
      exact fin k3 _ f3
    refine ha_s (pc' := 112) (ls' := [haR 51 860, avJ]) (st' := [haR 51 860]) hF (haEt hT (e := (13, 111, 0, 0, 0, [])) (k := 187) (pc := 111) (by decide) (by decide +kernel) rfl) rfl (fun RG => avS13) (fun nx => rfl) ?_
    refine ha_opE (e := (94, 112, 25, 0, 257, [])) (F := avOldS 3) hF rfl (fun RG => avN187_112) (fun nx hn => hn 115 [haR 51 860, avJ] [haX 25, haR 51 860] ?_)
    refine ha_callV (q := 190) (d' := 2) (r := 51) (j := 860) (as := [haX 25]) (rest := []) hT hF (haEt hT (e := (78, 115, 190, 0, 201, [1538, 1540, 42])) (k := 187) (pc := 115) (by decide) (by decide +kernel) rfl) rfl rfl rfl (by decide +kernel) (by decide +kernel) (hm_takes25 hT) (by omega) rfl (show 1 = (abMe 190).2.1 from by decide +kernel) (show 0 + (abMe 190).1.2.2.1 ≤ 49 from by decide +kernel) (fun o k3 h => ?_)
    obtain ⟨⟨z3, rfl, -, -⟩, f3⟩ := h
    replace f3 := f2.fm f3
    show haW x k3 118 [haR 51 860, avJ] [haI z3]
    refine ha_ifeq hF (haEt hT (e := (46, 118, 128, 0, 0, [])) (k := 187) (pc := 118) (by decide) (by decide +kernel) rfl) rfl rfl rfl (fun _ => ?_) (fun _ => ?_)
    rotate_left
    · refine ha_s (pc' := 122) (ls' := [haR 51 860, avJ]) (st' := [haR 51 860]) hF (haEt hT (e := (13, 121, 0, 0, 0, [])) (k := 187) (pc := 121) (by decide) (by decide +kernel) rfl) rfl (fun RG => avS13) (fun nx => rfl) ?_
      refine ha_callV (q := 195) (d' := d + 4) (r := 51) (j := 860) (as := []) (rest := []) hT hF (haEt hT (e := (78, 122, 195, 0, 265, [1567, 1569, 47])) (k := 187) (pc := 122) (by decide) (by decide +kernel) rfl) rfl rfl rfl (by decide +kernel) (by decide +kernel) (hm_readBar hT ⟨by rw [f3.2.2.2]; exact gl.2.2.1, by rw [f3.2.2.2]; exact gb.1⟩) (by omega) rfl (show 0 = (abMe 195).2.1 from by decide +kernel) (show 0 + (abMe 195).1.2.2.1 ≤ 49 from by decide +kernel) (fun o k4 h => ?_)
      obtain ⟨rfl, f4, f5⟩ := h
      have c5 := f4 866 5 (haGd_f (Or.inl ⟨by omega, by omega⟩)) (fun z => by omega) (fun z => absurd z.2 (by decide)) (by decide)
      have c6 := f4 866 6 (haGd_f (Or.inl ⟨by omega, by omega⟩)) (fun z => by omega) (fun z => absurd z.2 (by decide)) (by decide)
      show haW x k4 125 [haR 51 860, avJ] []
      refine ha_s (pc' := 210) (ls' := [haR 51 860, avJ]) (st' := []) hF (haEt hT (e := (58, 125, 210, 0, 0, [])) (k := 187) (pc := 125) (by decide) (by decide +kernel) rfl) rfl (fun RG => avS58) (fun nx => rfl) ?_
      refine j210 k4 _ (fun j i hg a1 a2 => (f4 j i hg (fun z => a1 z.1) (fun z => a1 z.1) a2).trans ((f3.1 j i hg a1 a2).trans (g0 j i hg a1 a2))) ?_ (by rw [c5, f3.2.1, g5])
      obtain ⟨d1, d5, d6, d7⟩ := f3
      obtain ⟨⟨a1, a2⟩, ⟨a3, a4⟩, a5, a6⟩ := gl
      unfold haLi
      rw [c5, c6, d5, d6]
      rw [d7] at f5
      omega
    refine ha_s (pc' := 129) (ls' := [haR 51 860, avJ]) (st' := [haR 51 860]) hF (haEt hT (e := (13, 128, 0, 0, 0, [])) (k := 187) (pc := 128) (by decide) (by decide +kernel) rfl) rfl (fun RG => avS13) (fun nx => rfl) ?_
    refine ha_callV (q := 184) (d' := 1) (r := 51) (j := 860) (as := []) (rest := []) hT hF (haEt hT (e := (78, 129, 184, 0, 195, [1502, 1504, 36])) (k := 187) (pc := 129) (by decide) (by decide +kernel) rfl) rfl rfl rfl (by decide +kernel) (by decide +kernel) (hm_step hT) (by omega) rfl (show 0 = (abMe 184).2.1 from by decide +kernel) (show 0 + (abMe 184).1.2.2.1 ≤ 49 from by decide +kernel) (fun o k4 h => ?_)
    obtain ⟨rfl, f4⟩ := h
    replace f4 := f3.fm f4
    show haW x k4 132 [haR 51 860, avJ] []
    obtain ⟨b, hb0⟩ : ∃ b : Int, b = k4 866 6 := ⟨_, rfl⟩
    have hb : 0 ≤ b ∧ b ≤ 29 := by
      rw [hb0, f4.2.2.1]
      exact ⟨gl.2.1.1, gb.2⟩
    obtain ⟨k, hk⟩ : ∃ k : Int, k = 40 + 3 * b := ⟨_, rfl⟩
    obtain ⟨s0, s1, s2⟩ := haFb hb hk
    refine ha_s (pc' := 134) (ls' := [haR 51 860, avJ]) (st' := [haI (40)]) hF (haEt hT (e := (2, 132, 0, 0, 9223372036854775848, [])) (k := 187) (pc := 132) (by decide) (by decide +kernel) rfl) rfl (fun RG => avS2) (fun nx => rfl) ?_
    refine ha_s (pc' := 135) (ls' := [haR 51 860, avJ]) (st' := [haI (3), haI (40)]) hF (haEt hT (e := (1, 134, 0, 0, 9223372036854775811, [])) (k := 187) (pc := 134) (by decide) (by decide +kernel) rfl) rfl (fun RG => avS1) (fun nx => rfl) ?_
    refine ha_s (pc' := 136) (ls' := [haR 51 860, avJ]) (st' := [haR 51 860, haI (3), haI (40)]) hF (haEt hT (e := (13, 135, 0, 0, 0, [])) (k := 187) (pc := 135) (by decide) (by decide +kernel) rfl) rfl (fun RG => avS13) (fun nx => rfl) ?_
    refine ha_getR (r := 51) (j := 860) (i := 14) (r' := 56) (j' := 866) hF (haEt hT (e := (60, 136, 12, 14, 34, [1357])) (k := 187) (pc := 136) (by decide) (by decide +kernel) rfl) rfl rfl rfl (by decide +kernel) (by decide) (by decide +kernel) (by rfl) ?_
    refine ha_s (pc' := 141) (ls' := [haR 51 860, avJ]) (st' := [haI (6), haR 56 866, haI (3), haI (40)]) hF (haEt hT (e := (2, 139, 0, 0, 9223372036854775814, [])) (k := 187) (pc := 139) (by decide) (by decide +kernel) rfl) rfl (fun RG => avS2) (fun nx => rfl) ?_
    refine ha_iald (r := 56) hF (haEt hT (e := (64, 141, 0, 0, 0, [])) (k := 187) (pc := 141) (by decide) (by decide +kernel) rfl) rfl rfl (by decide +kernel) (by omega) (by show _ < (1745 : Int); omega) ?_
    rw [← hb0]
    refine ha_imul hF (haEt hT (e := (23, 142, 0, 0, 0, [])) (k := 187) (pc := 142) (by decide) (by decide +kernel) rfl) rfl rfl (by omega) (by omega) ?_
    refine ha_iadd hF (haEt hT (e := (21, 143, 0, 0, 0, [])) (k := 187) (pc := 143) (by decide) (by decide +kernel) rfl) rfl rfl (by omega) (by omega) ?_
    rw [show 40 + (b) * (3) = k by omega]
    refine ha_s (pc' := 145) (ls' := [haR 51 860, haI (k)]) (st' := []) hF (haEt hT (e := (15, 144, 0, 1, 0, [])) (k := 187) (pc := 144) (by decide) (by decide +kernel) rfl) rfl (fun RG => avS15) (fun nx => rfl) ?_
    refine ha_s (pc' := 146) (ls' := [haR 51 860, haI (k)]) (st' := [haR 51 860]) hF (haEt hT (e := (13, 145, 0, 0, 0, [])) (k := 187) (pc := 145) (by decide) (by decide +kernel) rfl) rfl (fun RG => avS13) (fun nx => rfl) ?_
    refine ha_getR (r := 51) (j := 860) (i := 14) (r' := 56) (j' := 866) hF (haEt hT (e := (60, 146, 12, 14, 34, [1357])) (k := 187) (pc := 146) (by decide) (by decide +kernel) rfl) rfl rfl rfl (by decide +kernel) (by decide) (by decide +kernel) (by rfl) ?_
    refine ha_s (pc' := 150) (ls' := [haR 51 860, haI (k)]) (st' := [haI (k), haR 56 866]) hF (haEt hT (e := (9, 149, 0, 1, 0, [])) (k := 187) (pc := 149) (by decide) (by decide +kernel) rfl) rfl (fun RG => avS9) (fun nx => rfl) ?_
    refine ha_s (pc' := 151) (ls' := [haR 51 860, haI (k)]) (st' := [haR 51 860, haI (k), haR 56 866]) hF (haEt hT (e := (13, 150, 0, 0, 0, [])) (k := 187) (pc := 150) (by decide) (by decide +kernel) rfl) rfl (fun RG => avS13) (fun nx => rfl) ?_
    refine ha_opE (e := (94, 151, 41, 0, 268, [])) (F := avOldS 3) hF rfl (fun RG => avN187_151) (fun nx hn => hn 154 [haR 51 860, haI (k)] [haX 41, haR 51 860, haI (k), haR 56 866] ?_)
    refine ha_s (pc' := 155) (ls' := [haR 51 860, haI (k)]) (st' := [haI (0), haX 41, haR 51 860, haI (k), haR 56 866]) hF (haEt hT (e := (1, 154, 0, 0, 9223372036854775808, [])) (k := 187) (pc := 154) (by decide) (by decide +kernel) rfl) rfl (fun RG => avS1) (fun nx => rfl) ?_
    refine ha_s (pc' := 158) (ls' := [haR 51 860, haI (k)]) (st' := [haI (9999), haI (0), haX 41, haR 51 860, haI (k), haR 56 866]) hF (haEt hT (e := (3, 155, 0, 0, 9223372036854785807, [])) (k := 187) (pc := 155) (by decide) (by decide +kernel) rfl) rfl (fun RG => avS3) (fun nx => rfl) ?_
    refine ha_callV (q := 193) (d' := 3) (r := 51) (j := 860) (as := [haX 41, haI 0, haI 9999]) (rest := [haI k, haR 56 866]) hT hF (haEt hT (e := (78, 158, 193, 0, 220, [1552, 1554, 45])) (k := 187) (pc := 158) (by decide) (by decide +kernel) rfl) rfl rfl rfl (by decide +kernel) (by decide +kernel) (hm_told41 hT) (by omega) rfl (show 3 = (abMe 193).2.1 from by decide +kernel) (show 2 + (abMe 193).1.2.2.1 ≤ 49 from by decide +kernel) (fun o k5 h => ?_)
    obtain ⟨⟨y1, rfl, y11, y12⟩, f5⟩ := h
    replace f5 := f4.fm f5
    show haW x k5 161 [haR 51 860, haI (k)] [haI y1, haI k, haR 56 866]
    refine ha_iast (r := 56) hF (haEt hT (e := (69, 161, 0, 0, 0, [])) (k := 187) (pc := 161) (by decide) (by decide +kernel) rfl) rfl rfl (by decide +kernel) (by omega) (by show _ < (1745 : Int); omega) s0 (by omega) (by omega) ?_
    replace f5 := f5.up (c := k) (v := y1) (by omega)
    generalize haUp k5 866 k y1 = k5 at f5 ⊢
    refine ha_s (pc' := 163) (ls' := [haR 51 860, haI (k)]) (st' := [haR 51 860]) hF (haEt hT (e := (13, 162, 0, 0, 0, [])) (k := 187) (pc := 162) (by decide) (by decide +kernel) rfl) rfl (fun RG => avS13) (fun nx => rfl) ?_
    refine ha_getR (r := 51) (j := 860) (i := 14) (r' := 56) (j' := 866) hF (haEt hT (e := (60, 163, 12, 14, 34, [1357])) (k := 187) (pc := 163) (by decide) (by decide +kernel) rfl) rfl rfl rfl (by decide +kernel) (by decide) (by decide +kernel) (by rfl) ?_
    refine ha_s (pc' := 167) (ls' := [haR 51 860, haI (k)]) (st' := [haI (k), haR 56 866]) hF (haEt hT (e := (9, 166, 0, 1, 0, [])) (k := 187) (pc := 166) (by decide) (by decide +kernel) rfl) rfl (fun RG => avS9) (fun nx => rfl) ?_
    refine ha_s (pc' := 168) (ls' := [haR 51 860, haI (k)]) (st' := [haI (1), haI (k), haR 56 866]) hF (haEt hT (e := (1, 167, 0, 0, 9223372036854775809, [])) (k := 187) (pc := 167) (by decide) (by decide +kernel) rfl) rfl (fun RG => avS1) (fun nx => rfl) ?_
    refine ha_iadd hF (haEt hT (e := (21, 168, 0, 0, 0, [])) (k := 187) (pc := 168) (by decide) (by decide +kernel) rfl) rfl rfl (by omega) (by omega) ?_
    refine ha_s (pc' := 170) (ls' := [haR 51 860, haI (k)]) (st' := [haR 51 860, haI (k + (1)), haR 56 866]) hF (haEt hT (e := (13, 169, 0, 0, 0, [])) (k := 187) (pc := 169) (by decide) (by decide +kernel) rfl) rfl (fun RG => avS13) (fun nx => rfl) ?_
    refine ha_opE (e := (94, 170, 42, 0, 269, [])) (F := avOldS 3) hF rfl (fun RG => avN187_170) (fun nx hn => hn 173 [haR 51 860, haI (k)] [haX 42, haR 51 860, haI (k + (1)), haR 56 866] ?_)
    refine ha_s (pc' := 174) (ls' := [haR 51 860, haI (k)]) (st' := [haI (0), haX 42, haR 51 860, haI (k + (1)), haR 56 866]) hF (haEt hT (e := (1, 173, 0, 0, 9223372036854775808, [])) (k := 187) (pc := 173) (by decide) (by decide +kernel) rfl) rfl (fun RG => avS1) (fun nx => rfl) ?_
    refine ha_s (pc' := 177) (ls' := [haR 51 860, haI (k)]) (st' := [haI (9999), haI (0), haX 42, haR 51 860, haI (k + (1)), haR 56 866]) hF (haEt hT (e := (3, 174, 0, 0, 9223372036854785807, [])) (k := 187) (pc := 174) (by decide) (by decide +kernel) rfl) rfl (fun RG => avS3) (fun nx => rfl) ?_
    refine ha_callV (q := 193) (d' := 3) (r := 51) (j := 860) (as := [haX 42, haI 0, haI 9999]) (rest := [haI (k + 1), haR 56 866]) hT hF (haEt hT (e := (78, 177, 193, 0, 220, [1552, 1554, 45])) (k := 187) (pc := 177) (by decide) (by decide +kernel) rfl) rfl rfl rfl (by decide +kernel) (by decide +kernel) (hm_told42 hT) (by omega) rfl (show 3 = (abMe 193).2.1 from by decide +kernel) (show 2 + (abMe 193).1.2.2.1 ≤ 49 from by decide +kernel) (fun o k6 h => ?_)
    obtain ⟨⟨y2, rfl, y21, y22⟩, f6⟩ := h
    replace f6 := f5.fm f6
    show haW x k6 180 [haR 51 860, haI (k)] [haI y2, haI (k + 1), haR 56 866]
    refine ha_iast (r := 56) hF (haEt hT (e := (69, 180, 0, 0, 0, [])) (k := 187) (pc := 180) (by decide) (by decide +kernel) rfl) rfl rfl (by decide +kernel) (by omega) (by show _ < (1745 : Int); omega) s1 (by omega) (by omega) ?_
    replace f6 := f6.up (c := k + 1) (v := y2) (by omega)
    generalize haUp k6 866 (k + 1) y2 = k6 at f6 ⊢
    refine ha_s (pc' := 182) (ls' := [haR 51 860, haI (k)]) (st' := [haR 51 860]) hF (haEt hT (e := (13, 181, 0, 0, 0, [])) (k := 187) (pc := 181) (by decide) (by decide +kernel) rfl) rfl (fun RG => avS13) (fun nx => rfl) ?_
    refine ha_getR (r := 51) (j := 860) (i := 14) (r' := 56) (j' := 866) hF (haEt hT (e := (60, 182, 12, 14, 34, [1357])) (k := 187) (pc := 182) (by decide) (by decide +kernel) rfl) rfl rfl rfl (by decide +kernel) (by decide) (by decide +kernel) (by rfl) ?_
    refine ha_s (pc' := 186) (ls' := [haR 51 860, haI (k)]) (st' := [haI (k), haR 56 866]) hF (haEt hT (e := (9, 185, 0, 1, 0, [])) (k := 187) (pc := 185) (by decide) (by decide +kernel) rfl) rfl (fun RG => avS9) (fun nx => rfl) ?_
    refine ha_s (pc' := 187) (ls' := [haR 51 860, haI (k)]) (st' := [haI (2), haI (k), haR 56 866]) hF (haEt hT (e := (1, 186, 0, 0, 9223372036854775810, [])) (k := 187) (pc := 186) (by decide) (by decide +kernel) rfl) rfl (fun RG => avS1) (fun nx => rfl) ?_
    refine ha_iadd hF (haEt hT (e := (21, 187, 0, 0, 0, [])) (k := 187) (pc := 187) (by decide) (by decide +kernel) rfl) rfl rfl (by omega) (by omega) ?_
    refine ha_s (pc' := 189) (ls' := [haR 51 860, haI (k)]) (st' := [haR 51 860, haI (k + (2)), haR 56 866]) hF (haEt hT (e := (13, 188, 0, 0, 0, [])) (k := 187) (pc := 188) (by decide) (by decide +kernel) rfl) rfl (fun RG => avS13) (fun nx => rfl) ?_
    refine ha_opE (e := (94, 189, 43, 0, 271, [])) (F := avOldS 3) hF rfl (fun RG => avN187_189) (fun nx hn => hn 192 [haR 51 860, haI (k)] [haX 43, haR 51 860, haI (k + (2)), haR 56 866] ?_)
    refine ha_s (pc' := 193) (ls' := [haR 51 860, haI (k)]) (st' := [haI (0), haX 43, haR 51 860, haI (k + (2)), haR 56 866]) hF (haEt hT (e := (1, 192, 0, 0, 9223372036854775808, [])) (k := 187) (pc := 192) (by decide) (by decide +kernel) rfl) rfl (fun RG => avS1) (fun nx => rfl) ?_
    refine ha_s (pc' := 195) (ls' := [haR 51 860, haI (k)]) (st' := [haI (9), haI (0), haX 43, haR 51 860, haI (k + (2)), haR 56 866]) hF (haEt hT (e := (2, 193, 0, 0, 9223372036854775817, [])) (k := 187) (pc := 193) (by decide) (by decide +kernel) rfl) rfl (fun RG => avS2) (fun nx => rfl) ?_
    refine ha_callV (q := 193) (d' := 3) (r := 51) (j := 860) (as := [haX 43, haI 0, haI 9]) (rest := [haI (k + 2), haR 56 866]) hT hF (haEt hT (e := (78, 195, 193, 0, 220, [1552, 1554, 45])) (k := 187) (pc := 195) (by decide) (by decide +kernel) rfl) rfl rfl rfl (by decide +kernel) (by decide +kernel) (hm_told43 hT) (by omega) rfl (show 3 = (abMe 193).2.1 from by decide +kernel) (show 2 + (abMe 193).1.2.2.1 ≤ 49 from by decide +kernel) (fun o k7 h => ?_)
    obtain ⟨⟨y3, rfl, y31, y32⟩, f7⟩ := h
    replace f7 := f6.fm f7
    show haW x k7 198 [haR 51 860, haI (k)] [haI y3, haI (k + 2), haR 56 866]
    refine ha_iast (r := 56) hF (haEt hT (e := (69, 198, 0, 0, 0, [])) (k := 187) (pc := 198) (by decide) (by decide +kernel) rfl) rfl rfl (by decide +kernel) (by omega) (by show _ < (1745 : Int); omega) s2 (by omega) (by omega) ?_
    replace f7 := f7.up (c := k + 2) (v := y3) (by omega)
    generalize haUp k7 866 (k + 2) y3 = k7 at f7 ⊢
    have q6 : 0 ≤ k7 866 6 ∧ k7 866 6 ≤ 29 := by
      rw [f7.2.2.1]
      exact ⟨gl.2.1.1, gb.2⟩
    refine ha_s (pc' := 200) (ls' := [haR 51 860, haI (k)]) (st' := [haR 51 860]) hF (haEt hT (e := (13, 199, 0, 0, 0, [])) (k := 187) (pc := 199) (by decide) (by decide +kernel) rfl) rfl (fun RG => avS13) (fun nx => rfl) ?_
    refine ha_getR (r := 51) (j := 860) (i := 14) (r' := 56) (j' := 866) hF (haEt hT (e := (60, 200, 12, 14, 34, [1357])) (k := 187) (pc := 200) (by decide) (by decide +kernel) rfl) rfl rfl rfl (by decide +kernel) (by decide) (by decide +kernel) (by rfl) ?_
    refine ha_s (pc' := 205) (ls' := [haR 51 860, haI (k)]) (st' := [haI (6), haR 56 866]) hF (haEt hT (e := (2, 203, 0, 0, 9223372036854775814, [])) (k := 187) (pc := 203) (by decide) (by decide +kernel) rfl) rfl (fun RG => avS2) (fun nx => rfl) ?_
    refine ha_s (pc' := 206) (ls' := [haR 51 860, haI (k)]) (st' := [haI (6), haR 56 866, haI (6), haR 56 866]) hF (haEt hT (e := (45, 205, 0, 0, 0, [])) (k := 187) (pc := 205) (by decide) (by decide +kernel) rfl) rfl (fun RG => avS45) (fun nx => rfl) ?_
    refine ha_iald (r := 56) hF (haEt hT (e := (64, 206, 0, 0, 0, [])) (k := 187) (pc := 206) (by decide) (by decide +kernel) rfl) rfl rfl (by decide +kernel) (by omega) (by show _ < (1745 : Int); omega) ?_
    refine ha_s (pc' := 208) (ls' := [haR 51 860, haI (k)]) (st' := [haI (1), haI (k7 866 (6)), haI (6), haR 56 866]) hF (haEt hT (e := (1, 207, 0, 0, 9223372036854775809, [])) (k := 187) (pc := 207) (by decide) (by decide +kernel) rfl) rfl (fun RG => avS1) (fun nx => rfl) ?_
    refine ha_iadd hF (haEt hT (e := (21, 208, 0, 0, 0, [])) (k := 187) (pc := 208) (by decide) (by decide +kernel) rfl) rfl rfl (by omega) (by omega) ?_
    refine ha_iast (r := 56) hF (haEt hT (e := (69, 209, 0, 0, 0, [])) (k := 187) (pc := 209) (by decide) (by decide +kernel) rfl) rfl rfl (by decide +kernel) (by omega) (by show _ < (1745 : Int); omega) (by rfl) (by omega) (by omega) ?_
    refine j210 _ _ (fun j i hg a1 a2 => by rw [haUp_n (fun z => a1 z.1)]; exact (f7.1 j i hg a1 a2).trans (g0 j i hg a1 a2)) ?_ (by rw [haUp_n (fun z => absurd z.2 (by decide)), f7.2.1, g5])
    obtain ⟨d1, d5, d6, d7⟩ := f7
    obtain ⟨⟨a1, a2⟩, ⟨a3, a4⟩, a5, a6⟩ := gl
    unfold haLi
    rw [haUp_n (fun z => absurd z.2 (by decide)), haUp_s, haUp_n (fun z => absurd z.2 (by decide)), d5, d6, d7]
    omega
  have j45 : ∀ nu : haMu, haLa mu nu → haW x nu 45 [haR 51 860, avJ] [] := by
    intro nu h1
    refine ha_s (pc' := 46) (ls' := [haR 51 860, avJ]) (st' := [haR 51 860]) hF (haEt hT (e := (13, 45, 0, 0, 0, [])) (k := 187) (pc := 45) (by decide) (by decide +kernel) rfl) rfl (fun RG => avS13) (fun nx => rfl) ?_
    refine ha_getR (r := 51) (j := 860) (i := 14) (r' := 56) (j' := 866) hF (haEt hT (e := (60, 46, 12, 14, 34, [1357])) (k := 187) (pc := 46) (by decide) (by decide +kernel) rfl) rfl rfl rfl (by decide +kernel) (by decide) (by decide +kernel) (by rfl) ?_
    refine ha_s (pc' := 50) (ls' := [haR 51 860, avJ]) (st' := [haI (5), haR 56 866]) hF (haEt hT (e := (1, 49, 0, 0, 9223372036854775813, [])) (k := 187) (pc := 49) (by decide) (by decide +kernel) rfl) rfl (fun RG => avS1) (fun nx => rfl) ?_
    refine ha_iald (r := 56) hF (haEt hT (e := (64, 50, 0, 0, 0, [])) (k := 187) (pc := 50) (by decide) (by decide +kernel) rfl) rfl rfl (by decide +kernel) (by omega) (by show _ < (1745 : Int); omega) ?_
    refine ha_s (pc' := 53) (ls' := [haR 51 860, avJ]) (st' := [haI (30), haI (nu 866 (5))]) hF (haEt hT (e := (2, 51, 0, 0, 9223372036854775838, [])) (k := 187) (pc := 51) (by decide) (by decide +kernel) rfl) rfl (fun RG => avS2) (fun nx => rfl) ?_
    refine ha_icne hF (haEt hT (e := (53, 53, 61, 0, 0, [])) (k := 187) (pc := 53) (by decide) (by decide +kernel) rfl) rfl rfl rfl (fun q => j61 nu h1 (fun e => absurd e q)) (fun _ => ?_)
    refine ha_s (pc' := 57) (ls' := [haR 51 860, avJ]) (st' := [haR 51 860]) hF (haEt hT (e := (13, 56, 0, 0, 0, [])) (k := 187) (pc := 56) (by decide) (by decide +kernel) rfl) rfl (fun RG => avS13) (fun nx => rfl) ?_
    refine ha_s (pc' := 58) (ls' := [haR 51 860, avJ]) (st' := [haI (3), haR 51 860]) hF (haEt hT (e := (1, 57, 0, 0, 9223372036854775811, [])) (k := 187) (pc := 57) (by decide) (by decide +kernel) rfl) rfl (fun RG => avS1) (fun nx => rfl) ?_
    refine ha_callV (q := 189) (d' := d + 1) (r := 51) (j := 860) (as := [haI 3]) (rest := []) hT hF (haEt hT (e := (78, 58, 189, 0, 198, [1534, 1536, 41])) (k := 187) (pc := 58) (by decide) (by decide +kernel) rfl) rfl rfl rfl (by decide +kernel) (by decide +kernel) (hm_wrong hT ⟨by omega, by omega⟩) (by omega) rfl (show 1 = (abMe 189).2.1 from by decide +kernel) (show 0 + (abMe 189).1.2.2.1 ≤ 49 from by decide +kernel) (fun o k1 h => ?_)
    obtain ⟨rfl, b1, b2⟩ := h
    show haW x k1 61 [haR 51 860, avJ] []
    exact j61 k1 (h1.wr b2) (fun _ => b1)
  have a0 : haLa mu mu := ⟨fun _ _ _ _ _ => rfl, rfl, rfl, rfl⟩
  refine ha_s (pc' := 1) (ls' := [haR 51 860, avJ]) (st' := [haR 51 860]) hF (haEt hT (e := (13, 0, 0, 0, 0, [])) (k := 187) (pc := 0) (by decide) (by decide +kernel) rfl) rfl (fun RG => avS13) (fun nx => rfl) ?_
  refine ha_opE (e := (93, 1, 22, 0, 251, [])) (F := avOldS 2) hF rfl (fun RG => avN187_1) (fun nx hn => hn 3 [haR 51 860, avJ] [haX 22, haR 51 860] ?_)
  refine ha_callV (q := 188) (d' := 1) (r := 51) (j := 860) (as := [haX 22]) (rest := []) hT hF (haEt hT (e := (78, 3, 188, 0, 191, [1525, 1527, 40])) (k := 187) (pc := 3) (by decide) (by decide +kernel) rfl) rfl rfl rfl (by decide +kernel) (by decide +kernel) (hm_is22 hT) (by omega) rfl (show 1 = (abMe 188).2.1 from by decide +kernel) (show 0 + (abMe 188).1.2.2.1 ≤ 49 from by decide +kernel) (fun o k1 h => ?_)
  obtain ⟨⟨z1, rfl, -, -⟩, f1⟩ := h
  replace f1 := a0.fm f1
  show haW x k1 6 [haR 51 860, avJ] [haI z1]
  refine ha_ifne hF (haEt hT (e := (47, 6, 45, 0, 0, [])) (k := 187) (pc := 6) (by decide) (by decide +kernel) rfl) rfl rfl rfl (fun _ => j45 k1 f1) (fun _ => ?_)
  refine ha_s (pc' := 10) (ls' := [haR 51 860, avJ]) (st' := [haR 51 860]) hF (haEt hT (e := (13, 9, 0, 0, 0, [])) (k := 187) (pc := 9) (by decide) (by decide +kernel) rfl) rfl (fun RG => avS13) (fun nx => rfl) ?_
  refine ha_opE (e := (93, 10, 23, 0, 253, [])) (F := avOldS 2) hF rfl (fun RG => avN187_10) (fun nx hn => hn 12 [haR 51 860, avJ] [haX 23, haR 51 860] ?_)
  refine ha_callV (q := 188) (d' := 1) (r := 51) (j := 860) (as := [haX 23]) (rest := []) hT hF (haEt hT (e := (78, 12, 188, 0, 191, [1525, 1527, 40])) (k := 187) (pc := 12) (by decide) (by decide +kernel) rfl) rfl rfl rfl (by decide +kernel) (by decide +kernel) (hm_is23 hT) (by omega) rfl (show 1 = (abMe 188).2.1 from by decide +kernel) (show 0 + (abMe 188).1.2.2.1 ≤ 49 from by decide +kernel) (fun o k2 h => ?_)
  obtain ⟨⟨z2, rfl, -, -⟩, f2⟩ := h
  replace f2 := f1.fm f2
  show haW x k2 15 [haR 51 860, avJ] [haI z2]
  refine ha_ifne hF (haEt hT (e := (47, 15, 45, 0, 0, [])) (k := 187) (pc := 15) (by decide) (by decide +kernel) rfl) rfl rfl rfl (fun _ => j45 k2 f2) (fun _ => ?_)
  refine ha_s (pc' := 19) (ls' := [haR 51 860, avJ]) (st' := [haR 51 860]) hF (haEt hT (e := (13, 18, 0, 0, 0, [])) (k := 187) (pc := 18) (by decide) (by decide +kernel) rfl) rfl (fun RG => avS13) (fun nx => rfl) ?_
  refine ha_opE (e := (93, 19, 24, 0, 255, [])) (F := avOldS 2) hF rfl (fun RG => avN187_19) (fun nx hn => hn 21 [haR 51 860, avJ] [haX 24, haR 51 860] ?_)
  refine ha_callV (q := 188) (d' := 1) (r := 51) (j := 860) (as := [haX 24]) (rest := []) hT hF (haEt hT (e := (78, 21, 188, 0, 191, [1525, 1527, 40])) (k := 187) (pc := 21) (by decide) (by decide +kernel) rfl) rfl rfl rfl (by decide +kernel) (by decide +kernel) (hm_is24 hT) (by omega) rfl (show 1 = (abMe 188).2.1 from by decide +kernel) (show 0 + (abMe 188).1.2.2.1 ≤ 49 from by decide +kernel) (fun o k3 h => ?_)
  obtain ⟨⟨z3, rfl, -, -⟩, f3⟩ := h
  replace f3 := f2.fm f3
  show haW x k3 24 [haR 51 860, avJ] [haI z3]
  refine ha_ifne hF (haEt hT (e := (47, 24, 45, 0, 0, [])) (k := 187) (pc := 24) (by decide) (by decide +kernel) rfl) rfl rfl rfl (fun _ => j45 k3 f3) (fun _ => ?_)
  refine ha_s (pc' := 28) (ls' := [haR 51 860, avJ]) (st' := [haR 51 860]) hF (haEt hT (e := (13, 27, 0, 0, 0, [])) (k := 187) (pc := 27) (by decide) (by decide +kernel) rfl) rfl (fun RG => avS13) (fun nx => rfl) ?_
  refine ha_opE (e := (94, 28, 25, 0, 257, [])) (F := avOldS 3) hF rfl (fun RG => avN187_28) (fun nx hn => hn 31 [haR 51 860, avJ] [haX 25, haR 51 860] ?_)
  refine ha_callV (q := 188) (d' := 1) (r := 51) (j := 860) (as := [haX 25]) (rest := []) hT hF (haEt hT (e := (78, 31, 188, 0, 191, [1525, 1527, 40])) (k := 187) (pc := 31) (by decide) (by decide +kernel) rfl) rfl rfl rfl (by decide +kernel) (by decide +kernel) (hm_is25 hT) (by omega) rfl (show 1 = (abMe 188).2.1 from by decide +kernel) (show 0 + (abMe 188).1.2.2.1 ≤ 49 from by decide +kernel) (fun o k4 h => ?_)
  obtain ⟨⟨z4, rfl, -, -⟩, f4⟩ := h
  replace f4 := f3.fm f4
  show haW x k4 34 [haR 51 860, avJ] [haI z4]
  refine ha_ifne hF (haEt hT (e := (47, 34, 45, 0, 0, [])) (k := 187) (pc := 34) (by decide) (by decide +kernel) rfl) rfl rfl rfl (fun _ => j45 k4 f4) (fun _ => ?_)
  refine ha_s (pc' := 38) (ls' := [haR 51 860, avJ]) (st' := [haR 51 860]) hF (haEt hT (e := (13, 37, 0, 0, 0, [])) (k := 187) (pc := 37) (by decide) (by decide +kernel) rfl) rfl (fun RG => avS13) (fun nx => rfl) ?_
  refine ha_s (pc' := 39) (ls' := [haR 51 860, avJ]) (st' := [haI (1), haR 51 860]) hF (haEt hT (e := (1, 38, 0, 0, 9223372036854775809, [])) (k := 187) (pc := 38) (by decide) (by decide +kernel) rfl) rfl (fun RG => avS1) (fun nx => rfl) ?_
  refine ha_callV (q := 189) (d' := d + 1) (r := 51) (j := 860) (as := [haI 1]) (rest := []) hT hF (haEt hT (e := (78, 39, 189, 0, 198, [1534, 1536, 41])) (k := 187) (pc := 39) (by decide) (by decide +kernel) rfl) rfl rfl rfl (by decide +kernel) (by decide +kernel) (hm_wrong hT ⟨by omega, by omega⟩) (by omega) rfl (show 1 = (abMe 189).2.1 from by decide +kernel) (show 0 + (abMe 189).1.2.2.1 ≤ 49 from by decide +kernel) (fun o k5 h => ?_)
  obtain ⟨rfl, b1, b2⟩ := h
  show haW x k5 42 [haR 51 860, avJ] []
  refine ha_s (pc' := 61) (ls' := [haR 51 860, avJ]) (st' := []) hF (haEt hT (e := (58, 42, 61, 0, 0, [])) (k := 187) (pc := 42) (by decide) (by decide +kernel) rfl) rfl (fun RG => avS58) (fun nx => rfl) ?_
  exact j61 k5 (f4.wr b2) (fun _ => b1)
