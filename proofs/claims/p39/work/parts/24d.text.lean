/-! TallBinsModel.text -/
theorem haFB1 : ∀ b : Nat, b < 6 → avEqS ((avRT.get 56).2.2.get (520 + 164 * b)) (0, 0, 12) = true ∧ ∀ i : Nat, i < 4 → avEqS ((avRT.get 56).2.2.get (520 + 164 * b + i)) ((avRT.get 77).2.2.get (520 + 164 * b + i)) = true := by decide +kernel
theorem haFB {b : Int} (hb : 0 ≤ b ∧ b ≤ 5) : (avRT.get 56).2.2.get (520 + 164 * b).toNat = (0, 0, 12) := by
  have h := avEqS_ok (haFB1 b.toNat (by omega)).1
  rwa [show 520 + 164 * b.toNat = (520 + 164 * b).toNat by omega] at h
theorem haFBi {b i : Int} (hb : 0 ≤ b ∧ b ≤ 5) (hi : 0 ≤ i ∧ i ≤ 3) : (avRT.get 56).2.2.get (520 + 164 * b + i).toNat = (avRT.get 77).2.2.get (520 + 164 * b + i).toNat := by
  have h := avEqS_ok ((haFB1 b.toNat (by omega)).2 i.toNat (by omega))
  rwa [show 520 + 164 * b.toNat + i.toNat = (520 + 164 * b + i).toNat by omega] at h
theorem haFW1 : ∀ i : Nat, i < 492 → avEqS ((avRT.get 56).2.2.get (28 + i)) ((avRT.get 77).2.2.get (28 + i)) = true := by decide +kernel
theorem haFW {i : Int} (hi : 28 ≤ i ∧ i < 520) : (avRT.get 56).2.2.get i.toNat = (avRT.get 77).2.2.get i.toNat := by
  have h := avEqS_ok (haFW1 (i.toNat - 28) (by omega))
  rwa [show 28 + (i.toNat - 28) = i.toNat by omega] at h
theorem haB77 {b : Int} (hb : 0 ≤ b ∧ b ≤ 5) : (avRT.get 77).2.2.get (520 + 164 * b).toNat = (0, 0, 12) ∧ (avRT.get 77).2.2.get (521 + 164 * b).toNat = (0, 0, 1000) := by
  rcases (show b = 0 ∨ b = 1 ∨ b = 2 ∨ b = 3 ∨ b = 4 ∨ b = 5 by omega) with e | e | e | e | e | e <;> subst e <;> exact ⟨rfl, rfl⟩
/-- what text leaves of the rest -/
def haTf (mu nu : haMu) : Prop := (∀ (j : Nat) (i : Int), haGd j i → ¬ j = 861 → ¬ j = 866 → ¬ j = 867 → ¬ j = 860 → nu j i = mu j i) ∧ nu 861 1504 = mu 861 1504
theorem haTf.fm {mu nu nu' : haMu} (h : haTf mu nu) (f : haFm nu nu') : haTf mu nu' := ⟨fun j i hg a1 a2 a3 a4 => (f j i hg).trans (h.1 j i hg a1 a2 a3 a4), (f _ _ haGd_fills).trans h.2⟩
theorem haTf.lf {mu nu nu' : haMu} (h : haTf mu nu) (f : haLf nu nu') : haTf mu nu' := ⟨fun j i hg a1 a2 a3 a4 => (f j i hg a2 a4).trans (h.1 j i hg a1 a2 a3 a4), (f _ _ haGd_fills (by decide) (by decide)).trans h.2⟩
theorem haTf.up {mu nu : haMu} {j0 : Nat} {i0 v : Int} (h : haTf mu nu) (hj : j0 = 860 ∨ j0 = 866 ∨ j0 = 867 ∨ (j0 = 861 ∧ i0 < 1504)) : haTf mu (haUp nu j0 i0 v) := ⟨fun j i hg a1 a2 a3 a4 => by
    rw [haUp_n (fun z => by omega)]
    exact h.1 j i hg a1 a2 a3 a4, by
    rw [haUp_n (fun z => by omega)]
    exact h.2⟩
/-- the BINs below b are as a new TEXT leaves them -/
def haTb (nu : haMu) (b : Int) : Prop := ∀ b' : Int, 0 ≤ b' → b' < b → (0 ≤ nu 861 (520 + 164 * b') ∧ nu 861 (520 + 164 * b') ≤ 12 ∧ 0 ≤ nu 861 (521 + 164 * b') ∧ nu 861 (521 + 164 * b') ≤ 1000) ∧ ∀ c : Int, 20 ≤ c → c < 164 → nu 861 (520 + 164 * b' + c) = 0
theorem haTb.up {nu : haMu} {b i v : Int} (h : haTb nu b) (hi : 520 + 164 * b ≤ i) : haTb (haUp nu 861 i v) b := fun b' b0 b1 => by
  rw [haUp_n (fun z => by omega), haUp_n (fun z => by omega)]
  refine ⟨(h b' b0 b1).1, fun c c0 c1 => ?_⟩
  rw [haUp_n (fun z => by omega)]
  exact (h b' b0 b1).2 c c0 c1
theorem haTb.wd {nu : haMu} (h : haTb nu 6) : haWd nu := by
  refine ⟨fun b b0 b1 => (h b b0 (by omega)).1, fun b r b0 b1 r0 r1 => ?_⟩
  obtain ⟨⟨h1, h2, h3, h4⟩, h5⟩ := h b b0 (by omega)
  have z : ∀ c : Int, 0 ≤ c → c ≤ 11 → nu 861 (540 + 164 * b + 12 * r + c) = 0 := fun c c0 c1 => by
    have := h5 (20 + 12 * r + c) (by omega) (by omega)
    rwa [show 520 + 164 * b + (20 + 12 * r + c) = 540 + 164 * b + 12 * r + c by omega] at this
  have z0 := z 0 (by omega) (by omega)
  rw [Int.add_zero] at z0
  have z4 : ∀ c : Int, 0 ≤ c → c < 8 → nu 861 (540 + 164 * b + 12 * r + 4 + c) = 0 := fun c c0 c1 => by
    have := z (4 + c) (by omega) (by omega)
    rwa [show 540 + 164 * b + 12 * r + (4 + c) = 540 + 164 * b + 12 * r + 4 + c by omega] at this
  refine ⟨by rw [z0]; omega, by rw [z0]; exact h3, fun c c0 c1 => by rw [z4 c c0 c1]; omega, ?_⟩
  rw [z0, haS_congr (g := fun _ => 0) (n := 8) (fun c c0 c1 => z4 c c0 (by omega)), haS_const]
  omega
theorem hm_text (hT : abTabs) {d : Nat} {mu : haMu} (hW : haWd mu) : haSp 180 (d + 6) [haR 51 860] mu (fun o mu' => (∃ z : Int, o = some (haI z)) ∧ haWd mu' ∧ haTf mu mu') := by
  refine haMet (by decide) (hT.1 180 (by decide)) (haLe5 rfl) (show 1 ≤ (abMe 180).1.2.2.1 from by decide +kernel) (fun x hF hR => ?_)
  have wd866 : ∀ {nu nu' : haMu}, haWd nu → (∀ i : Int, nu' 861 i = nu 861 i) → haWd nu' := fun h e => haWd_other h e
  have e286 : ∀ (nu : haMu) (v1 v2 : avV), haTb nu 6 → haTf mu nu → haW x nu 286 [haR 51 860, v1, v2] [] := by
    intro nu v1 v2 h1 h2
    refine ha_s (pc' := 287) (ls' := [haR 51 860, v1, v2]) (st' := [haR 51 860]) hF (haEt hT (e := (13, 286, 0, 0, 0, [])) (k := 180) (pc := 286) (by decide) (by decide +kernel) rfl) rfl (fun RG => avS13) (fun nx => rfl) ?_
    refine ha_s (pc' := 288) (ls' := [haR 51 860, v1, v2]) (st' := [haI (0), haR 51 860]) hF (haEt hT (e := (1, 287, 0, 0, 9223372036854775808, [])) (k := 180) (pc := 287) (by decide) (by decide +kernel) rfl) rfl (fun RG => avS1) (fun nx => rfl) ?_
    refine ha_putZ (r := 51) (j := 860) (i := 32) (lo := 0) (up := 1) hF (haEt hT (e := (62, 288, 12, 32, 137, [1375])) (k := 180) (pc := 288) (by decide) (by decide +kernel) rfl) rfl rfl rfl (by decide +kernel) (by decide +kernel) (fun q hq => by cases hq; rfl) (by rfl) (by omega) (by omega) ⟨by omega, by omega⟩ ?_
    refine ha_s (pc' := 292) (ls' := [haR 51 860, v1, v2]) (st' := [haR 51 860]) hF (haEt hT (e := (13, 291, 0, 0, 0, [])) (k := 180) (pc := 291) (by decide) (by decide +kernel) rfl) rfl (fun RG => avS13) (fun nx => rfl) ?_
    refine ha_getR (r := 51) (j := 860) (i := 1) (r' := 77) (j' := 861) hF (haEt hT (e := (60, 292, 12, 1, 13, [1344])) (k := 180) (pc := 292) (by decide) (by decide +kernel) rfl) rfl rfl rfl (by decide +kernel) (by decide) (by decide +kernel) (by rfl) ?_
    refine ha_s (pc' := 296) (ls' := [haR 51 860, v1, v2]) (st' := [haI (5), haR 77 861]) hF (haEt hT (e := (1, 295, 0, 0, 9223372036854775813, [])) (k := 180) (pc := 295) (by decide) (by decide +kernel) rfl) rfl (fun RG => avS1) (fun nx => rfl) ?_
    refine ha_iald (r := 77) hF (haEt hT (e := (64, 296, 0, 0, 0, [])) (k := 180) (pc := 296) (by decide) (by decide +kernel) rfl) rfl rfl (by decide +kernel) (by omega) (by show _ < (1745 : Int); omega) ?_
    exact hR 297 _ _ _ _ (83, 297, 0, 0, 0, []) (haEt hT (e := (83, 297, 0, 0, 0, [])) (k := 180) (pc := 297) (by decide) (by decide +kernel) rfl) rfl (Or.inr (Or.inr ⟨rfl, _, rfl, rfl, rfl, fun h => by cases h⟩)) ⟨⟨_, rfl⟩, wd866 h1.wd (fun i => haUp_n (fun z => absurd z.1 (by decide))), h2.up (Or.inl rfl)⟩
  have l231 : ∀ (mm : Nat) (b : Int) (nu : haMu) (v2 : avV), (mm : Int) = 6 - b → 0 ≤ b → haTb nu b → haTf mu nu → haW x nu 231 [haR 51 860, haI (b), v2] [] := by
    intro mm
    induction mm with
    | zero =>
      intro b nu v2 hm h0 h1 h2
      have e : b = 6 := by omega
      subst e
      refine ha_s (pc' := 232) (ls' := [haR 51 860, haI (6), v2]) (st' := [haI (6)]) hF (haEt hT (e := (9, 231, 0, 1, 0, [])) (k := 180) (pc := 231) (by decide) (by decide +kernel) rfl) rfl (fun RG => avS9) (fun nx => rfl) ?_
      refine ha_s (pc' := 234) (ls' := [haR 51 860, haI (6), v2]) (st' := [haI (6), haI (6)]) hF (haEt hT (e := (2, 232, 0, 0, 9223372036854775814, [])) (k := 180) (pc := 232) (by decide) (by decide +kernel) rfl) rfl (fun RG => avS2) (fun nx => rfl) ?_
      exact ha_icge hF (haEt hT (e := (55, 234, 286, 0, 0, [])) (k := 180) (pc := 234) (by decide) (by decide +kernel) rfl) rfl rfl rfl (fun _ => e286 nu _ _ h1 h2) (fun q => by omega)
    | succ mm ih =>
      intro b nu v2 hm h0 h1 h2
      have hb : 0 ≤ b ∧ b ≤ 5 := by omega
      refine ha_s (pc' := 232) (ls' := [haR 51 860, haI (b), v2]) (st' := [haI (b)]) hF (haEt hT (e := (9, 231, 0, 1, 0, [])) (k := 180) (pc := 231) (by decide) (by decide +kernel) rfl) rfl (fun RG => avS9) (fun nx => rfl) ?_
      refine ha_s (pc' := 234) (ls' := [haR 51 860, haI (b), v2]) (st' := [haI (6), haI (b)]) hF (haEt hT (e := (2, 232, 0, 0, 9223372036854775814, [])) (k := 180) (pc := 232) (by decide) (by decide +kernel) rfl) rfl (fun RG => avS2) (fun nx => rfl) ?_
      refine ha_icge hF (haEt hT (e := (55, 234, 286, 0, 0, [])) (k := 180) (pc := 234) (by decide) (by decide +kernel) rfl) rfl rfl rfl (fun q => by omega) (fun _ => ?_)
      have e272 : ∀ (nu : haMu) (v2 : avV), haTb nu b → haTf mu nu → haW x nu 272 [haR 51 860, haI (b), v2] [] := by
        intro nu v2 h1 h2
        refine ha_s (pc' := 273) (ls' := [haR 51 860, haI (b), v2]) (st' := [haR 51 860]) hF (haEt hT (e := (13, 272, 0, 0, 0, [])) (k := 180) (pc := 272) (by decide) (by decide +kernel) rfl) rfl (fun RG => avS13) (fun nx => rfl) ?_
        refine ha_s (pc' := 274) (ls' := [haR 51 860, haI (b), v2]) (st' := [haI (b), haR 51 860]) hF (haEt hT (e := (9, 273, 0, 1, 0, [])) (k := 180) (pc := 273) (by decide) (by decide +kernel) rfl) rfl (fun RG => avS9) (fun nx => rfl) ?_
        refine ha_callS (q := 173) (d' := d) (as := [haI b]) (rest := [haR 51 860]) hT hF (haEt hT (e := (79, 274, 173, 0, 108, [1337, 1338])) (k := 180) (pc := 274) (by decide) (by decide +kernel) rfl) rfl rfl rfl (by decide +kernel) (hm_binAt hT hb) (by omega) rfl (show 1 = (abMe 173).2.1 from by decide +kernel) (show 1 + (abMe 173).1.2.2.1 ≤ 49 from by decide +kernel) (fun o ku h => ?_)
        obtain ⟨rfl, e9⟩ := h
        have e9 := e9.symm
        subst e9
        show haW x nu 277 [haR 51 860, haI (b), v2] [haI (520 + 164 * b), haR 51 860]
        refine ha_callV (q := 174) (d' := d) (r := 51) (j := 860) (as := [haI (520 + 164 * b)]) (rest := []) hT hF (haEt hT (e := (78, 277, 174, 0, 112, [1340, 1342, 33])) (k := 180) (pc := 277) (by decide) (by decide +kernel) rfl) rfl rfl rfl (by decide +kernel) (by decide +kernel) (hm_emptied hT hb) (by omega) rfl (show 1 = (abMe 174).2.1 from by decide +kernel) (show 0 + (abMe 174).1.2.2.1 ≤ 49 from by decide +kernel) (fun o k1 h => ?_)
        obtain ⟨rfl, f1, f2⟩ := h
        show haW x k1 280 [haR 51 860, haI (b), v2] []
        refine ha_bd (j := 861) (r := 77) (i := 520 + 164 * b) (lo := 0) (up := 12) hF (by decide) (by decide +kernel) (Or.inl (by decide +kernel)) (by omega) (by show _ < (1745 : Int); omega) (haB77 hb).1 (fun u1 u2 => ?_)
        refine ha_bd (j := 861) (r := 77) (i := 521 + 164 * b) (lo := 0) (up := 1000) hF (by decide) (by decide +kernel) (Or.inl (by decide +kernel)) (by omega) (by show _ < (1745 : Int); omega) (haB77 hb).2 (fun u3 u4 => ?_)
        refine ha_iinc (i := 1) (c := 1) hF (haEt hT (e := (20, 280, 0, 1, 9223372036854775809, [])) (k := 180) (pc := 280) (by decide) (by decide +kernel) rfl) rfl rfl rfl rfl rfl (by omega) (by omega) ?_
        show haW _ _ 283 [haR 51 860, haI (b + 1), v2] []
        refine ha_s (pc' := 231) (ls' := [haR 51 860, haI (b + 1), v2]) (st' := []) hF (haEt hT (e := (58, 283, 231, 0, 0, [])) (k := 180) (pc := 283) (by decide) (by decide +kernel) rfl) rfl (fun RG => avS58) (fun nx => rfl) ?_
        refine ih (b + 1) k1 _ (by omega) (by omega) (fun b' b0 b1 => ?_) ⟨fun j i hg a1 a2 a3 a4 => (f1 j i (fun z => a1 z.1)).trans (h2.1 j i hg a1 a2 a3 a4), (f1 _ _ (fun z => by omega)).trans h2.2⟩
        by_cases e : b' = b
        · subst e
          exact ⟨⟨u1, u2, u3, u4⟩, f2⟩
        · obtain ⟨g1, g2⟩ := h1 b' b0 (by omega)
          rw [f1 861 (520 + 164 * b') (fun z => by omega), f1 861 (521 + 164 * b') (fun z => by omega)]
          exact ⟨g1, fun c c0 c1 => (f1 861 _ (fun z => by omega)).trans (g2 c c0 c1)⟩
      have l239 : ∀ (nn : Nat) (i : Int) (nu : haMu), (nn : Int) = 4 - i → 0 ≤ i → haTb nu b → haTf mu nu → haW x nu 239 [haR 51 860, haI (b), haI (i)] [] := by
        intro nn
        induction nn with
        | zero =>
          intro i nu hn i0 h1 h2
          refine ha_s (pc' := 240) (ls' := [haR 51 860, haI (b), haI (i)]) (st' := [haI (i)]) hF (haEt hT (e := (9, 239, 0, 2, 0, [])) (k := 180) (pc := 239) (by decide) (by decide +kernel) rfl) rfl (fun RG => avS9) (fun nx => rfl) ?_
          refine ha_s (pc' := 241) (ls' := [haR 51 860, haI (b), haI (i)]) (st' := [haI (4), haI (i)]) hF (haEt hT (e := (1, 240, 0, 0, 9223372036854775812, [])) (k := 180) (pc := 240) (by decide) (by decide +kernel) rfl) rfl (fun RG => avS1) (fun nx => rfl) ?_
          exact ha_icge hF (haEt hT (e := (55, 241, 272, 0, 0, [])) (k := 180) (pc := 241) (by decide) (by decide +kernel) rfl) rfl rfl rfl (fun _ => e272 nu _ h1 h2) (fun q => by omega)
        | succ nn ih2 =>
          intro i nu hn i0 h1 h2
          have hi : 0 ≤ i ∧ i ≤ 3 := by omega
          refine ha_s (pc' := 240) (ls' := [haR 51 860, haI (b), haI (i)]) (st' := [haI (i)]) hF (haEt hT (e := (9, 239, 0, 2, 0, [])) (k := 180) (pc := 239) (by decide) (by decide +kernel) rfl) rfl (fun RG => avS9) (fun nx => rfl) ?_
          refine ha_s (pc' := 241) (ls' := [haR 51 860, haI (b), haI (i)]) (st' := [haI (4), haI (i)]) hF (haEt hT (e := (1, 240, 0, 0, 9223372036854775812, [])) (k := 180) (pc := 240) (by decide) (by decide +kernel) rfl) rfl (fun RG => avS1) (fun nx => rfl) ?_
          refine ha_icge hF (haEt hT (e := (55, 241, 272, 0, 0, [])) (k := 180) (pc := 241) (by decide) (by decide +kernel) rfl) rfl rfl rfl (fun q => by omega) (fun _ => ?_)
          refine ha_s (pc' := 245) (ls' := [haR 51 860, haI (b), haI (i)]) (st' := [haR 51 860]) hF (haEt hT (e := (13, 244, 0, 0, 0, [])) (k := 180) (pc := 244) (by decide) (by decide +kernel) rfl) rfl (fun RG => avS13) (fun nx => rfl) ?_
          refine ha_getR (r := 51) (j := 860) (i := 1) (r' := 77) (j' := 861) hF (haEt hT (e := (60, 245, 12, 1, 13, [1344])) (k := 180) (pc := 245) (by decide) (by decide +kernel) rfl) rfl rfl rfl (by decide +kernel) (by decide) (by decide +kernel) (by rfl) ?_
          refine ha_s (pc' := 249) (ls' := [haR 51 860, haI (b), haI (i)]) (st' := [haI (b), haR 77 861]) hF (haEt hT (e := (9, 248, 0, 1, 0, [])) (k := 180) (pc := 248) (by decide) (by decide +kernel) rfl) rfl (fun RG => avS9) (fun nx => rfl) ?_
          refine ha_callS (q := 173) (d' := d) (as := [haI b]) (rest := [haR 77 861]) hT hF (haEt hT (e := (79, 249, 173, 0, 108, [1337, 1338])) (k := 180) (pc := 249) (by decide) (by decide +kernel) rfl) rfl rfl rfl (by decide +kernel) (hm_binAt hT hb) (by omega) rfl (show 1 = (abMe 173).2.1 from by decide +kernel) (show 1 + (abMe 173).1.2.2.1 ≤ 49 from by decide +kernel) (fun o ku h => ?_)
          obtain ⟨rfl, e9⟩ := h
          have e9 := e9.symm
          subst e9
          show haW x nu 252 [haR 51 860, haI (b), haI (i)] [haI (520 + 164 * b), haR 77 861]
          refine ha_s (pc' := 253) (ls' := [haR 51 860, haI (b), haI (i)]) (st' := [haI (i), haI (520 + 164 * b), haR 77 861]) hF (haEt hT (e := (9, 252, 0, 2, 0, [])) (k := 180) (pc := 252) (by decide) (by decide +kernel) rfl) rfl (fun RG => avS9) (fun nx => rfl) ?_
          refine ha_iadd hF (haEt hT (e := (21, 253, 0, 0, 0, [])) (k := 180) (pc := 253) (by decide) (by decide +kernel) rfl) rfl rfl (by omega) (by omega) ?_
          refine ha_s (pc' := 255) (ls' := [haR 51 860, haI (b), haI (i)]) (st' := [haR 51 860, haI (520 + 164 * b + (i)), haR 77 861]) hF (haEt hT (e := (13, 254, 0, 0, 0, [])) (k := 180) (pc := 254) (by decide) (by decide +kernel) rfl) rfl (fun RG => avS13) (fun nx => rfl) ?_
          refine ha_getR (r := 51) (j := 860) (i := 14) (r' := 56) (j' := 866) hF (haEt hT (e := (60, 255, 12, 14, 34, [1357])) (k := 180) (pc := 255) (by decide) (by decide +kernel) rfl) rfl rfl rfl (by decide +kernel) (by decide) (by decide +kernel) (by rfl) ?_
          refine ha_s (pc' := 259) (ls' := [haR 51 860, haI (b), haI (i)]) (st' := [haI (b), haR 56 866, haI (520 + 164 * b + (i)), haR 77 861]) hF (haEt hT (e := (9, 258, 0, 1, 0, [])) (k := 180) (pc := 258) (by decide) (by decide +kernel) rfl) rfl (fun RG => avS9) (fun nx => rfl) ?_
          refine ha_callS (q := 173) (d' := d) (as := [haI b]) (rest := [haR 56 866, haI (520 + 164 * b + i), haR 77 861]) hT hF (haEt hT (e := (79, 259, 173, 0, 108, [1337, 1338])) (k := 180) (pc := 259) (by decide) (by decide +kernel) rfl) rfl rfl rfl (by decide +kernel) (hm_binAt hT hb) (by omega) rfl (show 1 = (abMe 173).2.1 from by decide +kernel) (show 3 + (abMe 173).1.2.2.1 ≤ 49 from by decide +kernel) (fun o ku h => ?_)
          obtain ⟨rfl, e9⟩ := h
          have e9 := e9.symm
          subst e9
          show haW x nu 262 [haR 51 860, haI (b), haI (i)] [haI (520 + 164 * b), haR 56 866, haI (520 + 164 * b + i), haR 77 861]
          refine ha_bd (j := 866) (r := 56) (i := 520 + 164 * b + i) (lo := ((avRT.get 77).2.2.get (520 + 164 * b + i).toNat).2.1) (up := ((avRT.get 77).2.2.get (520 + 164 * b + i).toNat).2.2) hF (by decide) (by decide +kernel) (Or.inl (by decide +kernel)) (by omega) (by show _ < (1745 : Int); omega) ((haFBi hb hi).trans (haWv ⟨by omega, by omega⟩)) (fun u1 u2 => ?_)
          refine ha_s (pc' := 263) (ls' := [haR 51 860, haI (b), haI (i)]) (st' := [haI (i), haI (520 + 164 * b), haR 56 866, haI (520 + 164 * b + i), haR 77 861]) hF (haEt hT (e := (9, 262, 0, 2, 0, [])) (k := 180) (pc := 262) (by decide) (by decide +kernel) rfl) rfl (fun RG => avS9) (fun nx => rfl) ?_
          refine ha_iadd hF (haEt hT (e := (21, 263, 0, 0, 0, [])) (k := 180) (pc := 263) (by decide) (by decide +kernel) rfl) rfl rfl (by omega) (by omega) ?_
          refine ha_iald (r := 56) hF (haEt hT (e := (64, 264, 0, 0, 0, [])) (k := 180) (pc := 264) (by decide) (by decide +kernel) rfl) rfl rfl (by decide +kernel) (by omega) (by show _ < (1745 : Int); omega) ?_
          refine ha_iast (r := 77) hF (haEt hT (e := (69, 265, 0, 0, 0, [])) (k := 180) (pc := 265) (by decide) (by decide +kernel) rfl) rfl rfl (by decide +kernel) (by omega) (by show _ < (1745 : Int); omega) (haWv ⟨by omega, by omega⟩) u1 u2 ?_
          refine ha_iinc (i := 2) (c := 1) hF (haEt hT (e := (20, 266, 0, 2, 9223372036854775809, [])) (k := 180) (pc := 266) (by decide) (by decide +kernel) rfl) rfl rfl rfl rfl rfl (by omega) (by omega) ?_
          show haW _ _ 269 [haR 51 860, haI (b), haI (i + 1)] []
          refine ha_s (pc' := 239) (ls' := [haR 51 860, haI (b), haI (i + 1)]) (st' := []) hF (haEt hT (e := (58, 269, 239, 0, 0, [])) (k := 180) (pc := 269) (by decide) (by decide +kernel) rfl) rfl (fun RG => avS58) (fun nx => rfl) ?_
          exact ih2 (i + 1) _ (by omega) (by omega) (h1.up (by omega)) (h2.up (Or.inr (Or.inr (Or.inr ⟨rfl, by omega⟩))))
      refine ha_s (pc' := 238) (ls' := [haR 51 860, haI (b), v2]) (st' := [haI (0)]) hF (haEt hT (e := (1, 237, 0, 0, 9223372036854775808, [])) (k := 180) (pc := 237) (by decide) (by decide +kernel) rfl) rfl (fun RG => avS1) (fun nx => rfl) ?_
      refine ha_s (pc' := 239) (ls' := [haR 51 860, haI (b), haI (0)]) (st' := []) hF (haEt hT (e := (15, 238, 0, 2, 0, [])) (k := 180) (pc := 238) (by decide) (by decide +kernel) rfl) rfl (fun RG => avS15) (fun nx => rfl) ?_
      exact l239 4 0 nu rfl (Int.le_refl 0) h1 h2
  have l204 : ∀ (mm : Nat) (i : Int) (nu : haMu), (mm : Int) = 520 - i → 28 ≤ i → haTf mu nu → haW x nu 204 [haR 51 860, haI (i), avJ] [] := by
    intro mm
    induction mm with
    | zero =>
      intro i nu hm i0 h2
      refine ha_s (pc' := 205) (ls' := [haR 51 860, haI (i), avJ]) (st' := [haI (i)]) hF (haEt hT (e := (9, 204, 0, 1, 0, [])) (k := 180) (pc := 204) (by decide) (by decide +kernel) rfl) rfl (fun RG => avS9) (fun nx => rfl) ?_
      refine ha_s (pc' := 208) (ls' := [haR 51 860, haI (i), avJ]) (st' := [haI (520), haI (i)]) hF (haEt hT (e := (3, 205, 0, 0, 9223372036854776328, [])) (k := 180) (pc := 205) (by decide) (by decide +kernel) rfl) rfl (fun RG => avS3) (fun nx => rfl) ?_
      refine ha_icge hF (haEt hT (e := (55, 208, 229, 0, 0, [])) (k := 180) (pc := 208) (by decide) (by decide +kernel) rfl) rfl rfl rfl (fun _ => ?_) (fun q => by omega)
      refine ha_s (pc' := 230) (ls' := [haR 51 860, haI (i), avJ]) (st' := [haI (0)]) hF (haEt hT (e := (1, 229, 0, 0, 9223372036854775808, [])) (k := 180) (pc := 229) (by decide) (by decide +kernel) rfl) rfl (fun RG => avS1) (fun nx => rfl) ?_
      refine ha_s (pc' := 231) (ls' := [haR 51 860, haI (0), avJ]) (st' := []) hF (haEt hT (e := (15, 230, 0, 1, 0, [])) (k := 180) (pc := 230) (by decide) (by decide +kernel) rfl) rfl (fun RG => avS15) (fun nx => rfl) ?_
      exact l231 6 0 nu _ rfl (Int.le_refl 0) (fun b' b0 b1 => by omega) h2
    | succ mm ih =>
      intro i nu hm i0 h2
      have hi : 28 ≤ i ∧ i < 520 := by omega
      refine ha_s (pc' := 205) (ls' := [haR 51 860, haI (i), avJ]) (st' := [haI (i)]) hF (haEt hT (e := (9, 204, 0, 1, 0, [])) (k := 180) (pc := 204) (by decide) (by decide +kernel) rfl) rfl (fun RG => avS9) (fun nx => rfl) ?_
      refine ha_s (pc' := 208) (ls' := [haR 51 860, haI (i), avJ]) (st' := [haI (520), haI (i)]) hF (haEt hT (e := (3, 205, 0, 0, 9223372036854776328, [])) (k := 180) (pc := 205) (by decide) (by decide +kernel) rfl) rfl (fun RG => avS3) (fun nx => rfl) ?_
      refine ha_icge hF (haEt hT (e := (55, 208, 229, 0, 0, [])) (k := 180) (pc := 208) (by decide) (by decide +kernel) rfl) rfl rfl rfl (fun q => by omega) (fun _ => ?_)
      refine ha_bd (j := 866) (r := 56) (i := i) (lo := ((avRT.get 77).2.2.get i.toNat).2.1) (up := ((avRT.get 77).2.2.get i.toNat).2.2) hF (by decide) (by decide +kernel) (Or.inl (by decide +kernel)) (by omega) (by show _ < (1745 : Int); omega) ((haFW hi).trans (haWv ⟨by omega, by omega⟩)) (fun u1 u2 => ?_)
      refine ha_s (pc' := 212) (ls' := [haR 51 860, haI (i), avJ]) (st' := [haR 51 860]) hF (haEt hT (e := (13, 211, 0, 0, 0, [])) (k := 180) (pc := 211) (by decide) (by decide +kernel) rfl) rfl (fun RG => avS13) (fun nx => rfl) ?_
      refine ha_getR (r := 51) (j := 860) (i := 1) (r' := 77) (j' := 861) hF (haEt hT (e := (60, 212, 12, 1, 13, [1344])) (k := 180) (pc := 212) (by decide) (by decide +kernel) rfl) rfl rfl rfl (by decide +kernel) (by decide) (by decide +kernel) (by rfl) ?_
      refine ha_s (pc' := 216) (ls' := [haR 51 860, haI (i), avJ]) (st' := [haI (i), haR 77 861]) hF (haEt hT (e := (9, 215, 0, 1, 0, [])) (k := 180) (pc := 215) (by decide) (by decide +kernel) rfl) rfl (fun RG => avS9) (fun nx => rfl) ?_
      refine ha_s (pc' := 217) (ls' := [haR 51 860, haI (i), avJ]) (st' := [haR 51 860, haI (i), haR 77 861]) hF (haEt hT (e := (13, 216, 0, 0, 0, [])) (k := 180) (pc := 216) (by decide) (by decide +kernel) rfl) rfl (fun RG => avS13) (fun nx => rfl) ?_
      refine ha_getR (r := 51) (j := 860) (i := 14) (r' := 56) (j' := 866) hF (haEt hT (e := (60, 217, 12, 14, 34, [1357])) (k := 180) (pc := 217) (by decide) (by decide +kernel) rfl) rfl rfl rfl (by decide +kernel) (by decide) (by decide +kernel) (by rfl) ?_
      refine ha_s (pc' := 221) (ls' := [haR 51 860, haI (i), avJ]) (st' := [haI (i), haR 56 866, haI (i), haR 77 861]) hF (haEt hT (e := (9, 220, 0, 1, 0, [])) (k := 180) (pc := 220) (by decide) (by decide +kernel) rfl) rfl (fun RG => avS9) (fun nx => rfl) ?_
      refine ha_iald (r := 56) hF (haEt hT (e := (64, 221, 0, 0, 0, [])) (k := 180) (pc := 221) (by decide) (by decide +kernel) rfl) rfl rfl (by decide +kernel) (by omega) (by show _ < (1745 : Int); omega) ?_
      refine ha_iast (r := 77) hF (haEt hT (e := (69, 222, 0, 0, 0, [])) (k := 180) (pc := 222) (by decide) (by decide +kernel) rfl) rfl rfl (by decide +kernel) (by omega) (by show _ < (1745 : Int); omega) (haWv ⟨by omega, by omega⟩) u1 u2 ?_
      refine ha_iinc (i := 1) (c := 1) hF (haEt hT (e := (20, 223, 0, 1, 9223372036854775809, [])) (k := 180) (pc := 223) (by decide) (by decide +kernel) rfl) rfl rfl rfl rfl rfl (by omega) (by omega) ?_
      show haW _ _ 226 [haR 51 860, haI (i + 1), avJ] []
      refine ha_s (pc' := 204) (ls' := [haR 51 860, haI (i + 1), avJ]) (st' := []) hF (haEt hT (e := (58, 226, 204, 0, 0, [])) (k := 180) (pc := 226) (by decide) (by decide +kernel) rfl) rfl (fun RG => avS58) (fun nx => rfl) ?_
      exact ih (i + 1) _ (by omega) (by omega) (h2.up (Or.inr (Or.inr (Or.inr ⟨rfl, by omega⟩))))
  have e175 : ∀ (nu : haMu) (v1 : avV), haTf mu nu → haW x nu 175 [haR 51 860, v1, avJ] [] := by
    intro nu v1 h2
    have l177 : ∀ (mm : Nat) (i : Int) (nu : haMu), (mm : Int) = 8 - i → 5 ≤ i → haTf mu nu → haW x nu 177 [haR 51 860, haI (i), avJ] [] := by
      intro mm
      induction mm with
      | zero =>
        intro i nu hm i0 h2
        refine ha_s (pc' := 178) (ls' := [haR 51 860, haI (i), avJ]) (st' := [haI (i)]) hF (haEt hT (e := (9, 177, 0, 1, 0, [])) (k := 180) (pc := 177) (by decide) (by decide +kernel) rfl) rfl (fun RG => avS9) (fun nx => rfl) ?_
        refine ha_s (pc' := 180) (ls' := [haR 51 860, haI (i), avJ]) (st' := [haI (7), haI (i)]) hF (haEt hT (e := (2, 178, 0, 0, 9223372036854775815, [])) (k := 180) (pc := 178) (by decide) (by decide +kernel) rfl) rfl (fun RG => avS2) (fun nx => rfl) ?_
        refine ha_icgt hF (haEt hT (e := (56, 180, 201, 0, 0, [])) (k := 180) (pc := 180) (by decide) (by decide +kernel) rfl) rfl rfl rfl (fun _ => ?_) (fun q => by omega)
        refine ha_s (pc' := 203) (ls' := [haR 51 860, haI (i), avJ]) (st' := [haI (28)]) hF (haEt hT (e := (2, 201, 0, 0, 9223372036854775836, [])) (k := 180) (pc := 201) (by decide) (by decide +kernel) rfl) rfl (fun RG => avS2) (fun nx => rfl) ?_
        refine ha_s (pc' := 204) (ls' := [haR 51 860, haI (28), avJ]) (st' := []) hF (haEt hT (e := (15, 203, 0, 1, 0, [])) (k := 180) (pc := 203) (by decide) (by decide +kernel) rfl) rfl (fun RG => avS15) (fun nx => rfl) ?_
        exact l204 492 28 nu rfl (Int.le_refl 28) h2
      | succ mm ih =>
        intro i nu hm i0 h2
        have hi : i = 5 ∨ i = 6 ∨ i = 7 := by omega
        have s5 : (avRT.get 56).2.2.get i.toNat = (0, 0, 30) ∧ (avRT.get 77).2.2.get i.toNat = (0, 0, 30) := by
          rcases hi with e | e | e <;> subst e <;> exact ⟨rfl, rfl⟩
        refine ha_s (pc' := 178) (ls' := [haR 51 860, haI (i), avJ]) (st' := [haI (i)]) hF (haEt hT (e := (9, 177, 0, 1, 0, [])) (k := 180) (pc := 177) (by decide) (by decide +kernel) rfl) rfl (fun RG => avS9) (fun nx => rfl) ?_
        refine ha_s (pc' := 180) (ls' := [haR 51 860, haI (i), avJ]) (st' := [haI (7), haI (i)]) hF (haEt hT (e := (2, 178, 0, 0, 9223372036854775815, [])) (k := 180) (pc := 178) (by decide) (by decide +kernel) rfl) rfl (fun RG => avS2) (fun nx => rfl) ?_
        refine ha_icgt hF (haEt hT (e := (56, 180, 201, 0, 0, [])) (k := 180) (pc := 180) (by decide) (by decide +kernel) rfl) rfl rfl rfl (fun q => by omega) (fun _ => ?_)
        refine ha_bd (j := 866) (r := 56) (i := i) (lo := 0) (up := 30) hF (by decide) (by decide +kernel) (Or.inl (by decide +kernel)) (by omega) (by show _ < (1745 : Int); omega) s5.1 (fun u1 u2 => ?_)
        refine ha_s (pc' := 184) (ls' := [haR 51 860, haI (i), avJ]) (st' := [haR 51 860]) hF (haEt hT (e := (13, 183, 0, 0, 0, [])) (k := 180) (pc := 183) (by decide) (by decide +kernel) rfl) rfl (fun RG => avS13) (fun nx => rfl) ?_
        refine ha_getR (r := 51) (j := 860) (i := 1) (r' := 77) (j' := 861) hF (haEt hT (e := (60, 184, 12, 1, 13, [1344])) (k := 180) (pc := 184) (by decide) (by decide +kernel) rfl) rfl rfl rfl (by decide +kernel) (by decide) (by decide +kernel) (by rfl) ?_
        refine ha_s (pc' := 188) (ls' := [haR 51 860, haI (i), avJ]) (st' := [haI (i), haR 77 861]) hF (haEt hT (e := (9, 187, 0, 1, 0, [])) (k := 180) (pc := 187) (by decide) (by decide +kernel) rfl) rfl (fun RG => avS9) (fun nx => rfl) ?_
        refine ha_s (pc' := 189) (ls' := [haR 51 860, haI (i), avJ]) (st' := [haR 51 860, haI (i), haR 77 861]) hF (haEt hT (e := (13, 188, 0, 0, 0, [])) (k := 180) (pc := 188) (by decide) (by decide +kernel) rfl) rfl (fun RG => avS13) (fun nx => rfl) ?_
        refine ha_getR (r := 51) (j := 860) (i := 14) (r' := 56) (j' := 866) hF (haEt hT (e := (60, 189, 12, 14, 34, [1357])) (k := 180) (pc := 189) (by decide) (by decide +kernel) rfl) rfl rfl rfl (by decide +kernel) (by decide) (by decide +kernel) (by rfl) ?_
        refine ha_s (pc' := 193) (ls' := [haR 51 860, haI (i), avJ]) (st' := [haI (i), haR 56 866, haI (i), haR 77 861]) hF (haEt hT (e := (9, 192, 0, 1, 0, [])) (k := 180) (pc := 192) (by decide) (by decide +kernel) rfl) rfl (fun RG => avS9) (fun nx => rfl) ?_
        refine ha_iald (r := 56) hF (haEt hT (e := (64, 193, 0, 0, 0, [])) (k := 180) (pc := 193) (by decide) (by decide +kernel) rfl) rfl rfl (by decide +kernel) (by omega) (by show _ < (1745 : Int); omega) ?_
        refine ha_iast (r := 77) hF (haEt hT (e := (69, 194, 0, 0, 0, [])) (k := 180) (pc := 194) (by decide) (by decide +kernel) rfl) rfl rfl (by decide +kernel) (by omega) (by show _ < (1745 : Int); omega) s5.2 u1 u2 ?_
        refine ha_iinc (i := 1) (c := 1) hF (haEt hT (e := (20, 195, 0, 1, 9223372036854775809, [])) (k := 180) (pc := 195) (by decide) (by decide +kernel) rfl) rfl rfl rfl rfl rfl (by omega) (by omega) ?_
        show haW _ _ 198 [haR 51 860, haI (i + 1), avJ] []
        refine ha_s (pc' := 177) (ls' := [haR 51 860, haI (i + 1), avJ]) (st' := []) hF (haEt hT (e := (58, 198, 177, 0, 0, [])) (k := 180) (pc := 198) (by decide) (by decide +kernel) rfl) rfl (fun RG => avS58) (fun nx => rfl) ?_
        exact ih (i + 1) _ (by omega) (by omega) (h2.up (Or.inr (Or.inr (Or.inr ⟨rfl, by omega⟩))))
    refine ha_s (pc' := 176) (ls' := [haR 51 860, v1, avJ]) (st' := [haI (5)]) hF (haEt hT (e := (1, 175, 0, 0, 9223372036854775813, [])) (k := 180) (pc := 175) (by decide) (by decide +kernel) rfl) rfl (fun RG => avS1) (fun nx => rfl) ?_
    refine ha_s (pc' := 177) (ls' := [haR 51 860, haI (5), avJ]) (st' := []) hF (haEt hT (e := (15, 176, 0, 1, 0, [])) (k := 180) (pc := 176) (by decide) (by decide +kernel) rfl) rfl (fun RG => avS15) (fun nx => rfl) ?_
    exact l177 3 5 nu rfl (Int.le_refl 5) h2
  have e165 : ∀ (nu : haMu) (v1 : avV), haTf mu nu → haWd nu → haW x nu 165 [haR 51 860, v1, avJ] [] := by
    intro nu v1 h2 h3
    refine ha_s (pc' := 166) (ls' := [haR 51 860, v1, avJ]) (st' := [haR 51 860]) hF (haEt hT (e := (13, 165, 0, 0, 0, [])) (k := 180) (pc := 165) (by decide) (by decide +kernel) rfl) rfl (fun RG => avS13) (fun nx => rfl) ?_
    refine ha_callV (q := 186) (d' := d) (r := 51) (j := 860) (as := []) (rest := []) hT hF (haEt hT (e := (78, 166, 186, 0, 177, [1516, 1518, 38])) (k := 180) (pc := 166) (by decide) (by decide +kernel) rfl) rfl rfl rfl (by decide +kernel) (by decide +kernel) (hm_good hT) (by omega) rfl (show 0 = (abMe 186).2.1 from by decide +kernel) (show 0 + (abMe 186).1.2.2.1 ≤ 49 from by decide +kernel) (fun o ku h => ?_)
    obtain ⟨z, rfl, e9, hz⟩ := h
    have e9 := e9.symm
    subst e9
    show haW x nu 169 [haR 51 860, v1, avJ] [haI z]
    refine ha_ifne hF (haEt hT (e := (47, 169, 175, 0, 0, [])) (k := 180) (pc := 169) (by decide) (by decide +kernel) rfl) rfl rfl rfl (fun _ => e175 nu _ h2) (fun _ => ?_)
    refine ha_s (pc' := 174) (ls' := [haR 51 860, v1, avJ]) (st' := [haI (-4)]) hF (haEt hT (e := (2, 172, 0, 0, 9223372036854775804, [])) (k := 180) (pc := 172) (by decide) (by decide +kernel) rfl) rfl (fun RG => avS2) (fun nx => rfl) ?_
    exact hR 174 _ _ _ _ (83, 174, 0, 0, 0, []) (haEt hT (e := (83, 174, 0, 0, 0, [])) (k := 180) (pc := 174) (by decide) (by decide +kernel) rfl) rfl (Or.inr (Or.inr ⟨rfl, _, rfl, rfl, rfl, fun h => by cases h⟩)) ⟨⟨_, rfl⟩, h3, h2⟩
  have bad : ∀ (nu : haMu) (v1 : avV), haTf mu nu → haWd nu → ¬ nu 860 12 = 0 → haW x nu 144 [haR 51 860, v1, avJ] [] := by
    intro nu v1 h2 h3 hb
    refine ha_s (pc' := 145) (ls' := [haR 51 860, v1, avJ]) (st' := [haR 51 860]) hF (haEt hT (e := (13, 144, 0, 0, 0, [])) (k := 180) (pc := 144) (by decide) (by decide +kernel) rfl) rfl (fun RG => avS13) (fun nx => rfl) ?_
    refine ha_callV (q := 186) (d' := d) (r := 51) (j := 860) (as := []) (rest := []) hT hF (haEt hT (e := (78, 145, 186, 0, 177, [1516, 1518, 38])) (k := 180) (pc := 145) (by decide) (by decide +kernel) rfl) rfl rfl rfl (by decide +kernel) (by decide +kernel) (hm_good hT) (by omega) rfl (show 0 = (abMe 186).2.1 from by decide +kernel) (show 0 + (abMe 186).1.2.2.1 ≤ 49 from by decide +kernel) (fun o ku h => ?_)
    obtain ⟨z, rfl, e9, hz⟩ := h
    have e9 := e9.symm
    subst e9
    show haW x nu 148 [haR 51 860, v1, avJ] [haI z]
    exact ha_ifeq hF (haEt hT (e := (46, 148, 165, 0, 0, [])) (k := 180) (pc := 148) (by decide) (by decide +kernel) rfl) rfl rfl rfl (fun _ => e165 nu _ h2 h3) (fun q => by omega)
  have read : ∀ (mm : Nat) (nu : haMu) (v1 : avV), 30 - nu 866 5 < (mm : Int) → haLi nu → haTf mu nu → haWd nu → haW x nu 144 [haR 51 860, v1, avJ] [] := by
    intro mm
    induction mm with
    | zero =>
      intro nu v1 hm h1 h2 h3
      have := h1.1.2
      omega
    | succ mm ih =>
      intro nu v1 hm h1 h2 h3
      refine ha_s (pc' := 145) (ls' := [haR 51 860, v1, avJ]) (st' := [haR 51 860]) hF (haEt hT (e := (13, 144, 0, 0, 0, [])) (k := 180) (pc := 144) (by decide) (by decide +kernel) rfl) rfl (fun RG => avS13) (fun nx => rfl) ?_
      refine ha_callV (q := 186) (d' := d) (r := 51) (j := 860) (as := []) (rest := []) hT hF (haEt hT (e := (78, 145, 186, 0, 177, [1516, 1518, 38])) (k := 180) (pc := 145) (by decide) (by decide +kernel) rfl) rfl rfl rfl (by decide +kernel) (by decide +kernel) (hm_good hT) (by omega) rfl (show 0 = (abMe 186).2.1 from by decide +kernel) (show 0 + (abMe 186).1.2.2.1 ≤ 49 from by decide +kernel) (fun o ku h => ?_)
      obtain ⟨z, rfl, e9, hz⟩ := h
      have e9 := e9.symm
      subst e9
      show haW x nu 148 [haR 51 860, v1, avJ] [haI z]
      refine ha_ifeq hF (haEt hT (e := (46, 148, 165, 0, 0, [])) (k := 180) (pc := 148) (by decide) (by decide +kernel) rfl) rfl rfl rfl (fun _ => e165 nu _ h2 h3) (fun _ => ?_)
      refine ha_s (pc' := 152) (ls' := [haR 51 860, v1, avJ]) (st' := [haR 51 860]) hF (haEt hT (e := (13, 151, 0, 0, 0, [])) (k := 180) (pc := 151) (by decide) (by decide +kernel) rfl) rfl (fun RG => avS13) (fun nx => rfl) ?_
      refine ha_getI (r := 51) (j := 860) (i := 10) (lo := 0) (up := 4) hF (haEt hT (e := (60, 152, 12, 10, 156, [1353])) (k := 180) (pc := 152) (by decide) (by decide +kernel) rfl) rfl rfl rfl (by decide +kernel) (by decide) (by decide +kernel) (by rfl) ?_
      refine ha_ifeq hF (haEt hT (e := (46, 155, 165, 0, 0, [])) (k := 180) (pc := 155) (by decide) (by decide +kernel) rfl) rfl rfl rfl (fun _ => e165 nu _ h2 h3) (fun _ => ?_)
      refine ha_s (pc' := 159) (ls' := [haR 51 860, v1, avJ]) (st' := [haR 51 860]) hF (haEt hT (e := (13, 158, 0, 0, 0, [])) (k := 180) (pc := 158) (by decide) (by decide +kernel) rfl) rfl (fun RG => avS13) (fun nx => rfl) ?_
      refine ha_callV (q := 187) (d' := d + 5) (r := 51) (j := 860) (as := []) (rest := []) hT hF (haEt hT (e := (78, 159, 187, 0, 279, [1520, 1522, 39])) (k := 180) (pc := 159) (by decide) (by decide +kernel) rfl) rfl rfl rfl (by decide +kernel) (by decide +kernel) (hm_readLine hT h1) (by omega) rfl (show 0 = (abMe 187).2.1 from by decide +kernel) (show 0 + (abMe 187).1.2.2.1 ≤ 49 from by decide +kernel) (fun o k1 h => ?_)
      obtain ⟨rfl, g1, g2, g3⟩ := h
      have g4 : haWd k1 := haWd_ext h3 (fun b' b0 b1 => by
        have e0 := g3 861 _ (haGd_hold (i := 0) ⟨b0, b1⟩ ⟨by omega, by omega⟩) (by decide) (by decide)
        have e1 := g3 861 _ (haGd_hold (i := 1) ⟨b0, b1⟩ ⟨by omega, by omega⟩) (by decide) (by decide)
        rw [Int.add_zero] at e0
        rw [show 520 + 164 * b' + 1 = 521 + 164 * b' by omega] at e1
        exact ⟨e0, e1⟩) (fun b' r' c b0 b1 r0 r1 c0 c1 c2 => g3 861 _ (haGd_ring ⟨b0, b1⟩ ⟨r0, r1⟩ ⟨c0, c1⟩ c2) (by decide) (by decide))
      show haW x k1 162 [haR 51 860, v1, avJ] []
      refine ha_s (pc' := 144) (ls' := [haR 51 860, v1, avJ]) (st' := []) hF (haEt hT (e := (58, 162, 144, 0, 0, [])) (k := 180) (pc := 162) (by decide) (by decide +kernel) rfl) rfl (fun RG => avS58) (fun nx => rfl) ?_
      rcases g2 with g2 | g2
      · exact bad k1 _ (h2.lf g3) g4 g2
      · exact ih k1 _ (by omega) g1 (h2.lf g3) g4
  have l118 : ∀ (mm : Nat) (b : Int) (nu : haMu), (mm : Int) = 6 - b → 0 ≤ b → haLi nu → haTf mu nu → haWd nu → haW x nu 118 [haR 51 860, haI (b), avJ] [] := by
    intro mm
    induction mm with
    | zero =>
      intro b nu hm b0 h1 h2 h3
      refine ha_s (pc' := 119) (ls' := [haR 51 860, haI (b), avJ]) (st' := [haI (b)]) hF (haEt hT (e := (9, 118, 0, 1, 0, [])) (k := 180) (pc := 118) (by decide) (by decide +kernel) rfl) rfl (fun RG => avS9) (fun nx => rfl) ?_
      refine ha_s (pc' := 121) (ls' := [haR 51 860, haI (b), avJ]) (st' := [haI (6), haI (b)]) hF (haEt hT (e := (2, 119, 0, 0, 9223372036854775814, [])) (k := 180) (pc := 119) (by decide) (by decide +kernel) rfl) rfl (fun RG => avS2) (fun nx => rfl) ?_
      refine ha_icge hF (haEt hT (e := (55, 121, 140, 0, 0, [])) (k := 180) (pc := 121) (by decide) (by decide +kernel) rfl) rfl rfl rfl (fun _ => ?_) (fun q => by omega)
      refine ha_s (pc' := 141) (ls' := [haR 51 860, haI (b), avJ]) (st' := [haR 51 860]) hF (haEt hT (e := (13, 140, 0, 0, 0, [])) (k := 180) (pc := 140) (by decide) (by decide +kernel) rfl) rfl (fun RG => avS13) (fun nx => rfl) ?_
      refine ha_callV (q := 184) (d' := 1) (r := 51) (j := 860) (as := []) (rest := []) hT hF (haEt hT (e := (78, 141, 184, 0, 195, [1502, 1504, 36])) (k := 180) (pc := 141) (by decide) (by decide +kernel) rfl) rfl rfl rfl (by decide +kernel) (by decide +kernel) (hm_step hT) (by omega) rfl (show 0 = (abMe 184).2.1 from by decide +kernel) (show 0 + (abMe 184).1.2.2.1 ≤ 49 from by decide +kernel) (fun o k1 h => ?_)
      obtain ⟨rfl, f1⟩ := h
      obtain ⟨e5, e6, e7⟩ := haFm567 f1
      show haW x k1 144 [haR 51 860, haI (b), avJ] []
      exact read 31 k1 _ (by have := (h1.eq e5 e6 e7).1.1; omega) (h1.eq e5 e6 e7) (h2.fm f1) (haWd_fm h3 f1)
    | succ mm ih =>
      intro b nu hm b0 h1 h2 h3
      have hb : 0 ≤ b ∧ b ≤ 5 := by omega
      refine ha_s (pc' := 119) (ls' := [haR 51 860, haI (b), avJ]) (st' := [haI (b)]) hF (haEt hT (e := (9, 118, 0, 1, 0, [])) (k := 180) (pc := 118) (by decide) (by decide +kernel) rfl) rfl (fun RG => avS9) (fun nx => rfl) ?_
      refine ha_s (pc' := 121) (ls' := [haR 51 860, haI (b), avJ]) (st' := [haI (6), haI (b)]) hF (haEt hT (e := (2, 119, 0, 0, 9223372036854775814, [])) (k := 180) (pc := 119) (by decide) (by decide +kernel) rfl) rfl (fun RG => avS2) (fun nx => rfl) ?_
      refine ha_icge hF (haEt hT (e := (55, 121, 140, 0, 0, [])) (k := 180) (pc := 121) (by decide) (by decide +kernel) rfl) rfl rfl rfl (fun q => by omega) (fun _ => ?_)
      refine ha_s (pc' := 125) (ls' := [haR 51 860, haI (b), avJ]) (st' := [haR 51 860]) hF (haEt hT (e := (13, 124, 0, 0, 0, [])) (k := 180) (pc := 124) (by decide) (by decide +kernel) rfl) rfl (fun RG => avS13) (fun nx => rfl) ?_
      refine ha_getR (r := 51) (j := 860) (i := 14) (r' := 56) (j' := 866) hF (haEt hT (e := (60, 125, 12, 14, 34, [1357])) (k := 180) (pc := 125) (by decide) (by decide +kernel) rfl) rfl rfl rfl (by decide +kernel) (by decide) (by decide +kernel) (by rfl) ?_
      refine ha_s (pc' := 129) (ls' := [haR 51 860, haI (b), avJ]) (st' := [haI (b), haR 56 866]) hF (haEt hT (e := (9, 128, 0, 1, 0, [])) (k := 180) (pc := 128) (by decide) (by decide +kernel) rfl) rfl (fun RG => avS9) (fun nx => rfl) ?_
      refine ha_callS (q := 173) (d' := d) (as := [haI b]) (rest := [haR 56 866]) hT hF (haEt hT (e := (79, 129, 173, 0, 108, [1337, 1338])) (k := 180) (pc := 129) (by decide) (by decide +kernel) rfl) rfl rfl rfl (by decide +kernel) (hm_binAt hT hb) (by omega) rfl (show 1 = (abMe 173).2.1 from by decide +kernel) (show 1 + (abMe 173).1.2.2.1 ≤ 49 from by decide +kernel) (fun o ku h => ?_)
      obtain ⟨rfl, e9⟩ := h
      have e9 := e9.symm
      subst e9
      show haW x nu 132 [haR 51 860, haI (b), avJ] [haI (520 + 164 * b), haR 56 866]
      refine ha_s (pc' := 133) (ls' := [haR 51 860, haI (b), avJ]) (st' := [haI (0), haI (520 + 164 * b), haR 56 866]) hF (haEt hT (e := (1, 132, 0, 0, 9223372036854775808, [])) (k := 180) (pc := 132) (by decide) (by decide +kernel) rfl) rfl (fun RG => avS1) (fun nx => rfl) ?_
      refine ha_iast (r := 56) hF (haEt hT (e := (69, 133, 0, 0, 0, [])) (k := 180) (pc := 133) (by decide) (by decide +kernel) rfl) rfl rfl (by decide +kernel) (by omega) (by show _ < (1745 : Int); omega) (haFB hb) (by omega) (by omega) ?_
      refine ha_iinc (i := 1) (c := 1) hF (haEt hT (e := (20, 134, 0, 1, 9223372036854775809, [])) (k := 180) (pc := 134) (by decide) (by decide +kernel) rfl) rfl rfl rfl rfl rfl (by omega) (by omega) ?_
      show haW _ _ 137 [haR 51 860, haI (b + 1), avJ] []
      refine ha_s (pc' := 118) (ls' := [haR 51 860, haI (b + 1), avJ]) (st' := []) hF (haEt hT (e := (58, 137, 118, 0, 0, [])) (k := 180) (pc := 137) (by decide) (by decide +kernel) rfl) rfl (fun RG => avS58) (fun nx => rfl) ?_
      exact ih (b + 1) _ (by omega) (by omega) (h1.eq (haUp_n (fun z => by omega)) (haUp_n (fun z => by omega)) (haUp_n (fun z => by omega))) (h2.up (Or.inr (Or.inl rfl))) (wd866 h3 (fun i => haUp_n (fun z => absurd z.1 (by decide))))
  have l85 : ∀ (mm : Nat) (g : Int) (nu : haMu), (mm : Int) = 4 - g → 0 ≤ g → haLi nu → haTf mu nu → haWd nu → haW x nu 85 [haR 51 860, haI (g), avJ] [] := by
    intro mm
    induction mm with
    | zero =>
      intro g nu hm g0 h1 h2 h3
      refine ha_s (pc' := 86) (ls' := [haR 51 860, haI (g), avJ]) (st' := [haI (g)]) hF (haEt hT (e := (9, 85, 0, 1, 0, [])) (k := 180) (pc := 85) (by decide) (by decide +kernel) rfl) rfl (fun RG => avS9) (fun nx => rfl) ?_
      refine ha_s (pc' := 87) (ls' := [haR 51 860, haI (g), avJ]) (st' := [haI (4), haI (g)]) hF (haEt hT (e := (1, 86, 0, 0, 9223372036854775812, [])) (k := 180) (pc := 86) (by decide) (by decide +kernel) rfl) rfl (fun RG => avS1) (fun nx => rfl) ?_
      refine ha_icge hF (haEt hT (e := (55, 87, 116, 0, 0, [])) (k := 180) (pc := 87) (by decide) (by decide +kernel) rfl) rfl rfl rfl (fun _ => ?_) (fun q => by omega)
      refine ha_s (pc' := 117) (ls' := [haR 51 860, haI (g), avJ]) (st' := [haI (0)]) hF (haEt hT (e := (1, 116, 0, 0, 9223372036854775808, [])) (k := 180) (pc := 116) (by decide) (by decide +kernel) rfl) rfl (fun RG => avS1) (fun nx => rfl) ?_
      refine ha_s (pc' := 118) (ls' := [haR 51 860, haI (0), avJ]) (st' := []) hF (haEt hT (e := (15, 117, 0, 1, 0, [])) (k := 180) (pc := 117) (by decide) (by decide +kernel) rfl) rfl (fun RG => avS15) (fun nx => rfl) ?_
      exact l118 6 0 nu rfl (Int.le_refl 0) h1 h2 h3
    | succ mm ih =>
      intro g nu hm g0 h1 h2 h3
      have hg : 0 ≤ g ∧ g ≤ 3 := by omega
      refine ha_s (pc' := 86) (ls' := [haR 51 860, haI (g), avJ]) (st' := [haI (g)]) hF (haEt hT (e := (9, 85, 0, 1, 0, [])) (k := 180) (pc := 85) (by decide) (by decide +kernel) rfl) rfl (fun RG => avS9) (fun nx => rfl) ?_
      refine ha_s (pc' := 87) (ls' := [haR 51 860, haI (g), avJ]) (st' := [haI (4), haI (g)]) hF (haEt hT (e := (1, 86, 0, 0, 9223372036854775812, [])) (k := 180) (pc := 86) (by decide) (by decide +kernel) rfl) rfl (fun RG => avS1) (fun nx => rfl) ?_
      refine ha_icge hF (haEt hT (e := (55, 87, 116, 0, 0, [])) (k := 180) (pc := 87) (by decide) (by decide +kernel) rfl) rfl rfl rfl (fun q => by omega) (fun _ => ?_)
      refine ha_s (pc' := 91) (ls' := [haR 51 860, haI (g), avJ]) (st' := [haR 51 860]) hF (haEt hT (e := (13, 90, 0, 0, 0, [])) (k := 180) (pc := 90) (by decide) (by decide +kernel) rfl) rfl (fun RG => avS13) (fun nx => rfl) ?_
      refine ha_getR (r := 51) (j := 860) (i := 15) (r' := 61) (j' := 867) hF (haEt hT (e := (60, 91, 12, 15, 37, [1358])) (k := 180) (pc := 91) (by decide) (by decide +kernel) rfl) rfl rfl rfl (by decide +kernel) (by decide) (by decide +kernel) (by rfl) ?_
      refine ha_s (pc' := 95) (ls' := [haR 51 860, haI (g), avJ]) (st' := [haI (g), haR 61 867]) hF (haEt hT (e := (9, 94, 0, 1, 0, [])) (k := 180) (pc := 94) (by decide) (by decide +kernel) rfl) rfl (fun RG => avS9) (fun nx => rfl) ?_
      refine ha_s (pc' := 96) (ls' := [haR 51 860, haI (g), avJ]) (st' := [haI (0), haI (g), haR 61 867]) hF (haEt hT (e := (1, 95, 0, 0, 9223372036854775808, [])) (k := 180) (pc := 95) (by decide) (by decide +kernel) rfl) rfl (fun RG => avS1) (fun nx => rfl) ?_
      refine ha_bast (r := 61) hF (haEt hT (e := (70, 96, 0, 0, 0, [])) (k := 180) (pc := 96) (by decide) (by decide +kernel) rfl) rfl rfl (by decide +kernel) (by omega) (by show _ < (4 : Int); omega) (by rfl) (by omega) (by omega) ⟨by omega, by omega⟩ ?_
      replace h1 : haLi (haUp nu 867 g 0) := h1.eq (haUp_n (fun z => absurd z.1 (by decide))) (haUp_n (fun z => absurd z.1 (by decide))) (haUp_n (fun z => absurd z.1 (by decide)))
      replace h2 := h2.up (j0 := 867) (i0 := g) (v := 0) (Or.inr (Or.inr (Or.inl rfl)))
      replace h3 : haWd (haUp nu 867 g 0) := wd866 h3 (fun i => haUp_n (fun z => absurd z.1 (by decide)))
      generalize haUp nu 867 g 0 = nu at h1 h2 h3 ⊢
      refine ha_s (pc' := 98) (ls' := [haR 51 860, haI (g), avJ]) (st' := [haR 51 860]) hF (haEt hT (e := (13, 97, 0, 0, 0, [])) (k := 180) (pc := 97) (by decide) (by decide +kernel) rfl) rfl (fun RG => avS13) (fun nx => rfl) ?_
      refine ha_getR (r := 51) (j := 860) (i := 14) (r' := 56) (j' := 866) hF (haEt hT (e := (60, 98, 12, 14, 34, [1357])) (k := 180) (pc := 98) (by decide) (by decide +kernel) rfl) rfl rfl rfl (by decide +kernel) (by decide) (by decide +kernel) (by rfl) ?_
      refine ha_s (pc' := 103) (ls' := [haR 51 860, haI (g), avJ]) (st' := [haI (28), haR 56 866]) hF (haEt hT (e := (2, 101, 0, 0, 9223372036854775836, [])) (k := 180) (pc := 101) (by decide) (by decide +kernel) rfl) rfl (fun RG => avS2) (fun nx => rfl) ?_
      refine ha_s (pc' := 104) (ls' := [haR 51 860, haI (g), avJ]) (st' := [haI (3), haI (28), haR 56 866]) hF (haEt hT (e := (1, 103, 0, 0, 9223372036854775811, [])) (k := 180) (pc := 103) (by decide) (by decide +kernel) rfl) rfl (fun RG => avS1) (fun nx => rfl) ?_
      refine ha_s (pc' := 105) (ls' := [haR 51 860, haI (g), avJ]) (st' := [haI (g), haI (3), haI (28), haR 56 866]) hF (haEt hT (e := (9, 104, 0, 1, 0, [])) (k := 180) (pc := 104) (by decide) (by decide +kernel) rfl) rfl (fun RG => avS9) (fun nx => rfl) ?_
      refine ha_imul hF (haEt hT (e := (23, 105, 0, 0, 0, [])) (k := 180) (pc := 105) (by decide) (by decide +kernel) rfl) rfl rfl (by omega) (by omega) ?_
      refine ha_iadd hF (haEt hT (e := (21, 106, 0, 0, 0, [])) (k := 180) (pc := 106) (by decide) (by decide +kernel) rfl) rfl rfl (by omega) (by omega) ?_
      rw [show 28 + (g) * (3) = 28 + 3 * g by omega]
      refine ha_callS (q := 172) (d' := d) (as := [haR 56 866, haI (28 + 3 * g)]) (rest := []) hT hF (haEt hT (e := (79, 107, 172, 0, 104, [1334, 1335])) (k := 180) (pc := 107) (by decide) (by decide +kernel) rfl) rfl rfl rfl (by decide +kernel) (hm_grainAtFirst hT hg) (by omega) rfl (show 2 = (abMe 172).2.1 from by decide +kernel) (show 0 + (abMe 172).1.2.2.1 ≤ 49 from by decide +kernel) (fun o k1 h => ?_)
      obtain ⟨rfl, f1⟩ := h
      show haW x k1 110 [haR 51 860, haI (g), avJ] []
      refine ha_iinc (i := 1) (c := 1) hF (haEt hT (e := (20, 110, 0, 1, 9223372036854775809, [])) (k := 180) (pc := 110) (by decide) (by decide +kernel) rfl) rfl rfl rfl rfl rfl (by omega) (by omega) ?_
      show haW _ _ 113 [haR 51 860, haI (g + 1), avJ] []
      refine ha_s (pc' := 85) (ls' := [haR 51 860, haI (g + 1), avJ]) (st' := []) hF (haEt hT (e := (58, 113, 85, 0, 0, [])) (k := 180) (pc := 113) (by decide) (by decide +kernel) rfl) rfl (fun RG => avS58) (fun nx => rfl) ?_
      exact ih (g + 1) k1 (by omega) (by omega) (h1.eq (f1 _ _ (fun z => by omega)) (f1 _ _ (fun z => by omega)) (f1 _ _ (fun z => by omega))) ⟨fun j i hg a1 a2 a3 a4 => (f1 j i (fun z => a2 z.1)).trans (h2.1 j i hg a1 a2 a3 a4), (f1 _ _ (fun z => by omega)).trans h2.2⟩ (wd866 h3 (fun i => f1 _ _ (fun z => absurd z.1 (by decide))))
  have l64 : ∀ (mm : Nat) (i : Int) (nu : haMu), (mm : Int) = 8 - i → 5 ≤ i → (∀ c : Int, 5 ≤ c → c < i → c < 8 → nu 866 c = 0) → haTf mu nu → haWd nu → haW x nu 64 [haR 51 860, haI (i), avJ] [] := by
    intro mm
    induction mm with
    | zero =>
      intro i nu hm i0 h1 h2 h3
      refine ha_s (pc' := 65) (ls' := [haR 51 860, haI (i), avJ]) (st' := [haI (i)]) hF (haEt hT (e := (9, 64, 0, 1, 0, [])) (k := 180) (pc := 64) (by decide) (by decide +kernel) rfl) rfl (fun RG => avS9) (fun nx => rfl) ?_
      refine ha_s (pc' := 67) (ls' := [haR 51 860, haI (i), avJ]) (st' := [haI (7), haI (i)]) hF (haEt hT (e := (2, 65, 0, 0, 9223372036854775815, [])) (k := 180) (pc := 65) (by decide) (by decide +kernel) rfl) rfl (fun RG => avS2) (fun nx => rfl) ?_
      refine ha_icgt hF (haEt hT (e := (56, 67, 83, 0, 0, [])) (k := 180) (pc := 67) (by decide) (by decide +kernel) rfl) rfl rfl rfl (fun _ => ?_) (fun q => by omega)
      refine ha_s (pc' := 84) (ls' := [haR 51 860, haI (i), avJ]) (st' := [haI (0)]) hF (haEt hT (e := (1, 83, 0, 0, 9223372036854775808, [])) (k := 180) (pc := 83) (by decide) (by decide +kernel) rfl) rfl (fun RG => avS1) (fun nx => rfl) ?_
      refine ha_s (pc' := 85) (ls' := [haR 51 860, haI (0), avJ]) (st' := []) hF (haEt hT (e := (15, 84, 0, 1, 0, [])) (k := 180) (pc := 84) (by decide) (by decide +kernel) rfl) rfl (fun RG => avS15) (fun nx => rfl) ?_
      refine l85 4 0 nu rfl (Int.le_refl 0) ?_ h2 h3
      unfold haLi
      rw [h1 5 (by omega) (by omega) (by omega), h1 6 (by omega) (by omega) (by omega), h1 7 (by omega) (by omega) (by omega)]
      omega
    | succ mm ih =>
      intro i nu hm i0 h1 h2 h3
      have hi : i = 5 ∨ i = 6 ∨ i = 7 := by omega
      have s5 : (avRT.get 56).2.2.get i.toNat = (0, 0, 30) := by
        rcases hi with e | e | e <;> subst e <;> rfl
      refine ha_s (pc' := 65) (ls' := [haR 51 860, haI (i), avJ]) (st' := [haI (i)]) hF (haEt hT (e := (9, 64, 0, 1, 0, [])) (k := 180) (pc := 64) (by decide) (by decide +kernel) rfl) rfl (fun RG => avS9) (fun nx => rfl) ?_
      refine ha_s (pc' := 67) (ls' := [haR 51 860, haI (i), avJ]) (st' := [haI (7), haI (i)]) hF (haEt hT (e := (2, 65, 0, 0, 9223372036854775815, [])) (k := 180) (pc := 65) (by decide) (by decide +kernel) rfl) rfl (fun RG => avS2) (fun nx => rfl) ?_
      refine ha_icgt hF (haEt hT (e := (56, 67, 83, 0, 0, [])) (k := 180) (pc := 67) (by decide) (by decide +kernel) rfl) rfl rfl rfl (fun q => by omega) (fun _ => ?_)
      refine ha_s (pc' := 71) (ls' := [haR 51 860, haI (i), avJ]) (st' := [haR 51 860]) hF (haEt hT (e := (13, 70, 0, 0, 0, [])) (k := 180) (pc := 70) (by decide) (by decide +kernel) rfl) rfl (fun RG => avS13) (fun nx => rfl) ?_
      refine ha_getR (r := 51) (j := 860) (i := 14) (r' := 56) (j' := 866) hF (haEt hT (e := (60, 71, 12, 14, 34, [1357])) (k := 180) (pc := 71) (by decide) (by decide +kernel) rfl) rfl rfl rfl (by decide +kernel) (by decide) (by decide +kernel) (by rfl) ?_
      refine ha_s (pc' := 75) (ls' := [haR 51 860, haI (i), avJ]) (st' := [haI (i), haR 56 866]) hF (haEt hT (e := (9, 74, 0, 1, 0, [])) (k := 180) (pc := 74) (by decide) (by decide +kernel) rfl) rfl (fun RG => avS9) (fun nx => rfl) ?_
      refine ha_s (pc' := 76) (ls' := [haR 51 860, haI (i), avJ]) (st' := [haI (0), haI (i), haR 56 866]) hF (haEt hT (e := (1, 75, 0, 0, 9223372036854775808, [])) (k := 180) (pc := 75) (by decide) (by decide +kernel) rfl) rfl (fun RG => avS1) (fun nx => rfl) ?_
      refine ha_iast (r := 56) hF (haEt hT (e := (69, 76, 0, 0, 0, [])) (k := 180) (pc := 76) (by decide) (by decide +kernel) rfl) rfl rfl (by decide +kernel) (by omega) (by show _ < (1745 : Int); omega) s5 (by omega) (by omega) ?_
      refine ha_iinc (i := 1) (c := 1) hF (haEt hT (e := (20, 77, 0, 1, 9223372036854775809, [])) (k := 180) (pc := 77) (by decide) (by decide +kernel) rfl) rfl rfl rfl rfl rfl (by omega) (by omega) ?_
      show haW _ _ 80 [haR 51 860, haI (i + 1), avJ] []
      refine ha_s (pc' := 64) (ls' := [haR 51 860, haI (i + 1), avJ]) (st' := []) hF (haEt hT (e := (58, 80, 64, 0, 0, [])) (k := 180) (pc := 80) (by decide) (by decide +kernel) rfl) rfl (fun RG => avS58) (fun nx => rfl) ?_
      refine ih (i + 1) _ (by omega) (by omega) (fun c c0 c1 c2 => ?_) (h2.up (Or.inr (Or.inl rfl))) (wd866 h3 (fun i => haUp_n (fun z => absurd z.1 (by decide))))
      by_cases e : c = i
      · rw [e, haUp_s]
      · rw [haUp_n (fun z => e z.2)]
        exact h1 c c0 (by omega) c2
  have e34 : ∀ (nu : haMu) (v1 : avV), haTf mu nu → haWd nu → haW x nu 34 [haR 51 860, v1, avJ] [] := by
    intro nu v1 h2 h3
    refine ha_bdF (j := 860) (r := 51) (i := 5) (lo := 0) (up := 600) hF (by decide) (by decide +kernel) (by decide +kernel) (by decide +kernel) (by rfl) (fun u1 u2 => ?_)
    refine ha_s (pc' := 35) (ls' := [haR 51 860, v1, avJ]) (st' := [haR 51 860]) hF (haEt hT (e := (13, 34, 0, 0, 0, [])) (k := 180) (pc := 34) (by decide) (by decide +kernel) rfl) rfl (fun RG => avS13) (fun nx => rfl) ?_
    refine ha_s (pc' := 36) (ls' := [haR 51 860, v1, avJ]) (st' := [haR 51 860, haR 51 860]) hF (haEt hT (e := (13, 35, 0, 0, 0, [])) (k := 180) (pc := 35) (by decide) (by decide +kernel) rfl) rfl (fun RG => avS13) (fun nx => rfl) ?_
    refine ha_getI (r := 51) (j := 860) (i := 5) (lo := 0) (up := 600) hF (haEt hT (e := (60, 36, 12, 5, 141, [1348])) (k := 180) (pc := 36) (by decide) (by decide +kernel) rfl) rfl rfl rfl (by decide +kernel) (by decide) (by decide +kernel) (by rfl) ?_
    refine ha_putI (r := 51) (j := 860) (i := 7) (lo := 0) (up := 600) hF (haEt hT (e := (61, 39, 12, 7, 144, [1350])) (k := 180) (pc := 39) (by decide) (by decide +kernel) rfl) rfl rfl rfl (by decide +kernel) (by decide +kernel) (fun q hq => by cases hq; rfl) (by rfl) u1 u2 ?_
    refine ha_s (pc' := 43) (ls' := [haR 51 860, v1, avJ]) (st' := [haR 51 860]) hF (haEt hT (e := (13, 42, 0, 0, 0, [])) (k := 180) (pc := 42) (by decide) (by decide +kernel) rfl) rfl (fun RG => avS13) (fun nx => rfl) ?_
    refine ha_s (pc' := 44) (ls' := [haR 51 860, v1, avJ]) (st' := [haI (0), haR 51 860]) hF (haEt hT (e := (1, 43, 0, 0, 9223372036854775808, [])) (k := 180) (pc := 43) (by decide) (by decide +kernel) rfl) rfl (fun RG => avS1) (fun nx => rfl) ?_
    refine ha_putI (r := 51) (j := 860) (i := 5) (lo := 0) (up := 600) hF (haEt hT (e := (61, 44, 12, 5, 141, [1348])) (k := 180) (pc := 44) (by decide) (by decide +kernel) rfl) rfl rfl rfl (by decide +kernel) (by decide +kernel) (fun q hq => by cases hq; rfl) (by rfl) (by omega) (by omega) ?_
    refine ha_s (pc' := 48) (ls' := [haR 51 860, v1, avJ]) (st' := [haR 51 860]) hF (haEt hT (e := (13, 47, 0, 0, 0, [])) (k := 180) (pc := 47) (by decide) (by decide +kernel) rfl) rfl (fun RG => avS13) (fun nx => rfl) ?_
    refine ha_s (pc' := 49) (ls' := [haR 51 860, v1, avJ]) (st' := [haI (0), haR 51 860]) hF (haEt hT (e := (1, 48, 0, 0, 9223372036854775808, [])) (k := 180) (pc := 48) (by decide) (by decide +kernel) rfl) rfl (fun RG => avS1) (fun nx => rfl) ?_
    refine ha_putI (r := 51) (j := 860) (i := 8) (lo := 0) (up := 600) hF (haEt hT (e := (61, 49, 12, 8, 147, [1351])) (k := 180) (pc := 49) (by decide) (by decide +kernel) rfl) rfl rfl rfl (by decide +kernel) (by decide +kernel) (fun q hq => by cases hq; rfl) (by rfl) (by omega) (by omega) ?_
    refine ha_s (pc' := 53) (ls' := [haR 51 860, v1, avJ]) (st' := [haR 51 860]) hF (haEt hT (e := (13, 52, 0, 0, 0, [])) (k := 180) (pc := 52) (by decide) (by decide +kernel) rfl) rfl (fun RG => avS13) (fun nx => rfl) ?_
    refine ha_s (pc' := 54) (ls' := [haR 51 860, v1, avJ]) (st' := [haI (0), haR 51 860]) hF (haEt hT (e := (1, 53, 0, 0, 9223372036854775808, [])) (k := 180) (pc := 53) (by decide) (by decide +kernel) rfl) rfl (fun RG => avS1) (fun nx => rfl) ?_
    refine ha_putI (r := 51) (j := 860) (i := 12) (lo := 0) (up := 3) hF (haEt hT (e := (61, 54, 12, 12, 174, [1355])) (k := 180) (pc := 54) (by decide) (by decide +kernel) rfl) rfl rfl rfl (by decide +kernel) (by decide +kernel) (fun q hq => by cases hq; rfl) (by rfl) (by omega) (by omega) ?_
    refine ha_s (pc' := 58) (ls' := [haR 51 860, v1, avJ]) (st' := [haR 51 860]) hF (haEt hT (e := (13, 57, 0, 0, 0, [])) (k := 180) (pc := 57) (by decide) (by decide +kernel) rfl) rfl (fun RG => avS13) (fun nx => rfl) ?_
    refine ha_s (pc' := 59) (ls' := [haR 51 860, v1, avJ]) (st' := [haI (-1), haR 51 860]) hF (haEt hT (e := (1, 58, 0, 0, 9223372036854775807, [])) (k := 180) (pc := 58) (by decide) (by decide +kernel) rfl) rfl (fun RG => avS1) (fun nx => rfl) ?_
    refine ha_putI (r := 51) (j := 860) (i := 13) (lo := -1) (up := 600) hF (haEt hT (e := (61, 59, 12, 13, 31, [1356])) (k := 180) (pc := 59) (by decide) (by decide +kernel) rfl) rfl rfl rfl (by decide +kernel) (by decide +kernel) (fun q hq => by cases hq; rfl) (by rfl) (by omega) (by omega) ?_
    refine ha_s (pc' := 63) (ls' := [haR 51 860, v1, avJ]) (st' := [haI (5)]) hF (haEt hT (e := (1, 62, 0, 0, 9223372036854775813, [])) (k := 180) (pc := 62) (by decide) (by decide +kernel) rfl) rfl (fun RG => avS1) (fun nx => rfl) ?_
    refine ha_s (pc' := 64) (ls' := [haR 51 860, haI (5), avJ]) (st' := []) hF (haEt hT (e := (15, 63, 0, 1, 0, [])) (k := 180) (pc := 63) (by decide) (by decide +kernel) rfl) rfl (fun RG => avS15) (fun nx => rfl) ?_
    exact l64 3 5 _ rfl (Int.le_refl 5) (fun c c0 c1 _ => by omega) (((((h2.up (Or.inl rfl)).up (Or.inl rfl)).up (Or.inl rfl)).up (Or.inl rfl)).up (Or.inl rfl)) (wd866 h3 (fun i => by
      rw [haUp_n (fun z => absurd z.1 (by decide)), haUp_n (fun z => absurd z.1 (by decide)), haUp_n (fun z => absurd z.1 (by decide)), haUp_n (fun z => absurd z.1 (by decide)), haUp_n (fun z => absurd z.1 (by decide))]))
  have e25 : ∀ (nu : haMu) (b : Int), haTf mu nu → haWd nu → haW x nu 25 [haR 51 860, haI (b), avJ] [] := by
    intro nu b h2 h3
    refine ha_s (pc' := 27) (ls' := [haR 51 860, haI (b), avJ]) (st' := [haI (-5)]) hF (haEt hT (e := (2, 25, 0, 0, 9223372036854775803, [])) (k := 180) (pc := 25) (by decide) (by decide +kernel) rfl) rfl (fun RG => avS2) (fun nx => rfl) ?_
    exact hR 27 _ _ _ _ (83, 27, 0, 0, 0, []) (haEt hT (e := (83, 27, 0, 0, 0, [])) (k := 180) (pc := 27) (by decide) (by decide +kernel) rfl) rfl (Or.inr (Or.inr ⟨rfl, _, rfl, rfl, rfl, fun h => by cases h⟩)) ⟨⟨_, rfl⟩, h3, h2⟩
  have l2 : ∀ (mm : Nat) (b : Int) (nu : haMu), (mm : Int) = 6 - b → 0 ≤ b → haTf mu nu → haWd nu → haW x nu 2 [haR 51 860, haI (b), avJ] [] := by
    intro mm
    induction mm with
    | zero =>
      intro b nu hm b0 h2 h3
      refine ha_s (pc' := 3) (ls' := [haR 51 860, haI (b), avJ]) (st' := [haI (b)]) hF (haEt hT (e := (9, 2, 0, 1, 0, [])) (k := 180) (pc := 2) (by decide) (by decide +kernel) rfl) rfl (fun RG => avS9) (fun nx => rfl) ?_
      refine ha_s (pc' := 5) (ls' := [haR 51 860, haI (b), avJ]) (st' := [haI (6), haI (b)]) hF (haEt hT (e := (2, 3, 0, 0, 9223372036854775814, [])) (k := 180) (pc := 3) (by decide) (by decide +kernel) rfl) rfl (fun RG => avS2) (fun nx => rfl) ?_
      exact ha_icge hF (haEt hT (e := (55, 5, 34, 0, 0, [])) (k := 180) (pc := 5) (by decide) (by decide +kernel) rfl) rfl rfl rfl (fun _ => e34 nu _ h2 h3) (fun q => by omega)
    | succ mm ih =>
      intro b nu hm b0 h2 h3
      have hb : 0 ≤ b ∧ b ≤ 5 := by omega
      refine ha_s (pc' := 3) (ls' := [haR 51 860, haI (b), avJ]) (st' := [haI (b)]) hF (haEt hT (e := (9, 2, 0, 1, 0, [])) (k := 180) (pc := 2) (by decide) (by decide +kernel) rfl) rfl (fun RG => avS9) (fun nx => rfl) ?_
      refine ha_s (pc' := 5) (ls' := [haR 51 860, haI (b), avJ]) (st' := [haI (6), haI (b)]) hF (haEt hT (e := (2, 3, 0, 0, 9223372036854775814, [])) (k := 180) (pc := 3) (by decide) (by decide +kernel) rfl) rfl (fun RG => avS2) (fun nx => rfl) ?_
      refine ha_icge hF (haEt hT (e := (55, 5, 34, 0, 0, [])) (k := 180) (pc := 5) (by decide) (by decide +kernel) rfl) rfl rfl rfl (fun q => by omega) (fun _ => ?_)
      refine ha_s (pc' := 9) (ls' := [haR 51 860, haI (b), avJ]) (st' := [haR 51 860]) hF (haEt hT (e := (13, 8, 0, 0, 0, [])) (k := 180) (pc := 8) (by decide) (by decide +kernel) rfl) rfl (fun RG => avS13) (fun nx => rfl) ?_
      refine ha_s (pc' := 10) (ls' := [haR 51 860, haI (b), avJ]) (st' := [haI (b), haR 51 860]) hF (haEt hT (e := (9, 9, 0, 1, 0, [])) (k := 180) (pc := 9) (by decide) (by decide +kernel) rfl) rfl (fun RG => avS9) (fun nx => rfl) ?_
      refine ha_callV (q := 181) (d' := 2) (r := 51) (j := 860) (as := [haI b]) (rest := []) hT hF (haEt hT (e := (78, 10, 181, 0, 273, [1491, 1493, 34])) (k := 180) (pc := 10) (by decide) (by decide +kernel) rfl) rfl rfl rfl (by decide +kernel) (by decide +kernel) (hm_unitsOf hT hb) (by omega) rfl (show 1 = (abMe 181).2.1 from by decide +kernel) (show 0 + (abMe 181).1.2.2.1 ≤ 49 from by decide +kernel) (fun o k1 h => ?_)
      obtain ⟨⟨u, rfl, -, -⟩, f1⟩ := h
      show haW x k1 13 [haR 51 860, haI (b), avJ] [haI u]
      refine ha_ifgt hF (haEt hT (e := (50, 13, 25, 0, 0, [])) (k := 180) (pc := 13) (by decide) (by decide +kernel) rfl) rfl rfl rfl (fun _ => e25 k1 b (h2.fm f1) (haWd_fm h3 f1)) (fun _ => ?_)
      refine ha_s (pc' := 17) (ls' := [haR 51 860, haI (b), avJ]) (st' := [haR 51 860]) hF (haEt hT (e := (13, 16, 0, 0, 0, [])) (k := 180) (pc := 16) (by decide) (by decide +kernel) rfl) rfl (fun RG => avS13) (fun nx => rfl) ?_
      refine ha_s (pc' := 18) (ls' := [haR 51 860, haI (b), avJ]) (st' := [haI (b), haR 51 860]) hF (haEt hT (e := (9, 17, 0, 1, 0, [])) (k := 180) (pc := 17) (by decide) (by decide +kernel) rfl) rfl (fun RG => avS9) (fun nx => rfl) ?_
      refine ha_callV (q := 183) (d' := 0) (r := 51) (j := 860) (as := [haI b]) (rest := []) hT hF (haEt hT (e := (78, 18, 183, 0, 276, [1498, 1500, 35])) (k := 180) (pc := 18) (by decide) (by decide +kernel) rfl) rfl rfl rfl (by decide +kernel) (by decide +kernel) (hm_manIn hT hb) (by omega) rfl (show 1 = (abMe 183).2.1 from by decide +kernel) (show 0 + (abMe 183).1.2.2.1 ≤ 49 from by decide +kernel) (fun o k2 h => ?_)
      obtain ⟨⟨u2, rfl⟩, f2⟩ := h
      replace f2 := f1.tr f2
      show haW x k2 21 [haR 51 860, haI (b), avJ] [haI u2]
      refine ha_s (pc' := 22) (ls' := [haR 51 860, haI (b), avJ]) (st' := [haI (-1), haI (u2)]) hF (haEt hT (e := (1, 21, 0, 0, 9223372036854775807, [])) (k := 180) (pc := 21) (by decide) (by decide +kernel) rfl) rfl (fun RG => avS1) (fun nx => rfl) ?_
      refine ha_iceq hF (haEt hT (e := (52, 22, 28, 0, 0, [])) (k := 180) (pc := 22) (by decide) (by decide +kernel) rfl) rfl rfl rfl (fun _ => ?_) (fun _ => e25 k2 b (h2.fm f2) (haWd_fm h3 f2))
      refine ha_iinc (i := 1) (c := 1) hF (haEt hT (e := (20, 28, 0, 1, 9223372036854775809, [])) (k := 180) (pc := 28) (by decide) (by decide +kernel) rfl) rfl rfl rfl rfl rfl (by omega) (by omega) ?_
      show haW _ _ 31 [haR 51 860, haI (b + 1), avJ] []
      refine ha_s (pc' := 2) (ls' := [haR 51 860, haI (b + 1), avJ]) (st' := []) hF (haEt hT (e := (58, 31, 2, 0, 0, [])) (k := 180) (pc := 31) (by decide) (by decide +kernel) rfl) rfl (fun RG => avS58) (fun nx => rfl) ?_
      exact ih (b + 1) k2 (by omega) (by omega) (h2.fm f2) (haWd_fm h3 f2)
  refine ha_s (pc' := 1) (ls' := [haR 51 860, avJ, avJ]) (st' := [haI (0)]) hF (haEt hT (e := (1, 0, 0, 0, 9223372036854775808, [])) (k := 180) (pc := 0) (by decide) (by decide +kernel) rfl) rfl (fun RG => avS1) (fun nx => rfl) ?_
  refine ha_s (pc' := 2) (ls' := [haR 51 860, haI (0), avJ]) (st' := []) hF (haEt hT (e := (15, 1, 0, 1, 0, [])) (k := 180) (pc := 1) (by decide) (by decide +kernel) rfl) rfl (fun RG => avS15) (fun nx => rfl) ?_
  exact l2 6 0 mu rfl (Int.le_refl 0) ⟨fun _ _ _ _ _ _ _ => rfl, rfl⟩ hW
