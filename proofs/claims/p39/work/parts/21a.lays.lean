/-! TallBinsModel.lays, by hand -/
theorem haEt (hT : abTabs) {k pc : Nat} {e : abEy} (hk : k < abNM + 3) (h : avEqE ((abMe k).2.2.2.2.2.get pc) e = true) (hp : e.2.1 = pc) : abEtOk k e := by
  have h1 := avEqE_ok h
  have h2 := (hT.2.2 k pc hk (by rw [h1]; exact hp)).1
  rwa [h1] at h2
noncomputable def haWsC (b r i : Int) : Bool := abIf (abIf (aiLe 1 i) (aiLe i 3) false) (avEqS ((avRT.get 77).2.2.get (540 + 164 * b + 12 * r + i).toNat) (0, -2147483648, 2147483647)) (avEqS ((avRT.get 77).2.2.get (540 + 164 * b + 12 * r + i).toNat) (0, 0, 1000))
theorem haWsA : avAllR 0 6 (fun b => avAllR 0 12 (fun r => avAllR 0 12 (fun i => haWsC b r i))) = true := by decide +kernel
theorem haWs {b r i : Int} (hb : 0 ≤ b ∧ b ≤ 5) (hr : 0 ≤ r ∧ r ≤ 11) (hi : 0 ≤ i ∧ i ≤ 11) : ∃ lo up : Int, (avRT.get 77).2.2.get (540 + 164 * b + 12 * r + i).toNat = (0, lo, up) ∧ ((1 ≤ i ∧ i ≤ 3 ∧ lo = -2147483648 ∧ up = 2147483647) ∨ (¬ (1 ≤ i ∧ i ≤ 3) ∧ lo = 0 ∧ up = 1000)) := by
  have h := avAllR_ok (avAllR_ok (avAllR_ok haWsA b hb.1 (by omega)) r hr.1 (by omega)) i hi.1 (by omega)
  unfold haWsC at h
  cases q1 : aiLe 1 i with
  | false =>
    rw [q1, abIf_f rfl, abIf_f rfl] at h
    have := aiLe_f q1
    exact ⟨0, 1000, avEqS_ok h, Or.inr ⟨by omega, rfl, rfl⟩⟩
  | true =>
    rw [q1, abIf_t rfl] at h
    have := aiLe_ok q1
    cases q2 : aiLe i 3 with
    | false =>
      rw [q2, abIf_f rfl] at h
      have := aiLe_f q2
      exact ⟨0, 1000, avEqS_ok h, Or.inr ⟨by omega, rfl, rfl⟩⟩
    | true =>
      rw [q2, abIf_t rfl] at h
      have := aiLe_ok q2
      exact ⟨-2147483648, 2147483647, avEqS_ok h, Or.inl ⟨by omega, by omega, rfl, rfl⟩⟩
theorem hm_lays (hT : abTabs) {b r k : Int} {mu : haMu} (hb : 0 ≤ b ∧ b ≤ 5) (hr : 0 ≤ r ∧ r ≤ 11) (hk : k = 540 + 164 * b + 12 * r) (hsum : ∀ c : Int, 0 ≤ c → c ≤ 11 → ¬ (1 ≤ c ∧ c ≤ 3) → 0 ≤ mu 861 (k + c) + mu 868 c ∧ mu 861 (k + c) + mu 868 c ≤ 1000) : haSp 217 0 [haR 51 860, haI k] mu (fun o mu' => o = none ∧ (∀ (j : Nat) (i : Int), ¬ (j = 861 ∧ k ≤ i ∧ i ≤ k + 11) → mu' j i = mu j i) ∧ ∀ c : Int, 0 ≤ c → c ≤ 11 → ¬ (1 ≤ c ∧ c ≤ 3) → mu' 861 (k + c) = mu 861 (k + c) + mu 868 c) := by
  refine haMet (by decide) (hT.1 217 (by decide)) (fun v hv => ?_) (show 2 ≤ (abMe 217).1.2.2.1 from by decide +kernel) (fun x hF hR => ?_)
  · rcases List.mem_cons.mp hv with rfl | hv
    · decide
    · rcases List.mem_cons.mp hv with rfl | hv
      · exact Nat.zero_le 5
      · cases hv
  have loop : ∀ (n : Nat) (i : Int) (nu : haMu), (n : Int) = 12 - i → 0 ≤ i → (∀ (j : Nat) (q : Int), ¬ (j = 861 ∧ k ≤ q ∧ q ≤ k + 11) → nu j q = mu j q) → (∀ c : Int, i ≤ c → c ≤ 11 → nu 861 (k + c) = mu 861 (k + c)) → (∀ c : Int, 0 ≤ c → c < i → ¬ (1 ≤ c ∧ c ≤ 3) → nu 861 (k + c) = mu 861 (k + c) + mu 868 c) → haW x nu 2 [haR 51 860, haI (k), haI (i)] [] := by
    intro n
    induction n with
    | zero =>
      intro i nu hn h0 f1 f2 f3
      refine ha_s (pc' := 3) (ls' := [haR 51 860, haI (k), haI (i)]) (st' := [haI (i)]) hF (haEt hT (e := (9, 2, 0, 2, 0, [])) (k := 217) (pc := 2) (by decide) (by decide +kernel) rfl) rfl (fun RG => avS9) (fun nx => rfl) ?_
      refine ha_s (pc' := 5) (ls' := [haR 51 860, haI (k), haI (i)]) (st' := [haI (12), haI (i)]) hF (haEt hT (e := (2, 3, 0, 0, 9223372036854775820, [])) (k := 217) (pc := 3) (by decide) (by decide +kernel) rfl) rfl (fun RG => avS2) (fun nx => rfl) ?_
      refine ha_icge hF (haEt hT (e := (55, 5, 31, 0, 0, [])) (k := 217) (pc := 5) (by decide) (by decide +kernel) rfl) rfl rfl rfl (fun _ => ?_) (fun q => by omega)
      exact hR 31 _ _ _ none (82, 31, 0, 0, 0, []) (haEt hT (e := (82, 31, 0, 0, 0, [])) (k := 217) (pc := 31) (by decide) (by decide +kernel) rfl) rfl (Or.inl ⟨rfl, rfl, rfl⟩) ⟨rfl, f1, fun c c0 c1 c2 => f3 c c0 (by omega) c2⟩
    | succ n ih =>
      intro i nu hn h0 f1 f2 f3
      refine ha_s (pc' := 3) (ls' := [haR 51 860, haI (k), haI (i)]) (st' := [haI (i)]) hF (haEt hT (e := (9, 2, 0, 2, 0, [])) (k := 217) (pc := 2) (by decide) (by decide +kernel) rfl) rfl (fun RG => avS9) (fun nx => rfl) ?_
      refine ha_s (pc' := 5) (ls' := [haR 51 860, haI (k), haI (i)]) (st' := [haI (12), haI (i)]) hF (haEt hT (e := (2, 3, 0, 0, 9223372036854775820, [])) (k := 217) (pc := 3) (by decide) (by decide +kernel) rfl) rfl (fun RG => avS2) (fun nx => rfl) ?_
      refine ha_icge hF (haEt hT (e := (55, 5, 31, 0, 0, [])) (k := 217) (pc := 5) (by decide) (by decide +kernel) rfl) rfl rfl rfl (fun q => by omega) (fun _ => ?_)
      obtain ⟨lo, up, hs, hc⟩ := haWs (i := i) hb hr ⟨h0, by omega⟩
      have e1 := f2 i (Int.le_refl i) (by omega)
      have e2 := f1 868 i (fun q => absurd q.1 (by decide))
      have e3 := hsum i h0 (by omega)
      refine ha_s (pc' := 9) (ls' := [haR 51 860, haI (k), haI (i)]) (st' := [haR 51 860]) hF (haEt hT (e := (13, 8, 0, 0, 0, [])) (k := 217) (pc := 8) (by decide) (by decide +kernel) rfl) rfl (fun RG => avS13) (fun nx => rfl) ?_
      refine ha_getR (r := 51) (j := 860) (i := 1) (r' := 77) (j' := 861) hF (haEt hT (e := (60, 9, 12, 1, 13, [1344])) (k := 217) (pc := 9) (by decide) (by decide +kernel) rfl) rfl rfl rfl (by decide +kernel) (by decide) (by decide +kernel) (by rfl) ?_
      refine ha_s (pc' := 13) (ls' := [haR 51 860, haI (k), haI (i)]) (st' := [haI (k), haR 77 861]) hF (haEt hT (e := (9, 12, 0, 1, 0, [])) (k := 217) (pc := 12) (by decide) (by decide +kernel) rfl) rfl (fun RG => avS9) (fun nx => rfl) ?_
      refine ha_s (pc' := 14) (ls' := [haR 51 860, haI (k), haI (i)]) (st' := [haI (i), haI (k), haR 77 861]) hF (haEt hT (e := (9, 13, 0, 2, 0, [])) (k := 217) (pc := 13) (by decide) (by decide +kernel) rfl) rfl (fun RG => avS9) (fun nx => rfl) ?_
      refine ha_iadd hF (haEt hT (e := (21, 14, 0, 0, 0, [])) (k := 217) (pc := 14) (by decide) (by decide +kernel) rfl) rfl rfl (by omega) (by omega) ?_
      refine ha_s (pc' := 16) (ls' := [haR 51 860, haI (k), haI (i)]) (st' := [haI (k + (i)), haR 77 861, haI (k + (i)), haR 77 861]) hF (haEt hT (e := (45, 15, 0, 0, 0, [])) (k := 217) (pc := 15) (by decide) (by decide +kernel) rfl) rfl (fun RG => avS45) (fun nx => rfl) ?_
      refine ha_iald (r := 77) hF (haEt hT (e := (64, 16, 0, 0, 0, [])) (k := 217) (pc := 16) (by decide) (by decide +kernel) rfl) rfl rfl (by decide +kernel) (by omega) (by show _ < (1745 : Int); omega) ?_
      refine ha_s (pc' := 18) (ls' := [haR 51 860, haI (k), haI (i)]) (st' := [haR 51 860, haI (nu 861 (k + (i))), haI (k + (i)), haR 77 861]) hF (haEt hT (e := (13, 17, 0, 0, 0, [])) (k := 217) (pc := 17) (by decide) (by decide +kernel) rfl) rfl (fun RG => avS13) (fun nx => rfl) ?_
      refine ha_getR (r := 51) (j := 860) (i := 16) (r' := 66) (j' := 868) hF (haEt hT (e := (60, 18, 12, 16, 40, [1359])) (k := 217) (pc := 18) (by decide) (by decide +kernel) rfl) rfl rfl rfl (by decide +kernel) (by decide) (by decide +kernel) (by rfl) ?_
      refine ha_s (pc' := 22) (ls' := [haR 51 860, haI (k), haI (i)]) (st' := [haI (i), haR 66 868, haI (nu 861 (k + (i))), haI (k + (i)), haR 77 861]) hF (haEt hT (e := (9, 21, 0, 2, 0, [])) (k := 217) (pc := 21) (by decide) (by decide +kernel) rfl) rfl (fun RG => avS9) (fun nx => rfl) ?_
      refine ha_iald (r := 66) hF (haEt hT (e := (64, 22, 0, 0, 0, [])) (k := 217) (pc := 22) (by decide) (by decide +kernel) rfl) rfl rfl (by decide +kernel) (by omega) (by show _ < (12 : Int); omega) ?_
      refine ha_iaddA hF (haEt hT (e := (21, 23, 0, 0, 0, [])) (k := 217) (pc := 23) (by decide) (by decide +kernel) rfl) rfl rfl (fun w w1 w2 w3 => ?_)
      have hlo : lo ≤ w ∧ w ≤ up := by
        rcases hc with ⟨a1, a2, a3, a4⟩ | ⟨a1, a3, a4⟩
        · omega
        · have e4 := e3 a1
          have e5 := w3 (by omega) (by omega)
          omega
      refine ha_iast (r := 77) hF (haEt hT (e := (69, 24, 0, 0, 0, [])) (k := 217) (pc := 24) (by decide) (by decide +kernel) rfl) rfl rfl (by decide +kernel) (by omega) (by show _ < (1745 : Int); omega) (lo := lo) (up := up) (by rw [hk]; exact hs) hlo.1 hlo.2 ?_
      refine ha_iinc (i := 2) (c := 1) hF (haEt hT (e := (20, 25, 0, 2, 9223372036854775809, [])) (k := 217) (pc := 25) (by decide) (by decide +kernel) rfl) rfl rfl rfl rfl rfl (by omega) (by omega) ?_
      show haW _ _ 28 [haR 51 860, haI (k), haI (i + 1)] []
      refine ha_s (pc' := 2) (ls' := [haR 51 860, haI (k), haI (i + 1)]) (st' := []) hF (haEt hT (e := (58, 28, 2, 0, 0, [])) (k := 217) (pc := 28) (by decide) (by decide +kernel) rfl) rfl (fun RG => avS58) (fun nx => rfl) ?_
      refine ih (i + 1) (haUp nu 861 (k + i) w) (by omega) (by omega) (fun j q hq => ?_) (fun c c0 c1 => ?_) (fun c c0 c1 c2 => ?_)
      · rw [haUp_n (fun z => hq ⟨z.1, by omega, by omega⟩)]
        exact f1 j q hq
      · rw [haUp_n (fun z => by omega)]
        exact f2 c (by omega) c1
      · by_cases hci : c = i
        · subst hci
          rw [haUp_s]
          have e4 := e3 c2
          have e5 := w3 (by omega) (by omega)
          omega
        · rw [haUp_n (fun z => by omega)]
          exact f3 c c0 (by omega) c2
  refine ha_s (pc' := 1) (ls' := [haR 51 860, haI (k), avJ]) (st' := [haI (0)]) hF (haEt hT (e := (1, 0, 0, 0, 9223372036854775808, [])) (k := 217) (pc := 0) (by decide) (by decide +kernel) rfl) rfl (fun RG => avS1) (fun nx => rfl) ?_
  refine ha_s (pc' := 2) (ls' := [haR 51 860, haI (k), haI (0)]) (st' := []) hF (haEt hT (e := (15, 1, 0, 2, 0, [])) (k := 217) (pc := 1) (by decide) (by decide +kernel) rfl) rfl (fun RG => avS15) (fun nx => rfl) ?_
  exact loop 12 0 mu rfl (Int.le_refl 0) (fun _ _ _ => rfl) (fun _ _ _ => rfl) (fun c c0 c1 _ => by omega)
