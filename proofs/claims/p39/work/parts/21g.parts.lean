/-! TallBinsModel.parts -/
theorem haSp.mono {q d : Nat} {as : List avV} {mu : haMu} {P P' : Option avV → haMu → Prop} (h : haSp q d as mu P) (hp : ∀ o mu', P o mu' → P' o mu') : haSp q d as mu P' := by
  intro D z sb RG l ws vs h1 h2 h3 h4
  refine Jvm.Free.MetFree.mono (h D z sb RG l ws vs h1 h2 h3 h4) (fun _ _ h => h) (fun _ _ _ _ _ h => h) (fun a s o t hP hQ => ?_)
  obtain ⟨⟨⟨u, rv, o', e1, e2, e3, e4, e5⟩, e6⟩, e7⟩ := hQ
  exact ⟨⟨⟨u, rv, o', e1, e2, e3, e4, hp _ _ e5⟩, e6⟩, e7⟩
theorem haFit2 {a m l1 u1 l2 u2 : Int} (h1 : l1 ≤ a) (h2 : a ≤ u1) (h3 : l2 ≤ m) (h4 : m ≤ u2) : avFit haS0 (avTheta haS0 ([(1, 0, [(0, 1)], 0), (1, 0, [(1, 1)], 0)], [(l1, u1), (l2, u2)], [], []) [haL a, haL m]) ([(1, 0, [(0, 1)], 0), (1, 0, [(1, 1)], 0)], [(l1, u1), (l2, u2)], [], []) [haL a, haL m] = true := by
  have e : avTheta haS0 ([(1, 0, [(0, 1)], 0), (1, 0, [(1, 1)], 0)], [(l1, u1), (l2, u2)], [], []) [haL a, haL m] = [([], (a - 0) / 1), ([], (m - 0) / 1)] := rfl
  rw [e, Int.sub_zero, Int.ediv_one, Int.sub_zero, Int.ediv_one]
  have e1 : avVs [([], a), ([], m)] [(1, 0, [(0, 1)], 0), (1, 0, [(1, 1)], 0)] [haL a, haL m] = true := by
    show abIf (afQ (afAdd ([], 0) (afMul 1 ([], a))) ([], a)) (abIf (afQ (afAdd ([], 0) (afMul 1 ([], m))) ([], m)) true false) false = true
    rw [haMul, haMul, show afAdd ([], 0) ([], 1 * a) = ([], 0 + 1 * a) from rfl, show afAdd ([], 0) ([], 1 * m) = ([], 0 + 1 * m) from rfl, Int.one_mul, Int.zero_add, Int.one_mul, Int.zero_add, haQ, haQ]
    rfl
  have e2 : avBs haS0 [([], a), ([], m)] [(l1, u1), (l2, u2)] = true := by
    show abIf (avGe haS0 ([], a + -l1)) (abIf (avGe haS0 ([], u1 - a)) (abIf (avGe haS0 ([], m + -l2)) (abIf (avGe haS0 ([], u2 - m)) true false) false) false) false = true
    rw [haGe (by omega), haGe (by omega), haGe (by omega), haGe (by omega)]
    rfl
  show abIf true (abIf (avVs [([], a), ([], m)] _ _) (abIf (avBs haS0 [([], a), ([], m)] [(l1, u1), (l2, u2)]) (abIf true true false) false) false) false = true
  rw [e1, e2]
  rfl
theorem hm_fdiv (hT : abTabs) {a m : Int} {mu : haMu} (h1 : -9223372036854775808 ≤ a) (h2 : a ≤ 9223372036854775807) (h3 : 1 ≤ m) (h4 : m ≤ 1000) : haSp 272 0 [haL a, haL m] mu (fun o mu' => (∃ z : Int, o = some (haL z) ∧ -9223372036854775808 ≤ z ∧ z ≤ 9223372036854775807) ∧ haFm mu mu') :=
  (haSp_con (N := 1) (fun D z sb RG hJ => avCn0 hT 1 D z sb RG hJ) (q := 272) (by decide) (c := avC272_h) (show avC272_h ∈ [avC272_h] from List.mem_cons_self) (by decide) (Or.inr (by decide)) (haFit2 h1 h2 h3 h4) (haLe5 rfl) (show 4 ≤ (abMe 272).1.2.2.1 from by decide +kernel)).mono (fun o mu' h => ⟨h.1.2 (by decide), h.2⟩)
/-! the guarded slots -/
noncomputable def haGw (v : Int) : Bool := abIf (aiEq v 1504) true (abIf (aiLe 520 v) (abIf (aiLe v 1503) (abIf (aiLe ((v - 520) % 164) 1) true (abIf (aiLe 20 ((v - 520) % 164)) (abIf (aiEq (((v - 520) % 164 - 20) % 12) 0) true (aiLe 4 (((v - 520) % 164 - 20) % 12))) false)) false) false)
noncomputable def haGwC (L : List avCl) : Bool := List.rec true (fun c _ ih => abIf (abIf (Nat.beq c.1 77) (avInA c.2.1 (fun z => abIf (haGw (z + c.2.2.1)) false true)) true) ih false) L
theorem haGwC_ok : ∀ {L : List avCl}, haGwC L = true → ∀ c ∈ L, c.1 = 77 → ∀ z : Int, avInS c.2.1 z → haGw (z + c.2.2.1) = false
  | [], _, c, hc, _, _, _ => by cases hc
  | g :: L, h, c, hc, h77, z, hz => by
    obtain ⟨h1, h2⟩ := abIf_and (show abIf (abIf (Nat.beq g.1 77) (avInA g.2.1 (fun z => abIf (haGw (z + g.2.2.1)) false true)) true) (haGwC L) false = true from h)
    rcases List.mem_cons.mp hc with rfl | hc
    · rw [h77, show Nat.beq 77 77 = true from rfl, abIf_t rfl] at h1
      have h3 := avInA_ok h1 z hz
      cases q : haGw (z + c.2.2.1) with
      | false => rfl
      | true =>
        have h4 : abIf (haGw (z + c.2.2.1)) false true = true := h3
        rw [q, abIf_t rfl] at h4
        cases h4
    · exact haGwC_ok h2 c hc h77 z hz
theorem haGwA : haGwC avGUt.2 = true := by decide +kernel
theorem haGd_w {v : Int} (h0 : 0 ≤ v) (h : haGw v = true) : haGd 861 v := by
  refine ⟨h0, fun hm => ?_⟩
  rcases hm with q | ⟨c, c1, c2, c3⟩
  · exact q (by rw [show avRG0 861 = 77 from by decide +kernel]; decide)
  · rw [show avRG0 861 = 77 from by decide +kernel] at c2
    have h1 := haGwC_ok haGwA c c1 c2 _ c3
    rw [show ((v.toNat : Nat) : Int) - c.2.2.1 + c.2.2.1 = v by omega, h] at h1
    cases h1
noncomputable def haNoR (r : Nat) (L : List avCl) : Bool := List.rec true (fun c _ ih => abIf (Nat.beq c.1 r) false ih) L
theorem haNoR_ok {r : Nat} : ∀ {L : List avCl}, haNoR r L = true → ∀ c ∈ L, ¬ c.1 = r
  | [], _, c, hc => by cases hc
  | g :: L, h, c, hc => by
    have h' : abIf (Nat.beq g.1 r) false (haNoR r L) = true := h
    cases q : Nat.beq g.1 r with
    | true => rw [q, abIf_t rfl] at h'; cases h'
    | false =>
      rw [q, abIf_f rfl] at h'
      rcases List.mem_cons.mp hc with rfl | hc
      · exact abBeq_f q
      · exact haNoR_ok h' c hc
theorem haGd_r {j r : Nat} {v : Int} (h0 : 0 ≤ v) (hr : avRG0 j = r) (h1 : r ∈ avGUt.1) (h2 : haNoR r avGUt.2 = true) : haGd j v := by
  refine ⟨h0, fun hm => ?_⟩
  rw [hr] at hm
  rcases hm with q | ⟨c, c1, c2, c3⟩
  · exact q h1
  · exact haNoR_ok h2 c c1 c2
theorem haGd_part {v : Int} (h0 : 0 ≤ v) : haGd 868 v := haGd_r (r := 66) h0 (by decide +kernel) (by decide) (by decide +kernel)
theorem haGwR : avAllR 0 6 (fun b => avAllR 0 12 (fun r => avAllR 0 12 (fun i => abIf (abIf (aiLe 1 i) (aiLe i 3) false) true (haGw (540 + 164 * b + 12 * r + i))))) = true := by decide +kernel
theorem haGd_ring {b r c : Int} (hb : 0 ≤ b ∧ b ≤ 5) (hr : 0 ≤ r ∧ r ≤ 11) (hc : 0 ≤ c ∧ c ≤ 11) (h3 : ¬ (1 ≤ c ∧ c ≤ 3)) : haGd 861 (540 + 164 * b + 12 * r + c) := by
  have h := avAllR_ok (avAllR_ok (avAllR_ok haGwR b hb.1 (by omega)) r hr.1 (by omega)) c hc.1 (by omega)
  refine haGd_w (by omega) ?_
  have h' : abIf (abIf (aiLe 1 c) (aiLe c 3) false) true (haGw (540 + 164 * b + 12 * r + c)) = true := h
  rcases abIf_or h' with q | q
  · obtain ⟨q1, q2⟩ := abIf_and q
    have := aiLe_ok q1
    have := aiLe_ok q2
    omega
  · exact q
theorem hm_parts (hT : abTabs) {d : Nat} {b r k n m : Int} {mu : haMu} (hb : 0 ≤ b ∧ b ≤ 5) (hr : 0 ≤ r ∧ r ≤ 11) (hk : k = 540 + 164 * b + 12 * r) (hm : 1 ≤ m ∧ m ≤ 1000) (hn : 1 ≤ n ∧ n ≤ m) (hg0 : mu 861 k = m) (hw : ∀ c : Int, 0 ≤ c → c < 8 → 0 ≤ mu 861 (k + 4 + c) ∧ mu 861 (k + 4 + c) ≤ 1000) (hws : haS (fun c => mu 861 (k + 4 + c)) 8 = m) :
    haSp 215 (d + 1) [haR 51 860, haI k, haI n] mu (fun o mu' => o = none ∧ (∀ (j : Nat) (i : Int), haGd j i → ¬ j = 868 → ¬ j = 869 → ¬ (j = 861 ∧ k ≤ i ∧ i ≤ k + 11) → mu' j i = mu j i) ∧ mu' 868 0 = n ∧ (∀ c : Int, 0 ≤ c → c < 8 → 0 ≤ mu' 868 (4 + c) ∧ mu' 868 (4 + c) ≤ mu 861 (k + 4 + c) ∧ mu' 861 (k + 4 + c) = mu 861 (k + 4 + c) - mu' 868 (4 + c)) ∧ haS (fun c => mu' 868 (4 + c)) 8 = n ∧ mu' 861 k = m - n) := by
  refine haMet (by decide) (hT.1 215 (by decide)) (haLe5 rfl) (show 3 ≤ (abMe 215).1.2.2.1 from by decide +kernel) (fun x hF hR => ?_)
  have loop : ∀ (nn : Nat) (i : Int) (nu : haMu), (nn : Int) = 4 - i → 1 ≤ i → (∀ (j : Nat) (q : Int), haGd j q → ¬ j = 868 → nu j q = mu j q) → nu 868 0 = n → haW x nu 18 [haR 51 860, haI (k), haI (n), haL (m), avJ, haI (i), avJ, avJ] [] := by
    intro nn
    induction nn with
    | zero =>
      intro i nu hn0 h0 f1 f2
      refine ha_s (pc' := 20) (ls' := [haR 51 860, haI (k), haI (n), haL (m), avJ, haI (i), avJ, avJ]) (st' := [haI (i)]) hF (haEt hT (e := (8, 18, 0, 5, 0, [])) (k := 215) (pc := 18) (by decide) (by decide +kernel) rfl) rfl (fun RG => avS8) (fun nx => rfl) ?_
      refine ha_s (pc' := 21) (ls' := [haR 51 860, haI (k), haI (n), haL (m), avJ, haI (i), avJ, avJ]) (st' := [haI (4), haI (i)]) hF (haEt hT (e := (1, 20, 0, 0, 9223372036854775812, [])) (k := 215) (pc := 20) (by decide) (by decide +kernel) rfl) rfl (fun RG => avS1) (fun nx => rfl) ?_
      refine ha_icge hF (haEt hT (e := (55, 21, 55, 0, 0, [])) (k := 215) (pc := 21) (by decide) (by decide +kernel) rfl) rfl rfl rfl (fun _ => ?_) (fun q => by omega)
      have g1 : ∀ c : Int, 0 ≤ c → c < 8 → nu 861 (k + 4 + c) = mu 861 (k + 4 + c) := fun c c0 c1 => f1 861 _ (by
        rw [hk, show 540 + 164 * b + 12 * r + 4 + c = 540 + 164 * b + 12 * r + (4 + c) by omega]
        exact haGd_ring hb hr ⟨by omega, by omega⟩ (by omega)) (by decide)
      have g2 : haGd 861 k := by
        rw [hk, show 540 + 164 * b + 12 * r = 540 + 164 * b + 12 * r + 0 by omega]
        exact haGd_ring hb hr ⟨by omega, by omega⟩ (by omega)
      refine hm_partsB hT hF hR (w := fun c => mu 861 (k + 4 + c)) hb hr hk hm hn hw g1 ((f1 861 k g2 (by decide)).trans hg0) hws f2 (fun mu' a1 a2 a3 a4 a5 => ⟨rfl, fun j q hg h1 h2 h3 => (a1 j q h1 h2 h3).trans (f1 j q hg h1), a2, a3, a4, a5⟩)
    | succ nn ih =>
      intro i nu hn0 h0 f1 f2
      refine ha_s (pc' := 20) (ls' := [haR 51 860, haI (k), haI (n), haL (m), avJ, haI (i), avJ, avJ]) (st' := [haI (i)]) hF (haEt hT (e := (8, 18, 0, 5, 0, [])) (k := 215) (pc := 18) (by decide) (by decide +kernel) rfl) rfl (fun RG => avS8) (fun nx => rfl) ?_
      refine ha_s (pc' := 21) (ls' := [haR 51 860, haI (k), haI (n), haL (m), avJ, haI (i), avJ, avJ]) (st' := [haI (4), haI (i)]) hF (haEt hT (e := (1, 20, 0, 0, 9223372036854775812, [])) (k := 215) (pc := 20) (by decide) (by decide +kernel) rfl) rfl (fun RG => avS1) (fun nx => rfl) ?_
      refine ha_icge hF (haEt hT (e := (55, 21, 55, 0, 0, [])) (k := 215) (pc := 21) (by decide) (by decide +kernel) rfl) rfl rfl rfl (fun q => by omega) (fun _ => ?_)
      obtain ⟨lo, up, hs, hc⟩ := haWs (i := i) hb hr ⟨by omega, by omega⟩
      refine ha_bd hF (j := 861) (r := 77) (i := k + i) (lo := lo) (up := up) (by decide) (by decide +kernel) (Or.inl (by decide +kernel)) (by omega) (by show _ < (1745 : Int); omega) (by rw [hk]; exact hs) (fun v1 v2 => ?_)
      have v3 : -2147483648 ≤ nu 861 (k + i) ∧ nu 861 (k + i) ≤ 2147483647 := by
        rcases hc with ⟨a1, a2, a3, a4⟩ | ⟨a1, a3, a4⟩
        · omega
        · omega
      have v4 : n * (-2147483648) ≤ n * nu 861 (k + i) := Int.mul_le_mul_of_nonneg_left v3.1 (by omega)
      have v5 : n * nu 861 (k + i) ≤ n * 2147483647 := Int.mul_le_mul_of_nonneg_left v3.2 (by omega)
      refine ha_s (pc' := 25) (ls' := [haR 51 860, haI (k), haI (n), haL (m), avJ, haI (i), avJ, avJ]) (st' := [haR 51 860]) hF (haEt hT (e := (13, 24, 0, 0, 0, [])) (k := 215) (pc := 24) (by decide) (by decide +kernel) rfl) rfl (fun RG => avS13) (fun nx => rfl) ?_
      refine ha_getR (r := 51) (j := 860) (i := 16) (r' := 66) (j' := 868) hF (haEt hT (e := (60, 25, 12, 16, 40, [1359])) (k := 215) (pc := 25) (by decide) (by decide +kernel) rfl) rfl rfl rfl (by decide +kernel) (by decide) (by decide +kernel) (by rfl) ?_
      refine ha_s (pc' := 30) (ls' := [haR 51 860, haI (k), haI (n), haL (m), avJ, haI (i), avJ, avJ]) (st' := [haI (i), haR 66 868]) hF (haEt hT (e := (8, 28, 0, 5, 0, [])) (k := 215) (pc := 28) (by decide) (by decide +kernel) rfl) rfl (fun RG => avS8) (fun nx => rfl) ?_
      refine ha_s (pc' := 31) (ls' := [haR 51 860, haI (k), haI (n), haL (m), avJ, haI (i), avJ, avJ]) (st' := [haI (n), haI (i), haR 66 868]) hF (haEt hT (e := (9, 30, 0, 2, 0, [])) (k := 215) (pc := 30) (by decide) (by decide +kernel) rfl) rfl (fun RG => avS9) (fun nx => rfl) ?_
      refine ha_s (pc' := 32) (ls' := [haR 51 860, haI (k), haI (n), haL (m), avJ, haI (i), avJ, avJ]) (st' := [haL (n), haI (i), haR 66 868]) hF (haEt hT (e := (40, 31, 0, 0, 0, [])) (k := 215) (pc := 31) (by decide) (by decide +kernel) rfl) rfl (fun RG => avS40) (fun nx => rfl) ?_
      refine ha_s (pc' := 33) (ls' := [haR 51 860, haI (k), haI (n), haL (m), avJ, haI (i), avJ, avJ]) (st' := [haR 51 860, haL (n), haI (i), haR 66 868]) hF (haEt hT (e := (13, 32, 0, 0, 0, [])) (k := 215) (pc := 32) (by decide) (by decide +kernel) rfl) rfl (fun RG => avS13) (fun nx => rfl) ?_
      refine ha_getR (r := 51) (j := 860) (i := 1) (r' := 77) (j' := 861) hF (haEt hT (e := (60, 33, 12, 1, 13, [1344])) (k := 215) (pc := 33) (by decide) (by decide +kernel) rfl) rfl rfl rfl (by decide +kernel) (by decide) (by decide +kernel) (by rfl) ?_
      refine ha_s (pc' := 37) (ls' := [haR 51 860, haI (k), haI (n), haL (m), avJ, haI (i), avJ, avJ]) (st' := [haI (k), haR 77 861, haL (n), haI (i), haR 66 868]) hF (haEt hT (e := (9, 36, 0, 1, 0, [])) (k := 215) (pc := 36) (by decide) (by decide +kernel) rfl) rfl (fun RG => avS9) (fun nx => rfl) ?_
      refine ha_s (pc' := 39) (ls' := [haR 51 860, haI (k), haI (n), haL (m), avJ, haI (i), avJ, avJ]) (st' := [haI (i), haI (k), haR 77 861, haL (n), haI (i), haR 66 868]) hF (haEt hT (e := (8, 37, 0, 5, 0, [])) (k := 215) (pc := 37) (by decide) (by decide +kernel) rfl) rfl (fun RG => avS8) (fun nx => rfl) ?_
      refine ha_iadd hF (haEt hT (e := (21, 39, 0, 0, 0, [])) (k := 215) (pc := 39) (by decide) (by decide +kernel) rfl) rfl rfl (by omega) (by omega) ?_
      refine ha_iald (r := 77) hF (haEt hT (e := (64, 40, 0, 0, 0, [])) (k := 215) (pc := 40) (by decide) (by decide +kernel) rfl) rfl rfl (by decide +kernel) (by omega) (by show _ < (1745 : Int); omega) ?_
      refine ha_s (pc' := 42) (ls' := [haR 51 860, haI (k), haI (n), haL (m), avJ, haI (i), avJ, avJ]) (st' := [haL (nu 861 (k + (i))), haL (n), haI (i), haR 66 868]) hF (haEt hT (e := (40, 41, 0, 0, 0, [])) (k := 215) (pc := 41) (by decide) (by decide +kernel) rfl) rfl (fun RG => avS40) (fun nx => rfl) ?_
      refine ha_lmul hF (haEt hT (e := (34, 42, 0, 0, 0, [])) (k := 215) (pc := 42) (by decide) (by decide +kernel) rfl) rfl rfl (by omega) (by omega) ?_
      refine ha_s (pc' := 44) (ls' := [haR 51 860, haI (k), haI (n), haL (m), avJ, haI (i), avJ, avJ]) (st' := [haL (m), haL ((n) * (nu 861 (k + (i)))), haI (i), haR 66 868]) hF (haEt hT (e := (11, 43, 0, 3, 0, [])) (k := 215) (pc := 43) (by decide) (by decide +kernel) rfl) rfl (fun RG => avS11) (fun nx => rfl) ?_
      refine ha_callS (q := 272) (d' := 0) (as := [haL ((n) * (nu 861 (k + i))), haL m]) (rest := [haI i, haR 66 868]) hT hF (haEt hT (e := (79, 44, 272, 0, 282, [1672, 896])) (k := 215) (pc := 44) (by decide) (by decide +kernel) rfl) rfl rfl rfl (by decide +kernel) (hm_fdiv hT (by omega) (by omega) hm.1 hm.2) (Nat.le_add_left 1 d) rfl (show 2 = (abMe 272).2.1 from by decide +kernel) (show 2 + (abMe 272).1.2.2.1 ≤ 49 from by decide +kernel) (fun o nu' h => ?_)
      obtain ⟨⟨y, rfl, y1, y2⟩, hfm⟩ := h
      show haW x nu' 47 [haR 51 860, haI (k), haI (n), haL (m), avJ, haI (i), avJ, avJ] [haL (y), haI (i), haR 66 868]
      refine ha_l2iA hF (haEt hT (e := (41, 47, 0, 0, 0, [])) (k := 215) (pc := 47) (by decide) (by decide +kernel) rfl) rfl rfl (fun z z1 z2 z3 => ?_)
      refine ha_iast (r := 66) hF (haEt hT (e := (69, 48, 0, 0, 0, [])) (k := 215) (pc := 48) (by decide) (by decide +kernel) rfl) rfl rfl (by decide +kernel) (by omega) (by show _ < (12 : Int); omega) (lo := -2147483648) (up := 2147483647) (by rfl) z1 z2 ?_
      refine ha_iinc (i := 5) (c := 1) hF (haEt hT (e := (20, 49, 0, 5, 9223372036854775809, [])) (k := 215) (pc := 49) (by decide) (by decide +kernel) rfl) rfl rfl rfl rfl rfl (by omega) (by omega) ?_
      show haW _ _ 52 [haR 51 860, haI (k), haI (n), haL (m), avJ, haI (i + 1), avJ, avJ] []
      refine ha_s (pc' := 18) (ls' := [haR 51 860, haI (k), haI (n), haL (m), avJ, haI (i + 1), avJ, avJ]) (st' := []) hF (haEt hT (e := (58, 52, 18, 0, 0, [])) (k := 215) (pc := 52) (by decide) (by decide +kernel) rfl) rfl (fun RG => avS58) (fun nx => rfl) ?_
      refine ih (i + 1) (haUp nu' 868 i z) (by omega) (by omega) (fun j q hg hj => ?_) ?_
      · rw [haUp_n (fun z => hj z.1), hfm j q hg]
        exact f1 j q hg hj
      · rw [haUp_n (fun z => by omega), hfm 868 0 (haGd_part (Int.le_refl 0))]
        exact f2
  refine ha_s (pc' := 1) (ls' := [haR 51 860, haI (k), haI (n), avJ, avJ, avJ, avJ, avJ]) (st' := [haR 51 860]) hF (haEt hT (e := (13, 0, 0, 0, 0, [])) (k := 215) (pc := 0) (by decide) (by decide +kernel) rfl) rfl (fun RG => avS13) (fun nx => rfl) ?_
  refine ha_getR (r := 51) (j := 860) (i := 1) (r' := 77) (j' := 861) hF (haEt hT (e := (60, 1, 12, 1, 13, [1344])) (k := 215) (pc := 1) (by decide) (by decide +kernel) rfl) rfl rfl rfl (by decide +kernel) (by decide) (by decide +kernel) (by rfl) ?_
  refine ha_s (pc' := 5) (ls' := [haR 51 860, haI (k), haI (n), avJ, avJ, avJ, avJ, avJ]) (st' := [haI (k), haR 77 861]) hF (haEt hT (e := (9, 4, 0, 1, 0, [])) (k := 215) (pc := 4) (by decide) (by decide +kernel) rfl) rfl (fun RG => avS9) (fun nx => rfl) ?_
  refine ha_iald (r := 77) hF (haEt hT (e := (64, 5, 0, 0, 0, [])) (k := 215) (pc := 5) (by decide) (by decide +kernel) rfl) rfl rfl (by decide +kernel) (by omega) (by show _ < (1745 : Int); omega) ?_
  rw [hg0]
  refine ha_s (pc' := 7) (ls' := [haR 51 860, haI (k), haI (n), avJ, avJ, avJ, avJ, avJ]) (st' := [haL (m)]) hF (haEt hT (e := (40, 6, 0, 0, 0, [])) (k := 215) (pc := 6) (by decide) (by decide +kernel) rfl) rfl (fun RG => avS40) (fun nx => rfl) ?_
  refine ha_s (pc' := 8) (ls' := [haR 51 860, haI (k), haI (n), haL (m), avJ, avJ, avJ, avJ]) (st' := []) hF (haEt hT (e := (17, 7, 0, 3, 0, [])) (k := 215) (pc := 7) (by decide) (by decide +kernel) rfl) rfl (fun RG => avS17) (fun nx => rfl) ?_
  refine ha_s (pc' := 9) (ls' := [haR 51 860, haI (k), haI (n), haL (m), avJ, avJ, avJ, avJ]) (st' := [haR 51 860]) hF (haEt hT (e := (13, 8, 0, 0, 0, [])) (k := 215) (pc := 8) (by decide) (by decide +kernel) rfl) rfl (fun RG => avS13) (fun nx => rfl) ?_
  refine ha_getR (r := 51) (j := 860) (i := 16) (r' := 66) (j' := 868) hF (haEt hT (e := (60, 9, 12, 16, 40, [1359])) (k := 215) (pc := 9) (by decide) (by decide +kernel) rfl) rfl rfl rfl (by decide +kernel) (by decide) (by decide +kernel) (by rfl) ?_
  refine ha_s (pc' := 13) (ls' := [haR 51 860, haI (k), haI (n), haL (m), avJ, avJ, avJ, avJ]) (st' := [haI (0), haR 66 868]) hF (haEt hT (e := (1, 12, 0, 0, 9223372036854775808, [])) (k := 215) (pc := 12) (by decide) (by decide +kernel) rfl) rfl (fun RG => avS1) (fun nx => rfl) ?_
  refine ha_s (pc' := 14) (ls' := [haR 51 860, haI (k), haI (n), haL (m), avJ, avJ, avJ, avJ]) (st' := [haI (n), haI (0), haR 66 868]) hF (haEt hT (e := (9, 13, 0, 2, 0, [])) (k := 215) (pc := 13) (by decide) (by decide +kernel) rfl) rfl (fun RG => avS9) (fun nx => rfl) ?_
  refine ha_iast (r := 66) hF (haEt hT (e := (69, 14, 0, 0, 0, [])) (k := 215) (pc := 14) (by decide) (by decide +kernel) rfl) rfl rfl (by decide +kernel) (by omega) (by show _ < (12 : Int); omega) (lo := -2147483648) (up := 2147483647) (by rfl) (by omega) (by omega) ?_
  refine ha_s (pc' := 16) (ls' := [haR 51 860, haI (k), haI (n), haL (m), avJ, avJ, avJ, avJ]) (st' := [haI (1)]) hF (haEt hT (e := (1, 15, 0, 0, 9223372036854775809, [])) (k := 215) (pc := 15) (by decide) (by decide +kernel) rfl) rfl (fun RG => avS1) (fun nx => rfl) ?_
  refine ha_s (pc' := 18) (ls' := [haR 51 860, haI (k), haI (n), haL (m), avJ, haI (1), avJ, avJ]) (st' := []) hF (haEt hT (e := (14, 16, 0, 5, 0, [])) (k := 215) (pc := 16) (by decide) (by decide +kernel) rfl) rfl (fun RG => avS14) (fun nx => rfl) ?_
  exact loop 3 1 (haUp mu 868 0 n) rfl (by omega) (fun j q _ hj => haUp_n (fun z => hj z.1)) haUp_s
