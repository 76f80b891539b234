/-! TallBinsModel.parts: the quotients -/
theorem hm_partsB (hT : abTabs) {x : haCx} {d : Nat} {P : Option avV → haMu → Prop} (hF : haF x 215 d) (hR : haRet x 215 P) {b r k n m i5 : Int} {mu : haMu} {w : Int → Int} {v6 v7 : avV} (hb : 0 ≤ b ∧ b ≤ 5) (hr : 0 ≤ r ∧ r ≤ 11) (hk : k = 540 + 164 * b + 12 * r) (hm : 1 ≤ m ∧ m ≤ 1000) (hn : 1 ≤ n ∧ n ≤ m)
    (hw : ∀ c : Int, 0 ≤ c → c < 8 → 0 ≤ w c ∧ w c ≤ 1000) (hg : ∀ c : Int, 0 ≤ c → c < 8 → mu 861 (k + 4 + c) = w c) (hg0 : mu 861 k = m) (hws : haS w 8 = m) (hp0 : mu 868 0 = n)
    (hP : ∀ mu' : haMu, (∀ (j : Nat) (i : Int), ¬ j = 868 → ¬ j = 869 → ¬ (j = 861 ∧ k ≤ i ∧ i ≤ k + 11) → mu' j i = mu j i) → mu' 868 0 = n → (∀ c : Int, 0 ≤ c → c < 8 → 0 ≤ mu' 868 (4 + c) ∧ mu' 868 (4 + c) ≤ w c ∧ mu' 861 (k + 4 + c) = w c - mu' 868 (4 + c)) → haS (fun c => mu' 868 (4 + c)) 8 = n → mu' 861 k = m - n → P none mu') : haW x mu 55 [haR 51 860, haI (k), haI (n), haL (m), avJ, haI (i5), v6, v7] [] := by
  have loop : ∀ (nn ln : Nat) (l left : Int) (nu : haMu), nn + ln = 8 → l = (ln : Int) → n - 1000 * l ≤ left → left ≤ n → (∀ (j : Nat) (i : Int), ¬ j = 868 → ¬ j = 869 → nu j i = mu j i) → nu 868 0 = n → (∀ c : Int, 0 ≤ c → c < l → nu 868 (4 + c) = n * w c / m ∧ nu 869 c = 0) → n - left = haS (fun c => nu 868 (4 + c)) ln → haW x nu 61 [haR 51 860, haI (k), haI (n), haL (m), avJ, haI (left), haI (l), v7] [] := by
    intro nn
    induction nn with
    | zero =>
      intro ln l left nu hnl hl hl1 hl2 f1 f2 f3 f4
      have e8 : ln = 8 := by omega
      subst e8
      refine ha_s (pc' := 63) (ls' := [haR 51 860, haI (k), haI (n), haL (m), avJ, haI (left), haI (l), v7]) (st' := [haI (l)]) hF (haEt hT (e := (8, 61, 0, 6, 0, [])) (k := 215) (pc := 61) (by decide) (by decide +kernel) rfl) rfl (fun RG => avS8) (fun nx => rfl) ?_
      refine ha_s (pc' := 65) (ls' := [haR 51 860, haI (k), haI (n), haL (m), avJ, haI (left), haI (l), v7]) (st' := [haI (8), haI (l)]) hF (haEt hT (e := (2, 63, 0, 0, 9223372036854775816, [])) (k := 215) (pc := 63) (by decide) (by decide +kernel) rfl) rfl (fun RG => avS2) (fun nx => rfl) ?_
      refine ha_icge hF (haEt hT (e := (55, 65, 123, 0, 0, [])) (k := 215) (pc := 65) (by decide) (by decide +kernel) rfl) rfl rfl rfl (fun _ => ?_) (fun q => by omega)
      have s1 : haS (fun c => nu 868 (4 + c)) 8 = haS (fun c => n * w c / m) 8 := haS_congr (fun c c0 c1 => (f3 c c0 (by omega)).1)
      have s2 : haS (fun c => (1 - nu 869 c) * (n * w c % m)) 8 = haS (fun c => n * w c % m) 8 := haS_congr (fun c c0 c1 => by
        show (1 - nu 869 c) * (n * w c % m) = n * w c % m
        rw [(f3 c c0 (by omega)).2, show (1 : Int) - 0 = 1 from rfl, Int.one_mul])
      have s3 : haS (fun c => n * w c) 8 = n * haS w 8 + 0 * haS w 8 := haS_lin (fun c _ _ => by rw [Int.zero_mul, Int.add_zero])
      have s4 : haS (fun c => n * w c) 8 = m * haS (fun c => n * w c / m) 8 + 1 * haS (fun c => n * w c % m) 8 := haS_lin (fun c c0 c1 => by
        rw [Int.one_mul]
        exact (haQr hn (hw c c0 c1).1).2.2.2.2.2.1)
      rw [Int.one_mul] at s4
      rw [Int.zero_mul, Int.add_zero, hws] at s3
      rw [s1] at f4
      have s5 : left = n - haS (fun c => n * w c / m) 8 := by omega
      have s6 : m * left = haS (fun c => n * w c % m) 8 := by
        rw [s5, Int.mul_sub, Int.mul_comm m n]
        omega
      have s7 : haS (fun _ => (0 : Int)) 8 ≤ haS (fun c => n * w c % m) 8 := haS_le (fun c c0 c1 => (haQr hn (hw c c0 c1).1).2.2.2.1)
      rw [haS_const] at s7
      have s8 : 0 ≤ left := by
        rcases Int.lt_or_le left 0 with g | g
        · exfalso
          have h9 : m * left ≤ m * (-1) := Int.mul_le_mul_of_nonneg_left (by omega) (by omega)
          omega
        · exact g
      exact hm_partsC hT hF hR hb hr hk hm hn hw hg hg0 hP left.toNat left nu _ _ (by omega) (by omega) f1 f2 (fun c c0 c1 => ⟨by rw [(f3 c c0 (by omega)).1, (f3 c c0 (by omega)).2, Int.add_zero], Or.inl (f3 c c0 (by omega)).2⟩) (by rw [s1]; exact f4) (by rw [s2, s6]; exact Int.le_refl _)
    | succ nn ih =>
      intro ln l left nu hnl hl hl1 hl2 f1 f2 f3 f4
      refine ha_s (pc' := 63) (ls' := [haR 51 860, haI (k), haI (n), haL (m), avJ, haI (left), haI (l), v7]) (st' := [haI (l)]) hF (haEt hT (e := (8, 61, 0, 6, 0, [])) (k := 215) (pc := 61) (by decide) (by decide +kernel) rfl) rfl (fun RG => avS8) (fun nx => rfl) ?_
      refine ha_s (pc' := 65) (ls' := [haR 51 860, haI (k), haI (n), haL (m), avJ, haI (left), haI (l), v7]) (st' := [haI (8), haI (l)]) hF (haEt hT (e := (2, 63, 0, 0, 9223372036854775816, [])) (k := 215) (pc := 63) (by decide) (by decide +kernel) rfl) rfl (fun RG => avS2) (fun nx => rfl) ?_
      refine ha_icge hF (haEt hT (e := (55, 65, 123, 0, 0, [])) (k := 215) (pc := 65) (by decide) (by decide +kernel) rfl) rfl rfl rfl (fun q => by omega) (fun _ => ?_)
      have hgl : nu 861 (k + 4 + l) = w l := (f1 861 _ (by decide) (by decide)).trans (hg l (by omega) (by omega))
      obtain ⟨w0, w1⟩ := hw l (by omega) (by omega)
      obtain ⟨h1, h2, h3, h4, h5, h6, h7, h8⟩ := haQr hn w0
      have h9 : n * w l ≤ 1000 * 1000 := Int.mul_le_mul (by omega) w1 w0 (by omega)
      refine ha_s (pc' := 69) (ls' := [haR 51 860, haI (k), haI (n), haL (m), avJ, haI (left), haI (l), v7]) (st' := [haR 51 860]) hF (haEt hT (e := (13, 68, 0, 0, 0, [])) (k := 215) (pc := 68) (by decide) (by decide +kernel) rfl) rfl (fun RG => avS13) (fun nx => rfl) ?_
      refine ha_getR (r := 51) (j := 860) (i := 16) (r' := 66) (j' := 868) hF (haEt hT (e := (60, 69, 12, 16, 40, [1359])) (k := 215) (pc := 69) (by decide) (by decide +kernel) rfl) rfl rfl rfl (by decide +kernel) (by decide) (by decide +kernel) (by rfl) ?_
      refine ha_s (pc' := 73) (ls' := [haR 51 860, haI (k), haI (n), haL (m), avJ, haI (left), haI (l), v7]) (st' := [haI (4), haR 66 868]) hF (haEt hT (e := (1, 72, 0, 0, 9223372036854775812, [])) (k := 215) (pc := 72) (by decide) (by decide +kernel) rfl) rfl (fun RG => avS1) (fun nx => rfl) ?_
      refine ha_s (pc' := 75) (ls' := [haR 51 860, haI (k), haI (n), haL (m), avJ, haI (left), haI (l), v7]) (st' := [haI (l), haI (4), haR 66 868]) hF (haEt hT (e := (8, 73, 0, 6, 0, [])) (k := 215) (pc := 73) (by decide) (by decide +kernel) rfl) rfl (fun RG => avS8) (fun nx => rfl) ?_
      refine ha_iadd hF (haEt hT (e := (21, 75, 0, 0, 0, [])) (k := 215) (pc := 75) (by decide) (by decide +kernel) rfl) rfl rfl (by omega) (by omega) ?_
      refine ha_s (pc' := 77) (ls' := [haR 51 860, haI (k), haI (n), haL (m), avJ, haI (left), haI (l), v7]) (st' := [haI (n), haI (4 + (l)), haR 66 868]) hF (haEt hT (e := (9, 76, 0, 2, 0, [])) (k := 215) (pc := 76) (by decide) (by decide +kernel) rfl) rfl (fun RG => avS9) (fun nx => rfl) ?_
      refine ha_s (pc' := 78) (ls' := [haR 51 860, haI (k), haI (n), haL (m), avJ, haI (left), haI (l), v7]) (st' := [haL (n), haI (4 + (l)), haR 66 868]) hF (haEt hT (e := (40, 77, 0, 0, 0, [])) (k := 215) (pc := 77) (by decide) (by decide +kernel) rfl) rfl (fun RG => avS40) (fun nx => rfl) ?_
      refine ha_s (pc' := 79) (ls' := [haR 51 860, haI (k), haI (n), haL (m), avJ, haI (left), haI (l), v7]) (st' := [haR 51 860, haL (n), haI (4 + (l)), haR 66 868]) hF (haEt hT (e := (13, 78, 0, 0, 0, [])) (k := 215) (pc := 78) (by decide) (by decide +kernel) rfl) rfl (fun RG => avS13) (fun nx => rfl) ?_
      refine ha_getR (r := 51) (j := 860) (i := 1) (r' := 77) (j' := 861) hF (haEt hT (e := (60, 79, 12, 1, 13, [1344])) (k := 215) (pc := 79) (by decide) (by decide +kernel) rfl) rfl rfl rfl (by decide +kernel) (by decide) (by decide +kernel) (by rfl) ?_
      refine ha_s (pc' := 83) (ls' := [haR 51 860, haI (k), haI (n), haL (m), avJ, haI (left), haI (l), v7]) (st' := [haI (k), haR 77 861, haL (n), haI (4 + (l)), haR 66 868]) hF (haEt hT (e := (9, 82, 0, 1, 0, [])) (k := 215) (pc := 82) (by decide) (by decide +kernel) rfl) rfl (fun RG => avS9) (fun nx => rfl) ?_
      refine ha_s (pc' := 84) (ls' := [haR 51 860, haI (k), haI (n), haL (m), avJ, haI (left), haI (l), v7]) (st' := [haI (4), haI (k), haR 77 861, haL (n), haI (4 + (l)), haR 66 868]) hF (haEt hT (e := (1, 83, 0, 0, 9223372036854775812, [])) (k := 215) (pc := 83) (by decide) (by decide +kernel) rfl) rfl (fun RG => avS1) (fun nx => rfl) ?_
      refine ha_iadd hF (haEt hT (e := (21, 84, 0, 0, 0, [])) (k := 215) (pc := 84) (by decide) (by decide +kernel) rfl) rfl rfl (by omega) (by omega) ?_
      refine ha_s (pc' := 87) (ls' := [haR 51 860, haI (k), haI (n), haL (m), avJ, haI (left), haI (l), v7]) (st' := [haI (l), haI (k + (4)), haR 77 861, haL (n), haI (4 + (l)), haR 66 868]) hF (haEt hT (e := (8, 85, 0, 6, 0, [])) (k := 215) (pc := 85) (by decide) (by decide +kernel) rfl) rfl (fun RG => avS8) (fun nx => rfl) ?_
      refine ha_iadd hF (haEt hT (e := (21, 87, 0, 0, 0, [])) (k := 215) (pc := 87) (by decide) (by decide +kernel) rfl) rfl rfl (by omega) (by omega) ?_
      refine ha_iald (r := 77) hF (haEt hT (e := (64, 88, 0, 0, 0, [])) (k := 215) (pc := 88) (by decide) (by decide +kernel) rfl) rfl rfl (by decide +kernel) (by omega) (by show _ < (1745 : Int); omega) ?_
      rw [hgl]
      refine ha_s (pc' := 90) (ls' := [haR 51 860, haI (k), haI (n), haL (m), avJ, haI (left), haI (l), v7]) (st' := [haL (w (l)), haL (n), haI (4 + (l)), haR 66 868]) hF (haEt hT (e := (40, 89, 0, 0, 0, [])) (k := 215) (pc := 89) (by decide) (by decide +kernel) rfl) rfl (fun RG => avS40) (fun nx => rfl) ?_
      refine ha_lmul hF (haEt hT (e := (34, 90, 0, 0, 0, [])) (k := 215) (pc := 90) (by decide) (by decide +kernel) rfl) rfl rfl (by omega) (by omega) ?_
      refine ha_s (pc' := 92) (ls' := [haR 51 860, haI (k), haI (n), haL (m), avJ, haI (left), haI (l), v7]) (st' := [haL (m), haL ((n) * (w (l))), haI (4 + (l)), haR 66 868]) hF (haEt hT (e := (11, 91, 0, 3, 0, [])) (k := 215) (pc := 91) (by decide) (by decide +kernel) rfl) rfl (fun RG => avS11) (fun nx => rfl) ?_
      refine ha_ldiv hF (by decide +kernel) (by omega) (by omega) ?_
      refine ha_l2i hF (haEt hT (e := (41, 93, 0, 0, 0, [])) (k := 215) (pc := 93) (by decide) (by decide +kernel) rfl) rfl rfl (by omega) (by omega) ?_
      refine ha_iast (r := 66) hF (haEt hT (e := (69, 94, 0, 0, 0, [])) (k := 215) (pc := 94) (by decide) (by decide +kernel) rfl) rfl rfl (by decide +kernel) (by omega) (by show _ < (12 : Int); omega) (lo := -2147483648) (up := 2147483647) (by rfl) (by omega) (by omega) ?_
      refine ha_s (pc' := 97) (ls' := [haR 51 860, haI (k), haI (n), haL (m), avJ, haI (left), haI (l), v7]) (st' := [haI (left)]) hF (haEt hT (e := (8, 95, 0, 5, 0, [])) (k := 215) (pc := 95) (by decide) (by decide +kernel) rfl) rfl (fun RG => avS8) (fun nx => rfl) ?_
      refine ha_s (pc' := 98) (ls' := [haR 51 860, haI (k), haI (n), haL (m), avJ, haI (left), haI (l), v7]) (st' := [haR 51 860, haI (left)]) hF (haEt hT (e := (13, 97, 0, 0, 0, [])) (k := 215) (pc := 97) (by decide) (by decide +kernel) rfl) rfl (fun RG => avS13) (fun nx => rfl) ?_
      refine ha_getR (r := 51) (j := 860) (i := 16) (r' := 66) (j' := 868) hF (haEt hT (e := (60, 98, 12, 16, 40, [1359])) (k := 215) (pc := 98) (by decide) (by decide +kernel) rfl) rfl rfl rfl (by decide +kernel) (by decide) (by decide +kernel) (by rfl) ?_
      refine ha_s (pc' := 102) (ls' := [haR 51 860, haI (k), haI (n), haL (m), avJ, haI (left), haI (l), v7]) (st' := [haI (4), haR 66 868, haI (left)]) hF (haEt hT (e := (1, 101, 0, 0, 9223372036854775812, [])) (k := 215) (pc := 101) (by decide) (by decide +kernel) rfl) rfl (fun RG => avS1) (fun nx => rfl) ?_
      refine ha_s (pc' := 104) (ls' := [haR 51 860, haI (k), haI (n), haL (m), avJ, haI (left), haI (l), v7]) (st' := [haI (l), haI (4), haR 66 868, haI (left)]) hF (haEt hT (e := (8, 102, 0, 6, 0, [])) (k := 215) (pc := 102) (by decide) (by decide +kernel) rfl) rfl (fun RG => avS8) (fun nx => rfl) ?_
      refine ha_iadd hF (haEt hT (e := (21, 104, 0, 0, 0, [])) (k := 215) (pc := 104) (by decide) (by decide +kernel) rfl) rfl rfl (by omega) (by omega) ?_
      refine ha_iald (r := 66) hF (haEt hT (e := (64, 105, 0, 0, 0, [])) (k := 215) (pc := 105) (by decide) (by decide +kernel) rfl) rfl rfl (by decide +kernel) (by omega) (by show _ < (12 : Int); omega) ?_
      rw [haUp_s (mu := nu)]
      refine ha_isub hF (haEt hT (e := (22, 106, 0, 0, 0, [])) (k := 215) (pc := 106) (by decide) (by decide +kernel) rfl) rfl rfl (by omega) (by omega) ?_
      refine ha_s (pc' := 109) (ls' := [haR 51 860, haI (k), haI (n), haL (m), avJ, haI (left - ((n) * (w (l)) / (m))), haI (l), v7]) (st' := []) hF (haEt hT (e := (14, 107, 0, 5, 0, [])) (k := 215) (pc := 107) (by decide) (by decide +kernel) rfl) rfl (fun RG => avS14) (fun nx => rfl) ?_
      refine ha_s (pc' := 110) (ls' := [haR 51 860, haI (k), haI (n), haL (m), avJ, haI (left - ((n) * (w (l)) / (m))), haI (l), v7]) (st' := [haR 51 860]) hF (haEt hT (e := (13, 109, 0, 0, 0, [])) (k := 215) (pc := 109) (by decide) (by decide +kernel) rfl) rfl (fun RG => avS13) (fun nx => rfl) ?_
      refine ha_getR (r := 51) (j := 860) (i := 17) (r' := 58) (j' := 869) hF (haEt hT (e := (60, 110, 12, 17, 43, [1360])) (k := 215) (pc := 110) (by decide) (by decide +kernel) rfl) rfl rfl rfl (by decide +kernel) (by decide) (by decide +kernel) (by rfl) ?_
      refine ha_s (pc' := 115) (ls' := [haR 51 860, haI (k), haI (n), haL (m), avJ, haI (left - ((n) * (w (l)) / (m))), haI (l), v7]) (st' := [haI (l), haR 58 869]) hF (haEt hT (e := (8, 113, 0, 6, 0, [])) (k := 215) (pc := 113) (by decide) (by decide +kernel) rfl) rfl (fun RG => avS8) (fun nx => rfl) ?_
      refine ha_s (pc' := 116) (ls' := [haR 51 860, haI (k), haI (n), haL (m), avJ, haI (left - ((n) * (w (l)) / (m))), haI (l), v7]) (st' := [haI (0), haI (l), haR 58 869]) hF (haEt hT (e := (1, 115, 0, 0, 9223372036854775808, [])) (k := 215) (pc := 115) (by decide) (by decide +kernel) rfl) rfl (fun RG => avS1) (fun nx => rfl) ?_
      refine ha_bast (r := 58) hF (haEt hT (e := (70, 116, 0, 0, 0, [])) (k := 215) (pc := 116) (by decide) (by decide +kernel) rfl) rfl rfl (by decide +kernel) (by omega) (by show _ < (8 : Int); omega) (lo := 0) (up := 1) (by rfl) (by omega) (by omega) ⟨by omega, by omega⟩ ?_
      refine ha_iinc (i := 6) (c := 1) hF (haEt hT (e := (20, 117, 0, 6, 9223372036854775809, [])) (k := 215) (pc := 117) (by decide) (by decide +kernel) rfl) rfl rfl rfl rfl rfl (by omega) (by omega) ?_
      show haW _ _ 120 [haR 51 860, haI (k), haI (n), haL (m), avJ, haI (left - ((n) * (w (l)) / (m))), haI (l + 1), v7] []
      refine ha_s (pc' := 61) (ls' := [haR 51 860, haI (k), haI (n), haL (m), avJ, haI (left - ((n) * (w (l)) / (m))), haI (l + 1), v7]) (st' := []) hF (haEt hT (e := (58, 120, 61, 0, 0, [])) (k := 215) (pc := 120) (by decide) (by decide +kernel) rfl) rfl (fun RG => avS58) (fun nx => rfl) ?_
      have u1 : ∀ c : Int, ¬ c = l → haUp (haUp nu 868 (4 + l) (n * w l / m)) 869 l 0 868 (4 + c) = nu 868 (4 + c) := fun c hc => by
        rw [haUp_n (fun z => absurd z.1 (by decide)), haUp_n (fun z => hc (by omega))]
      have u2 : haUp (haUp nu 868 (4 + l) (n * w l / m)) 869 l 0 868 (4 + l) = n * w l / m := by
        rw [haUp_n (fun z => absurd z.1 (by decide)), haUp_s]
      refine ih (ln + 1) (l + 1) (left - (n * w l / m)) (haUp (haUp nu 868 (4 + l) (n * w l / m)) 869 l 0) (by omega) (by omega) (by omega) (by omega) (fun j i a1 a2 => ?_) ?_ (fun c c0 c1 => ?_) ?_
      · rw [haUp_n (fun z => a2 z.1), haUp_n (fun z => a1 z.1)]
        exact f1 j i a1 a2
      · rw [haUp_n (fun z => absurd z.1 (by decide)), haUp_n (fun z => by omega)]
        exact f2
      · by_cases e : c = l
        · rw [e, u2, haUp_s]
          exact ⟨rfl, rfl⟩
        · rw [u1 c e, haUp_n (fun z => e z.2), haUp_n (fun z => absurd z.1 (by decide))]
          exact f3 c c0 (by omega)
      · show n - (left - n * w l / m) = haS (fun c => haUp (haUp nu 868 (4 + l) (n * w l / m)) 869 l 0 868 (4 + c)) ln + haUp (haUp nu 868 (4 + l) (n * w l / m)) 869 l 0 868 (4 + (ln : Int))
        rw [haS_congr (g := fun c => nu 868 (4 + c)) (fun c c0 c1 => u1 c (by omega)), ← f4, ← hl, u2]
        omega
  refine ha_s (pc' := 56) (ls' := [haR 51 860, haI (k), haI (n), haL (m), avJ, haI (i5), v6, v7]) (st' := [haI (n)]) hF (haEt hT (e := (9, 55, 0, 2, 0, [])) (k := 215) (pc := 55) (by decide) (by decide +kernel) rfl) rfl (fun RG => avS9) (fun nx => rfl) ?_
  refine ha_s (pc' := 58) (ls' := [haR 51 860, haI (k), haI (n), haL (m), avJ, haI (n), v6, v7]) (st' := []) hF (haEt hT (e := (14, 56, 0, 5, 0, [])) (k := 215) (pc := 56) (by decide) (by decide +kernel) rfl) rfl (fun RG => avS14) (fun nx => rfl) ?_
  refine ha_s (pc' := 59) (ls' := [haR 51 860, haI (k), haI (n), haL (m), avJ, haI (n), v6, v7]) (st' := [haI (0)]) hF (haEt hT (e := (1, 58, 0, 0, 9223372036854775808, [])) (k := 215) (pc := 58) (by decide) (by decide +kernel) rfl) rfl (fun RG => avS1) (fun nx => rfl) ?_
  refine ha_s (pc' := 61) (ls' := [haR 51 860, haI (k), haI (n), haL (m), avJ, haI (n), haI (0), v7]) (st' := []) hF (haEt hT (e := (14, 59, 0, 6, 0, [])) (k := 215) (pc := 59) (by decide) (by decide +kernel) rfl) rfl (fun RG => avS14) (fun nx => rfl) ?_
  exact loop 8 0 0 n mu rfl rfl (by omega) (by omega) (fun _ _ _ _ => rfl) hp0 (fun c c0 c1 => by omega) (by show n - n = 0; omega)
