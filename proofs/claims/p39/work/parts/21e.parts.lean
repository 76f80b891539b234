/-! TallBinsModel.parts: what lacks, by the greatest rests -/
theorem haQr {n m w : Int} (hn : 1 ≤ n ∧ n ≤ m) (hw : 0 ≤ w) : 0 ≤ n * w / m ∧ n * w / m ≤ w ∧ (0 < n * w % m → n * w / m + 1 ≤ w) ∧ 0 ≤ n * w % m ∧ n * w % m < m ∧ n * w = m * (n * w / m) + n * w % m ∧ 0 ≤ n * w ∧ n * w ≤ m * w := by
  have h1 := Int.emod_add_mul_ediv (n * w) m
  have h2 := Int.emod_nonneg (n * w) (b := m) (by omega)
  have h3 := Int.emod_lt_of_pos (n * w) (b := m) (by omega)
  have h4 : 0 ≤ n * w := Int.mul_nonneg (by omega) hw
  have h5 : n * w ≤ m * w := Int.mul_le_mul_of_nonneg_right hn.2 hw
  have h6 : 0 ≤ n * w / m := Int.ediv_nonneg h4 (by omega)
  refine ⟨h6, ?_, fun h => ?_, h2, h3, by omega, h4, h5⟩
  · exact Int.le_of_mul_le_mul_left (show m * (n * w / m) ≤ m * w by omega) (by omega)
  · have h7 : m * (n * w / m) < m * w := by omega
    have h8 := Int.lt_of_mul_lt_mul_left h7 (show 0 ≤ m by omega)
    omega
theorem hm_partsC (hT : abTabs) {x : haCx} {d : Nat} {P : Option avV → haMu → Prop} (hF : haF x 215 d) (hR : haRet x 215 P) {b r k n m : Int} {mu : haMu} {w : Int → Int} (hb : 0 ≤ b ∧ b ≤ 5) (hr : 0 ≤ r ∧ r ≤ 11) (hk : k = 540 + 164 * b + 12 * r) (hm : 1 ≤ m ∧ m ≤ 1000) (hn : 1 ≤ n ∧ n ≤ m)
    (hw : ∀ c : Int, 0 ≤ c → c < 8 → 0 ≤ w c ∧ w c ≤ 1000) (hg : ∀ c : Int, 0 ≤ c → c < 8 → mu 861 (k + 4 + c) = w c) (hg0 : mu 861 k = m)
    (hP : ∀ mu' : haMu, (∀ (j : Nat) (i : Int), ¬ j = 868 → ¬ j = 869 → ¬ (j = 861 ∧ k ≤ i ∧ i ≤ k + 11) → mu' j i = mu j i) → mu' 868 0 = n → (∀ c : Int, 0 ≤ c → c < 8 → 0 ≤ mu' 868 (4 + c) ∧ mu' 868 (4 + c) ≤ w c ∧ mu' 861 (k + 4 + c) = w c - mu' 868 (4 + c)) → haS (fun c => mu' 868 (4 + c)) 8 = n → mu' 861 k = m - n → P none mu') :
    ∀ (nn : Nat) (left : Int) (nu : haMu) (v6 v7 : avV), (nn : Int) = left → left ≤ 1000 → (∀ (j : Nat) (i : Int), ¬ j = 868 → ¬ j = 869 → nu j i = mu j i) → nu 868 0 = n → (∀ c : Int, 0 ≤ c → c < 8 → nu 868 (4 + c) = n * w c / m + nu 869 c ∧ (nu 869 c = 0 ∨ (nu 869 c = 1 ∧ 0 < n * w c % m))) → n - left = haS (fun c => nu 868 (4 + c)) 8 → m * left ≤ haS (fun c => (1 - nu 869 c) * (n * w c % m)) 8 → haW x nu 123 [haR 51 860, haI (k), haI (n), haL (m), avJ, haI (left), v6, v7] [] := by
  have hXa : ∀ c : Int, 0 ≤ c → c < 8 → 0 ≤ n * w c ∧ n * w c ≤ 1000000 := fun c c0 c1 => by
    obtain ⟨h1, h2⟩ := hw c c0 c1
    have h3 : n * w c ≤ 1000 * 1000 := Int.mul_le_mul (by omega) h2 h1 (by omega)
    exact ⟨Int.mul_nonneg (by omega) h1, by omega⟩
  intro nn
  induction nn with
  | zero =>
    intro left nu v6 v7 hl hl1 f1 f2 f3 f4 f5
    refine ha_s (pc' := 125) (ls' := [haR 51 860, haI (k), haI (n), haL (m), avJ, haI (left), v6, v7]) (st' := [haI (left)]) hF (haEt hT (e := (8, 123, 0, 5, 0, [])) (k := 215) (pc := 123) (by decide) (by decide +kernel) rfl) rfl (fun RG => avS8) (fun nx => rfl) ?_
    refine ha_ifle hF (haEt hT (e := (51, 125, 232, 0, 0, [])) (k := 215) (pc := 125) (by decide) (by decide +kernel) rfl) rfl rfl rfl (fun _ => ?_) (fun q => by omega)
    have hpw : ∀ c : Int, 0 ≤ c → c < 8 → 0 ≤ nu 868 (4 + c) ∧ nu 868 (4 + c) ≤ w c := fun c c0 c1 => by
      obtain ⟨h1, h2, h3, h4, h5, h6, h7, h8⟩ := haQr hn (hw c c0 c1).1
      obtain ⟨g1, g2⟩ := f3 c c0 c1
      rcases g2 with g2 | ⟨g2, g3⟩
      · omega
      · have := h3 g3
        omega
    have hgn : ∀ c : Int, 0 ≤ c → c < 8 → nu 861 (k + 4 + c) = w c := fun c c0 c1 => (f1 861 _ (by decide) (by decide)).trans (hg c c0 c1)
    have hg0n : nu 861 k = m := (f1 861 _ (by decide) (by decide)).trans hg0
    refine hm_partsD hT hF hR hb hr hk (fun c c0 c1 c2 => ?_) (fun mu' g1 g2 => ?_)
    · by_cases e : c = 0
      · rw [e, Int.add_zero, hg0n, f2]
        omega
      · have h1 := hpw (c - 4) (by omega) (by omega)
        have h2 := hgn (c - 4) (by omega) (by omega)
        rw [show 4 + (c - 4) = c by omega] at h1
        rw [show k + 4 + (c - 4) = k + c by omega] at h2
        have h3 := (hw (c - 4) (by omega) (by omega)).2
        omega
    · have e868 : ∀ i : Int, mu' 868 i = nu 868 i := fun i => g1 868 i (fun q => absurd q.1 (by decide))
      refine hP mu' (fun j i a1 a2 a3 => (g1 j i a3).trans (f1 j i a1 a2)) ((e868 0).trans f2) (fun c c0 c1 => ?_) ?_ ?_
      · have h1 := hpw c c0 c1
        have h2 := hgn c c0 c1
        have h3 := g2 (4 + c) (by omega) (by omega) (by omega)
        rw [show k + (4 + c) = k + 4 + c by omega] at h3
        rw [e868]
        exact ⟨h1.1, h1.2, by rw [h3, h2]⟩
      · rw [haS_congr (f := fun c => mu' 868 (4 + c)) (g := fun c => nu 868 (4 + c)) (fun c _ _ => e868 _), ← f4]
        omega
      · have h3 := g2 0 (by omega) (by omega) (by omega)
        rw [Int.add_zero, hg0n, f2] at h3
        exact h3
  | succ nn ih =>
    intro left nu v6 v7 hl hl1 f1 f2 f3 f4 f5
    refine ha_s (pc' := 125) (ls' := [haR 51 860, haI (k), haI (n), haL (m), avJ, haI (left), v6, v7]) (st' := [haI (left)]) hF (haEt hT (e := (8, 123, 0, 5, 0, [])) (k := 215) (pc := 123) (by decide) (by decide +kernel) rfl) rfl (fun RG => avS8) (fun nx => rfl) ?_
    refine ha_ifle hF (haEt hT (e := (51, 125, 232, 0, 0, [])) (k := 215) (pc := 125) (by decide) (by decide +kernel) rfl) rfl rfl rfl (fun q => by omega) (fun _ => ?_)
    refine ha_s (pc' := 129) (ls' := [haR 51 860, haI (k), haI (n), haL (m), avJ, haI (left), v6, v7]) (st' := [haI (-1)]) hF (haEt hT (e := (1, 128, 0, 0, 9223372036854775807, [])) (k := 215) (pc := 128) (by decide) (by decide +kernel) rfl) rfl (fun RG => avS1) (fun nx => rfl) ?_
    refine ha_s (pc' := 131) (ls' := [haR 51 860, haI (k), haI (n), haL (m), avJ, haI (left), haI (-1), v7]) (st' := []) hF (haEt hT (e := (14, 129, 0, 6, 0, [])) (k := 215) (pc := 129) (by decide) (by decide +kernel) rfl) rfl (fun RG => avS14) (fun nx => rfl) ?_
    refine ha_s (pc' := 132) (ls' := [haR 51 860, haI (k), haI (n), haL (m), avJ, haI (left), haI (-1), v7]) (st' := [haI (0)]) hF (haEt hT (e := (1, 131, 0, 0, 9223372036854775808, [])) (k := 215) (pc := 131) (by decide) (by decide +kernel) rfl) rfl (fun RG => avS1) (fun nx => rfl) ?_
    refine ha_s (pc' := 134) (ls' := [haR 51 860, haI (k), haI (n), haL (m), avJ, haI (left), haI (-1), haI (0)]) (st' := []) hF (haEt hT (e := (14, 132, 0, 7, 0, [])) (k := 215) (pc := 132) (by decide) (by decide +kernel) rfl) rfl (fun RG => avS14) (fun nx => rfl) ?_
    have hgn : ∀ c : Int, 0 ≤ c → c < 8 → nu 861 (k + 4 + c) = w c := fun c c0 c1 => (f1 861 _ (by decide) (by decide)).trans (hg c c0 c1)
    have hml : m * 1 ≤ m * left := Int.mul_le_mul_of_nonneg_left (by omega) (by omega)
    obtain ⟨i, i0, i1, i2⟩ := haS_pos (f := fun c => (1 - nu 869 c) * (n * w c % m)) (n := 8) (by omega)
    have i2' : 0 < (1 - nu 869 i) * (n * w i % m) := i2
    have hi : nu 869 i = 0 := by
      rcases (f3 i i0 i1).2 with g | ⟨g, -⟩
      · exact g
      · rw [g] at i2'
        rw [show (1 : Int) - 1 = 0 from rfl, Int.zero_mul] at i2'
        omega
    rw [hi, show (1 : Int) - 0 = 1 from rfl, Int.one_mul] at i2'
    refine hm_partsI hT hF hb hr hk hm hXa hgn (fun B hB => ?_)
    rcases hB with ⟨b1, b2⟩ | ⟨b1, b2, b3, b4⟩
    · exact absurd hi (b2 i i0 i1)
    have hBr := b4 i i0 i1 hi
    obtain ⟨h1, h2, h3, h4, h5, h6, h7, h8⟩ := haQr hn (hw B b1 b2).1
    have hpB := (f3 B b1 b2).1
    have hwB := (hw B b1 b2).2
    refine ha_s (pc' := 206) (ls' := [haR 51 860, haI (k), haI (n), haL (m), avJ, haI (left), haI (B), haI (8)]) (st' := [haR 51 860]) hF (haEt hT (e := (13, 205, 0, 0, 0, [])) (k := 215) (pc := 205) (by decide) (by decide +kernel) rfl) rfl (fun RG => avS13) (fun nx => rfl) ?_
    refine ha_getR (r := 51) (j := 860) (i := 17) (r' := 58) (j' := 869) hF (haEt hT (e := (60, 206, 12, 17, 43, [1360])) (k := 215) (pc := 206) (by decide) (by decide +kernel) rfl) rfl rfl rfl (by decide +kernel) (by decide) (by decide +kernel) (by rfl) ?_
    refine ha_s (pc' := 211) (ls' := [haR 51 860, haI (k), haI (n), haL (m), avJ, haI (left), haI (B), haI (8)]) (st' := [haI (B), haR 58 869]) hF (haEt hT (e := (8, 209, 0, 6, 0, [])) (k := 215) (pc := 209) (by decide) (by decide +kernel) rfl) rfl (fun RG => avS8) (fun nx => rfl) ?_
    refine ha_s (pc' := 212) (ls' := [haR 51 860, haI (k), haI (n), haL (m), avJ, haI (left), haI (B), haI (8)]) (st' := [haI (1), haI (B), haR 58 869]) hF (haEt hT (e := (1, 211, 0, 0, 9223372036854775809, [])) (k := 215) (pc := 211) (by decide) (by decide +kernel) rfl) rfl (fun RG => avS1) (fun nx => rfl) ?_
    refine ha_bast (r := 58) hF (haEt hT (e := (70, 212, 0, 0, 0, [])) (k := 215) (pc := 212) (by decide) (by decide +kernel) rfl) rfl rfl (by decide +kernel) (by omega) (by show _ < (8 : Int); omega) (lo := 0) (up := 1) (by rfl) (by omega) (by omega) ⟨by omega, by omega⟩ ?_
    refine ha_s (pc' := 214) (ls' := [haR 51 860, haI (k), haI (n), haL (m), avJ, haI (left), haI (B), haI (8)]) (st' := [haR 51 860]) hF (haEt hT (e := (13, 213, 0, 0, 0, [])) (k := 215) (pc := 213) (by decide) (by decide +kernel) rfl) rfl (fun RG => avS13) (fun nx => rfl) ?_
    refine ha_getR (r := 51) (j := 860) (i := 16) (r' := 66) (j' := 868) hF (haEt hT (e := (60, 214, 12, 16, 40, [1359])) (k := 215) (pc := 214) (by decide) (by decide +kernel) rfl) rfl rfl rfl (by decide +kernel) (by decide) (by decide +kernel) (by rfl) ?_
    refine ha_s (pc' := 218) (ls' := [haR 51 860, haI (k), haI (n), haL (m), avJ, haI (left), haI (B), haI (8)]) (st' := [haI (4), haR 66 868]) hF (haEt hT (e := (1, 217, 0, 0, 9223372036854775812, [])) (k := 215) (pc := 217) (by decide) (by decide +kernel) rfl) rfl (fun RG => avS1) (fun nx => rfl) ?_
    refine ha_s (pc' := 220) (ls' := [haR 51 860, haI (k), haI (n), haL (m), avJ, haI (left), haI (B), haI (8)]) (st' := [haI (B), haI (4), haR 66 868]) hF (haEt hT (e := (8, 218, 0, 6, 0, [])) (k := 215) (pc := 218) (by decide) (by decide +kernel) rfl) rfl (fun RG => avS8) (fun nx => rfl) ?_
    refine ha_iadd hF (haEt hT (e := (21, 220, 0, 0, 0, [])) (k := 215) (pc := 220) (by decide) (by decide +kernel) rfl) rfl rfl (by omega) (by omega) ?_
    refine ha_s (pc' := 222) (ls' := [haR 51 860, haI (k), haI (n), haL (m), avJ, haI (left), haI (B), haI (8)]) (st' := [haI (4 + (B)), haR 66 868, haI (4 + (B)), haR 66 868]) hF (haEt hT (e := (45, 221, 0, 0, 0, [])) (k := 215) (pc := 221) (by decide) (by decide +kernel) rfl) rfl (fun RG => avS45) (fun nx => rfl) ?_
    refine ha_iald (r := 66) hF (haEt hT (e := (64, 222, 0, 0, 0, [])) (k := 215) (pc := 222) (by decide) (by decide +kernel) rfl) rfl rfl (by decide +kernel) (by omega) (by show _ < (12 : Int); omega) ?_
    rw [haUp_n (mu := nu) (j := 869) (j' := 868) (fun z => absurd z.1 (by decide))]
    refine ha_s (pc' := 224) (ls' := [haR 51 860, haI (k), haI (n), haL (m), avJ, haI (left), haI (B), haI (8)]) (st' := [haI (1), haI (nu 868 (4 + B)), haI (4 + (B)), haR 66 868]) hF (haEt hT (e := (1, 223, 0, 0, 9223372036854775809, [])) (k := 215) (pc := 223) (by decide) (by decide +kernel) rfl) rfl (fun RG => avS1) (fun nx => rfl) ?_
    refine ha_iadd hF (haEt hT (e := (21, 224, 0, 0, 0, [])) (k := 215) (pc := 224) (by decide) (by decide +kernel) rfl) rfl rfl (by omega) (by omega) ?_
    refine ha_iast (r := 66) hF (haEt hT (e := (69, 225, 0, 0, 0, [])) (k := 215) (pc := 225) (by decide) (by decide +kernel) rfl) rfl rfl (by decide +kernel) (by omega) (by show _ < (12 : Int); omega) (lo := -2147483648) (up := 2147483647) (by rfl) (by omega) (by omega) ?_
    refine ha_iinc (i := 5) (c := -1) hF (haEt hT (e := (20, 226, 0, 5, 9223372036854775807, [])) (k := 215) (pc := 226) (by decide) (by decide +kernel) rfl) rfl rfl rfl rfl rfl (by omega) (by omega) ?_
    show haW _ _ 229 [haR 51 860, haI (k), haI (n), haL (m), avJ, haI (left + -1), haI (B), haI (8)] []
    refine ha_s (pc' := 123) (ls' := [haR 51 860, haI (k), haI (n), haL (m), avJ, haI (left + -1), haI (B), haI (8)]) (st' := []) hF (haEt hT (e := (58, 229, 123, 0, 0, [])) (k := 215) (pc := 229) (by decide) (by decide +kernel) rfl) rfl (fun RG => avS58) (fun nx => rfl) ?_
    have u1 : ∀ c : Int, ¬ c = B → haUp (haUp nu 869 B 1) 868 (4 + B) (nu 868 (4 + B) + 1) 868 (4 + c) = nu 868 (4 + c) := fun c hc => by
      rw [haUp_n (fun z => hc (by omega)), haUp_n (fun z => absurd z.1 (by decide))]
    have u2 : haUp (haUp nu 869 B 1) 868 (4 + B) (nu 868 (4 + B) + 1) 868 (4 + B) = nu 868 (4 + B) + 1 := haUp_s
    have u3 : ∀ c : Int, ¬ c = B → haUp (haUp nu 869 B 1) 868 (4 + B) (nu 868 (4 + B) + 1) 869 c = nu 869 c := fun c hc => by
      rw [haUp_n (fun z => absurd z.1 (by decide)), haUp_n (fun z => hc z.2)]
    have u4 : haUp (haUp nu 869 B 1) 868 (4 + B) (nu 868 (4 + B) + 1) 869 B = 1 := by
      rw [haUp_n (fun z => absurd z.1 (by decide)), haUp_s]
    refine ih (left + -1) (haUp (haUp nu 869 B 1) 868 (4 + B) (nu 868 (4 + B) + 1)) _ _ (by omega) (by omega) (fun j i a1 a2 => ?_) ?_ (fun c c0 c1 => ?_) ?_ ?_
    · rw [haUp_n (fun z => a1 z.1), haUp_n (fun z => a2 z.1)]
      exact f1 j i a1 a2
    · rw [haUp_n (fun z => by omega), haUp_n (fun z => absurd z.1 (by decide))]
      exact f2
    · by_cases e : c = B
      · rw [e, u2, u4]
        exact ⟨by omega, Or.inr ⟨rfl, by omega⟩⟩
      · rw [u1 c e, u3 c e]
        exact f3 c c0 c1
    · rw [haS_upd (f := fun c => nu 868 (4 + c)) (g := fun c => haUp (haUp nu 869 B 1) 868 (4 + B) (nu 868 (4 + B) + 1) 868 (4 + c)) (j := B) b1 b2 (fun c _ _ e => u1 c e), ← f4]
      show n - (left + -1) = n - left + (haUp (haUp nu 869 B 1) 868 (4 + B) (nu 868 (4 + B) + 1) 868 (4 + B) - nu 868 (4 + B))
      rw [u2]
      omega
    · rw [haS_upd (f := fun c => (1 - nu 869 c) * (n * w c % m)) (g := fun c => (1 - haUp (haUp nu 869 B 1) 868 (4 + B) (nu 868 (4 + B) + 1) 869 c) * (n * w c % m)) (j := B) b1 b2 (fun c _ _ e => by show (1 - _) * _ = (1 - _) * _; rw [u3 c e])]
      show m * (left + -1) ≤ haS _ 8 + ((1 - haUp (haUp nu 869 B 1) 868 (4 + B) (nu 868 (4 + B) + 1) 869 B) * (n * w B % m) - (1 - nu 869 B) * (n * w B % m))
      rw [u4, b3, show (1 : Int) - 1 = 0 from rfl, show (1 : Int) - 0 = 1 from rfl, Int.zero_mul, Int.one_mul, Int.mul_add]
      omega
