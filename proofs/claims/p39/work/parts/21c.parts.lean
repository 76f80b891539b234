/-! sums; TallBinsModel.parts, by hand -/
def haS (f : Int → Int) : Nat → Int
  | 0 => 0
  | n + 1 => haS f n + f (n : Int)
theorem haS_congr {f g : Int → Int} : ∀ {n : Nat}, (∀ i : Int, 0 ≤ i → i < (n : Int) → f i = g i) → haS f n = haS g n
  | 0, _ => rfl
  | n + 1, h => by
    show haS f n + f (n : Int) = haS g n + g (n : Int)
    rw [haS_congr (fun i h0 h1 => h i h0 (by omega)), h n (by omega) (by omega)]
theorem haS_lin {f g h : Int → Int} {a b : Int} : ∀ {n : Nat}, (∀ i : Int, 0 ≤ i → i < (n : Int) → f i = a * g i + b * h i) → haS f n = a * haS g n + b * haS h n
  | 0, _ => by
    show (0 : Int) = a * 0 + b * 0
    omega
  | n + 1, q => by
    show haS f n + f (n : Int) = a * (haS g n + g (n : Int)) + b * (haS h n + h (n : Int))
    rw [haS_lin (fun i h0 h1 => q i h0 (by omega)), q n (by omega) (by omega), Int.mul_add, Int.mul_add]
    omega
theorem haS_le {f g : Int → Int} : ∀ {n : Nat}, (∀ i : Int, 0 ≤ i → i < (n : Int) → f i ≤ g i) → haS f n ≤ haS g n
  | 0, _ => Int.le_refl 0
  | n + 1, h => by
    show haS f n + f (n : Int) ≤ haS g n + g (n : Int)
    have h1 := haS_le (f := f) (g := g) (n := n) (fun i h0 h1 => h i h0 (by omega))
    have h2 := h n (by omega) (by omega)
    omega
theorem haS_const {c : Int} : ∀ n : Nat, haS (fun _ => c) n = (n : Int) * c
  | 0 => by
    show (0 : Int) = ((0 : Nat) : Int) * c
    rw [show ((0 : Nat) : Int) = 0 from rfl, Int.zero_mul]
  | n + 1 => by
    show haS (fun _ => c) n + c = ((n + 1 : Nat) : Int) * c
    rw [haS_const n, show ((n + 1 : Nat) : Int) = (n : Int) + 1 from rfl, Int.add_mul, Int.one_mul]
theorem haS_upd {f g : Int → Int} {j : Int} : ∀ {n : Nat}, 0 ≤ j → j < (n : Int) → (∀ i : Int, 0 ≤ i → i < (n : Int) → ¬ i = j → g i = f i) → haS g n = haS f n + (g j - f j)
  | 0, h0, h1, _ => by omega
  | n + 1, h0, h1, h => by
    show haS g n + g (n : Int) = haS f n + f (n : Int) + (g j - f j)
    by_cases e : j = (n : Int)
    · rw [haS_congr (f := g) (g := f) (fun i a b => h i a (by omega) (by omega)), e]
      omega
    · rw [haS_upd (f := f) (g := g) h0 (by omega) (fun i a b c => h i a (by omega) c), h n (by omega) (by omega) (fun q => e q.symm)]
      omega
theorem haS_pos {f : Int → Int} : ∀ {n : Nat}, 0 < haS f n → ∃ i : Int, 0 ≤ i ∧ i < (n : Int) ∧ 0 < f i
  | 0, h => absurd h (Int.lt_irrefl 0)
  | n + 1, h => by
    have h' : 0 < haS f n + f (n : Int) := h
    by_cases q : 0 < f (n : Int)
    · exact ⟨n, by omega, by omega, q⟩
    · obtain ⟨i, a, b, c⟩ := haS_pos (f := f) (n := n) (by omega)
      exact ⟨i, a, by omega, c⟩
theorem hm_partsD (hT : abTabs) {x : haCx} {d : Nat} {P : Option avV → haMu → Prop} (hF : haF x 215 d) (hR : haRet x 215 P) {b r k n m : Int} {mu : haMu} {s5 : Int} {v6 v7 : avV} (hb : 0 ≤ b ∧ b ≤ 5) (hr : 0 ≤ r ∧ r ≤ 11) (hk : k = 540 + 164 * b + 12 * r) (hsum : ∀ c : Int, 0 ≤ c → c ≤ 11 → ¬ (1 ≤ c ∧ c ≤ 3) → 0 ≤ mu 861 (k + c) - mu 868 c ∧ mu 861 (k + c) - mu 868 c ≤ 1000)
    (hP : ∀ mu' : haMu, (∀ (j : Nat) (i : Int), ¬ (j = 861 ∧ k ≤ i ∧ i ≤ k + 11) → mu' j i = mu j i) → (∀ c : Int, 0 ≤ c → c ≤ 11 → ¬ (1 ≤ c ∧ c ≤ 3) → mu' 861 (k + c) = mu 861 (k + c) - mu 868 c) → P none mu') : haW x mu 232 [haR 51 860, haI (k), haI (n), haL (m), avJ, haI (s5), v6, v7] [] := by
  have loop : ∀ (nn : Nat) (i : Int) (nu : haMu), (nn : Int) = 12 - i → 0 ≤ i → (∀ (j : Nat) (q : Int), ¬ (j = 861 ∧ k ≤ q ∧ q ≤ k + 11) → nu j q = mu j q) → (∀ c : Int, i ≤ c → c ≤ 11 → nu 861 (k + c) = mu 861 (k + c)) → (∀ c : Int, 0 ≤ c → c < i → ¬ (1 ≤ c ∧ c ≤ 3) → nu 861 (k + c) = mu 861 (k + c) - mu 868 c) → haW x nu 235 [haR 51 860, haI (k), haI (n), haL (m), avJ, haI (s5), haI (i), v7] [] := by
    intro nn
    induction nn with
    | zero =>
      intro i nu hn h0 f1 f2 f3
      refine ha_s (pc' := 237) (ls' := [haR 51 860, haI (k), haI (n), haL (m), avJ, haI (s5), haI (i), v7]) (st' := [haI (i)]) hF (haEt hT (e := (8, 235, 0, 6, 0, [])) (k := 215) (pc := 235) (by decide) (by decide +kernel) rfl) rfl (fun RG => avS8) (fun nx => rfl) ?_
      refine ha_s (pc' := 239) (ls' := [haR 51 860, haI (k), haI (n), haL (m), avJ, haI (s5), haI (i), v7]) (st' := [haI (12), haI (i)]) hF (haEt hT (e := (2, 237, 0, 0, 9223372036854775820, [])) (k := 215) (pc := 237) (by decide) (by decide +kernel) rfl) rfl (fun RG => avS2) (fun nx => rfl) ?_
      refine ha_icge hF (haEt hT (e := (55, 239, 267, 0, 0, [])) (k := 215) (pc := 239) (by decide) (by decide +kernel) rfl) rfl rfl rfl (fun _ => ?_) (fun q => by omega)
      exact hR 267 _ _ _ none (82, 267, 0, 0, 0, []) (haEt hT (e := (82, 267, 0, 0, 0, [])) (k := 215) (pc := 267) (by decide) (by decide +kernel) rfl) rfl (Or.inl ⟨rfl, rfl, rfl⟩) (hP _ f1 (fun c c0 c1 c2 => f3 c c0 (by omega) c2))
    | succ nn ih =>
      intro i nu hn h0 f1 f2 f3
      refine ha_s (pc' := 237) (ls' := [haR 51 860, haI (k), haI (n), haL (m), avJ, haI (s5), haI (i), v7]) (st' := [haI (i)]) hF (haEt hT (e := (8, 235, 0, 6, 0, [])) (k := 215) (pc := 235) (by decide) (by decide +kernel) rfl) rfl (fun RG => avS8) (fun nx => rfl) ?_
      refine ha_s (pc' := 239) (ls' := [haR 51 860, haI (k), haI (n), haL (m), avJ, haI (s5), haI (i), v7]) (st' := [haI (12), haI (i)]) hF (haEt hT (e := (2, 237, 0, 0, 9223372036854775820, [])) (k := 215) (pc := 237) (by decide) (by decide +kernel) rfl) rfl (fun RG => avS2) (fun nx => rfl) ?_
      refine ha_icge hF (haEt hT (e := (55, 239, 267, 0, 0, [])) (k := 215) (pc := 239) (by decide) (by decide +kernel) rfl) rfl rfl rfl (fun q => by omega) (fun _ => ?_)
      obtain ⟨lo, up, hs, hc⟩ := haWs (i := i) hb hr ⟨h0, by omega⟩
      have e1 := f2 i (Int.le_refl i) (by omega)
      have e2 := f1 868 i (fun q => absurd q.1 (by decide))
      have e3 := hsum i h0 (by omega)
      refine ha_s (pc' := 243) (ls' := [haR 51 860, haI (k), haI (n), haL (m), avJ, haI (s5), haI (i), v7]) (st' := [haR 51 860]) hF (haEt hT (e := (13, 242, 0, 0, 0, [])) (k := 215) (pc := 242) (by decide) (by decide +kernel) rfl) rfl (fun RG => avS13) (fun nx => rfl) ?_
      refine ha_getR (r := 51) (j := 860) (i := 1) (r' := 77) (j' := 861) hF (haEt hT (e := (60, 243, 12, 1, 13, [1344])) (k := 215) (pc := 243) (by decide) (by decide +kernel) rfl) rfl rfl rfl (by decide +kernel) (by decide) (by decide +kernel) (by rfl) ?_
      refine ha_s (pc' := 247) (ls' := [haR 51 860, haI (k), haI (n), haL (m), avJ, haI (s5), haI (i), v7]) (st' := [haI (k), haR 77 861]) hF (haEt hT (e := (9, 246, 0, 1, 0, [])) (k := 215) (pc := 246) (by decide) (by decide +kernel) rfl) rfl (fun RG => avS9) (fun nx => rfl) ?_
      refine ha_s (pc' := 249) (ls' := [haR 51 860, haI (k), haI (n), haL (m), avJ, haI (s5), haI (i), v7]) (st' := [haI (i), haI (k), haR 77 861]) hF (haEt hT (e := (8, 247, 0, 6, 0, [])) (k := 215) (pc := 247) (by decide) (by decide +kernel) rfl) rfl (fun RG => avS8) (fun nx => rfl) ?_
      refine ha_iadd hF (haEt hT (e := (21, 249, 0, 0, 0, [])) (k := 215) (pc := 249) (by decide) (by decide +kernel) rfl) rfl rfl (by omega) (by omega) ?_
      refine ha_s (pc' := 251) (ls' := [haR 51 860, haI (k), haI (n), haL (m), avJ, haI (s5), haI (i), v7]) (st' := [haI (k + (i)), haR 77 861, haI (k + (i)), haR 77 861]) hF (haEt hT (e := (45, 250, 0, 0, 0, [])) (k := 215) (pc := 250) (by decide) (by decide +kernel) rfl) rfl (fun RG => avS45) (fun nx => rfl) ?_
      refine ha_iald (r := 77) hF (haEt hT (e := (64, 251, 0, 0, 0, [])) (k := 215) (pc := 251) (by decide) (by decide +kernel) rfl) rfl rfl (by decide +kernel) (by omega) (by show _ < (1745 : Int); omega) ?_
      refine ha_s (pc' := 253) (ls' := [haR 51 860, haI (k), haI (n), haL (m), avJ, haI (s5), haI (i), v7]) (st' := [haR 51 860, haI (nu 861 (k + (i))), haI (k + (i)), haR 77 861]) hF (haEt hT (e := (13, 252, 0, 0, 0, [])) (k := 215) (pc := 252) (by decide) (by decide +kernel) rfl) rfl (fun RG => avS13) (fun nx => rfl) ?_
      refine ha_getR (r := 51) (j := 860) (i := 16) (r' := 66) (j' := 868) hF (haEt hT (e := (60, 253, 12, 16, 40, [1359])) (k := 215) (pc := 253) (by decide) (by decide +kernel) rfl) rfl rfl rfl (by decide +kernel) (by decide) (by decide +kernel) (by rfl) ?_
      refine ha_s (pc' := 258) (ls' := [haR 51 860, haI (k), haI (n), haL (m), avJ, haI (s5), haI (i), v7]) (st' := [haI (i), haR 66 868, haI (nu 861 (k + (i))), haI (k + (i)), haR 77 861]) hF (haEt hT (e := (8, 256, 0, 6, 0, [])) (k := 215) (pc := 256) (by decide) (by decide +kernel) rfl) rfl (fun RG => avS8) (fun nx => rfl) ?_
      refine ha_iald (r := 66) hF (haEt hT (e := (64, 258, 0, 0, 0, [])) (k := 215) (pc := 258) (by decide) (by decide +kernel) rfl) rfl rfl (by decide +kernel) (by omega) (by show _ < (12 : Int); omega) ?_
      refine ha_isubA hF (haEt hT (e := (22, 259, 0, 0, 0, [])) (k := 215) (pc := 259) (by decide) (by decide +kernel) rfl) rfl rfl (fun w w1 w2 w3 => ?_)
      have hlo : lo ≤ w ∧ w ≤ up := by
        rcases hc with ⟨a1, a2, a3, a4⟩ | ⟨a1, a3, a4⟩
        · omega
        · have e4 := e3 a1
          have e5 := w3 (by omega) (by omega)
          omega
      refine ha_iast (r := 77) hF (haEt hT (e := (69, 260, 0, 0, 0, [])) (k := 215) (pc := 260) (by decide) (by decide +kernel) rfl) rfl rfl (by decide +kernel) (by omega) (by show _ < (1745 : Int); omega) (lo := lo) (up := up) (by rw [hk]; exact hs) hlo.1 hlo.2 ?_
      refine ha_iinc (i := 6) (c := 1) hF (haEt hT (e := (20, 261, 0, 6, 9223372036854775809, [])) (k := 215) (pc := 261) (by decide) (by decide +kernel) rfl) rfl rfl rfl rfl rfl (by omega) (by omega) ?_
      show haW _ _ 264 [haR 51 860, haI (k), haI (n), haL (m), avJ, haI (s5), haI (i + 1), v7] []
      refine ha_s (pc' := 235) (ls' := [haR 51 860, haI (k), haI (n), haL (m), avJ, haI (s5), haI (i + 1), v7]) (st' := []) hF (haEt hT (e := (58, 264, 235, 0, 0, [])) (k := 215) (pc := 264) (by decide) (by decide +kernel) rfl) rfl (fun RG => avS58) (fun nx => rfl) ?_
      refine ih (i + 1) (haUp nu 861 (k + i) w) (by omega) (by omega) (fun j q hq => ?_) (fun c c0 c1 => ?_) (fun c c0 c1 c2 => ?_)
      · rw [haUp_n (fun z => hq ⟨z.1, by omega, by omega⟩)]
        exact f1 j q hq
      · rw [haUp_n (fun z => by omega)]
        exact f2 c (by omega) c1
      · by_cases hci : c = i
        · subst hci
          rw [haUp_s]
          have e4 := e3 c2
          have e5 := w3 (by omega) (by omega)
          omega
        · rw [haUp_n (fun z => by omega)]
          exact f3 c c0 (by omega) c2
  refine ha_s (pc' := 233) (ls' := [haR 51 860, haI (k), haI (n), haL (m), avJ, haI (s5), v6, v7]) (st' := [haI (0)]) hF (haEt hT (e := (1, 232, 0, 0, 9223372036854775808, [])) (k := 215) (pc := 232) (by decide) (by decide +kernel) rfl) rfl (fun RG => avS1) (fun nx => rfl) ?_
  refine ha_s (pc' := 235) (ls' := [haR 51 860, haI (k), haI (n), haL (m), avJ, haI (s5), haI (0), v7]) (st' := []) hF (haEt hT (e := (14, 233, 0, 6, 0, [])) (k := 215) (pc := 233) (by decide) (by decide +kernel) rfl) rfl (fun RG => avS14) (fun nx => rfl) ?_
  exact loop 12 0 mu rfl (Int.le_refl 0) (fun _ _ _ => rfl) (fun _ _ _ => rfl) (fun c c0 c1 _ => by omega)
