/-! the world's RINGS; Math.min, TallBinsModel.takes0 -/
def haRing (mu : haMu) (b r : Int) : Prop := 0 ≤ mu 861 (540 + 164 * b + 12 * r) ∧ mu 861 (540 + 164 * b + 12 * r) ≤ mu 861 (521 + 164 * b) ∧ (∀ c : Int, 0 ≤ c → c < 8 → 0 ≤ mu 861 (540 + 164 * b + 12 * r + 4 + c)) ∧ haS (fun c => mu 861 (540 + 164 * b + 12 * r + 4 + c)) 8 = mu 861 (540 + 164 * b + 12 * r)
def haWd (mu : haMu) : Prop := (∀ b : Int, 0 ≤ b → b ≤ 5 → 0 ≤ mu 861 (520 + 164 * b) ∧ mu 861 (520 + 164 * b) ≤ 12 ∧ 0 ≤ mu 861 (521 + 164 * b) ∧ mu 861 (521 + 164 * b) ≤ 1000) ∧ ∀ b r : Int, 0 ≤ b → b ≤ 5 → 0 ≤ r → r ≤ 11 → haRing mu b r
theorem haS_nn {f : Int → Int} : ∀ {n : Nat}, (∀ i : Int, 0 ≤ i → i < (n : Int) → 0 ≤ f i) → 0 ≤ haS f n
  | 0, _ => Int.le_refl 0
  | n + 1, h => by
    have h1 := haS_nn (f := f) (n := n) (fun i a b => h i a (by omega))
    have h2 := h n (by omega) (by omega)
    show 0 ≤ haS f n + f (n : Int)
    omega
theorem haS_mem {f : Int → Int} {j : Int} : ∀ {n : Nat}, (∀ i : Int, 0 ≤ i → i < (n : Int) → 0 ≤ f i) → 0 ≤ j → j < (n : Int) → f j ≤ haS f n
  | 0, _, h0, h1 => by omega
  | n + 1, h, h0, h1 => by
    show f j ≤ haS f n + f (n : Int)
    by_cases e : j = (n : Int)
    · have h2 := haS_nn (f := f) (n := n) (fun i a b => h i a (by omega))
      rw [e]
      omega
    · have h2 := haS_mem (f := f) (j := j) (n := n) (fun i a b => h i a (by omega)) h0 (by omega)
      have h3 := h n (by omega) (by omega)
      omega
theorem haRing_lot {mu : haMu} (h : haWd mu) {b r c : Int} (hb : 0 ≤ b ∧ b ≤ 5) (hr : 0 ≤ r ∧ r ≤ 11) (hc : 0 ≤ c ∧ c < 8) : 0 ≤ mu 861 (540 + 164 * b + 12 * r + 4 + c) ∧ mu 861 (540 + 164 * b + 12 * r + 4 + c) ≤ mu 861 (540 + 164 * b + 12 * r) ∧ mu 861 (540 + 164 * b + 12 * r) ≤ 1000 := by
  obtain ⟨h1, h2, h3, h4⟩ := h.2 b r hb.1 hb.2 hr.1 hr.2
  have h5 := haS_mem (f := fun c => mu 861 (540 + 164 * b + 12 * r + 4 + c)) (n := 8) h3 hc.1 hc.2
  have h6 := h.1 b hb.1 hb.2
  rw [h4] at h5
  exact ⟨h3 c hc.1 hc.2, h5, by omega⟩
theorem haGd_hold {b i : Int} (hb : 0 ≤ b ∧ b ≤ 5) (hi : 0 ≤ i ∧ i ≤ 1) : haGd 861 (520 + 164 * b + i) := by
  refine haGd_w (by omega) ?_
  rcases (show b = 0 ∨ b = 1 ∨ b = 2 ∨ b = 3 ∨ b = 4 ∨ b = 5 by omega) with e | e | e | e | e | e <;> rcases (show i = 0 ∨ i = 1 by omega) with g | g <;> subst e <;> subst g <;> decide +kernel
theorem haAp1 {b b' r i : Int} (hb : 0 ≤ b ∧ b ≤ 5) (hr : 0 ≤ r ∧ r ≤ 11) (hi : 0 ≤ i ∧ i ≤ 1) : ¬ (540 + 164 * b + 12 * r ≤ 520 + 164 * b' + i ∧ 520 + 164 * b' + i ≤ 540 + 164 * b + 12 * r + 11) := fun q => by
  rcases Int.lt_or_le b b' with g | g
  · omega
  · omega
theorem haAp2 {b b' r r' c : Int} (hr : 0 ≤ r ∧ r ≤ 11) (hr' : 0 ≤ r' ∧ r' ≤ 11) (hc : 0 ≤ c ∧ c ≤ 11) (q : 540 + 164 * b + 12 * r ≤ 540 + 164 * b' + 12 * r' + c ∧ 540 + 164 * b' + 12 * r' + c ≤ 540 + 164 * b + 12 * r + 11) : b' = b ∧ r' = r := by
  have e : b' = b := by
    rcases Int.lt_trichotomy b' b with g | g | g
    · omega
    · exact g
    · omega
  refine ⟨e, ?_⟩
  rcases Int.lt_trichotomy r' r with g | g | g
  · omega
  · exact g
  · omega
/-- only one ring is another, and it is well -/
theorem haWd_ring {mu mu' : haMu} (h : haWd mu) {b r : Int} (hb : 0 ≤ b ∧ b ≤ 5) (hr : 0 ≤ r ∧ r ≤ 11) (hf : ∀ i : Int, haGd 861 i → ¬ (540 + 164 * b + 12 * r ≤ i ∧ i ≤ 540 + 164 * b + 12 * r + 11) → mu' 861 i = mu 861 i) (hn : haRing mu' b r) : haWd mu' := by
  refine ⟨fun b' b0 b1 => ?_, fun b' r' b0 b1 r0 r1 => ?_⟩
  · have h1 := h.1 b' b0 b1
    have e0 := hf (520 + 164 * b' + 0) (haGd_hold ⟨b0, b1⟩ ⟨by omega, by omega⟩) (haAp1 hb hr ⟨by omega, by omega⟩)
    have e1 := hf (520 + 164 * b' + 1) (haGd_hold ⟨b0, b1⟩ ⟨by omega, by omega⟩) (haAp1 hb hr ⟨by omega, by omega⟩)
    rw [Int.add_zero] at e0
    rw [show 520 + 164 * b' + 1 = 521 + 164 * b' by omega] at e1
    rw [e0, e1]
    exact h1
  · by_cases e : b' = b ∧ r' = r
    · rw [e.1, e.2]; exact hn
    · obtain ⟨h1, h2, h3, h4⟩ := h.2 b' r' b0 b1 r0 r1
      have eq : ∀ c : Int, 0 ≤ c → c ≤ 11 → ¬ (1 ≤ c ∧ c ≤ 3) → mu' 861 (540 + 164 * b' + 12 * r' + c) = mu 861 (540 + 164 * b' + 12 * r' + c) := fun c c0 c1 c2 => hf _ (haGd_ring ⟨b0, b1⟩ ⟨r0, r1⟩ ⟨c0, c1⟩ c2) (fun q => e (haAp2 hr ⟨r0, r1⟩ ⟨c0, c1⟩ q))
      have e0 := eq 0 (by omega) (by omega) (by omega)
      rw [Int.add_zero] at e0
      have e1 := hf (520 + 164 * b' + 1) (haGd_hold ⟨b0, b1⟩ ⟨by omega, by omega⟩) (haAp1 hb hr ⟨by omega, by omega⟩)
      rw [show 520 + 164 * b' + 1 = 521 + 164 * b' by omega] at e1
      have e2 : ∀ c : Int, 0 ≤ c → c < 8 → mu' 861 (540 + 164 * b' + 12 * r' + 4 + c) = mu 861 (540 + 164 * b' + 12 * r' + 4 + c) := fun c c0 c1 => by
        have := eq (4 + c) (by omega) (by omega) (by omega)
        rw [show 540 + 164 * b' + 12 * r' + (4 + c) = 540 + 164 * b' + 12 * r' + 4 + c by omega] at this
        exact this
      refine ⟨by rw [e0]; exact h1, by rw [e0, e1]; exact h2, fun c c0 c1 => by rw [e2 c c0 c1]; exact h3 c c0 c1, ?_⟩
      rw [haS_congr (g := fun c => mu 861 (540 + 164 * b' + 12 * r' + 4 + c)) e2, e0]
      exact h4
theorem hm_min (hT : abTabs) {d : Nat} {a c : Int} {mu : haMu} : haSp 269 d [haI a, haI c] mu (fun o mu' => ∃ z : Int, o = some (haI z) ∧ mu' = mu ∧ ((a ≤ c ∧ z = a) ∨ (c < a ∧ z = c))) := by
  refine haMet (by decide) (hT.1 269 (by decide)) (haLe5 rfl) (show 2 ≤ (abMe 269).1.2.2.1 from by decide +kernel) (fun x hF hR => ?_)
  refine ha_s (pc' := 1) (ls' := [haI (a), haI (c)]) (st' := [haI (a)]) hF (haEt hT (e := (9, 0, 0, 0, 0, [])) (k := 269) (pc := 0) (by decide) (by decide +kernel) rfl) rfl (fun RG => avS9) (fun nx => rfl) ?_
  refine ha_s (pc' := 2) (ls' := [haI (a), haI (c)]) (st' := [haI (c), haI (a)]) hF (haEt hT (e := (9, 1, 0, 1, 0, [])) (k := 269) (pc := 1) (by decide) (by decide +kernel) rfl) rfl (fun RG => avS9) (fun nx => rfl) ?_
  refine ha_icgt hF (haEt hT (e := (56, 2, 9, 0, 0, [])) (k := 269) (pc := 2) (by decide) (by decide +kernel) rfl) rfl rfl rfl (fun q => ?_) (fun q => ?_)
  · refine ha_s (pc' := 10) (ls' := [haI (a), haI (c)]) (st' := [haI (c)]) hF (haEt hT (e := (9, 9, 0, 1, 0, [])) (k := 269) (pc := 9) (by decide) (by decide +kernel) rfl) rfl (fun RG => avS9) (fun nx => rfl) ?_
    exact hR 10 _ _ _ _ (83, 10, 0, 0, 0, []) (haEt hT (e := (83, 10, 0, 0, 0, [])) (k := 269) (pc := 10) (by decide) (by decide +kernel) rfl) rfl (Or.inr (Or.inr ⟨rfl, _, rfl, rfl, rfl, fun h => by cases h⟩)) ⟨_, rfl, rfl, Or.inr ⟨q, rfl⟩⟩
  · refine ha_s (pc' := 6) (ls' := [haI (a), haI (c)]) (st' := [haI (a)]) hF (haEt hT (e := (9, 5, 0, 0, 0, [])) (k := 269) (pc := 5) (by decide) (by decide +kernel) rfl) rfl (fun RG => avS9) (fun nx => rfl) ?_
    refine ha_s (pc' := 10) (ls' := [haI (a), haI (c)]) (st' := [haI (a)]) hF (haEt hT (e := (58, 6, 10, 0, 0, [])) (k := 269) (pc := 6) (by decide) (by decide +kernel) rfl) rfl (fun RG => avS58) (fun nx => rfl) ?_
    exact hR 10 _ _ _ _ (83, 10, 0, 0, 0, []) (haEt hT (e := (83, 10, 0, 0, 0, [])) (k := 269) (pc := 10) (by decide) (by decide +kernel) rfl) rfl (Or.inr (Or.inr ⟨rfl, _, rfl, rfl, rfl, fun h => by cases h⟩)) ⟨_, rfl, rfl, Or.inl ⟨q, rfl⟩⟩
/-- what parts makes of the world -/
theorem haWd_parts {mu mu' : haMu} (h : haWd mu) {b r n : Int} (hb : 0 ≤ b ∧ b ≤ 5) (hr : 0 ≤ r ∧ r ≤ 11) (hn : 1 ≤ n ∧ n ≤ mu 861 (540 + 164 * b + 12 * r)) (g1 : ∀ (j : Nat) (i : Int), haGd j i → ¬ j = 868 → ¬ j = 869 → ¬ (j = 861 ∧ 540 + 164 * b + 12 * r ≤ i ∧ i ≤ 540 + 164 * b + 12 * r + 11) → mu' j i = mu j i) (g3 : ∀ c : Int, 0 ≤ c → c < 8 → 0 ≤ mu' 868 (4 + c) ∧ mu' 868 (4 + c) ≤ mu 861 (540 + 164 * b + 12 * r + 4 + c) ∧ mu' 861 (540 + 164 * b + 12 * r + 4 + c) = mu 861 (540 + 164 * b + 12 * r + 4 + c) - mu' 868 (4 + c)) (g4 : haS (fun c => mu' 868 (4 + c)) 8 = n) (g5 : mu' 861 (540 + 164 * b + 12 * r) = mu 861 (540 + 164 * b + 12 * r) - n) : haWd mu' := by
  obtain ⟨h1, h2, h3, h4⟩ := h.2 b r hb.1 hb.2 hr.1 hr.2
  have e1 := g1 861 (520 + 164 * b + 1) (haGd_hold hb ⟨by omega, by omega⟩) (by decide) (by decide) (by omega)
  rw [show 520 + 164 * b + 1 = 521 + 164 * b by omega] at e1
  refine haWd_ring h hb hr (fun i hg hi => g1 861 i hg (by decide) (by decide) (fun q => hi q.2)) ⟨by rw [g5]; omega, by rw [g5, e1]; omega, fun c c0 c1 => ?_, ?_⟩
  · have := g3 c c0 c1
    omega
  · have e : haS (fun c => mu' 861 (540 + 164 * b + 12 * r + 4 + c)) 8 = 1 * haS (fun c => mu 861 (540 + 164 * b + 12 * r + 4 + c)) 8 + (-1) * haS (fun c => mu' 868 (4 + c)) 8 := haS_lin (fun c c0 c1 => by
      have := (g3 c c0 c1).2.2
      omega)
    rw [e, h4, g4, g5]
    omega
theorem hm_takes0 (hT : abTabs) {d : Nat} {b r left : Int} {mu : haMu} (hb : 0 ≤ b ∧ b ≤ 5) (hr : 0 ≤ r ∧ r ≤ 11) (hl : 0 ≤ left ∧ left ≤ 100000) (hW : haWd mu) (hD : 0 ≤ mu 870 0 ∧ mu 870 0 ≤ 100000) :
    haSp 214 (d + 2) [haR 51 860, haI b, haI r, haI left] mu (fun o mu' => o = none ∧ haWd mu' ∧ (∀ (j : Nat) (i : Int), haGd j i → ¬ j = 868 → ¬ j = 869 → ¬ j = 870 → ¬ (j = 861 ∧ 540 + 164 * b + 12 * r ≤ i ∧ i ≤ 540 + 164 * b + 12 * r + 11) → mu' j i = mu j i) ∧ ∃ t : Int, 0 ≤ t ∧ t ≤ left ∧ mu' 870 0 = mu 870 0 + t) := by
  refine haMet (by decide) (hT.1 214 (by decide)) (haLe5 rfl) (show 4 ≤ (abMe 214).1.2.2.1 from by decide +kernel) (fun x hF hR => ?_)
  have stop : haW x mu 17 [haR 51 860, haI (b), haI (r), haI (left), avJ] [] := hR 17 _ _ _ none (82, 17, 0, 0, 0, []) (haEt hT (e := (82, 17, 0, 0, 0, [])) (k := 214) (pc := 17) (by decide) (by decide +kernel) rfl) rfl (Or.inl ⟨rfl, rfl, rfl⟩) ⟨rfl, hW, fun _ _ _ _ _ _ _ => rfl, 0, by omega, by omega, by omega⟩
  refine ha_s (pc' := 1) (ls' := [haR 51 860, haI (b), haI (r), haI (left), avJ]) (st' := [haI (left)]) hF (haEt hT (e := (9, 0, 0, 3, 0, [])) (k := 214) (pc := 0) (by decide) (by decide +kernel) rfl) rfl (fun RG => avS9) (fun nx => rfl) ?_
  refine ha_ifeq hF (haEt hT (e := (46, 1, 17, 0, 0, [])) (k := 214) (pc := 1) (by decide) (by decide +kernel) rfl) rfl rfl rfl (fun _ => stop) (fun hl0 => ?_)
  refine ha_s (pc' := 5) (ls' := [haR 51 860, haI (b), haI (r), haI (left), avJ]) (st' := [haR 51 860]) hF (haEt hT (e := (13, 4, 0, 0, 0, [])) (k := 214) (pc := 4) (by decide) (by decide +kernel) rfl) rfl (fun RG => avS13) (fun nx => rfl) ?_
  refine ha_getR (r := 51) (j := 860) (i := 1) (r' := 77) (j' := 861) hF (haEt hT (e := (60, 5, 12, 1, 13, [1344])) (k := 214) (pc := 5) (by decide) (by decide +kernel) rfl) rfl rfl rfl (by decide +kernel) (by decide) (by decide +kernel) (by rfl) ?_
  refine ha_s (pc' := 9) (ls' := [haR 51 860, haI (b), haI (r), haI (left), avJ]) (st' := [haI (b), haR 77 861]) hF (haEt hT (e := (9, 8, 0, 1, 0, [])) (k := 214) (pc := 8) (by decide) (by decide +kernel) rfl) rfl (fun RG => avS9) (fun nx => rfl) ?_
  refine ha_s (pc' := 10) (ls' := [haR 51 860, haI (b), haI (r), haI (left), avJ]) (st' := [haI (r), haI (b), haR 77 861]) hF (haEt hT (e := (9, 9, 0, 2, 0, [])) (k := 214) (pc := 9) (by decide) (by decide +kernel) rfl) rfl (fun RG => avS9) (fun nx => rfl) ?_
  refine ha_callS (q := 182) (d' := d + 1) (as := [haI b, haI r]) (rest := [haR 77 861]) hT hF (haEt hT (e := (79, 10, 182, 0, 126, [1495, 1496])) (k := 214) (pc := 10) (by decide) (by decide +kernel) rfl) rfl rfl rfl (by decide +kernel) (hm_ringAt hT hb hr) (Nat.le_refl _) rfl (show 2 = (abMe 182).2.1 from by decide +kernel) (show avSm [haR 77 861] + (abMe 182).1.2.2.1 ≤ 49 from by decide +kernel) (fun o nu h => ?_)
  obtain ⟨rfl, rfl⟩ := h
  show haW x _ 13 [haR 51 860, haI (b), haI (r), haI (left), avJ] [haI (540 + 164 * b + 12 * r), haR 77 861]
  refine ha_iald (r := 77) hF (haEt hT (e := (64, 13, 0, 0, 0, [])) (k := 214) (pc := 13) (by decide) (by decide +kernel) rfl) rfl rfl (by decide +kernel) (by omega) (by show _ < (1745 : Int); omega) ?_
  refine ha_ifne hF (haEt hT (e := (47, 14, 18, 0, 0, [])) (k := 214) (pc := 14) (by decide) (by decide +kernel) rfl) rfl rfl rfl (fun hu => ?_) (fun _ => stop)
  refine ha_s (pc' := 19) (ls' := [haR 51 860, haI (b), haI (r), haI (left), avJ]) (st' := [haR 51 860]) hF (haEt hT (e := (13, 18, 0, 0, 0, [])) (k := 214) (pc := 18) (by decide) (by decide +kernel) rfl) rfl (fun RG => avS13) (fun nx => rfl) ?_
  refine ha_s (pc' := 20) (ls' := [haR 51 860, haI (b), haI (r), haI (left), avJ]) (st' := [haI (b), haR 51 860]) hF (haEt hT (e := (9, 19, 0, 1, 0, [])) (k := 214) (pc := 19) (by decide) (by decide +kernel) rfl) rfl (fun RG => avS9) (fun nx => rfl) ?_
  refine ha_s (pc' := 21) (ls' := [haR 51 860, haI (b), haI (r), haI (left), avJ]) (st' := [haI (r), haI (b), haR 51 860]) hF (haEt hT (e := (9, 20, 0, 2, 0, [])) (k := 214) (pc := 20) (by decide) (by decide +kernel) rfl) rfl (fun RG => avS9) (fun nx => rfl) ?_
  refine ha_callS (q := 182) (d' := d + 1) (as := [haI b, haI r]) (rest := [haR 51 860]) hT hF (haEt hT (e := (79, 21, 182, 0, 126, [1495, 1496])) (k := 214) (pc := 21) (by decide) (by decide +kernel) rfl) rfl rfl rfl (by decide +kernel) (hm_ringAt hT hb hr) (Nat.le_refl _) rfl (show 2 = (abMe 182).2.1 from by decide +kernel) (show avSm [haR 51 860] + (abMe 182).1.2.2.1 ≤ 49 from by decide +kernel) (fun o nu h => ?_)
  obtain ⟨rfl, rfl⟩ := h
  show haW x _ 24 [haR 51 860, haI (b), haI (r), haI (left), avJ] [haI (540 + 164 * b + 12 * r), haR 51 860]
  refine ha_s (pc' := 25) (ls' := [haR 51 860, haI (b), haI (r), haI (left), avJ]) (st' := [haI (left), haI (540 + 164 * b + 12 * r), haR 51 860]) hF (haEt hT (e := (9, 24, 0, 3, 0, [])) (k := 214) (pc := 24) (by decide) (by decide +kernel) rfl) rfl (fun RG => avS9) (fun nx => rfl) ?_
  refine ha_s (pc' := 26) (ls' := [haR 51 860, haI (b), haI (r), haI (left), avJ]) (st' := [haR 51 860, haI (left), haI (540 + 164 * b + 12 * r), haR 51 860]) hF (haEt hT (e := (13, 25, 0, 0, 0, [])) (k := 214) (pc := 25) (by decide) (by decide +kernel) rfl) rfl (fun RG => avS13) (fun nx => rfl) ?_
  refine ha_getR (r := 51) (j := 860) (i := 1) (r' := 77) (j' := 861) hF (haEt hT (e := (60, 26, 12, 1, 13, [1344])) (k := 214) (pc := 26) (by decide) (by decide +kernel) rfl) rfl rfl rfl (by decide +kernel) (by decide) (by decide +kernel) (by rfl) ?_
  refine ha_s (pc' := 30) (ls' := [haR 51 860, haI (b), haI (r), haI (left), avJ]) (st' := [haI (b), haR 77 861, haI (left), haI (540 + 164 * b + 12 * r), haR 51 860]) hF (haEt hT (e := (9, 29, 0, 1, 0, [])) (k := 214) (pc := 29) (by decide) (by decide +kernel) rfl) rfl (fun RG => avS9) (fun nx => rfl) ?_
  refine ha_s (pc' := 31) (ls' := [haR 51 860, haI (b), haI (r), haI (left), avJ]) (st' := [haI (r), haI (b), haR 77 861, haI (left), haI (540 + 164 * b + 12 * r), haR 51 860]) hF (haEt hT (e := (9, 30, 0, 2, 0, [])) (k := 214) (pc := 30) (by decide) (by decide +kernel) rfl) rfl (fun RG => avS9) (fun nx => rfl) ?_
  refine ha_callS (q := 182) (d' := d + 1) (as := [haI b, haI r]) (rest := [haR 77 861, haI left, haI (540 + 164 * b + 12 * r), haR 51 860]) hT hF (haEt hT (e := (79, 31, 182, 0, 126, [1495, 1496])) (k := 214) (pc := 31) (by decide) (by decide +kernel) rfl) rfl rfl rfl (by decide +kernel) (hm_ringAt hT hb hr) (Nat.le_refl _) rfl (show 2 = (abMe 182).2.1 from by decide +kernel) (show avSm [haR 77 861, haI 0, haI 0, haR 51 860] + (abMe 182).1.2.2.1 ≤ 49 from by decide +kernel) (fun o nu h => ?_)
  obtain ⟨rfl, rfl⟩ := h
  show haW x _ 34 [haR 51 860, haI (b), haI (r), haI (left), avJ] [haI (540 + 164 * b + 12 * r), haR 77 861, haI (left), haI (540 + 164 * b + 12 * r), haR 51 860]
  refine ha_iald (r := 77) hF (haEt hT (e := (64, 34, 0, 0, 0, [])) (k := 214) (pc := 34) (by decide) (by decide +kernel) rfl) rfl rfl (by decide +kernel) (by omega) (by show _ < (1745 : Int); omega) ?_
  refine ha_callS (q := 269) (d' := d + 1) (as := [haI left, haI (nu 861 (540 + 164 * b + 12 * r))]) (rest := [haI (540 + 164 * b + 12 * r), haR 51 860]) hT hF (haEt hT (e := (79, 35, 269, 0, 171, [1515, 598])) (k := 214) (pc := 35) (by decide) (by decide +kernel) rfl) rfl rfl rfl (by decide +kernel) (hm_min hT) (Nat.le_refl _) rfl (show 2 = (abMe 269).2.1 from by decide +kernel) (show 2 + (abMe 269).1.2.2.1 ≤ 49 from by decide +kernel) (fun o nu' h => ?_)
  obtain ⟨n, rfl, rfl, hn⟩ := h
  obtain ⟨h1, h2, h3, h4⟩ := hW.2 b r hb.1 hb.2 hr.1 hr.2
  have hh := hW.1 b hb.1 hb.2
  show haW x _ 38 [haR 51 860, haI (b), haI (r), haI (left), avJ] [haI (n), haI (540 + 164 * b + 12 * r), haR 51 860]
  refine ha_callV (q := 215) (d' := d + 1) (r := 51) (j := 860) (as := [haI (540 + 164 * b + 12 * r), haI n]) (rest := []) hT hF (haEt hT (e := (78, 38, 215, 0, 330, [1668, 1670, 60])) (k := 214) (pc := 38) (by decide) (by decide +kernel) rfl) rfl rfl rfl (by decide +kernel) (by decide +kernel) (hm_parts hT hb hr rfl (m := nu' 861 (540 + 164 * b + 12 * r)) (by omega) (by omega) rfl (fun c c0 c1 => by have := haRing_lot hW hb hr ⟨c0, c1⟩; omega) h4) (Nat.le_refl _) rfl (show 2 = (abMe 215).2.1 from by decide +kernel) (show 0 + (abMe 215).1.2.2.1 ≤ 49 from by decide +kernel) (fun o mu1 h => ?_)
  obtain ⟨rfl, p1, p2, p3, p4, p5⟩ := h
  show haW x _ 41 [haR 51 860, haI (b), haI (r), haI (left), avJ] []
  have hW1 : haWd mu1 := haWd_parts hW hb hr (by omega) p1 p3 p4 p5
  have hD1 : mu1 870 0 = nu' 870 0 := p1 870 0 (haGd_r (r := 54) (Int.le_refl 0) (by decide +kernel) (by decide) (by decide +kernel)) (by decide) (by decide) (fun q => absurd q.1 (by decide))
  have loop : ∀ (nn : Nat) (i : Int) (ku : haMu), (nn : Int) = 12 - i → 0 ≤ i → (∀ (j : Nat) (q : Int), ¬ j = 870 → ku j q = mu1 j q) → ((i = 0 ∧ ku 870 0 = mu1 870 0) ∨ (0 < i ∧ ku 870 0 = mu1 870 0 + n)) → haW x ku 44 [haR 51 860, haI (b), haI (r), haI (left), haI (i)] [] := by
    intro nn
    induction nn with
    | zero =>
      intro i ku hk0 h0 f1 f2
      refine ha_s (pc' := 46) (ls' := [haR 51 860, haI (b), haI (r), haI (left), haI (i)]) (st' := [haI (i)]) hF (haEt hT (e := (8, 44, 0, 4, 0, [])) (k := 214) (pc := 44) (by decide) (by decide +kernel) rfl) rfl (fun RG => avS8) (fun nx => rfl) ?_
      refine ha_s (pc' := 48) (ls' := [haR 51 860, haI (b), haI (r), haI (left), haI (i)]) (st' := [haI (12), haI (i)]) hF (haEt hT (e := (2, 46, 0, 0, 9223372036854775820, [])) (k := 214) (pc := 46) (by decide) (by decide +kernel) rfl) rfl (fun RG => avS2) (fun nx => rfl) ?_
      refine ha_icge hF (haEt hT (e := (55, 48, 74, 0, 0, [])) (k := 214) (pc := 48) (by decide) (by decide +kernel) rfl) rfl rfl rfl (fun _ => ?_) (fun q => by omega)
      refine hR 74 _ _ _ none (82, 74, 0, 0, 0, []) (haEt hT (e := (82, 74, 0, 0, 0, [])) (k := 214) (pc := 74) (by decide) (by decide +kernel) rfl) rfl (Or.inl ⟨rfl, rfl, rfl⟩) ⟨rfl, ?_, fun j q hg a1 a2 a3 a4 => (f1 j q a3).trans (p1 j q hg a1 a2 a4), n, by omega, by omega, by omega⟩
      have e861 : ∀ q : Int, ku 861 q = mu1 861 q := fun q => f1 861 q (by decide)
      refine haWd_ring hW1 hb hr (fun q _ _ => e861 q) ?_
      obtain ⟨r1, r2, r3, r4⟩ := hW1.2 b r hb.1 hb.2 hr.1 hr.2
      exact ⟨by rw [e861]; exact r1, by rw [e861, e861]; exact r2, fun c c0 c1 => by rw [e861]; exact r3 c c0 c1, by rw [haS_congr (g := fun c => mu1 861 (540 + 164 * b + 12 * r + 4 + c)) (fun c _ _ => e861 _), e861]; exact r4⟩
    | succ nn ih =>
      intro i ku hk0 h0 f1 f2
      refine ha_s (pc' := 46) (ls' := [haR 51 860, haI (b), haI (r), haI (left), haI (i)]) (st' := [haI (i)]) hF (haEt hT (e := (8, 44, 0, 4, 0, [])) (k := 214) (pc := 44) (by decide) (by decide +kernel) rfl) rfl (fun RG => avS8) (fun nx => rfl) ?_
      refine ha_s (pc' := 48) (ls' := [haR 51 860, haI (b), haI (r), haI (left), haI (i)]) (st' := [haI (12), haI (i)]) hF (haEt hT (e := (2, 46, 0, 0, 9223372036854775820, [])) (k := 214) (pc := 46) (by decide) (by decide +kernel) rfl) rfl (fun RG => avS2) (fun nx => rfl) ?_
      refine ha_icge hF (haEt hT (e := (55, 48, 74, 0, 0, [])) (k := 214) (pc := 48) (by decide) (by decide +kernel) rfl) rfl rfl rfl (fun q => by omega) (fun _ => ?_)
      refine ha_s (pc' := 52) (ls' := [haR 51 860, haI (b), haI (r), haI (left), haI (i)]) (st' := [haR 51 860]) hF (haEt hT (e := (13, 51, 0, 0, 0, [])) (k := 214) (pc := 51) (by decide) (by decide +kernel) rfl) rfl (fun RG => avS13) (fun nx => rfl) ?_
      refine ha_getR (r := 51) (j := 860) (i := 18) (r' := 54) (j' := 870) hF (haEt hT (e := (60, 52, 12, 18, 46, [1361])) (k := 214) (pc := 52) (by decide) (by decide +kernel) rfl) rfl rfl rfl (by decide +kernel) (by decide) (by decide +kernel) (by rfl) ?_
      refine ha_s (pc' := 57) (ls' := [haR 51 860, haI (b), haI (r), haI (left), haI (i)]) (st' := [haI (i), haR 54 870]) hF (haEt hT (e := (8, 55, 0, 4, 0, [])) (k := 214) (pc := 55) (by decide) (by decide +kernel) rfl) rfl (fun RG => avS8) (fun nx => rfl) ?_
      refine ha_s (pc' := 58) (ls' := [haR 51 860, haI (b), haI (r), haI (left), haI (i)]) (st' := [haI (i), haR 54 870, haI (i), haR 54 870]) hF (haEt hT (e := (45, 57, 0, 0, 0, [])) (k := 214) (pc := 57) (by decide) (by decide +kernel) rfl) rfl (fun RG => avS45) (fun nx => rfl) ?_
      refine ha_iald (r := 54) hF (haEt hT (e := (64, 58, 0, 0, 0, [])) (k := 214) (pc := 58) (by decide) (by decide +kernel) rfl) rfl rfl (by decide +kernel) (by omega) (by show _ < (12 : Int); omega) ?_
      refine ha_s (pc' := 60) (ls' := [haR 51 860, haI (b), haI (r), haI (left), haI (i)]) (st' := [haR 51 860, haI (ku 870 (i)), haI (i), haR 54 870]) hF (haEt hT (e := (13, 59, 0, 0, 0, [])) (k := 214) (pc := 59) (by decide) (by decide +kernel) rfl) rfl (fun RG => avS13) (fun nx => rfl) ?_
      refine ha_getR (r := 51) (j := 860) (i := 16) (r' := 66) (j' := 868) hF (haEt hT (e := (60, 60, 12, 16, 40, [1359])) (k := 214) (pc := 60) (by decide) (by decide +kernel) rfl) rfl rfl rfl (by decide +kernel) (by decide) (by decide +kernel) (by rfl) ?_
      refine ha_s (pc' := 65) (ls' := [haR 51 860, haI (b), haI (r), haI (left), haI (i)]) (st' := [haI (i), haR 66 868, haI (ku 870 (i)), haI (i), haR 54 870]) hF (haEt hT (e := (8, 63, 0, 4, 0, [])) (k := 214) (pc := 63) (by decide) (by decide +kernel) rfl) rfl (fun RG => avS8) (fun nx => rfl) ?_
      refine ha_iald (r := 66) hF (haEt hT (e := (64, 65, 0, 0, 0, [])) (k := 214) (pc := 65) (by decide) (by decide +kernel) rfl) rfl rfl (by decide +kernel) (by omega) (by show _ < (12 : Int); omega) ?_
      refine ha_iaddA hF (haEt hT (e := (21, 66, 0, 0, 0, [])) (k := 214) (pc := 66) (by decide) (by decide +kernel) rfl) rfl rfl (fun w w1 w2 w3 => ?_)
      refine ha_iast (r := 54) hF (haEt hT (e := (69, 67, 0, 0, 0, [])) (k := 214) (pc := 67) (by decide) (by decide +kernel) rfl) rfl rfl (by decide +kernel) (by omega) (by show _ < (12 : Int); omega) (lo := -2147483648) (up := 2147483647) (by rfl) w1 w2 ?_
      refine ha_iinc (i := 4) (c := 1) hF (haEt hT (e := (20, 68, 0, 4, 9223372036854775809, [])) (k := 214) (pc := 68) (by decide) (by decide +kernel) rfl) rfl rfl rfl rfl rfl (by omega) (by omega) ?_
      show haW _ _ 71 [haR 51 860, haI (b), haI (r), haI (left), haI (i + 1)] []
      refine ha_s (pc' := 44) (ls' := [haR 51 860, haI (b), haI (r), haI (left), haI (i + 1)]) (st' := []) hF (haEt hT (e := (58, 71, 44, 0, 0, [])) (k := 214) (pc := 71) (by decide) (by decide +kernel) rfl) rfl (fun RG => avS58) (fun nx => rfl) ?_
      refine ih (i + 1) (haUp ku 870 i w) (by omega) (by omega) (fun j q hj => ?_) (Or.inr ⟨by omega, ?_⟩)
      · rw [haUp_n (fun z => hj z.1)]
        exact f1 j q hj
      · rcases f2 with ⟨g1, g2⟩ | ⟨g1, g2⟩
        · rw [g1] at w3 ⊢
          have e0 : ku 868 0 = n := (f1 868 0 (by decide)).trans p2
          rw [haUp_s, w3 (by omega) (by omega)]
          omega
        · rw [haUp_n (fun z => by omega)]
          exact g2
  refine ha_s (pc' := 42) (ls' := [haR 51 860, haI (b), haI (r), haI (left), avJ]) (st' := [haI (0)]) hF (haEt hT (e := (1, 41, 0, 0, 9223372036854775808, [])) (k := 214) (pc := 41) (by decide) (by decide +kernel) rfl) rfl (fun RG => avS1) (fun nx => rfl) ?_
  refine ha_s (pc' := 44) (ls' := [haR 51 860, haI (b), haI (r), haI (left), haI (0)]) (st' := []) hF (haEt hT (e := (14, 42, 0, 4, 0, [])) (k := 214) (pc := 42) (by decide) (by decide +kernel) rfl) rfl (fun RG => avS14) (fun nx => rfl) ?_
  exact loop 12 0 mu1 rfl (Int.le_refl 0) (fun _ _ _ => rfl) (Or.inl ⟨rfl, rfl⟩)
