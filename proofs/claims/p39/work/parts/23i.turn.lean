/-! what turn keeps -/
theorem haS_mono {f : Int → Int} {m : Nat} : ∀ {n : Nat}, m ≤ n → (∀ i : Int, 0 ≤ i → i < (n : Int) → 0 ≤ f i) → haS f m ≤ haS f n
  | 0, h, _ => by
    have e : m = 0 := by omega
    subst e
    exact Int.le_refl _
  | n + 1, h, hn => by
    by_cases e : m = n + 1
    · rw [e]
      exact Int.le_refl _
    · have h1 := haS_mono (f := f) (m := m) (n := n) (by omega) (fun i a b => hn i a (by omega))
      have h2 := hn (n : Int) (by omega) (by omega)
      rw [haS_s]
      omega
def haTn (mu nu : haMu) (f t U L : Int) : Prop :=
  haWd nu ∧ (∀ (j : Nat) (i : Int), haGd j i → ¬ j = 861 → ¬ j = 868 → ¬ j = 869 → ¬ j = 860 → nu j i = mu j i) ∧ nu 861 1504 = mu 861 1504 ∧ (∀ b : Int, 0 ≤ b → b ≤ 5 → nu 861 (520 + 164 * b) = mu 861 (520 + 164 * b) ∧ nu 861 (521 + 164 * b) = mu 861 (521 + 164 * b)) ∧
  haS (haRu nu f) 12 + haS (haRu nu t) 12 = U ∧ 0 ≤ L ∧ (∀ r : Int, 0 ≤ r → r < L → r ≤ 11 → haRu nu t r = mu 861 (521 + 164 * t)) ∧ ∀ r : Int, L < r → r ≤ 11 → haRu nu t r = 0
theorem haTn_L {mu nu : haMu} {f t U L rr : Int} (h : haTn mu nu f t U L) (hf : 0 ≤ f ∧ f ≤ 5) (ht : 0 ≤ t ∧ t ≤ 5) (hr : 0 ≤ rr ∧ rr ≤ 11) (hU : U ≤ mu 861 (520 + 164 * t) * mu 861 (521 + 164 * t)) (hp : 0 < haRu nu f rr) : L < mu 861 (520 + 164 * t) ∧ mu 861 (520 + 164 * t) ≤ 12 := by
  obtain ⟨w, g1, g2, g3, g4, g5, g6, g7⟩ := h
  obtain ⟨b1, b2, b3, b4⟩ := w.1 t ht.1 ht.2
  obtain ⟨c1, c2⟩ := g3 t ht.1 ht.2
  rw [c1] at b1 b2
  have s1 := haS_mem (f := haRu nu f) (j := rr) (n := 12) (fun i h0 h1 => (haRu_b w hf ⟨h0, h1⟩).1) hr.1 (by omega)
  generalize hR : mu 861 (520 + 164 * t) = R at *
  generalize hH : mu 861 (521 + 164 * t) = H at *
  have s2 := haS_mono (f := haRu nu t) (m := R.toNat) (n := 12) (by omega) (fun i h0 h1 => (haRu_b w ht ⟨h0, h1⟩).1)
  rcases (show L < R ∨ R ≤ L by omega) with q | q
  · exact ⟨q, b2⟩
  · exfalso
    have s3 : haS (haRu nu t) R.toNat = R * H := by
      rw [haS_congr (g := fun _ => H) (fun i h0 h1 => g6 i h0 (by omega) (by omega)), haS_const, Int.toNat_of_nonneg b1]
    omega
theorem haTn_step {mu nu mu1 mu2 : haMu} {f t U L rr n v : Int} (h : haTn mu nu f t U L) (hf : 0 ≤ f ∧ f ≤ 5) (ht : 0 ≤ t ∧ t ≤ 5) (hft : ¬ f = t) (hr : 0 ≤ rr ∧ rr ≤ 11) (hL : 0 ≤ L ∧ L ≤ 11)
    (p1 : ∀ (j : Nat) (i : Int), haGd j i → ¬ j = 868 → ¬ j = 869 → ¬ (j = 861 ∧ 540 + 164 * f + 12 * rr ≤ i ∧ i ≤ 540 + 164 * f + 12 * rr + 11) → mu1 j i = nu j i) (p2 : mu1 868 0 = n) (p5 : mu1 861 (540 + 164 * f + 12 * rr) = haRu nu f rr - n)
    (l1 : ∀ (j : Nat) (i : Int), ¬ (j = 861 ∧ 540 + 164 * t + 12 * L ≤ i ∧ i ≤ 540 + 164 * t + 12 * L + 11) → mu2 j i = haUp mu1 868 2 v j i) (l2 : mu2 861 (540 + 164 * t + 12 * L) = mu1 861 (540 + 164 * t + 12 * L) + mu1 868 0) (hW : haWd mu2) : haTn mu mu2 f t U L ∧ haRu mu2 f rr = haRu nu f rr - n := by
  obtain ⟨w, g1, g2, g3, g4, g5, g6, g7⟩ := h
  have q : ∀ (j : Nat) (i : Int), haGd j i → ¬ j = 868 → ¬ j = 869 → ¬ (j = 861 ∧ 540 + 164 * f + 12 * rr ≤ i ∧ i ≤ 540 + 164 * f + 12 * rr + 11) → ¬ (j = 861 ∧ 540 + 164 * t + 12 * L ≤ i ∧ i ≤ 540 + 164 * t + 12 * L + 11) → mu2 j i = nu j i := fun j i hg a1 a2 a3 a4 => by
    rw [l1 j i a4, haUp_n (fun z => a1 z.1)]
    exact p1 j i hg a1 a2 a3
  have ring : ∀ b r : Int, (0 ≤ b ∧ b ≤ 5) → (0 ≤ r ∧ r ≤ 11) → ¬ (b = f ∧ r = rr) → ¬ (b = t ∧ r = L) → haRu mu2 b r = haRu nu b r := fun b r hb hr' n1 n2 => by
    have := q 861 (540 + 164 * b + 12 * r + 0) (haGd_ring hb hr' ⟨by omega, by omega⟩ (by omega)) (by decide) (by decide) (fun z => n1 (haAp2 hr hr' ⟨by omega, by omega⟩ z.2)) (fun z => n2 (haAp2 hL hr' ⟨by omega, by omega⟩ z.2))
    rw [Int.add_zero] at this
    exact this
  have e1 : haRu mu2 f rr = haRu nu f rr - n := by
    show mu2 861 (540 + 164 * f + 12 * rr) = _
    rw [l1 861 _ (fun z => hft (haAp2 (c := 0) hL hr ⟨by omega, by omega⟩ (by have := z.2; omega)).1), haUp_n (fun z => absurd z.1 (by decide))]
    exact p5
  have e2 : haRu mu2 t L = haRu nu t L + n := by
    show mu2 861 (540 + 164 * t + 12 * L) = _
    rw [l2, p2]
    have := p1 861 (540 + 164 * t + 12 * L + 0) (haGd_ring ht hL ⟨by omega, by omega⟩ (by omega)) (by decide) (by decide) (fun z => hft (haAp2 hr hL ⟨by omega, by omega⟩ z.2).1.symm)
    rw [Int.add_zero] at this
    rw [this]
    rfl
  refine ⟨⟨hW, fun j i hg a1 a2 a3 a4 => (q j i hg a2 a3 (fun z => a1 z.1) (fun z => a1 z.1)).trans (g1 j i hg a1 a2 a3 a4), ?_, fun b b0 b1 => ?_, ?_, g5, fun r h0 h1 h2 => ?_, fun r h0 h1 => ?_⟩, e1⟩
  · rw [q 861 1504 haGd_fills (by decide) (by decide) (fun z => by omega) (fun z => by omega)]
    exact g2
  · have c0 := q 861 (520 + 164 * b + 0) (haGd_hold ⟨b0, b1⟩ ⟨by omega, by omega⟩) (by decide) (by decide) (fun z => haAp1 hf hr ⟨by omega, by omega⟩ z.2) (fun z => haAp1 ht hL ⟨by omega, by omega⟩ z.2)
    have c1 := q 861 (520 + 164 * b + 1) (haGd_hold ⟨b0, b1⟩ ⟨by omega, by omega⟩) (by decide) (by decide) (fun z => haAp1 hf hr ⟨by omega, by omega⟩ z.2) (fun z => haAp1 ht hL ⟨by omega, by omega⟩ z.2)
    rw [Int.add_zero] at c0
    rw [show 520 + 164 * b + 1 = 521 + 164 * b by omega] at c1
    rw [c0, c1]
    exact g3 b b0 b1
  · rw [haS_upd (f := haRu nu f) (g := haRu mu2 f) (j := rr) (n := 12) hr.1 (by omega) (fun i h0 h1 h2 => ring f i hf ⟨h0, by omega⟩ (fun z => h2 z.2) (fun z => hft z.1)), haS_upd (f := haRu nu t) (g := haRu mu2 t) (j := L) (n := 12) hL.1 (by omega) (fun i h0 h1 h2 => ring t i ht ⟨h0, by omega⟩ (fun z => hft z.1.symm) (fun z => h2 z.2)), e1, e2]
    clear q ring l1 p1
    omega
  · rw [ring t r ht ⟨h0, h2⟩ (fun z => hft z.1.symm) (fun z => by omega)]
    exact g6 r h0 h1 h2
  · rw [ring t r ht ⟨by omega, h1⟩ (fun z => hft z.1.symm) (fun z => by omega)]
    exact g7 r h0 h1
/-- how turn begins -/
theorem haTn_start {mu ku : haMu} {f t U v : Int} (hW : haWd mu) (hfm : haFm mu ku) (hf : 0 ≤ f ∧ f ≤ 5) (ht : 0 ≤ t ∧ t ≤ 5) (hU : U = haS (haRu mu f) 12) (h0 : ¬ 0 < haS (haRu mu t) 12) : haTn mu (haUp ku 861 (520 + 164 * t + 4) v) f t U 0 := by
  have ring : ∀ b r : Int, (0 ≤ b ∧ b ≤ 5) → (0 ≤ r ∧ r ≤ 11) → haRu (haUp ku 861 (520 + 164 * t + 4) v) b r = haRu mu b r := fun b r hb hr => by
    have e := hfm 861 (540 + 164 * b + 12 * r + 0) (haGd_ring hb hr ⟨by omega, by omega⟩ (by omega))
    have e9 := (haOff (b := t) (b' := b) (s := 4) ⟨by omega, by omega⟩).2.2 r 0 hr.1 hr.2 (by omega) (by omega)
    rw [Int.add_zero] at e e9
    show haUp ku 861 (520 + 164 * t + 4) v 861 (540 + 164 * b + 12 * r) = _
    rw [haUp_n (fun z => e9 z.2)]
    exact e
  have z0 : ∀ r : Int, 0 ≤ r → r < 12 → haRu mu t r = 0 := fun r r0 r1 => by
    have s1 := haS_mem (f := haRu mu t) (j := r) (n := 12) (fun i h0 h1 => (haRu_b hW ht ⟨h0, h1⟩).1) r0 (by omega)
    have s2 := (haRu_b hW ht (r := r) ⟨r0, r1⟩).1
    omega
  refine ⟨haWd_up (haWd_fm hW hfm) ⟨by omega, by omega⟩, fun j i hg a1 _ _ _ => ?_, ?_, fun b b0 b1 => ⟨?_, ?_⟩, ?_, Int.le_refl 0, fun r r0 r1 _ => absurd r1 (by omega), fun r r0 r1 => ?_⟩
  · rw [haUp_n (fun z => a1 z.1)]
    exact hfm j i hg
  · rw [haUp_n (fun z => by omega)]
    exact hfm _ _ haGd_fills
  · have := hfm 861 (520 + 164 * b + 0) (haGd_hold ⟨b0, b1⟩ ⟨by omega, by omega⟩)
    rw [Int.add_zero] at this
    rw [haUp_n (fun z => (haOff (b := t) (b' := b) (s := 4) ⟨by omega, by omega⟩).1 z.2)]
    exact this
  · have := hfm 861 (520 + 164 * b + 1) (haGd_hold ⟨b0, b1⟩ ⟨by omega, by omega⟩)
    rw [show 520 + 164 * b + 1 = 521 + 164 * b by omega] at this
    rw [haUp_n (fun z => (haOff (b := t) (b' := b) (s := 4) ⟨by omega, by omega⟩).2.1 z.2)]
    exact this
  · rw [haS_congr (g := haRu mu f) (n := 12) (fun i h0 h1 => ring f i hf ⟨h0, by omega⟩), haS_congr (f := haRu (haUp ku 861 (520 + 164 * t + 4) v) t) (g := fun _ => 0) (n := 12) (fun i h0 h1 => (ring t i ht ⟨h0, by omega⟩).trans (z0 i h0 h1)), haS_const, hU]
    omega
  · rw [ring t r ht ⟨by omega, r1⟩]
    exact z0 r (by omega) (by omega)
theorem haMulB {a b : Int} (h1 : 0 ≤ a ∧ a ≤ 12) (h2 : 0 ≤ b ∧ b ≤ 1000) : -2147483648 ≤ b * a ∧ b * a ≤ 2147483647 := by
  have h3 := Int.mul_nonneg h2.1 h1.1
  have h4 := Int.mul_le_mul h2.2 h1.2 h1.1 (show (0 : Int) ≤ 1000 by omega)
  omega
