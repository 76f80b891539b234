/-! THE WORLD AT THE LOOP'S HEAD -/
noncomputable def lwFitV (v : abV) (i : avSi) : Bool := abIf (Nat.beq i.1 0) (abIf (Nat.beq v.1 0) (abIf (aiLe i.2.1 ((v.2.1 : Int) - 9223372036854775808)) (aiLe ((v.2.2 : Int) - 9223372036854775808) i.2.2) false) false)
  (abIf (Nat.beq i.1 1) (abIf (Nat.beq v.1 2) (abIf (aiLe i.2.1 ((v.2.1 : Int) - 9223372036854775808)) (aiLe ((v.2.2 : Int) - 9223372036854775808) i.2.2) false) false)
  (abIf (Nat.beq i.1 2) (abIf (Nat.beq v.1 4) (abIf (Nat.beq (avRG0 v.2.1) i.2.1.toNat) (abIf (aiLe 0 i.2.2) (aiEq (v.2.1 : Int) i.2.2) true) false) false)
  (abIf (Nat.beq i.1 3) (Nat.beq v.1 6) false)))
theorem lwFitV_ok {ws : va_W} {sb sl : Nat} {rh : Nat → Int} {RG : avRJ} (hRG : RG.1 = avRG0) {v : abV} {i : avSi} {x : Value} (h : lwFitV v i = true) (g : abG ws sb sl rh v x) : avM RG ws i x := by
  obtain ⟨t, lo, up⟩ := i
  obtain ⟨vt, va, vb⟩ := v
  unfold lwFitV at h
  have hB : abB = 9223372036854775808 := rfl
  cases q0 : Nat.beq t 0 with
  | true =>
    rw [abIf_t q0] at h
    have e : t = 0 := abBeq q0
    subst e
    skip
    obtain ⟨h1, h2⟩ := abIf_and h
    obtain ⟨h3, h4⟩ := abIf_and h2
    have e1 : vt = 0 := abBeq h1
    subst e1
    obtain ⟨y, rfl, g1, g2⟩ := g
    have h3' := aiLe_ok h3
    have h4' := aiLe_ok h4
    have g1' : (va : Int) ≤ y.toInt + abB := g1
    have g2' : y.toInt + abB ≤ (vb : Int) := g2
    have h5 : lo ≤ (va : Int) - 9223372036854775808 := h3'
    have h6 : (vb : Int) - 9223372036854775808 ≤ up := h4'
    exact ⟨y, rfl, by show lo ≤ y.toInt; omega, by show y.toInt ≤ up; omega⟩
  | false =>
    rw [abIf_f q0] at h
    cases q1 : Nat.beq t 1 with
    | true =>
      rw [abIf_t q1] at h
      have e : t = 1 := abBeq q1
      subst e
      skip
      obtain ⟨h1, h2⟩ := abIf_and h
      obtain ⟨h3, h4⟩ := abIf_and h2
      have e1 : vt = 2 := abBeq h1
      subst e1
      obtain ⟨y, rfl, g1, g2⟩ := g
      have g1' : (va : Int) ≤ y.toInt + abB := g1
      have g2' : y.toInt + abB ≤ (vb : Int) := g2
      have h5 : lo ≤ (va : Int) - 9223372036854775808 := aiLe_ok h3
      have h6 : (vb : Int) - 9223372036854775808 ≤ up := aiLe_ok h4
      exact ⟨y, rfl, by show lo ≤ y.toInt; omega, by show y.toInt ≤ up; omega⟩
    | false =>
      rw [abIf_f q1] at h
      cases q2 : Nat.beq t 2 with
      | true =>
        rw [abIf_t q2] at h
        have e : t = 2 := abBeq q2
        subst e
        skip
        obtain ⟨h1, h2⟩ := abIf_and h
        obtain ⟨h3, h4⟩ := abIf_and h2
        have e1 : vt = 4 := abBeq h1
        subst e1
        obtain ⟨a, en, g1, rfl⟩ := g
        refine ⟨va, a, en, g1, rfl, by rw [hRG]; exact abBeq h3, fun h0 => ?_⟩
        have h0' : 0 ≤ up := h0
        have h4' : abIf (aiLe 0 up) (aiEq (va : Int) up) true = true := h4
        rw [aiLe_t h0', abIf_t rfl] at h4'
        exact aiEq_ok h4'
      | false =>
        rw [abIf_f q2] at h
        cases q3 : Nat.beq t 3 with
        | true =>
          rw [abIf_t q3] at h
          have e : t = 3 := abBeq q3
          subst e
          skip
          have e1 : vt = 6 := abBeq h
          subst e1
          exact g
        | false => rw [abIf_f q3] at h; cases h
noncomputable def lwAllN (n : Nat) (f : Nat → Bool) : Bool := Nat.rec true (fun k ih => abIf (f k) ih false) n
theorem lwAllN_ok {f : Nat → Bool} : ∀ {n : Nat}, lwAllN n f = true → ∀ k : Nat, k < n → f k = true
  | 0, _, k, hk => by omega
  | n + 1, h, k, hk => by
    obtain ⟨h1, h2⟩ := abIf_and (show abIf (f n) (lwAllN n f) false = true from h)
    by_cases e : k = n
    · rw [e]; exact h1
    · exact lwAllN_ok h2 k (by omega)
noncomputable def lwFitC (c : abCel) (r : avRg) : Bool := abIf (Nat.beq c.1 r.1) (abIf (Nat.beq c.2.1 r.2.1) (lwAllN c.2.1 (fun k => lwFitV (c.2.2.get k) (r.2.2.get k))) false) false
theorem lwFitC_ok {tys : List (ClassId × FieldType)} {ws : va_W} {sb sl : Nat} {rh : Nat → Int} {RG : avRJ} (hRG : RG.1 = avRG0) {q : Option (Nat × va_E)} {c : abCel} {r : avRg} (h : lwFitC c r = true) (g : abCs tys ws sb sl rh q c) : avCs1 tys RG ws q r := by
  obtain ⟨c1, c2, ct⟩ := c
  obtain ⟨r1, r2, rt⟩ := r
  obtain ⟨h1, h2⟩ := abIf_and h
  obtain ⟨h3, h4⟩ := abIf_and h2
  have e1 : c1 = r1 := abBeq h1
  have e2 : c2 = r2 := abBeq h3
  subst e1; subst e2
  have hv : ∀ k : Nat, k < c2 → lwFitV (ct.get k) (rt.get k) = true := lwAllN_ok (f := fun k => lwFitV (ct.get k) (rt.get k)) h4
  obtain ⟨-, g1, g2, g3, g4⟩ := g
  refine ⟨fun hc => ?_, fun ty hc => ?_, fun hc => ?_, fun hc => ?_⟩
  · obtain ⟨a, fs, y, i1, i2, i3, i4, i5⟩ := g1 hc
    have i2' : fs.length = c2 := i2
    exact ⟨a, fs, y, i1, i2, i3, i4, fun k x hk => lwFitV_ok hRG (hv k (by have := (List.getElem?_eq_some_iff.mp hk).1; omega)) (i5 k x hk)⟩
  · obtain ⟨a, cA, f, t0, i1, i2, i3, i4⟩ := g2 ty hc
    exact ⟨a, cA, f, t0, i1, i2, i3, fun k hk => lwFitV_ok hRG (hv k hk) (i4 k hk)⟩
  · obtain ⟨a, cA, f, t0, i1, i2, i3, i4⟩ := g3 hc
    exact ⟨a, cA, f, t0, i1, i2, i3, fun k hk => lwFitV_ok hRG (hv k hk) (i4 k hk)⟩
  · obtain ⟨a, cA, f, t0, y, i1, i2, i3, i4, i5⟩ := g4 hc
    exact ⟨a, cA, f, t0, y, i1, i2, i3, i4, fun k hk => lwFitV_ok hRG (hv k hk) (i5 k hk)⟩
set_option maxRecDepth 100000 in
theorem lwFitAll : lwAllN 887 (fun j => lwFitC (abH0.get j) (avRT.get (avRG0 j))) = true := by decide +kernel
/-- a slot of one number -/
noncomputable def lwOneC (c : abCel) (i : Nat) (v : Int) : Bool := abIf (abIf (Nat.beq c.1 100) true (Nat.beq c.1 103)) (abIf (Nat.ble (i + 1) c.2.1) (abIf (Nat.beq (c.2.2.get i).1 0) (abIf (aiEq (((c.2.2.get i).2.1 : Int) - 9223372036854775808) v) (aiEq (((c.2.2.get i).2.2 : Int) - 9223372036854775808) v) false) false) false) false
noncomputable def lwOne (j : Nat) (i v : Int) : Bool := lwOneC (abH0.get j) i.toNat v
theorem lwOne_ok {tys : List (ClassId × FieldType)} {ws : va_W} {sb sl : Nat} {rh : Nat → Int} {j : Nat} {i v : Int} (hi : 0 ≤ i) (h : lwOne j i v = true) (g : abCs tys ws sb sl rh ws[j]? (abH0.get j)) : haAt ws j i = v := by
  unfold lwOne at h
  generalize abH0.get j = c at h g
  obtain ⟨c1, c2, ct⟩ := c
  obtain ⟨h1, h2⟩ := abIf_and h
  obtain ⟨h3, h4⟩ := abIf_and h2
  obtain ⟨h5, h6⟩ := abIf_and h4
  obtain ⟨h7, h8⟩ := abIf_and h6
  obtain ⟨-, -, g2, -, -⟩ := g
  have hlt : i.toNat < c2 := by
    have : i.toNat + 1 ≤ c2 := abBle h3
    omega
  have key : ∀ ty : FieldType, abTyA c1 = some ty → haAt ws j i = v := by
    intro ty hty
    obtain ⟨a, cA, f, t0, e1, e2, e3, e4⟩ := g2 ty hty
    have g0 := e4 i.toNat hlt
    rw [haAt_some hi e1]
    have ea : avAt (.inl (cA, c2, .inl f)) i.toNat = some (.int (f i.toNat)) := if_pos hlt
    show haNm (avAt (.inl (cA, c2, .inl f)) i.toNat) = v
    rw [ea]
    show (f i.toNat).toInt = v
    have h5' : (ct.get i.toNat).1 = 0 := abBeq h5
    have h7' := aiEq_ok h7
    have h8' := aiEq_ok h8
    have g0' : abG ws sb sl rh (ct.get i.toNat) (.int (f i.toNat)) := g0
    dsimp only at h7' h8'
    generalize ct.get i.toNat = w at h5' h7' h8' g0'
    obtain ⟨wt, wa, wb⟩ := w
    have h5'' : wt = 0 := h5'
    subst h5''
    obtain ⟨y, ey, g1, g2⟩ := g0'
    have ey' : f i.toNat = y := by cases ey; rfl
    rw [ey']
    have hB : abB = 9223372036854775808 := rfl
    have g1' : (wa : Int) ≤ y.toInt + abB := g1
    have g2' : y.toInt + abB ≤ (wb : Int) := g2
    have h7'' : (wa : Int) - 9223372036854775808 = v := h7'
    have h8'' : (wb : Int) - 9223372036854775808 = v := h8'
    omega
  rcases abIf_or h1 with q | q
  · have q' : c1 = 100 := abBeq q
    exact key .int (by rw [q']; rfl)
  · have q' : c1 = 103 := abBeq q
    exact key .boolean (by rw [q']; rfl)
theorem lwO1 : avAllR 0 6 (fun b => abIf (lwOne 861 (520 + 164 * b) 0) (lwOne 861 (521 + 164 * b) 0) false) = true := by decide +kernel
theorem lwO2 : avAllR 0 6 (fun b => avAllR 0 12 (fun r => abIf (lwOne 861 (540 + 164 * b + 12 * r) 0) (avAllR 0 8 (fun c => lwOne 861 (540 + 164 * b + 12 * r + 4 + c) 0)) false)) = true := by decide +kernel
theorem lwO3 : avAllR 0 3 (fun k => lwOne 863 k 0) = true := by decide +kernel
theorem lwO4 : lwOne 861 1504 0 = true := by decide +kernel
theorem lwJ0 {tys : List (ClassId × FieldType)} {ws : va_W} {sb sl : Nat} {rh : Nat → Int} (hC : ∀ j : Nat, j < 4096 → abCs tys ws sb sl rh ws[j]? (abH0.get j)) : lwJp 0 (haAt ws) := by
  have g1 := hC 861 (by decide)
  have g3 := hC 863 (by decide)
  have hold : ∀ b : Int, 0 ≤ b → b ≤ 5 → haAt ws 861 (520 + 164 * b) = 0 ∧ haAt ws 861 (521 + 164 * b) = 0 := fun b b0 b1 => by
    obtain ⟨h1, h2⟩ := abIf_and (avAllR_ok lwO1 b b0 (by omega))
    exact ⟨lwOne_ok (by omega) h1 g1, lwOne_ok (by omega) h2 g1⟩
  have f0 : haAt ws 861 1504 = 0 := lwOne_ok (by omega) lwO4 g1
  refine ⟨⟨fun b b0 b1 => ?_, fun b r b0 b1 r0 r1 => ?_⟩, by rw [f0]; omega, fun k k0 k2 hk => ?_⟩
  · rw [(hold b b0 b1).1, (hold b b0 b1).2]
    omega
  · obtain ⟨h1, h2⟩ := abIf_and (avAllR_ok (avAllR_ok lwO2 b b0 (by omega)) r r0 (by omega))
    have u0 : haAt ws 861 (540 + 164 * b + 12 * r) = 0 := lwOne_ok (by omega) h1 g1
    have l0 : ∀ c : Int, 0 ≤ c → c < 8 → haAt ws 861 (540 + 164 * b + 12 * r + 4 + c) = 0 := fun c c0 c1 => lwOne_ok (by omega) (avAllR_ok h2 c c0 (by omega)) g1
    refine ⟨by rw [u0]; omega, by rw [u0, (hold b b0 b1).2]; omega, fun c c0 c1 => by rw [l0 c c0 c1]; omega, ?_⟩
    rw [u0, haS_congr (g := fun _ => 0) (fun c c0 c1 => l0 c c0 (by omega)), haS_const]
    rfl
  · have : haAt ws 863 k = 0 := lwOne_ok k0 (avAllR_ok lwO3 k k0 (by omega)) g3
    omega
/-- a field of one number -/
noncomputable def lwOneFC (c : abCel) (i : Nat) (v : Int) : Bool := abIf (Nat.ble c.1 90) (abIf (Nat.ble (i + 1) c.2.1) (abIf (Nat.beq (c.2.2.get i).1 0) (abIf (aiEq (((c.2.2.get i).2.1 : Int) - 9223372036854775808) v) (aiEq (((c.2.2.get i).2.2 : Int) - 9223372036854775808) v) false) false) false) false
noncomputable def lwOneF (j : Nat) (i v : Int) : Bool := lwOneFC (abH0.get j) i.toNat v
theorem lwOneF_ok {tys : List (ClassId × FieldType)} {ws : va_W} {sb sl : Nat} {rh : Nat → Int} {j : Nat} {i v : Int} (hi : 0 ≤ i) (h : lwOneF j i v = true) (g : abCs tys ws sb sl rh ws[j]? (abH0.get j)) : haAt ws j i = v := by
  unfold lwOneF at h
  generalize abH0.get j = c at h g
  obtain ⟨c1, c2, ct⟩ := c
  obtain ⟨h1, h2⟩ := abIf_and h
  obtain ⟨h3, h4⟩ := abIf_and h2
  obtain ⟨h5, h6⟩ := abIf_and h4
  obtain ⟨h7, h8⟩ := abIf_and h6
  obtain ⟨-, g1, -⟩ := g
  obtain ⟨a, fs, y, e1, e2, e3, e4, e5⟩ := g1 (abBle h1)
  have hlt : i.toNat < fs.length := by
    have h3' : i.toNat + 1 ≤ c2 := abBle h3
    have e2' : fs.length = c2 := e2
    omega
  have hx : fs[i.toNat]? = some fs[i.toNat] := List.getElem?_eq_getElem hlt
  have g0 := e5 i.toNat _ hx
  rw [haAt_some hi e1]
  show haNm (fs[i.toNat]?) = v
  rw [hx]
  have h5' : (ct.get i.toNat).1 = 0 := abBeq h5
  have h7' := aiEq_ok h7
  have h8' := aiEq_ok h8
  dsimp only at h7' h8' g0
  generalize ct.get i.toNat = w at h5' h7' h8' g0
  obtain ⟨wt, wa, wb⟩ := w
  have h5'' : wt = 0 := h5'
  subst h5''
  obtain ⟨y, ey, g1, g2⟩ := g0
  rw [ey]
  show y.toInt = v
  have hB : abB = 9223372036854775808 := rfl
  have g1' : (wa : Int) ≤ y.toInt + abB := g1
  have g2' : y.toInt + abB ≤ (wb : Int) := g2
  have h7'' : (wa : Int) - 9223372036854775808 = v := h7'
  have h8'' : (wb : Int) - 9223372036854775808 = v := h8'
  omega
theorem lwO5 : avAllR 0 3 (fun k => lwOne 805 k 0) = true := by decide +kernel
theorem lwO6 : avAllR 0 4 (fun s => abIf (lwOneF (lwRc s) 0 0) (abIf (lwOneF (lwRc s) 1 (-1)) (abIf (lwOne 883 s (-1)) (lwOne 884 s 0) false) false) false) = true := by decide +kernel
theorem lwJ0r {tys : List (ClassId × FieldType)} {ws : va_W} {sb sl : Nat} {rh : Nat → Int} (hC : ∀ j : Nat, j < 4096 → abCs tys ws sb sl rh ws[j]? (abH0.get j)) : lwJr 0 (haAt ws) := by
  refine ⟨lwJ0 hC, fun s s0 s3 => ?_, fun k k0 k2 => ?_⟩
  · obtain ⟨h1, h2⟩ := abIf_and (avAllR_ok lwO6 s s0 (by omega))
    obtain ⟨h3, h4⟩ := abIf_and h2
    obtain ⟨h5, h6⟩ := abIf_and h4
    have hg := hC (lwRc s) (by have := (lwRcG ⟨s0, s3⟩).2; omega)
    exact ⟨(lwOneF_ok (by omega) h3 hg).trans (lwOne_ok s0 h5 (hC 883 (by decide))).symm, (lwOneF_ok (by omega) h1 hg).trans (lwOne_ok s0 h6 (hC 884 (by decide))).symm⟩
  · exact (lwOne_ok k0 (avAllR_ok lwO5 k k0 (by omega)) (hC 805 (by decide))).trans (lwOne_ok k0 (avAllR_ok lwO3 k k0 (by omega)) (hC 863 (by decide))).symm
