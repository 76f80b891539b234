/-! a contract of the engine, by hand: the guarded slots stay -/
def haGd (j : Nat) (i : Int) : Prop := 0 ≤ i ∧ ¬ avMayP avGUt (avRG0 j) i.toNat
def haFm (mu mu' : haMu) : Prop := ∀ (j : Nat) (i : Int), haGd j i → mu' j i = mu j i
theorem haFm.rf (mu : haMu) : haFm mu mu := fun _ _ _ => rfl
theorem haFm.tr {a b c : haMu} (h : haFm a b) (g : haFm b c) : haFm a c := fun j i q => (g j i q).trans (h j i q)
def haFr (RG : avRJ) (mu : haMu) : avRJ := (RG.1, (fun w => haFm mu (haAt w)), RG.2.2)
theorem haJs {RG : avRJ} (hRG : RG.1 = avRG0) (mu : haMu) : avJok avGUt (haFr RG mu) := by
  intro ws j a e e1 hj hJ hk j' i hg
  have h0 := hJ j' i hg
  by_cases q : j' = j
  · subst q
    have hl := (List.getElem?_eq_some_iff.mp hj).1
    rw [haAt_some hg.1 (List.getElem?_set_self hl), ← h0, haAt_some hg.1 hj, hk i.toNat (by show ¬ avMayP avGUt (RG.1 j') i.toNat; rw [hRG]; exact hg.2)]
  · rw [← h0]
    unfold haAt
    rw [List.getElem?_set_ne (Ne.symm q)]
/-- an answer of the engine's contract -/
def haAns (i : avSi) (o : Option avV) : Prop := (i.1 = 9 → o = none) ∧ (i.1 ≤ 1 → ∃ z : Int, o = some (i.1, 0, [], z) ∧ i.2.1 ≤ z ∧ z ≤ i.2.2)
def haKA (i : avSi) (o : Option avV) (s : avS) : Prop := (i.1 = 9 ∧ o = none) ∨ (i.1 ≤ 1 ∧ i.2.1 = i.2.2 ∧ o = some (i.1, 0, [], i.2.1)) ∨ (i.1 ≤ 1 ∧ o = some (i.1, 0, afN 0) ∧ s = (afFr haS0.1 i.2.1 i.2.2, []))
theorem haKA_ok {i : avSi} (hi : i.1 = 9 ∨ i.1 ≤ 1) : avAns i (haS0.1, []) (fun o s => @decide (haKA i o s) (Classical.propDecidable _)) = true := by
  obtain ⟨t, lo, up⟩ := i
  rcases hi with q | q
  · have q' : t = 9 := q
    subst q'
    exact @decide_eq_true _ (Classical.propDecidable _) (Or.inl ⟨rfl, rfl⟩)
  · have q' : t ≤ 1 := q
    have key : avBox t lo up (haS0.1, []) (fun v s => @decide (haKA (t, lo, up) (some v) s) (Classical.propDecidable _)) = true := by
      unfold avBox
      cases h : aiEq lo up with
      | true =>
        rw [abIf_t rfl]
        exact @decide_eq_true _ (Classical.propDecidable _) (Or.inr (Or.inl ⟨q', aiEq_ok h, rfl⟩))
      | false =>
        rw [abIf_f rfl]
        exact @decide_eq_true _ (Classical.propDecidable _) (Or.inr (Or.inr ⟨q', rfl, rfl⟩))
    rcases (show t = 0 ∨ t = 1 by omega) with e | e
    · subst e
      exact key
    · subst e
      exact key
theorem haSp_con {CC : Lean.RArray (List avCon)} {N : Nat} (hN : ∀ (D : va_G) (z sb : Nat) (RG : avRJ), avJok avGUt RG → avCn D z sb avRT RG CC N) {q : Nat} (hq : q < abNM) {c : avCon} (hm : c ∈ CC.get q) (hn : c.2.2.2.2 < N) (hi : c.2.2.1.1 = 9 ∨ c.2.2.1.1 ≤ 1) {as : List avV} {mu : haMu} (hfit : avFit haS0 (avTheta haS0 c.2.1 as) c.2.1 as = true) (h5 : ∀ v ∈ as, v.1 ≤ 5) (hsm : avSm as ≤ (abMe q).1.2.2.1) : haSp q c.2.2.2.2 as mu (fun o mu' => haAns c.2.2.1 o ∧ haFm mu mu') := by
  intro D z sb RG l ws vs hRG hmu hlen hvs
  have hM := hN D z sb (haFr RG mu) (haJs hRG mu) l q c as vs ws avNo haS0 (fun o s => @decide (haKA c.2.2.1 o s) (Classical.propDecidable _)) hq hm hn hfit (haKA_ok hi) (haSok (RG := RG) (RG' := haFr RG mu) rfl rfl hvs) h5 hsm haSo (fun k hk => by cases hk)
  refine Jvm.Free.MetFree.mono hM (fun a s h => ?_) (fun _ _ _ _ _ h => h) (fun a s o t hP hQ => ?_)
  · obtain ⟨h0, ⟨⟨tys, k1, k2, k3, k4, k5⟩, k6, k7⟩, k8, k9⟩ := h
    have k4' : haAt ws = mu := k4
    exact ⟨h0, ⟨⟨tys, k1, k2, k3, (by show haFm mu (haAt ws); rw [k4']; exact haFm.rf mu), k5⟩, k6, k7⟩, k8, k9⟩
  · obtain ⟨⟨⟨rh', o', q', u, rv, e1, e2, -, e4, e5, ⟨⟨tys, k1, k2, k3, k4, k5⟩, k6, k7⟩, e7, e8⟩, hFr⟩, hL⟩ := hQ
    have e2' : haKA c.2.2.1 o' q' := @of_decide_eq_true _ (Classical.propDecidable _) e2
    have mk : ∀ o2 : Option avV, haAns c.2.2.1 o2 → avRv RG u sb avNo o2 rv → (haPost D z sb RG ws (fun o mu' => haAns c.2.2.1 o ∧ haFm mu mu') a s o t ∧ ∃ L, FrameEnd s o t L 0 0 ∧ ∀ q ∈ L, z ≤ q.base) := fun o2 g1 g2 => ⟨⟨⟨u, rv, o2, e1, e4, g2, ⟨⟨tys, k1, k2, k3, rfl, k5⟩, k6, k7⟩, g1, k4⟩, hFr⟩, hL⟩
    generalize c.2.2.1 = ci at mk e2' ⊢
    obtain ⟨t9, lo, up⟩ := ci
    rcases e2' with ⟨a1, rfl⟩ | ⟨a1, a2, rfl⟩ | ⟨a1, rfl, rfl⟩
    · exact mk none ⟨fun _ => rfl, fun h => absurd h (by have a1' : t9 = 9 := a1; show ¬ t9 ≤ 1; omega)⟩ e5
    · have a1' : t9 ≤ 1 := a1
      rcases (show t9 = 0 ∨ t9 = 1 by omega) with e | e
      · subst e
        obtain ⟨y, rfl, gy⟩ := e5
        obtain ⟨-, yv, rfl, ey⟩ := avGv_i gy rfl
        have ez : yv.toInt = lo := by rw [ey]; exact haCst rh' lo
        refine mk (some (haI lo)) ⟨fun h => (by cases h), fun _ => ⟨lo, rfl, Int.le_refl _, Int.le_of_eq a2⟩⟩ ⟨_, rfl, afNil_D avNo, yv, rfl, ?_⟩
        rw [ez]; exact (haCst avNo lo).symm
      · subst e
        obtain ⟨y, rfl, gy⟩ := e5
        obtain ⟨-, yv, rfl, ey⟩ := avGv_l gy rfl
        have ez : yv.toInt = lo := by rw [ey]; exact haCst rh' lo
        refine mk (some (haL lo)) ⟨fun h => (by cases h), fun _ => ⟨lo, rfl, Int.le_refl _, Int.le_of_eq a2⟩⟩ ⟨_, rfl, afNil_D avNo, yv, rfl, ?_⟩
        rw [ez]; exact (haCst avNo lo).symm
    · have a1' : t9 ≤ 1 := a1
      obtain ⟨zz, hz1, hz2⟩ := e7.1.2.1 0 (Nat.zero_lt_one)
      have hb : lo ≤ zz ∧ zz ≤ up := hz2
      rcases (show t9 = 0 ∨ t9 = 1 by omega) with e | e
      · subst e
        obtain ⟨y, rfl, gy⟩ := e5
        obtain ⟨-, yv, rfl, ey⟩ := avGv_i gy rfl
        have ez : yv.toInt = zz := by rw [ey]; exact afN_V hz1
        refine mk (some (haI zz)) ⟨fun h => (by cases h), fun _ => ⟨zz, rfl, hb.1, hb.2⟩⟩ ⟨_, rfl, afNil_D avNo, yv, rfl, ?_⟩
        rw [ez]; exact (haCst avNo zz).symm
      · subst e
        obtain ⟨y, rfl, gy⟩ := e5
        obtain ⟨-, yv, rfl, ey⟩ := avGv_l gy rfl
        have ez : yv.toInt = zz := by rw [ey]; exact afN_V hz1
        refine mk (some (haL zz)) ⟨fun h => (by cases h), fun _ => ⟨zz, rfl, hb.1, hb.2⟩⟩ ⟨_, rfl, afNil_D avNo, yv, rfl, ?_⟩
        rw [ez]; exact (haCst avNo zz).symm
/-- a shape of one number behind the object -/
theorem haFit1 {r j : Nat} {lo up b : Int} (h1 : lo ≤ b) (h2 : b ≤ up) : avFit haS0 (avTheta haS0 ([haR r j, (0, 0, [(0, 1)], 0)], [(lo, up)], [], []) [haR r j, haI b]) ([haR r j, (0, 0, [(0, 1)], 0)], [(lo, up)], [], []) [haR r j, haI b] = true := by
  have e : avTheta haS0 ([haR r j, (0, 0, [(0, 1)], 0)], [(lo, up)], [], []) [haR r j, haI b] = [([], (b - 0) / 1)] := rfl
  rw [e, Int.sub_zero, Int.ediv_one]
  have e1 : avVs [([], b)] [haR r j, (0, 0, [(0, 1)], 0)] [haR r j, haI b] = true := by
    show abIf (abIf (Nat.beq r r) (afQ ([], (j : Int)) ([], (j : Int))) false) (abIf (afQ (afAdd ([], 0) (afMul 1 ([], b))) ([], b)) true false) false = true
    rw [show Nat.beq r r = true from Nat.beq_refl r, haQ, haMul, show afAdd ([], 0) ([], 1 * b) = ([], 0 + 1 * b) from rfl, Int.one_mul, Int.zero_add, haQ]
    rfl
  have e2 : avBs haS0 [([], b)] [(lo, up)] = true := by
    show abIf (avGe haS0 ([], b + -lo)) (abIf (avGe haS0 ([], up - b)) true false) false = true
    rw [haGe (by omega), haGe (by omega)]
    rfl
  show abIf true (abIf (avVs [([], b)] _ _) (abIf (avBs haS0 [([], b)] [(lo, up)]) (abIf true true false) false) false) false = true
  rw [e1, e2]
  rfl
