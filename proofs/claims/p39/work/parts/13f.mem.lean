/-! fields and rows, written -/
theorem avFits_ok {RG : avRJ} {ws : va_W} {sb : Nat} {rh : afR} {s : avS} {u : avV} {i : avSi} {x : Value} (hs : afSo rh s.1) (gu : avGv RG ws sb rh u x) (h : avFits s u i = true) : avM RG ws i x := by
  obtain ⟨h1, h2⟩ := abIf_and h
  obtain ⟨h3, h4⟩ := abIf_and h2
  obtain ⟨h5, h6⟩ := abIf_and h4
  have h7 := h6
  obtain ⟨t, lo, hi⟩ := i
  obtain ⟨tu, r, f⟩ := u
  have e : t = tu := abBeq h1
  subst e
  obtain ⟨d, gu⟩ := gu
  have g1 := avGe_ok hs (afAdd_D (g := ([], -lo)) d (afNil_D rh)) h5
  have g2 := avGe_ok hs (afSub_D (f := ([], hi)) (afNil_D rh) d) h7
  rw [afAdd_V, afK_V] at g1
  rw [afSub_V, afK_V] at g2
  have ht : t ≤ 1 := abBle h3
  rcases (show t = 0 ∨ t = 1 by omega) with rfl | rfl
  · obtain ⟨y, rfl, hy⟩ := gu
    exact ⟨y, rfl, by show lo ≤ _; omega, by show _ ≤ hi; omega⟩
  · obtain ⟨y, rfl, hy⟩ := gu
    exact ⟨y, rfl, by show lo ≤ _; omega, by show _ ≤ hi; omega⟩
theorem avApart_ok {rh : afR} {s : avS} {a b : afF} (hs : afSo rh s.1) (da : afD rh a.1) (db : afD rh b.1) (h : avApart s a b = true) : ¬ afV rh a = afV rh b := by
  have h1 := afLo_ok hs (afSub_D da db)
  have h2 := afHi_ok hs (afSub_D da db)
  rw [afSub_V] at h1 h2
  rcases abIf_or h with q | q
  · have := aiLe_ok q
    omega
  · have := aiLe_ok q
    omega
theorem avKeep_ok {s : avS} {r : Nat} {c f : afF} : ∀ {l : List avK} {k : avK}, k ∈ avKeep s r c f l → k ∈ l ∧ (¬ k.1 = r ∨ avApart s k.2.2.1 f = true ∨ avApart s k.2.1 c = true)
  | [], _, h => by cases h
  | g :: l, k, h => by
    have ih : k ∈ avKeep s r c f l → k ∈ g :: l ∧ (¬ k.1 = r ∨ avApart s k.2.2.1 f = true ∨ avApart s k.2.1 c = true) := fun q => by
      obtain ⟨h1, h2⟩ := avKeep_ok q
      exact ⟨List.mem_cons_of_mem _ h1, h2⟩
    have h' : k ∈ abIf (Nat.beq g.1 r) (abIf (avApart s g.2.2.1 f) (g :: avKeep s r c f l) (abIf (avApart s g.2.1 c) (g :: avKeep s r c f l) (avKeep s r c f l))) (g :: avKeep s r c f l) := h
    cases q1 : Nat.beq g.1 r with
    | false =>
      rw [q1, abIf_f rfl] at h'
      rcases List.mem_cons.mp h' with rfl | h'
      · exact ⟨List.mem_cons_self, Or.inl (abBeq_f q1)⟩
      · exact ih h'
    | true =>
      rw [q1, abIf_t rfl] at h'
      cases q2 : avApart s g.2.2.1 f with
      | true =>
        rw [q2, abIf_t rfl] at h'
        rcases List.mem_cons.mp h' with rfl | h'
        · exact ⟨List.mem_cons_self, Or.inr (Or.inl q2)⟩
        · exact ih h'
      | false =>
        rw [q2, abIf_f rfl] at h'
        cases q3 : avApart s g.2.1 c with
        | true =>
          rw [q3, abIf_t rfl] at h'
          rcases List.mem_cons.mp h' with rfl | h'
          · exact ⟨List.mem_cons_self, Or.inr (Or.inr q3)⟩
          · exact ih h'
        | false => rw [q3, abIf_f rfl] at h'; exact ih h'
/-- a slot of the one row may go to a slot of the other -/
def avCyOk0 (RT : Lean.RArray avRg) (CY : List avCy) : Prop := ∀ y ∈ CY, (RT.get y.1).1 = 100 ∧ ∀ (g : Nat) (z : Int), y.2.2.1 ≤ (g : Int) → (g : Int) ≤ y.2.2.2.1 → avInS y.2.2.2.2.1 z → g < (RT.get y.1).2.1 ∧ ∀ i : Nat, (i : Int) = g + z + y.2.2.2.2.2 → ∀ (RG : avRJ) (ws : va_W) (x : Value), avM RG ws ((RT.get y.1).2.2.get g) x → avM RG ws ((RT.get y.2.1).2.2.get i) x
/-- the slot may be written -/
def avMayP (GU : List Nat × List avCl) (r i : Nat) : Prop := ¬ r ∈ GU.1 ∨ ∃ c ∈ GU.2, c.1 = r ∧ avInS c.2.1 ((i : Int) - c.2.2.1)
/-- what holds beside stays behind every write that may be -/
def avJok (GU : List Nat × List avCl) (RG : avRJ) : Prop := ∀ (ws : va_W) (j a : Nat) (e e1 : va_E), ws[j]? = some (a, e) → RG.2.1 ws → (∀ i : Nat, ¬ avMayP GU (RG.1 j) i → avAt e1 i = avAt e i) → RG.2.1 (ws.set j (a, e1))
def avCyOk (RT : Lean.RArray avRg) (RG : avRJ) (CY : avCyG) : Prop := avCyOk0 RT CY.1 ∧ avJok CY.2 RG
theorem avCs_in {rh : afR} {s : avS} (hs : afSo rh s.1) {r : Nat} {f : afF} (hd : afD rh f.1) {i : Nat} (hi : (i : Int) = afV rh f) : ∀ {L : List avCl}, avCs s r f (fun _ => true) L = true → ∃ c ∈ L, c.1 = r ∧ avInS c.2.1 ((i : Int) - c.2.2.1)
  | [], h => by cases h
  | c :: L, h => by
    have ih : avCs s r f (fun _ => true) L = true → ∃ c' ∈ c :: L, c'.1 = r ∧ avInS c'.2.1 ((i : Int) - c'.2.2.1) := fun q => by
      obtain ⟨c', h1, h2⟩ := avCs_in hs hd hi q
      exact ⟨c', List.mem_cons_of_mem _ h1, h2⟩
    have h' : abIf (Nat.beq c.1 r) (abIf (aiEq c.2.2.1 f.2) (abIf (avTm s f.1 c.2.1) true (avCs s r f (fun _ => true) L)) (avCs s r f (fun _ => true) L)) (avCs s r f (fun _ => true) L) = true := h
    cases q1 : Nat.beq c.1 r with
    | false => rw [q1, abIf_f rfl] at h'; exact ih h'
    | true =>
      rw [q1, abIf_t rfl] at h'
      cases q2 : aiEq c.2.2.1 f.2 with
      | false => rw [q2, abIf_f rfl] at h'; exact ih h'
      | true =>
        rw [q2, abIf_t rfl] at h'
        rcases abIf_or h' with q3 | q3
        · refine ⟨c, List.mem_cons_self, abBeq q1, ?_⟩
          have e : afV rh f = afS rh f.1 + f.2 := rfl
          have e2 := aiEq_ok q2
          rw [hi, e, e2, show afS rh f.1 + f.2 - f.2 = afS rh f.1 by omega]
          exact avTm_ok hs q3 hd
        · exact ih q3
theorem avMay_ok {rh : afR} {s : avS} (hs : afSo rh s.1) {GU : List Nat × List avCl} {r : Nat} {f : afF} (hd : afD rh f.1) {i : Nat} (hi : (i : Int) = afV rh f) (h : avMay GU s r f = true) : avMayP GU r i := by
  have key : ∀ l : List Nat, List.rec (motive := fun _ => Bool) false (fun x _ ih => abIf (Nat.beq x r) true ih) l = false → ¬ r ∈ l := by
    intro l
    induction l with
    | nil => intro _ h; cases h
    | cons x l ih =>
      intro h hm
      cases q : Nat.beq x r with
      | true =>
        have h' : abIf (Nat.beq x r) true (List.rec (motive := fun _ => Bool) false (fun x _ ih => abIf (Nat.beq x r) true ih) l) = false := h
        rw [q, abIf_t rfl] at h'
        cases h'
      | false =>
        have h' : abIf (Nat.beq x r) true (List.rec (motive := fun _ => Bool) false (fun x _ ih => abIf (Nat.beq x r) true ih) l) = false := h
        rw [q, abIf_f rfl] at h'
        rcases List.mem_cons.mp hm with e | e
        · exact abBeq_f q e.symm
        · exact ih h' e
  unfold avMay at h
  cases q : (List.rec (motive := fun _ => Bool) false (fun x _ ih => abIf (Nat.beq x r) true ih) GU.1 : Bool) with
  | true =>
    rw [q, abIf_t rfl] at h
    exact Or.inr (avCs_in hs hd hi h)
  | false => exact Or.inl (key _ q)
theorem avCpy_ok {D : va_G} {z sb : Nat} {RT : Lean.RArray avRg} {RG : avRJ} {rh : afR} {st : State} {ws : va_W} {H : Heap} {locs : List Loc} {s : avS} {CY : List avCy} (hy : avCyOk0 RT CY) (hH : avHok D z sb RT RG rh st ws H locs s) {r i : Nat} {f : afF} {u : avV} {x : Value} (hu : u.1 = 0) (df : afD rh f.1) (ef : (i : Int) = afV rh f) (gu : avGv RG ws sb rh u x) : ∀ {l : List avK}, (∀ k ∈ l, k ∈ s.2) → avCpy CY s r f u l = true → avM RG ws ((RT.get r).2.2.get i) x
  | [], _, h => by cases h
  | k :: l, hl, h => by
    have ih : avCpy CY s r f u l = true → avM RG ws ((RT.get r).2.2.get i) x := avCpy_ok hy hH hu df ef gu (fun k hk => hl k (List.mem_cons_of_mem _ hk))
    have h' : abIf (Nat.beq k.2.2.2.1 u.1) (abIf (afQ k.2.2.2.2.2 u.2.2) (abIf (List.rec (motive := fun _ => Bool) false (fun y _ jh => abIf (Nat.beq y.1 k.1) (abIf (Nat.beq y.2.1 r) (abIf (aiLe y.2.2.1 (afLo s.1 k.2.2.1)) (abIf (aiLe (afHi s.1 k.2.2.1) y.2.2.2.1)
      (abIf (aiEq (afSub f k.2.2.1).2 y.2.2.2.2.2) (abIf (avTm s (afSub f k.2.2.1).1 y.2.2.2.2.1) true jh) jh) jh) jh) jh) jh) CY) true (avCpy CY s r f u l)) (avCpy CY s r f u l)) (avCpy CY s r f u l) = true := h
    cases q1 : Nat.beq k.2.2.2.1 u.1 with
    | false => rw [q1, abIf_f rfl] at h'; exact ih h'
    | true =>
      rw [q1, abIf_t rfl] at h'
      cases q2 : afQ k.2.2.2.2.2 u.2.2 with
      | false => rw [q2, abIf_f rfl] at h'; exact ih h'
      | true =>
        rw [q2, abIf_t rfl] at h'
        rcases abIf_or h' with q3 | q3
        · obtain ⟨dk1, dk2, j', i', a', e', x', y1, y2, y3, y4, y5, y6⟩ := hH.2.2.2.2.2 k (hl k List.mem_cons_self)
          have hso := hH.2.2.2.2.1
          have b1 := afLo_ok hso dk2
          have b2 := afHi_ok hso dk2
          have key : ∀ C : List avCy, (∀ y ∈ C, y ∈ CY) → List.rec (motive := fun _ => Bool) false (fun y _ jh => abIf (Nat.beq y.1 k.1) (abIf (Nat.beq y.2.1 r) (abIf (aiLe y.2.2.1 (afLo s.1 k.2.2.1)) (abIf (aiLe (afHi s.1 k.2.2.1) y.2.2.2.1)
            (abIf (aiEq (afSub f k.2.2.1).2 y.2.2.2.2.2) (abIf (avTm s (afSub f k.2.2.1).1 y.2.2.2.2.1) true jh) jh) jh) jh) jh) jh) C = true → ∃ y ∈ CY, y.1 = k.1 ∧ y.2.1 = r ∧ y.2.2.1 ≤ afLo s.1 k.2.2.1 ∧ afHi s.1 k.2.2.1 ≤ y.2.2.2.1 ∧ (afSub f k.2.2.1).2 = y.2.2.2.2.2 ∧ avInS y.2.2.2.2.1 (afS rh (afSub f k.2.2.1).1) := by
            intro C
            induction C with
            | nil => intro _ h; cases h
            | cons y C jh =>
              intro hC h
              have jh' := jh (fun y hy => hC y (List.mem_cons_of_mem _ hy))
              cases p1 : Nat.beq y.1 k.1 with
              | false => dsimp only at h; rw [p1, abIf_f rfl] at h; exact jh' h
              | true =>
                dsimp only at h
                rw [p1, abIf_t rfl] at h
                cases p2 : Nat.beq y.2.1 r with
                | false => rw [p2, abIf_f rfl] at h; exact jh' h
                | true =>
                  rw [p2, abIf_t rfl] at h
                  cases p3 : aiLe y.2.2.1 (afLo s.1 k.2.2.1) with
                  | false => rw [p3, abIf_f rfl] at h; exact jh' h
                  | true =>
                    rw [p3, abIf_t rfl] at h
                    cases p4 : aiLe (afHi s.1 k.2.2.1) y.2.2.2.1 with
                    | false => rw [p4, abIf_f rfl] at h; exact jh' h
                    | true =>
                      rw [p4, abIf_t rfl] at h
                      cases p5 : aiEq (afSub f k.2.2.1).2 y.2.2.2.2.2 with
                      | false => rw [p5, abIf_f rfl] at h; exact jh' h
                      | true =>
                        rw [p5, abIf_t rfl] at h
                        rcases abIf_or h with p6 | p6
                        · exact ⟨y, hC y List.mem_cons_self, abBeq p1, abBeq p2, aiLe_ok p3, aiLe_ok p4, aiEq_ok p5, avTm_ok hso p6 (afSub_D df dk2)⟩
                        · exact jh' p6
          obtain ⟨y, yC, w1, w2, w3, w4, w5, w6⟩ := key CY (fun _ q => q) q3
          obtain ⟨v1, v2⟩ := hy y yC
          obtain ⟨v3, v4⟩ := v2 i' _ (by omega) (by omega) w6
          have ev : afV rh (afSub f k.2.2.1) = afV rh f - afV rh k.2.2.1 := afSub_V f k.2.2.1
          have ev2 : afV rh (afSub f k.2.2.1) = afS rh (afSub f k.2.2.1).1 + (afSub f k.2.2.1).2 := rfl
          have v5 := v4 i (by omega) RG ws x
          rw [w2] at v5
          apply v5
          obtain ⟨⟨tys, -, hC, -⟩, -⟩ := hH
          have hcell := hC j' (List.getElem?_eq_some_iff.mp y4).1
          rw [y2, ← w1] at hcell
          obtain ⟨a2', cA, ff, t0, e1, e2, e3, e4⟩ := hcell.2.1 .int (by rw [v1]; rfl)
          rw [y4] at e1
          cases e1
          have hx' : avAt (.inl (cA, (RT.get y.1).2.1, .inl ff)) i' = some (.int (ff i')) := if_pos v3
          rw [hx'] at y5
          cases y5
          have hm := e4 i' v3
          obtain ⟨-, yv, rfl, ey⟩ := avGv_i gu hu
          obtain ⟨-, yv2, hyv2, ey2⟩ := avGv_i y6 (by rw [abBeq q1]; exact hu)
          cases hyv2
          have : yv = ff i' := Int32.toInt_inj.mp (by rw [ey, ey2, afQ_ok q2])
          rw [this]
          exact hm
        · exact ih q3
/-- a slot, written: its value fits, and what is known behind it holds -/
theorem avWrite_ok {D : va_G} {z sb : Nat} {RT : Lean.RArray avRg} {RG : avRJ} {rh : afR} {st : State} {ws : va_W} {H : Heap} {locs : List Loc} {s : avS} {CL : List avCl} {CY : avCyG} (hc : avClOk RT CL) (hy : avCyOk RT RG CY) (hH : avHok D z sb RT RG rh st ws H locs s) {j i a : Nat} {e e1 : va_E} {x : Value} {cf sf : afF} {u : avV} (hj : ws[j]? = some (a, e)) (dc : afD rh cf.1) (ec : (j : Int) = afV rh cf) (ds : afD rh sf.1) (es : (i : Int) = afV rh sf) (h1 : avAt e1 i = some x) (h2 : ∀ i', ¬ i' = i → avAt e1 i' = avAt e i') (hu : u.1 ≤ 1) (gu : avGv RG ws sb rh u x) {K : avS → Bool} (h : avWrite CL CY (RT.get (RG.1 j)).2.2 (RG.1 j) cf sf u s K = true) : ∃ l : List avK, K (s.1, l) = true ∧ avM RG ws ((RT.get (RG.1 j)).2.2.get i) x ∧ (∀ k ∈ l, avKn RG (ws.set j (a, e1)) sb rh k) ∧ RG.2.1 (ws.set j (a, e1)) := by
  obtain ⟨h0, h00⟩ := abIf_and h
  obtain ⟨h3, h4⟩ := abIf_and h00
  have hso := hH.2.2.2.2.1
  have hX1 : abX ws (ws.set j (a, e1)) := abX.set hj
  have hjl := (List.getElem?_eq_some_iff.mp hj).1
  have hJ : RG.2.1 (ws.set j (a, e1)) := by
    have hm := avMay_ok hso ds es h0
    obtain ⟨⟨-, -, -, -, hj0, -⟩, -⟩ := id hH
    refine hy.2 ws j a e e1 hj hj0 (fun i' hi' => h2 i' (fun q => hi' ?_))
    rw [q]
    exact hm
  refine ⟨_, h4, ?_, fun k hk => ?_, hJ⟩
  · rcases abIf_or h3 with q | q
    · obtain ⟨w, hw, h1⟩ := avSl_ok (K := avFits s u) hso hc ds es q
      rcases hw with e | ⟨-, w2, -, -⟩
      · rw [e]
        exact avFits_ok hso gu h1
      · obtain ⟨-, h2⟩ := abIf_and h1
        obtain ⟨h3, -⟩ := abIf_and h2
        have := abBle h3
        omega
    · rcases (show u.1 = 0 ∨ u.1 = 1 by omega) with h0 | h0
      · exact avCpy_ok hy.1 hH h0 ds es gu (fun _ q => q) q
      · exfalso
        have key : ∀ l : List avK, (∀ k ∈ l, k ∈ s.2) → avCpy CY.1 s (RG.1 j) sf u l = true → False := by
          intro l
          induction l with
          | nil => intro _ h; cases h
          | cons k l ih =>
            intro hl h
            have ih' := ih (fun k hk => hl k (List.mem_cons_of_mem _ hk))
            have h' : abIf (Nat.beq k.2.2.2.1 u.1) (abIf (afQ k.2.2.2.2.2 u.2.2) (abIf (List.rec (motive := fun _ => Bool) false (fun y _ jh => abIf (Nat.beq y.1 k.1) (abIf (Nat.beq y.2.1 (RG.1 j)) (abIf (aiLe y.2.2.1 (afLo s.1 k.2.2.1)) (abIf (aiLe (afHi s.1 k.2.2.1) y.2.2.2.1)
              (abIf (aiEq (afSub sf k.2.2.1).2 y.2.2.2.2.2) (abIf (avTm s (afSub sf k.2.2.1).1 y.2.2.2.2.1) true jh) jh) jh) jh) jh) jh) CY.1) true (avCpy CY.1 s (RG.1 j) sf u l)) (avCpy CY.1 s (RG.1 j) sf u l)) (avCpy CY.1 s (RG.1 j) sf u l) = true := h
            cases q1 : Nat.beq k.2.2.2.1 u.1 with
            | false => rw [q1, abIf_f rfl] at h'; exact ih' h'
            | true =>
              rw [q1, abIf_t rfl] at h'
              cases q2 : afQ k.2.2.2.2.2 u.2.2 with
              | false => rw [q2, abIf_f rfl] at h'; exact ih' h'
              | true =>
                rw [q2, abIf_t rfl] at h'
                rcases abIf_or h' with q3 | q3
                · have key2 : ∀ C : List avCy, (∀ y ∈ C, y ∈ CY.1) → List.rec (motive := fun _ => Bool) false (fun y _ jh => abIf (Nat.beq y.1 k.1) (abIf (Nat.beq y.2.1 (RG.1 j)) (abIf (aiLe y.2.2.1 (afLo s.1 k.2.2.1)) (abIf (aiLe (afHi s.1 k.2.2.1) y.2.2.2.1)
                    (abIf (aiEq (afSub sf k.2.2.1).2 y.2.2.2.2.2) (abIf (avTm s (afSub sf k.2.2.1).1 y.2.2.2.2.1) true jh) jh) jh) jh) jh) jh) C = true → ∃ y ∈ CY.1, y.1 = k.1 := by
                    intro C
                    induction C with
                    | nil => intro _ h; cases h
                    | cons y C jh =>
                      intro hC h
                      have jh' := jh (fun y hy => hC y (List.mem_cons_of_mem _ hy))
                      dsimp only at h
                      cases p1 : Nat.beq y.1 k.1 with
                      | false => rw [p1, abIf_f rfl] at h; exact jh' h
                      | true => exact ⟨y, hC y List.mem_cons_self, abBeq p1⟩
                  obtain ⟨y, yC, w1⟩ := key2 CY.1 (fun _ q => q) q3
                  obtain ⟨dk1, dk2, j', i', a', e', x', y1, y2, y3, y4, y5, y6⟩ := hH.2.2.2.2.2 k (hl k List.mem_cons_self)
                  obtain ⟨⟨tys, -, hC, -⟩, -⟩ := id hH
                  have hcell := hC j' (List.getElem?_eq_some_iff.mp y4).1
                  rw [y2, ← w1] at hcell
                  obtain ⟨a2', cA, ff, t0, e1', e2, e3, e4⟩ := hcell.2.1 .int (by rw [(hy.1 y yC).1]; rfl)
                  rw [y4] at e1'
                  cases e1'
                  obtain ⟨-, yv2, hyv2, ey2⟩ := avGv_l y6 (by rw [abBeq q1]; exact h0)
                  have y5' : (if i' < (RT.get y.1).2.1 then some (Value.int (ff i')) else none) = some x' := y5
                  split at y5'
                  · cases y5'
                    cases hyv2
                  · cases y5'
                · exact ih' q3
        exact key _ (fun _ q => q) q
  · rcases List.mem_cons.mp hk with rfl | hk
    · exact ⟨dc, ds, j, i, a, e1, x, ec, rfl, es, List.getElem?_set_self hjl, h1, gu.mono hX1 (afLe.rf rh)⟩
    · obtain ⟨m1, m2⟩ := avKeep_ok hk
      obtain ⟨d1, d2, j', i', a', e', x', y1, y2, y3, y4, y5, y6⟩ := hH.2.2.2.2.2 k m1
      by_cases hjj : j' = j
      · subst hjj
        rw [hj] at y4
        cases y4
        refine ⟨d1, d2, j', i', _, e1, x', y1, y2, y3, List.getElem?_set_self hjl, ?_, y6.mono hX1 (afLe.rf rh)⟩
        rw [h2 i' ?_]
        · exact y5
        · intro hi
          subst hi
          rcases m2 with m2 | m2 | m2
          · exact m2 y2.symm
          · exact avApart_ok hso d2 ds m2 (by rw [← y3, ← es])
          · exact avApart_ok hso d1 dc m2 (by rw [← y1, ← ec])
      · exact ⟨d1, d2, j', i', a', e', x', y1, y2, y3, by rw [List.getElem?_set_ne (Ne.symm hjj)]; exact y4, y5, y6.mono hX1 (afLe.rf rh)⟩
theorem avHok.put {D : va_G} {z sb : Nat} {RT : Lean.RArray avRg} {RG : avRJ} {rh : afR} {s : State} {ws : va_W} {H H1 : Heap} {locs locs1 : List Loc} {q : avS} {tys : List (ClassId × FieldType)} {l : List avK} (h : avHok D z sb RT RG rh s ws H locs q) (hK : va_K D abCls tys s) (hC : ∀ j : Nat, j < ws.length → avCs1 tys RG ws ws[j]? (RT.get (RG.1 j))) {j a : Nat} {e0 e1 : va_E} (hj : ws[j]? = some (a, e0)) (hP1 : va_P D abCls (ws.set j (a, e1)) H1) (hD1 : va_D (fun q : Nat => z ≤ q) (ws.set j (a, e1))) (hS1 : va_S (fun q : Nat => z ≤ q) s.heap H1 locs1) (hc : avCs1 tys RG (ws.set j (a, e1)) (some (a, e1)) (RT.get (RG.1 j))) (hk : (∀ k ∈ l, avKn RG (ws.set j (a, e1)) sb rh k) ∧ RG.2.1 (ws.set j (a, e1))) : avHok D z sb RT RG rh s (ws.set j (a, e1)) H1 locs1 (q.1, l) := by
  obtain ⟨⟨-, -, -, hlen⟩, -, -, -, hso, -⟩ := h
  refine ⟨⟨tys, hK, fun i hi => ?_, by rw [List.length_set]; exact hlen.1, hk.2, hlen.2.2⟩, hP1, hD1, hS1, hso, hk.1⟩
  rw [List.length_set] at hi
  by_cases e : j = i
  · rw [← e, List.getElem?_set_self (List.getElem?_eq_some_iff.mp hj).1]
    exact hc
  · rw [List.getElem?_set_ne e]
    exact (hC i hi).mono (abX.set hj)
theorem avCs1.putI {tys : List (ClassId × FieldType)} {RG : avRJ} {ws ws' : va_W} {c : avRg} {ty : FieldType} {a i : Nat} {cA : ClassId} {f : Nat → Int32} {t0 : Nat} {x : Int32} (hx : abX ws ws') (hty : abTyA c.1 = some ty) (ht : tys[t0]? = some (cA, ty)) (hl : c.2.1 ≤ 65536) (hg : ∀ k : Nat, k < c.2.1 → avM RG ws (c.2.2.get k) (.int (f k))) (gu : avM RG ws (c.2.2.get i) (.int x)) : avCs1 tys RG ws' (some (a, .inl (cA, c.2.1, .inl (upd f i x)))) c := by
  have hc := abTyA_c hty
  refine ⟨fun h => ?_, fun ty' h => ?_, fun h => ?_, fun h => ?_⟩
  · have : c.1 ≤ 90 := h
    omega
  · have h' : abTyA c.1 = some ty' := h
    rw [hty] at h'
    cases h'
    refine ⟨a, cA, upd f i x, t0, rfl, ht, hl, fun k hk => ?_⟩
    by_cases e : i = k
    · subst e
      rw [pk_us]
      exact gu.mono hx
    · rw [pk_un (Ne.symm e)]
      exact (hg k hk).mono hx
  · have : c.1 = 101 := h
    omega
  · have : 200 ≤ c.1 := h
    omega
theorem avCs1.putL {tys : List (ClassId × FieldType)} {RG : avRJ} {ws ws' : va_W} {c : avRg} {a i : Nat} {cA : ClassId} {f : Nat → Int64} {t0 : Nat} {x : Int64} (hx : abX ws ws') (hty : c.1 = 101) (ht : tys[t0]? = some (cA, .long)) (hl : c.2.1 ≤ 65536) (hg : ∀ k : Nat, k < c.2.1 → avM RG ws (c.2.2.get k) (.long (f k))) (gu : avM RG ws (c.2.2.get i) (.long x)) : avCs1 tys RG ws' (some (a, .inl (cA, c.2.1, .inr (.inl (vp_updL f i x))))) c := by
  refine ⟨fun h => ?_, fun ty' h => ?_, fun _ => ?_, fun h => ?_⟩
  · have : c.1 ≤ 90 := h
    omega
  · have := abTyA_c (show abTyA c.1 = some ty' from h)
    omega
  · refine ⟨a, cA, vp_updL f i x, t0, rfl, ht, hl, fun k hk => ?_⟩
    by_cases e : i = k
    · subst e
      rw [pk_uLs]
      exact gu.mono hx
    · rw [pk_uLn (Ne.symm e)]
      exact (hg k hk).mono hx
  · have : 200 ≤ c.1 := h
    omega
theorem avS69 {RT : Lean.RArray avRg} {RG : avRJ} {CL : List avCl} {CY : avCyG} (hc : avClOk RT CL) (hy : avCyOk RT RG CY) : avOk RT RG 69 (avOas RT CL CY 0 (fun _ n _ => Nat.beq n 100)) := by
  intro D z sb w0 r0 p l ev R s m args below meth c cc cs Q k d nx e pc ls st q hF hE hop hpc hnx h
  obtain ⟨hx, hb, hml, hown, hts, hnm, hz, hR3, hR4⟩ := hF
  obtain ⟨o, pc', a1, a2, x, ps⟩ := e
  have ho : o = 69 := hop
  have hp : pc' = pc := hpc
  subst ho; subst hp
  have hd := abEt_dec hE (show ¬ (69 : Nat) = 85 by decide) rfl
  obtain ⟨u, s1, rfl, h00⟩ := avHd_some h
  obtain ⟨w, v, rr, rfl, h0⟩ := av2_some h00
  obtain ⟨k0, h1⟩ := avFo_some h0
  obtain ⟨ku, h1⟩ := avFo_some h1
  intro rh H locs ws A xs hH hX hL hS
  obtain ⟨x2, xr2, rfl, gu, x0, xr, rfl, gw, x1, xr', rfl, gv, hS'⟩ := hS
  obtain ⟨d0, y, rfl, e0⟩ := avGv_i gw k0
  obtain ⟨du, yv, rfl, eu⟩ := avGv_i gu ku
  obtain ⟨k1, h2⟩ := abIf_and h1
  obtain ⟨d1, j, a, en, hj, rfl, er, ec⟩ := avGv_r gv (abBeq k1)
  obtain ⟨h3, h4⟩ := abIf_and h2
  rw [← er] at h3 h4
  obtain ⟨h5, i1, i2⟩ := avIx1_ok hH.2.2.2.2.1 d0 h4
  obtain ⟨⟨tys, hK, hC, hlen⟩, hP, hD, hSS, hso, hkn⟩ := id hH
  have hcell := hC j (List.getElem?_eq_some_iff.mp hj).1
  have hcl := abClamp (y := y)
  have hi : (y.toNatClampNeg : Int) = afV rh w.2.2 := by omega
  have hin : vp_in y (RT.get (RG.1 j)).2.1 := vp_in_iff.mpr ⟨by omega, by omega⟩
  have hlt : y.toNatClampNeg < (RT.get (RG.1 j)).2.1 := by omega
  have ec1 : (RT.get (RG.1 j)).1 = 100 := abBeq h3
  obtain ⟨a', cA, f, t0, e1, e2, e3, e4⟩ := hcell.2.1 .int (by rw [ec1]; rfl)
  rw [hj] at e1
  cases e1
  obtain ⟨l1, h6, hm, hk⟩ := avWrite_ok (i := y.toNatClampNeg) (x := Value.int yv) (cf := v.2.2) (sf := w.2.2) (u := u) (e1 := .inl (cA, (RT.get (RG.1 j)).2.1, .inl (upd f y.toNatClampNeg yv))) hc hy hH hj d1 ec d0 hi (by show (if y.toNatClampNeg < (RT.get (RG.1 j)).2.1 then some (Value.int (upd f y.toNatClampNeg yv y.toNatClampNeg)) else none) = _; rw [if_pos hlt, pk_us]) (fun i' hi' => by
    show (if i' < (RT.get (RG.1 j)).2.1 then some (Value.int (upd f y.toNatClampNeg yv i')) else none) = (if i' < (RT.get (RG.1 j)).2.1 then some (Value.int (f i')) else none)
    rw [pk_un hi']) (by omega) gu h5
  refine va_iast hx hb hK hP hD hSS j t0 hj e2 hin hd (fun H1 locs1 hP1 hD1 hS1 => ?_)
  have hX1 := abX.via hj hP1
  exact hnx _ _ _ _ h6 rh H1 locs1 _ A _ (hH.put hK hC hj hP1 hD1 hS1 (avCs1.putI hX1 (by rw [ec1]; rfl) e2 e3 e4 hm) hk) (hX.tr hX1) (hL.mono hX1 (afLe.rf rh)) (hS'.mono hX1 (afLe.rf rh))
theorem avS71 {RT : Lean.RArray avRg} {RG : avRJ} {CL : List avCl} {CY : avCyG} (hc : avClOk RT CL) (hy : avCyOk RT RG CY) : avOk RT RG 71 (avOas RT CL CY 1 (fun _ n _ => Nat.beq n 101)) := by
  intro D z sb w0 r0 p l ev R s m args below meth c cc cs Q k d nx e pc ls st q hF hE hop hpc hnx h
  obtain ⟨hx, hb, hml, hown, hts, hnm, hz, hR3, hR4⟩ := hF
  obtain ⟨o, pc', a1, a2, x, ps⟩ := e
  have ho : o = 71 := hop
  have hp : pc' = pc := hpc
  subst ho; subst hp
  have hd := abEt_dec hE (show ¬ (71 : Nat) = 85 by decide) rfl
  obtain ⟨u, s1, rfl, h00⟩ := avHd_some h
  obtain ⟨w, v, rr, rfl, h0⟩ := av2_some h00
  obtain ⟨k0, h1⟩ := avFo_some h0
  obtain ⟨ku, h1⟩ := avFo_some h1
  intro rh H locs ws A xs hH hX hL hS
  obtain ⟨x2, xr2, rfl, gu, x0, xr, rfl, gw, x1, xr', rfl, gv, hS'⟩ := hS
  obtain ⟨d0, y, rfl, e0⟩ := avGv_i gw k0
  obtain ⟨du, yv, rfl, eu⟩ := avGv_l gu ku
  obtain ⟨k1, h2⟩ := abIf_and h1
  obtain ⟨d1, j, a, en, hj, rfl, er, ec⟩ := avGv_r gv (abBeq k1)
  obtain ⟨h3, h4⟩ := abIf_and h2
  rw [← er] at h3 h4
  obtain ⟨h5, i1, i2⟩ := avIx1_ok hH.2.2.2.2.1 d0 h4
  obtain ⟨⟨tys, hK, hC, hlen⟩, hP, hD, hSS, hso, hkn⟩ := id hH
  have hcell := hC j (List.getElem?_eq_some_iff.mp hj).1
  have hcl := abClamp (y := y)
  have hi : (y.toNatClampNeg : Int) = afV rh w.2.2 := by omega
  have hin : vp_in y (RT.get (RG.1 j)).2.1 := vp_in_iff.mpr ⟨by omega, by omega⟩
  have hlt : y.toNatClampNeg < (RT.get (RG.1 j)).2.1 := by omega
  have ec1 : (RT.get (RG.1 j)).1 = 101 := abBeq h3
  obtain ⟨a', cA, f, t0, e1, e2, e3, e4⟩ := hcell.2.2.1 ec1
  rw [hj] at e1
  cases e1
  obtain ⟨l1, h6, hm, hk⟩ := avWrite_ok (i := y.toNatClampNeg) (x := Value.long yv) (cf := v.2.2) (sf := w.2.2) (u := u) (e1 := .inl (cA, (RT.get (RG.1 j)).2.1, .inr (.inl (vp_updL f y.toNatClampNeg yv)))) hc hy hH hj d1 ec d0 hi (by show (if y.toNatClampNeg < (RT.get (RG.1 j)).2.1 then some (Value.long (vp_updL f y.toNatClampNeg yv y.toNatClampNeg)) else none) = _; rw [if_pos hlt, pk_uLs]) (fun i' hi' => by
    show (if i' < (RT.get (RG.1 j)).2.1 then some (Value.long (vp_updL f y.toNatClampNeg yv i')) else none) = (if i' < (RT.get (RG.1 j)).2.1 then some (Value.long (f i')) else none)
    rw [pk_uLn hi']) (by omega) gu h5
  refine va_last hx hb hK hP hD hSS j t0 hj e2 hin hd (fun H1 locs1 hP1 hD1 hS1 => ?_)
  have hX1 := abX.via hj hP1
  exact hnx _ _ _ _ h6 rh H1 locs1 _ A _ (hH.put hK hC hj hP1 hD1 hS1 (avCs1.putL hX1 ec1 e2 e3 e4 hm) hk) (hX.tr hX1) (hL.mono hX1 (afLe.rf rh)) (hS'.mono hX1 (afLe.rf rh))
theorem avS70 {RT : Lean.RArray avRg} {RG : avRJ} {CL : List avCl} {CY : avCyG} (hc : avClOk RT CL) (hy : avCyOk RT RG CY) : avOk RT RG 70 (avOas RT CL CY 0 avKb) := by
  intro D z sb w0 r0 p l ev R s m args below meth c cc cs Q k d nx e pc ls st q hF hE hop hpc hnx h
  obtain ⟨hx, hb, hml, hown, hts, hnm, hz, hR3, hR4⟩ := hF
  obtain ⟨o, pc', a1, a2, x, ps⟩ := e
  have ho : o = 70 := hop
  have hp : pc' = pc := hpc
  subst ho; subst hp
  have hd := abEt_dec hE (show ¬ (70 : Nat) = 85 by decide) rfl
  obtain ⟨u, s1, rfl, h00⟩ := avHd_some h
  obtain ⟨w, v, rr, rfl, h0⟩ := av2_some h00
  obtain ⟨k0, h1⟩ := avFo_some h0
  obtain ⟨ku, h1⟩ := avFo_some h1
  intro rh H locs ws A xs hH hX hL hS
  obtain ⟨x2, xr2, rfl, gu, x0, xr, rfl, gw, x1, xr', rfl, gv, hS'⟩ := hS
  obtain ⟨d0, y, rfl, e0⟩ := avGv_i gw k0
  obtain ⟨du, yv, rfl, eu⟩ := avGv_i gu ku
  obtain ⟨k1, h2⟩ := abIf_and h1
  obtain ⟨d1, j, a, en, hj, rfl, er, ec⟩ := avGv_r gv (abBeq k1)
  obtain ⟨h3, h4⟩ := abIf_and h2
  rw [← er] at h3 h4
  obtain ⟨h5, i1, i2⟩ := avIx1_ok hH.2.2.2.2.1 d0 h4
  obtain ⟨⟨tys, hK, hC, hlen⟩, hP, hD, hSS, hso, hkn⟩ := id hH
  have hcell := hC j (List.getElem?_eq_some_iff.mp hj).1
  have hcl := abClamp (y := y)
  have hi : (y.toNatClampNeg : Int) = afV rh w.2.2 := by omega
  have hin : vp_in y (RT.get (RG.1 j)).2.1 := vp_in_iff.mpr ⟨by omega, by omega⟩
  have hlt : y.toNatClampNeg < (RT.get (RG.1 j)).2.1 := by omega
  have h3' : abIf (Nat.beq (RT.get (RG.1 j)).1 102) (abIf (avGe q (afAdd u.2.2 ([], 128))) (avGe q (afSub ([], 127) u.2.2)) false) (abIf (Nat.beq (RT.get (RG.1 j)).1 103) (abIf (avGe q u.2.2) (avGe q (afSub ([], 1) u.2.2)) false) false) = true := h3
  cases q2 : Nat.beq (RT.get (RG.1 j)).1 102 with
  | true =>
    rw [q2, abIf_t rfl] at h3'
    have ec1 := abBeq q2
    obtain ⟨b1, b2⟩ := abIf_and h3'
    have b1 := avGe_ok hso (afAdd_D (g := ([], 128)) du (afNil_D rh)) b1
    have b2 := avGe_ok hso (afSub_D (f := ([], 127)) (afNil_D rh) du) b2
    rw [afAdd_V, afK_V] at b1
    rw [afSub_V, afK_V] at b2
    have hnar : vp_nar .byte yv = yv := abNarB (by omega) (by omega)
    obtain ⟨a', cA, f, t0, e1, e2, e3, e4⟩ := hcell.2.1 .byte (by rw [ec1]; rfl)
    rw [hj] at e1
    cases e1
    obtain ⟨l1, h6, hm, hk⟩ := avWrite_ok (i := y.toNatClampNeg) (x := Value.int yv) (cf := v.2.2) (sf := w.2.2) (u := u) (e1 := .inl (cA, (RT.get (RG.1 j)).2.1, .inl (upd f y.toNatClampNeg yv))) hc hy hH hj d1 ec d0 hi (by show (if y.toNatClampNeg < (RT.get (RG.1 j)).2.1 then some (Value.int (upd f y.toNatClampNeg yv y.toNatClampNeg)) else none) = _; rw [if_pos hlt, pk_us]) (fun i' hi' => by
      show (if i' < (RT.get (RG.1 j)).2.1 then some (Value.int (upd f y.toNatClampNeg yv i')) else none) = (if i' < (RT.get (RG.1 j)).2.1 then some (Value.int (f i')) else none)
      rw [pk_un hi']) (by omega) gu h5
    refine va_bast hx hb hK hP hD hSS j t0 hj e2 hin hd (fun H1 locs1 hP1 hD1 hS1 => ?_)
    rw [hnar] at hP1 hD1
    have hX1 := abX.via hj hP1
    exact hnx _ _ _ _ h6 rh H1 locs1 _ A _ (hH.put hK hC hj hP1 hD1 hS1 (avCs1.putI hX1 (by rw [ec1]; rfl) e2 e3 e4 hm) hk) (hX.tr hX1) (hL.mono hX1 (afLe.rf rh)) (hS'.mono hX1 (afLe.rf rh))
  | false =>
    rw [q2, abIf_f rfl] at h3'
    obtain ⟨q3, h3'⟩ := abIf_and h3'
    have ec1 := abBeq q3
    obtain ⟨b1, b2⟩ := abIf_and h3'
    have b1 := avGe_ok hso du b1
    have b2 := avGe_ok hso (afSub_D (f := ([], 1)) (afNil_D rh) du) b2
    rw [afSub_V, afK_V] at b2
    have hnar : vp_nar .boolean yv = yv := abNarZ (by omega) (by omega)
    obtain ⟨a', cA, f, t0, e1, e2, e3, e4⟩ := hcell.2.1 .boolean (by rw [ec1]; rfl)
    rw [hj] at e1
    cases e1
    obtain ⟨l1, h6, hm, hk⟩ := avWrite_ok (i := y.toNatClampNeg) (x := Value.int yv) (cf := v.2.2) (sf := w.2.2) (u := u) (e1 := .inl (cA, (RT.get (RG.1 j)).2.1, .inl (upd f y.toNatClampNeg yv))) hc hy hH hj d1 ec d0 hi (by show (if y.toNatClampNeg < (RT.get (RG.1 j)).2.1 then some (Value.int (upd f y.toNatClampNeg yv y.toNatClampNeg)) else none) = _; rw [if_pos hlt, pk_us]) (fun i' hi' => by
      show (if i' < (RT.get (RG.1 j)).2.1 then some (Value.int (upd f y.toNatClampNeg yv i')) else none) = (if i' < (RT.get (RG.1 j)).2.1 then some (Value.int (f i')) else none)
      rw [pk_un hi']) (by omega) gu h5
    refine va_zast hx hb hK hP hD hSS j t0 hj e2 hin hd (fun H1 locs1 hP1 hD1 hS1 => ?_)
    rw [hnar] at hP1 hD1
    have hX1 := abX.via hj hP1
    exact hnx _ _ _ _ h6 rh H1 locs1 _ A _ (hH.put hK hC hj hP1 hD1 hS1 (avCs1.putI hX1 (by rw [ec1]; rfl) e2 e3 e4 hm) hk) (hX.tr hX1) (hL.mono hX1 (afLe.rf rh)) (hS'.mono hX1 (afLe.rf rh))
