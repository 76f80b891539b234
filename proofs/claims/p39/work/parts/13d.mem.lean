/-! SLOTS: what a table of equal slots says, what is known, the first look at a slot -/
def avInS : List (Int × Int × Int) → Int → Prop
  | [], z => z = 0
  | h :: p, z => ∃ y : Int, h.2.1 ≤ y ∧ y ≤ h.2.2 ∧ avInS p (z - h.1 * y)
theorem avInS_mid {h : Int × Int × Int} {y : Int} (h1 : h.2.1 ≤ y) (h2 : y ≤ h.2.2) : ∀ {pre p : List (Int × Int × Int)} {z : Int}, avInS (pre ++ p) z → avInS (pre ++ h :: p) (z + h.1 * y)
  | [], p, z, q => ⟨y, h1, h2, by rw [show z + h.1 * y - h.1 * y = z by omega]; exact q⟩
  | g :: pre, p, z, q => by
    obtain ⟨w, w1, w2, w3⟩ := q
    refine ⟨w, w1, w2, ?_⟩
    rw [show z + h.1 * y - g.1 * w = (z - g.1 * w) + h.1 * y by omega]
    exact avInS_mid h1 h2 w3
theorem avEr_ok {k : Int} {F : Int × Int × Int → List (Int × Int × Int) → Bool} : ∀ (p pre : List (Int × Int × Int)), List.rec (motive := fun _ => (List (Int × Int × Int) → List (Int × Int × Int)) → Bool) (fun _ => false) (fun h r ih put => abIf (aiEq h.1 k) (F h (put r)) (ih fun x => put (h :: x))) p (fun x => pre ++ x) = true → ∃ (h : Int × Int × Int) (r : List (Int × Int × Int)), F h r = true ∧ ∀ z y : Int, h.2.1 ≤ y → y ≤ h.2.2 → avInS r z → avInS (pre ++ p) (z + k * y)
  | [], _, h => by cases h
  | g :: p, pre, h => by
    have h' : abIf (aiEq g.1 k) (F g (pre ++ p)) (List.rec (motive := fun _ => (List (Int × Int × Int) → List (Int × Int × Int)) → Bool) (fun _ => false) (fun h r ih put => abIf (aiEq h.1 k) (F h (put r)) (ih fun x => put (h :: x))) p (fun x => pre ++ g :: x)) = true := h
    cases q : aiEq g.1 k with
    | true =>
      rw [q, abIf_t rfl] at h'
      have e := aiEq_ok q
      exact ⟨g, pre ++ p, h', fun z y y1 y2 hz => by rw [← e]; exact avInS_mid y1 y2 hz⟩
    | false =>
      rw [q, abIf_f rfl] at h'
      have e : (fun x : List (Int × Int × Int) => pre ++ g :: x) = fun x => (pre ++ [g]) ++ x := by
        funext x
        rw [List.append_assoc]
        rfl
      rw [e] at h'
      obtain ⟨h1, r, h2, h3⟩ := avEr_ok p (pre ++ [g]) h'
      refine ⟨h1, r, h2, fun z y y1 y2 hz => ?_⟩
      have := h3 z y y1 y2 hz
      rw [List.append_assoc] at this
      exact this
theorem avTm_ok {rh : afR} {s : avS} (hs : afSo rh s.1) : ∀ {t : afT} {p : List (Int × Int × Int)}, avTm s t p = true → afD rh t → avInS p (afS rh t)
  | [], p, h, _ => by
    have key : ∀ p : List (Int × Int × Int), List.rec (motive := fun _ => Bool) true (fun h _ ih => abIf (aiLe h.2.1 0) (abIf (aiLe 0 h.2.2) ih false) false) p = true → avInS p 0 := by
      intro p
      induction p with
      | nil => intro _; rfl
      | cons g p ih =>
        intro h
        obtain ⟨h1, h2⟩ := abIf_and h
        obtain ⟨h3, h4⟩ := abIf_and h2
        refine ⟨0, aiLe_ok h1, aiLe_ok h3, ?_⟩
        rw [Int.mul_zero]
        exact ih h4
    exact key p h
  | x :: t, p, h, d => by
    obtain ⟨g, r, h1, h2⟩ := avEr_ok (k := x.2) (F := fun h r => abIf (aiLe h.2.1 (afNth s.1.2.1 (s.1.1 - 1 - x.1)).1) (abIf (aiLe (afNth s.1.2.1 (s.1.1 - 1 - x.1)).2 h.2.2) (avTm s t r) false) false) p [] h
    obtain ⟨h3, h4⟩ := abIf_and h1
    obtain ⟨h5, h6⟩ := abIf_and h4
    have hb := afTerm hs.1 d List.mem_cons_self
    have e1 := aiLe_ok h3
    have e2 := aiLe_ok h5
    have hr := avTm_ok hs (t := t) (p := r) h6 (fun q hq => d q (List.mem_cons_of_mem _ hq))
    have := h2 (afS rh t) ((rh x.1).getD 0) (by have := hb.1; omega) (by have := hb.2; omega) hr
    show avInS p (x.2 * (rh x.1).getD 0 + afS rh t)
    rw [Int.add_comm]
    exact this
/-- what the one slot holds, the other may hold -/
def avImp (a b : avSi) : Prop := a = b ∨ (a.1 = 2 ∧ b.1 = 2 ∧ a.2.1 = b.2.1 ∧ b.2.2 = -1)
theorem avImp.m {RG : avRJ} {ws : va_W} {a b : avSi} {x : Value} (h : avImp a b) (hm : avM RG ws a x) : avM RG ws b x := by
  rcases h with rfl | ⟨h1, h2, h3, h4⟩
  · exact hm
  · obtain ⟨a1, a2, a3⟩ := a
    obtain ⟨b1, b2, b3⟩ := b
    have h1' : a1 = 2 := h1
    have h2' : b1 = 2 := h2
    have h3' : a2 = b2 := h3
    have h4' : b3 = -1 := h4
    subst h1' h2' h3' h4'
    obtain ⟨j, a, e, g1, g2, g3, -⟩ := hm
    exact ⟨j, a, e, g1, g2, g3, fun h => absurd h (by show ¬ (0 : Int) ≤ -1; decide)⟩
def avClOk (RT : Lean.RArray avRg) (CL : List avCl) : Prop := ∀ c ∈ CL, ∀ z : Int, avInS c.2.1 z → ∀ i : Nat, (i : Int) = z + c.2.2.1 → avImp ((RT.get c.1).2.2.get i) c.2.2.2
theorem avCs_ok {rh : afR} {s : avS} (hs : afSo rh s.1) {RT : Lean.RArray avRg} {r : Nat} {f : afF} (hd : afD rh f.1) {K : avSi → Bool} {i : Nat} (hi : (i : Int) = afV rh f) : ∀ {CL : List avCl}, avClOk RT CL → avCs s r f K CL = true → ∃ w : avSi, avImp ((RT.get r).2.2.get i) w ∧ K w = true
  | [], _, h => by cases h
  | c :: CL, hc, h => by
    have ih : avCs s r f K CL = true → ∃ w : avSi, avImp ((RT.get r).2.2.get i) w ∧ K w = true := avCs_ok hs hd hi (fun c hc' => hc c (List.mem_cons_of_mem _ hc'))
    have h' : abIf (Nat.beq c.1 r) (abIf (aiEq c.2.2.1 f.2) (abIf (avTm s f.1 c.2.1) (K c.2.2.2) (avCs s r f K CL)) (avCs s r f K CL)) (avCs s r f K CL) = true := h
    cases q1 : Nat.beq c.1 r with
    | false => rw [q1, abIf_f rfl] at h'; exact ih h'
    | true =>
      rw [q1, abIf_t rfl] at h'
      cases q2 : aiEq c.2.2.1 f.2 with
      | false => rw [q2, abIf_f rfl] at h'; exact ih h'
      | true =>
        rw [q2, abIf_t rfl] at h'
        cases q3 : avTm s f.1 c.2.1 with
        | false => rw [q3, abIf_f rfl] at h'; exact ih h'
        | true =>
          rw [q3, abIf_t rfl] at h'
          have e := hc c List.mem_cons_self _ (avTm_ok hs q3 hd) i (by rw [hi, aiEq_ok q2]; rfl)
          rw [abBeq q1] at e
          exact ⟨_, e, h'⟩
theorem avSl_ok {rh : afR} {s : avS} (hs : afSo rh s.1) {RT : Lean.RArray avRg} {CL : List avCl} (hc : avClOk RT CL) {r : Nat} {f : afF} (hd : afD rh f.1) {K : avSi → Bool} {i : Nat} (hi : (i : Int) = afV rh f) (h : avSl CL (RT.get r).2.2 s r f K = true) : ∃ w : avSi, avImp ((RT.get r).2.2.get i) w ∧ K w = true := by
  have key : ∀ t : Lean.RArray avSi, t = (RT.get r).2.2 → avSl CL t s r f K = true → ∃ w : avSi, avImp (t.get i) w ∧ K w = true := by
    intro t ht h
    cases t with
    | leaf x => exact ⟨_, Or.inl rfl, h⟩
    | branch p a b =>
      have h' : List.rec (motive := fun _ => Bool) (K ((Lean.RArray.branch p a b).get f.2.toNat)) (fun _ _ _ => avCs s r f K CL) f.1 = true := h
      cases hf : f.1 with
      | nil =>
        rw [hf] at h'
        have e := afV_c (rh := rh) hf
        have e2 : f.2.toNat = i := by omega
        rw [e2] at h'
        exact ⟨_, Or.inl rfl, h'⟩
      | cons x l =>
        rw [hf] at h'
        rw [ht]
        exact avCs_ok hs hd hi hc h'
  exact key _ rfl h
theorem avFind_ok {r : Nat} {c f : afF} {y : avV → Bool} {n : Bool} : ∀ {l : List avK}, avFind r c f y n l = true → n = true ∨ ∃ k ∈ l, k.1 = r ∧ k.2.1 = c ∧ k.2.2.1 = f ∧ y k.2.2.2 = true
  | [], h => Or.inl h
  | k :: l, h => by
    have ih : avFind r c f y n l = true → n = true ∨ ∃ k' ∈ k :: l, k'.1 = r ∧ k'.2.1 = c ∧ k'.2.2.1 = f ∧ y k'.2.2.2 = true := fun h => by
      rcases avFind_ok h with q | ⟨k', h1, h2⟩
      · exact Or.inl q
      · exact Or.inr ⟨k', List.mem_cons_of_mem _ h1, h2⟩
    have h' : abIf (Nat.beq k.1 r) (abIf (afQ k.2.2.1 f) (abIf (afQ k.2.1 c) (y k.2.2.2) (avFind r c f y n l)) (avFind r c f y n l)) (avFind r c f y n l) = true := h
    cases q1 : Nat.beq k.1 r with
    | false => rw [q1, abIf_f rfl] at h'; exact ih h'
    | true =>
      rw [q1, abIf_t rfl] at h'
      cases q2 : afQ k.2.2.1 f with
      | false => rw [q2, abIf_f rfl] at h'; exact ih h'
      | true =>
        rw [q2, abIf_t rfl] at h'
        cases q3 : afQ k.2.1 c with
        | false => rw [q3, abIf_f rfl] at h'; exact ih h'
        | true =>
          rw [q3, abIf_t rfl] at h'
          exact Or.inr ⟨k, List.mem_cons_self, abBeq q1, afQ_ok q3, afQ_ok q2, h'⟩
/-- what goes on with a value x -/
def avGoesV (RG : avRJ) (ws : va_W) (sb : Nat) (rh : afR) (s : avS) (x : Value) (K : avV → avS → Bool) : Prop := ∃ (rh' : afR) (g : afG) (v : avV), K v (g, s.2) = true ∧ afLe rh rh' ∧ afSo rh' g ∧ avGv RG ws sb rh' v x
theorem avFirst_ok {RG : avRJ} {ws : va_W} {sb : Nat} {rh : afR} {s : avS} {i : avSi} {x : Value} {K : avV → avS → Bool} (hs : afSo rh s.1) (hl : ws.length ≤ 4096) (hm : avM RG ws i x) (h : avFirst i s K = true) : avGoesV RG ws sb rh s x K := by
  obtain ⟨t, a, b⟩ := i
  have h' : abIf (Nat.ble t 1) (avBox t a b s K) (abIf (Nat.beq t 2) (abIf (aiLe 0 b) (K (2, a.toNat, [], b) s) (K (2, a.toNat, afN s.1.1) (afFr s.1 0 4095, s.2))) (K (3, 0, [], 0) s)) = true := h
  match t, hm, h' with
  | 0, hm, h' =>
    obtain ⟨y, rfl, y1, y2⟩ := hm
    obtain ⟨rh', g, f, h1, h2, h3, h4, h5⟩ := avBox_ok hs y1 y2 h'
    exact ⟨rh', g, _, h1, h2, h3, h4, y, rfl, h5.symm⟩
  | 1, hm, h' =>
    obtain ⟨y, rfl, y1, y2⟩ := hm
    obtain ⟨rh', g, f, h1, h2, h3, h4, h5⟩ := avBox_ok hs y1 y2 h'
    exact ⟨rh', g, _, h1, h2, h3, h4, y, rfl, h5.symm⟩
  | 2, hm, h' =>
    obtain ⟨j, ad, e, y1, rfl, y2, y3⟩ := hm
    have h2 : abIf (aiLe 0 b) (K (2, a.toNat, [], b) s) (K (2, a.toNat, afN s.1.1) (afFr s.1 0 4095, s.2)) = true := h'
    cases q : aiLe 0 b with
    | true =>
      rw [q, abIf_t rfl] at h2
      have e1 := y3 (aiLe_ok q)
      refine ⟨rh, s.1, _, h2, afLe.rf rh, hs, afNil_D rh, j, ad, e, y1, rfl, y2, ?_⟩
      rw [e1]
      exact (afC_V rh b).symm
    | false =>
      rw [q, abIf_f rfl] at h2
      have hj := (List.getElem?_eq_some_iff.mp y1).1
      obtain ⟨rh', a1, a2, a3⟩ := afFr_ok (z := (j : Int)) (lo := 0) (hi := 4095) hs (by omega) (by omega)
      exact ⟨rh', _, _, h2, a1, a3, afN_D a2, j, ad, e, y1, rfl, y2, (afN_V a2).symm⟩
  | 3, hm, h' =>
    have hx : x = .null := hm
    exact ⟨rh, s.1, _, h', afLe.rf rh, hs, afNil_D rh, hx⟩
  | _ + 4, hm, _ => exact hm.elim
/-- a slot, read -/
theorem avRead_ok {D : va_G} {z sb : Nat} {RT : Lean.RArray avRg} {RG : avRJ} {rh : afR} {st : State} {ws : va_W} {H : Heap} {locs : List Loc} {s : avS} {CL : List avCl} (hc : avClOk RT CL) (hH : avHok D z sb RT RG rh st ws H locs s) {j i a : Nat} {e : va_E} {x : Value} {cf sf : afF} (hj : ws[j]? = some (a, e)) (dc : afD rh cf.1) (ec : (j : Int) = afV rh cf) (ds : afD rh sf.1) (es : (i : Int) = afV rh sf) (hx : avAt e i = some x) (hm : avM RG ws ((RT.get (RG.1 j)).2.2.get i) x) {K : avV → avS → Bool} (h : avRead CL (RT.get (RG.1 j)).2.2 (RG.1 j) cf sf s K = true) : ∃ (rh' : afR) (s' : avS) (v : avV), K v s' = true ∧ afLe rh rh' ∧ avHok D z sb RT RG rh' st ws H locs s' ∧ avGv RG ws sb rh' v x := by
  rcases avFind_ok h with q | ⟨k, hk, k1, k2, k3, k4⟩
  · obtain ⟨w, hw, h1⟩ := avSl_ok (K := fun i => avFirst i s fun v s' => K v (s'.1, (RG.1 j, cf, sf, v) :: s'.2)) hH.2.2.2.2.1 hc ds es q
    have hm := hw.m hm
    have hl : ws.length ≤ 4096 := by
      obtain ⟨⟨tys, -, -, hl⟩, -⟩ := hH
      exact hl.1
    obtain ⟨rh', g, v, h2, h3, h4, h5⟩ := avFirst_ok (sb := sb) hH.2.2.2.2.1 hl hm h1
    refine ⟨rh', (g, (RG.1 j, cf, sf, v) :: s.2), v, h2, h3, ?_, h5⟩
    have hN := hH.names h3 h4
    obtain ⟨n1, n2, n3, n4, n5, n6⟩ := hN
    refine ⟨n1, n2, n3, n4, n5, fun k hk => ?_⟩
    rcases List.mem_cons.mp hk with rfl | hk
    · exact ⟨dc.mono h3, ds.mono h3, j, i, a, e, x, by show (j : Int) = afV rh' cf; rw [afV_mono h3 dc]; exact ec, rfl, by show (i : Int) = afV rh' sf; rw [afV_mono h3 ds]; exact es, hj, hx, h5⟩
    · exact n6 k hk
  · obtain ⟨d1, d2, j', i', a', e', x', y1, y2, y3, y4, y5, y6⟩ := hH.2.2.2.2.2 k hk
    rw [k2, ← ec] at y1
    rw [k3, ← es] at y3
    have ej : j' = j := by omega
    have ei : i' = i := by omega
    subst ej; subst ei
    rw [hj] at y4
    cases y4
    rw [hx] at y5
    cases y5
    exact ⟨rh, s, _, k4, afLe.rf rh, hH, y6⟩
