/-! a state that fits a shape is one of the shape's own, under other names -/
theorem avSc_ok {rh : afR} {n : Nat} {env : afE} (h : afEo rh n env) : ∀ {t : afT}, avSc n t = true → afD rh t
  | [], _ => afNil_D rh
  | p :: t, q => by
    obtain ⟨h1, h2⟩ := abIf_and q
    have := abBle h1
    intro x hx
    rcases List.mem_cons.mp hx with rfl | hx
    · obtain ⟨z, hz, -⟩ := h.2.1 x.1 (by omega)
      exact ⟨z, hz⟩
    · exact avSc_ok h h2 x hx
theorem avScL_ok {rh : afR} {n : Nat} {env : afE} (h : afEo rh n env) : ∀ {l : List afF}, avScL n l = true → ∀ f ∈ l, afD rh f.1
  | [], _, _, hf => by cases hf
  | g :: l, q, f, hf => by
    obtain ⟨h1, h2⟩ := abIf_and q
    rcases List.mem_cons.mp hf with rfl | hf
    · exact avSc_ok h h1
    · exact avScL_ok h h2 f hf
theorem avNtF_get : ∀ (l : List afF) (i : Nat), avNtF l i = (l[i]?).getD ([], 0)
  | [], _ => rfl
  | _ :: _, 0 => rfl
  | _ :: l, i + 1 => by
    show avNtF l i = _
    rw [avNtF_get l i]
    rfl
/-- the ghosts' numbers -/
noncomputable def avRh (rh : afR) (th : List afF) : afR := fun x => if x < th.length then some (afV rh (avNtF th x)) else none
theorem avRh_some {rh : afR} {th : List afF} {x : Nat} (h : x < th.length) : avRh rh th x = some (afV rh (avNtF th x)) := if_pos h
theorem avNtF_D {rh : afR} {th : List afF} (hd : ∀ g ∈ th, afD rh g.1) (x : Nat) : afD rh (avNtF th x).1 := by
  rw [avNtF_get]
  cases h : th[x]? with
  | none => exact afNil_D rh
  | some g => exact hd g (List.mem_of_getElem? h)
theorem avSb_ok {rh : afR} {th : List afF} (hd : ∀ g ∈ th, afD rh g.1) : ∀ {t : afT} {c : Int}, avSc th.length t = true → afD rh (avSb th (t, c)).1 ∧ afD (avRh rh th) t ∧ afV rh (avSb th (t, c)) = afV (avRh rh th) (t, c)
  | [], c, _ => ⟨afNil_D rh, afNil_D _, rfl⟩
  | p :: t, c, q => by
    obtain ⟨h1, h2⟩ := abIf_and q
    have hlt : p.1 < th.length := by have := abBle h1; omega
    obtain ⟨i1, i2, i3⟩ := avSb_ok hd (t := t) (c := c) h2
    have hp := avRh_some (rh := rh) hlt
    refine ⟨afAdd_D i1 (afMul_D (avNtF_D hd p.1)), ?_, ?_⟩
    · intro x hx
      rcases List.mem_cons.mp hx with rfl | hx
      · exact ⟨_, hp⟩
      · exact i2 x hx
    · show afV rh (afAdd (avSb th (t, c)) (afMul p.2 (avNtF th p.1))) = afS (avRh rh th) (p :: t) + c
      rw [afAdd_V, afMul_V, i3]
      show afS (avRh rh th) t + c + p.2 * afV rh (avNtF th p.1) = (p.2 * (avRh rh th p.1).getD 0 + afS (avRh rh th) t) + c
      rw [hp]
      show _ = (p.2 * afV rh (avNtF th p.1) + afS (avRh rh th) t) + c
      omega
theorem avSbF {rh : afR} {th : List afF} (hd : ∀ g ∈ th, afD rh g.1) {f : afF} (h : avSc th.length f.1 = true) : afD rh (avSb th f).1 ∧ afD (avRh rh th) f.1 ∧ afV rh (avSb th f) = afV (avRh rh th) f := by
  obtain ⟨t, c⟩ := f
  exact avSb_ok hd h
theorem avQv_ok2 {v w : avV} (h : avQv v w = true) : v = w := by
  obtain ⟨h1, h2⟩ := abIf_and h
  obtain ⟨h3, h4⟩ := abIf_and h2
  exact Prod.ext (abBeq h1) (Prod.ext (abBeq h3) (afQ_ok h4))
theorem avGv_sb {RG : avRJ} {ws : va_W} {sb : Nat} {rh : afR} {th : List afF} (hd : ∀ g ∈ th, afD rh g.1) {v : avV} {x : Value} (h : avSc th.length v.2.2.1 = true) (g : avGv RG ws sb rh (avSv th v) x) : avGv RG ws sb (avRh rh th) v x := by
  obtain ⟨-, d2, e⟩ := avSbF hd h
  obtain ⟨t, r, f⟩ := v
  obtain ⟨-, g⟩ := g
  refine ⟨d2, ?_⟩
  have e' : afV rh (avSb th f) = afV (avRh rh th) f := e
  match t, g with
  | 0, g =>
    obtain ⟨y, h1, h2⟩ := g
    exact ⟨y, h1, by rw [h2]; exact e'⟩
  | 1, g =>
    obtain ⟨y, h1, h2⟩ := g
    exact ⟨y, h1, by rw [h2]; exact e'⟩
  | 2, g =>
    obtain ⟨j, a, en, h1, h2, h3, h4⟩ := g
    exact ⟨j, a, en, h1, h2, h3, by rw [h4]; exact e'⟩
  | 3, g => exact g
  | 4, g =>
    obtain ⟨y, h1, h2⟩ := g
    refine ⟨y, h1, ?_⟩
    rw [h2]
    show avSg (afV rh (avSb th f)) = avSg (afV (avRh rh th) f)
    rw [e']
  | 5, g => exact g
  | 6, _ => trivial
  | 7, g => exact g
  | _ + 8, g => exact g
theorem avBs_ok {rh : afR} {s : avS} (hs : afSo rh s.1) : ∀ {th : List afF} {b : afE}, (∀ g ∈ th, afD rh g.1) → avBs s th b = true → b.length = th.length ∧ ∀ (x : Nat) (q : Int × Int), b[x]? = some q → afIn q (afV rh (avNtF th x))
  | [], [], _, _ => ⟨rfl, fun x q h => by simp at h⟩
  | _ :: _, [], _, h => by cases h
  | [], _ :: _, _, h => by cases h
  | f :: th, q :: b, hd, h => by
    obtain ⟨h1, h2⟩ := abIf_and (show abIf (avGe s (afAdd f ([], -q.1))) (abIf (avGe s (afSub ([], q.2) f)) (avBs s th b) false) false = true from h)
    obtain ⟨h3, h4⟩ := abIf_and h2
    have df := hd f List.mem_cons_self
    have g1 := avGe_ok hs (afAdd_D (g := ([], -q.1)) df (afNil_D rh)) h1
    have g2 := avGe_ok hs (afSub_D (f := ([], q.2)) (afNil_D rh) df) h3
    rw [afAdd_V, afK_V] at g1
    rw [afSub_V, afK_V] at g2
    obtain ⟨i1, i2⟩ := avBs_ok hs (th := th) (b := b) (fun g hg => hd g (List.mem_cons_of_mem _ hg)) h4
    refine ⟨by rw [List.length_cons, List.length_cons, i1], fun x p hx => ?_⟩
    cases x with
    | zero =>
      cases hx
      exact ⟨by show q.1 ≤ afV rh f; omega, by show afV rh f ≤ q.2; omega⟩
    | succ x => exact i2 x p hx
theorem avFs_ok {rh : afR} {s : avS} (hs : afSo rh s.1) {th : List afF} (hd : ∀ g ∈ th, afD rh g.1) : ∀ {l : List afF}, avScL th.length l = true → avFs s th l = true → ∀ f ∈ l, afD (avRh rh th) f.1 ∧ 0 ≤ afV (avRh rh th) f
  | [], _, _, _, hf => by cases hf
  | g :: l, h0, h, f, hf => by
    obtain ⟨h1, h2⟩ := abIf_and (show abIf (avGe s (avSb th g)) (avFs s th l) false = true from h)
    obtain ⟨h3, h4⟩ := abIf_and h0
    rcases List.mem_cons.mp hf with rfl | hf
    · obtain ⟨d1, d2, e⟩ := avSbF hd h3
      have := avGe_ok hs d1 h1
      exact ⟨d2, by rw [← e]; exact this⟩
    · exact avFs_ok hs hd h4 h2 f hf
theorem avKs_ok {RG : avRJ} {ws : va_W} {sb : Nat} {rh : afR} {s : avS} {th : List afF} (hd : ∀ g ∈ th, afD rh g.1) (hk : ∀ k ∈ s.2, avKn RG ws sb rh k) : ∀ {l : List avK}, avShk th.length l = true → avKs s th l = true → ∀ k ∈ l, avKn RG ws sb (avRh rh th) k
  | [], _, _, _, h => by cases h
  | g :: l, h0, h, k, hm => by
    obtain ⟨h1, h2⟩ := abIf_and (show abIf (avFind g.1 (avSb th g.2.1) (avSb th g.2.2.1) (fun v => avQv (avSv th g.2.2.2) v) false s.2) (avKs s th l) false = true from h)
    obtain ⟨z1, z2⟩ := abIf_and (show abIf (avSc th.length g.2.1.1) (abIf (avSc th.length g.2.2.1.1) (abIf (avSc th.length g.2.2.2.2.2.1) (avShk th.length l) false) false) false = true from h0)
    obtain ⟨z3, z4⟩ := abIf_and z2
    obtain ⟨z5, z6⟩ := abIf_and z4
    rcases List.mem_cons.mp hm with rfl | hm
    · rcases avFind_ok h1 with q | ⟨k', k1, k2, k3, k4, k5⟩
      · cases q
      · obtain ⟨d1, d2, j, i, a, e, x, y1, y2, y3, y4, y5, y6⟩ := hk k' k1
        obtain ⟨c1, c2, c3⟩ := avSbF hd z1
        obtain ⟨c4, c5, c6⟩ := avSbF hd z3
        rw [k3] at y1
        rw [k4] at y3
        rw [← avQv_ok2 k5] at y6
        exact ⟨c2, c5, j, i, a, e, x, by rw [← c3]; exact y1, by rw [y2, k2], by rw [← c6]; exact y3, y4, y5, avGv_sb hd z5 y6⟩
    · exact avKs_ok hd hk z6 h2 k hm
theorem avVs_ok {th : List afF} : ∀ {a l : List avV}, avVs th a l = true → a.length = l.length ∧ ∀ (i : Nat) (v w : avV), a[i]? = some v → l[i]? = some w → ¬ v.1 = 6 → avSv th v = w
  | [], [], _ => ⟨rfl, fun i v w h => by simp at h⟩
  | [], _ :: _, h => by cases h
  | _ :: _, [], h => by cases h
  | v0 :: a, w0 :: l, h => by
    obtain ⟨h1, h2⟩ := abIf_and (show abIf (abIf (Nat.beq v0.1 6) true (avQv (avSv th v0) w0)) (avVs th a l) false = true from h)
    obtain ⟨i1, i2⟩ := avVs_ok h2
    refine ⟨by rw [List.length_cons, List.length_cons, i1], fun i v w hv hw h6 => ?_⟩
    cases i with
    | zero =>
      cases hv
      cases hw
      rcases abIf_or h1 with q | q
      · exact absurd (abBeq q) h6
      · exact avQv_ok2 q
    | succ i => exact i2 i v w hv hw h6
theorem afNth_rev (b : afE) {x : Nat} (h : x < b.length) : ∃ q : Int × Int, b[x]? = some q ∧ afNth b.reverse (b.length - 1 - x) = q := by
  have key : ∀ (l : afE) (i : Nat), afNth l i = (l[i]?).getD (0, 0) := by
    intro l
    induction l with
    | nil => intro i; rfl
    | cons a l ih =>
      intro i
      cases i with
      | zero => rfl
      | succ i =>
        show afNth l i = _
        rw [ih i]
        rfl
  refine ⟨b[x], List.getElem?_eq_getElem h, ?_⟩
  rw [key, List.getElem?_reverse (by omega), show b.length - 1 - (b.length - 1 - x) = x by omega, List.getElem?_eq_getElem h]
  rfl
/-- what fits a shape has the shape's own names -/
theorem avFit_ok {D : va_G} {z sb : Nat} {RT : Lean.RArray avRg} {RG : avRJ} {rh : afR} {st : State} {ws : va_W} {H : Heap} {locs : List Loc} {s : avS} (hH : avHok D z sb RT RG rh st ws H locs s) {th : List afF} {sh : avSh} {ls : List avV} (h0 : avShOk sh = true) (h : avFit s th sh ls = true) : avHok D z sb RT RG (avRh rh th) st ws H locs (avSt0 sh) ∧ sh.1.length = ls.length ∧ ∀ (i : Nat) (v w : avV) (x : Value), sh.1[i]? = some v → ls[i]? = some w → ¬ v.1 = 6 → avGv RG ws sb rh w x → avGv RG ws sb (avRh rh th) v x ∧ v.1 = w.1 := by
  obtain ⟨h1, h2⟩ := abIf_and h
  obtain ⟨h3, h4⟩ := abIf_and h2
  obtain ⟨h5, h6⟩ := abIf_and h4
  obtain ⟨h7, h8⟩ := abIf_and h6
  obtain ⟨g1, g2⟩ := abIf_and h0
  obtain ⟨g3, g4⟩ := abIf_and g2
  have hso := hH.2.2.2.2.1
  have hd := avScL_ok hso.1 h1
  obtain ⟨b1, b2⟩ := avBs_ok hso hd h5
  rw [b1] at g1 g3 g4
  obtain ⟨v1, v2⟩ := avVs_ok h3
  obtain ⟨n1, n2, n3, n4, n5, n6⟩ := hH
  refine ⟨⟨n1, n2, n3, n4, ⟨⟨?_, fun x hx => ?_, fun x hx => ?_⟩, avFs_ok hso hd g3 h7⟩, avKs_ok hd n6 g4 h8⟩, v1, fun i v w x hv hw h6 gx => ?_⟩
  · show sh.2.1.reverse.length = sh.2.1.length
    rw [List.length_reverse]
  · have hx' : x < sh.2.1.length := hx
    obtain ⟨q, q1, q2⟩ := afNth_rev sh.2.1 hx'
    refine ⟨_, avRh_some (by omega), ?_⟩
    show afIn (afNth sh.2.1.reverse (sh.2.1.length - 1 - x)) _
    rw [q2]
    exact b2 x q q1
  · have hx' : sh.2.1.length ≤ x := hx
    show (if x < th.length then _ else none) = none
    rw [if_neg (by omega)]
  · have e := v2 i v w hv hw h6
    subst e
    refine ⟨avGv_sb hd ?_ gx, rfl⟩
    have key : ∀ l : List avV, List.rec (motive := fun _ => Bool) true (fun v _ ih => abIf (avSc th.length v.2.2.1) ih false) l = true → ∀ v ∈ l, avSc th.length v.2.2.1 = true := by
      intro l
      induction l with
      | nil => intro _ v hv; cases hv
      | cons a l ih =>
        intro h v hv
        obtain ⟨q1, q2⟩ := abIf_and h
        rcases List.mem_cons.mp hv with rfl | hv
        · exact q1
        · exact ih q2 v hv
    exact key _ g1 v (List.mem_of_getElem? hv)
