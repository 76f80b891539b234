/-! FORMS: sums of named numbers, and what bounds them -/
theorem abIf_or {a b : Bool} (h : abIf a true b = true) : a = true ∨ b = true := by
  cases a with
  | false => exact Or.inr h
  | true => exact Or.inl rfl
noncomputable def aiLe (a b : Int) : Bool := Int.rec (fun _ => true) (fun _ => false) (b - a)
theorem aiLe_ok {a b : Int} (h : aiLe a b = true) : a ≤ b := by
  unfold aiLe at h
  cases q : b - a with
  | ofNat n =>
    have : b - a = (n : Int) := q
    omega
  | negSucc n =>
    rw [q] at h
    cases h
theorem aiLe_f {a b : Int} (h : aiLe a b = false) : b < a := by
  unfold aiLe at h
  cases q : b - a with
  | ofNat n =>
    rw [q] at h
    cases h
  | negSucc n =>
    have : b - a = -((n : Int) + 1) := by rw [q]; omega
    omega
noncomputable def aiEq (a b : Int) : Bool := abIf (aiLe a b) (aiLe b a) false
theorem aiEq_ok {a b : Int} (h : aiEq a b = true) : a = b := by
  obtain ⟨h1, h2⟩ := abIf_and h
  have := aiLe_ok h1
  have := aiLe_ok h2
  omega
abbrev afT : Type := List (Nat × Int)
abbrev afF : Type := afT × Int
abbrev afR : Type := Nat → Option Int
def afS (rh : afR) : afT → Int
  | [] => 0
  | p :: t => p.2 * (rh p.1).getD 0 + afS rh t
def afD (rh : afR) (t : afT) : Prop := ∀ p ∈ t, ∃ z, rh p.1 = some z
def afV (rh : afR) (f : afF) : Int := afS rh f.1 + f.2
def afLe (rh rh' : afR) : Prop := ∀ (x : Nat) (z : Int), rh x = some z → rh' x = some z
theorem afLe.rf (rh : afR) : afLe rh rh := fun _ _ h => h
theorem afLe.tr {a b c : afR} (h : afLe a b) (g : afLe b c) : afLe a c := fun x z q => g x z (h x z q)
theorem afD.mono {rh rh' : afR} {t : afT} (h : afLe rh rh') (d : afD rh t) : afD rh' t := fun p hp => by
  obtain ⟨z, hz⟩ := d p hp
  exact ⟨z, h _ _ hz⟩
theorem afS_mono {rh rh' : afR} (h : afLe rh rh') : ∀ {t : afT}, afD rh t → afS rh' t = afS rh t
  | [], _ => rfl
  | p :: t, d => by
    obtain ⟨z, hz⟩ := d p List.mem_cons_self
    show p.2 * (rh' p.1).getD 0 + afS rh' t = p.2 * (rh p.1).getD 0 + afS rh t
    rw [afS_mono h (fun q hq => d q (List.mem_cons_of_mem _ hq)), hz, h _ _ hz]
theorem afV_mono {rh rh' : afR} (h : afLe rh rh') {f : afF} (d : afD rh f.1) : afV rh' f = afV rh f := by
  unfold afV
  rw [afS_mono h d]
/-- one term more -/
noncomputable def afIns (x : Nat) (k : Int) (l : afT) : afT :=
  List.rec [(x, k)] (fun h r ih => abIf (Nat.beq x h.1) (abIf (aiEq (h.2 + k) 0) r ((x, h.2 + k) :: r)) (abIf (Nat.ble x h.1) ((x, k) :: h :: r) (h :: ih))) l
theorem afIns_S {rh : afR} {x : Nat} {k : Int} : ∀ l : afT, afS rh (afIns x k l) = k * (rh x).getD 0 + afS rh l
  | [] => rfl
  | h :: r => by
    show afS rh (abIf (Nat.beq x h.1) (abIf (aiEq (h.2 + k) 0) r ((x, h.2 + k) :: r)) (abIf (Nat.ble x h.1) ((x, k) :: h :: r) (h :: afIns x k r))) = k * (rh x).getD 0 + (h.2 * (rh h.1).getD 0 + afS rh r)
    cases q : Nat.beq x h.1 with
    | true =>
      rw [abIf_t rfl]
      have e := abBeq q
      rw [← e]
      cases q2 : aiEq (h.2 + k) 0 with
      | true =>
        rw [abIf_t rfl]
        have e2 := aiEq_ok q2
        have e3 : h.2 = -k := by omega
        rw [e3, Int.neg_mul]
        omega
      | false =>
        rw [abIf_f rfl]
        show (h.2 + k) * (rh x).getD 0 + afS rh r = _
        rw [Int.add_mul]
        omega
    | false =>
      rw [abIf_f rfl]
      cases q2 : Nat.ble x h.1 with
      | true => rw [abIf_t rfl]; rfl
      | false =>
        rw [abIf_f rfl]
        show h.2 * (rh h.1).getD 0 + afS rh (afIns x k r) = _
        rw [afIns_S r]
        omega
theorem afIns_D {rh : afR} {x : Nat} {k : Int} (hx : ∃ z, rh x = some z) : ∀ {l : afT}, afD rh l → afD rh (afIns x k l)
  | [], _ => fun p hp => by
    rcases List.mem_cons.mp hp with rfl | hp
    · exact hx
    · cases hp
  | h :: r, d => by
    have dr : afD rh r := fun q hq => d q (List.mem_cons_of_mem _ hq)
    show afD rh (abIf (Nat.beq x h.1) (abIf (aiEq (h.2 + k) 0) r ((x, h.2 + k) :: r)) (abIf (Nat.ble x h.1) ((x, k) :: h :: r) (h :: afIns x k r)))
    cases q : Nat.beq x h.1 with
    | true =>
      rw [abIf_t rfl]
      cases q2 : aiEq (h.2 + k) 0 with
      | true => rw [abIf_t rfl]; exact dr
      | false =>
        rw [abIf_f rfl]
        intro p hp
        rcases List.mem_cons.mp hp with rfl | hp
        · exact hx
        · exact dr p hp
    | false =>
      rw [abIf_f rfl]
      cases q2 : Nat.ble x h.1 with
      | true =>
        rw [abIf_t rfl]
        intro p hp
        rcases List.mem_cons.mp hp with rfl | hp
        · exact hx
        · exact d p hp
      | false =>
        rw [abIf_f rfl]
        intro p hp
        rcases List.mem_cons.mp hp with rfl | hp
        · exact d _ List.mem_cons_self
        · exact afIns_D hx dr p hp
/-- a and s times b -/
noncomputable def afAdS (s : Int) (a b : afT) : afT := List.rec a (fun p _ ih => afIns p.1 (s * p.2) ih) b
theorem afAdS_S {rh : afR} {s : Int} {a : afT} : ∀ b : afT, afS rh (afAdS s a b) = afS rh a + s * afS rh b
  | [] => by
    show afS rh a = afS rh a + s * 0
    omega
  | p :: b => by
    show afS rh (afIns p.1 (s * p.2) (afAdS s a b)) = afS rh a + s * (p.2 * (rh p.1).getD 0 + afS rh b)
    rw [afIns_S, afAdS_S b, Int.mul_add, Int.mul_assoc]
    omega
theorem afAdS_D {rh : afR} {s : Int} {a : afT} (da : afD rh a) : ∀ {b : afT}, afD rh b → afD rh (afAdS s a b)
  | [], _ => da
  | p :: b, d => afIns_D (d p List.mem_cons_self) (afAdS_D da (fun q hq => d q (List.mem_cons_of_mem _ hq)))
noncomputable def afAdd (f g : afF) : afF := (afAdS 1 f.1 g.1, f.2 + g.2)
noncomputable def afSub (f g : afF) : afF := (afAdS (-1) f.1 g.1, f.2 - g.2)
noncomputable def afMul (k : Int) (f : afF) : afF := abIf (aiEq k 0) ([], 0) (afAdS k [] f.1, k * f.2)
def afC (k : Int) : afF := ([], k)
def afN (x : Nat) : afF := ([(x, 1)], 0)
theorem afAdd_V {rh : afR} (f g : afF) : afV rh (afAdd f g) = afV rh f + afV rh g := by
  show afS rh (afAdS 1 f.1 g.1) + (f.2 + g.2) = (afS rh f.1 + f.2) + (afS rh g.1 + g.2)
  rw [afAdS_S]
  omega
theorem afSub_V {rh : afR} (f g : afF) : afV rh (afSub f g) = afV rh f - afV rh g := by
  show afS rh (afAdS (-1) f.1 g.1) + (f.2 - g.2) = (afS rh f.1 + f.2) - (afS rh g.1 + g.2)
  rw [afAdS_S]
  omega
theorem afMul_V {rh : afR} (k : Int) (f : afF) : afV rh (afMul k f) = k * afV rh f := by
  unfold afMul
  cases q : aiEq k 0 with
  | true =>
    rw [abIf_t rfl, aiEq_ok q, Int.zero_mul]
    rfl
  | false =>
    rw [abIf_f rfl]
    show afS rh (afAdS k [] f.1) + k * f.2 = k * (afS rh f.1 + f.2)
    rw [afAdS_S, Int.mul_add]
    show 0 + _ + _ = _
    omega
theorem afAdd_D {rh : afR} {f g : afF} (a : afD rh f.1) (b : afD rh g.1) : afD rh (afAdd f g).1 := afAdS_D a b
theorem afSub_D {rh : afR} {f g : afF} (a : afD rh f.1) (b : afD rh g.1) : afD rh (afSub f g).1 := afAdS_D a b
theorem afNil_D (rh : afR) : afD rh [] := fun _ h => by cases h
theorem afMul_D {rh : afR} {k : Int} {f : afF} (a : afD rh f.1) : afD rh (afMul k f).1 := by
  unfold afMul
  cases q : aiEq k 0 with
  | true => rw [abIf_t rfl]; exact afNil_D rh
  | false => rw [abIf_f rfl]; exact afAdS_D (afNil_D rh) a
theorem afC_V (rh : afR) (k : Int) : afV rh (afC k) = k := by
  show 0 + k = k
  omega
theorem afN_V {rh : afR} {x : Nat} {z : Int} (h : rh x = some z) : afV rh (afN x) = z := by
  show 1 * (rh x).getD 0 + 0 + 0 = z
  rw [h]
  show 1 * z + 0 + 0 = z
  omega
theorem afN_D {rh : afR} {x : Nat} {z : Int} (h : rh x = some z) : afD rh (afN x).1 := fun p hp => by
  rcases List.mem_cons.mp hp with rfl | hp
  · exact ⟨z, h⟩
  · cases hp
/-- sameness of forms -/
noncomputable def afQt (a : afT) : afT → Bool := List.rec (motive := fun _ => afT → Bool) (fun m => List.rec true (fun _ _ _ => false) m) (fun p _ ih m => List.rec false (fun q r _ => abIf (Nat.beq p.1 q.1) (abIf (aiEq p.2 q.2) (ih r) false) false) m) a
theorem afQt_ok : ∀ {a b : afT}, afQt a b = true → a = b
  | [], [], _ => rfl
  | [], _ :: _, h => by cases h
  | _ :: _, [], h => by cases h
  | p :: a, q :: b, h => by
    obtain ⟨h1, h2⟩ := abIf_and (show abIf (Nat.beq p.1 q.1) (abIf (aiEq p.2 q.2) (afQt a b) false) false = true from h)
    obtain ⟨h3, h4⟩ := abIf_and h2
    rw [afQt_ok h4, Prod.ext (abBeq h1) (aiEq_ok h3)]
noncomputable def afQ (f g : afF) : Bool := abIf (aiEq f.2 g.2) (afQt f.1 g.1) false
theorem afQ_ok {f g : afF} (h : afQ f g = true) : f = g := by
  obtain ⟨h1, h2⟩ := abIf_and h
  exact Prod.ext (afQt_ok h2) (aiEq_ok h1)
