/-! bounds of what is named, facts, and what follows -/
abbrev afE : Type := List (Int × Int)
noncomputable def afNth (l : afE) : Nat → Int × Int := List.rec (motive := fun _ => Nat → Int × Int) (fun _ => (0, 0)) (fun h _ ih i => Nat.rec h (fun n _ => ih n) i) l
noncomputable def afUpd (v : Int × Int) (l : afE) : Nat → afE := List.rec (motive := fun _ => Nat → afE) (fun _ => []) (fun h t ih i => Nat.rec (v :: t) (fun n _ => h :: ih n) i) l
theorem afUpd_len (v : Int × Int) : ∀ (l : afE) (i : Nat), (afUpd v l i).length = l.length
  | [], _ => rfl
  | _ :: _, 0 => rfl
  | h :: l, i + 1 => by
    show (h :: afUpd v l i).length = (h :: l).length
    rw [List.length_cons, List.length_cons, afUpd_len v l i]
theorem afUpd_nth (v : Int × Int) : ∀ (l : afE) (i j : Nat), afNth (afUpd v l i) j = afNth l j ∨ (j = i ∧ afNth (afUpd v l i) j = v)
  | [], _, _ => Or.inl rfl
  | _ :: _, 0, 0 => Or.inr ⟨rfl, rfl⟩
  | _ :: _, 0, _ + 1 => Or.inl rfl
  | _ :: _, _ + 1, 0 => Or.inl rfl
  | _ :: l, i + 1, j + 1 => by
    rcases afUpd_nth v l i j with h | ⟨h1, h2⟩
    · exact Or.inl h
    · exact Or.inr ⟨by rw [h1], h2⟩
def afIn (q : Int × Int) (z : Int) : Prop := q.1 ≤ z ∧ z ≤ q.2
def afEo (rh : afR) (n : Nat) (env : afE) : Prop := env.length = n ∧ (∀ x, x < n → ∃ z, rh x = some z ∧ afIn (afNth env (n - 1 - x)) z) ∧ ∀ x, n ≤ x → rh x = none
theorem afEo.at {rh : afR} {n : Nat} {env : afE} (h : afEo rh n env) {x : Nat} {z : Int} (hx : rh x = some z) : x < n ∧ afIn (afNth env (n - 1 - x)) z := by
  rcases Nat.lt_or_ge x n with q | q
  · obtain ⟨z', h1, h2⟩ := h.2.1 x q
    rw [hx] at h1
    cases h1
    exact ⟨q, h2⟩
  · rw [h.2.2 x q] at hx
    cases hx
noncomputable def afCl (k : Int) (q : Int × Int) : Int := abIf (aiLe 0 k) (k * q.1) (k * q.2)
noncomputable def afCh (k : Int) (q : Int × Int) : Int := abIf (aiLe 0 k) (k * q.2) (k * q.1)
theorem afCl_ok {k z : Int} {q : Int × Int} (h : afIn q z) : afCl k q ≤ k * z := by
  unfold afCl
  cases e : aiLe 0 k with
  | true => rw [abIf_t rfl]; exact Int.mul_le_mul_of_nonneg_left h.1 (aiLe_ok e)
  | false =>
    rw [abIf_f rfl]
    have h1 := aiLe_f e
    have h2 : (-k) * z ≤ (-k) * q.2 := Int.mul_le_mul_of_nonneg_left h.2 (by omega)
    rw [Int.neg_mul, Int.neg_mul] at h2
    omega
theorem afCh_ok {k z : Int} {q : Int × Int} (h : afIn q z) : k * z ≤ afCh k q := by
  unfold afCh
  cases e : aiLe 0 k with
  | true => rw [abIf_t rfl]; exact Int.mul_le_mul_of_nonneg_left h.2 (aiLe_ok e)
  | false =>
    rw [abIf_f rfl]
    have h1 := aiLe_f e
    have h2 : (-k) * q.1 ≤ (-k) * z := Int.mul_le_mul_of_nonneg_left h.1 (by omega)
    rw [Int.neg_mul, Int.neg_mul] at h2
    omega
noncomputable def afLoS (n : Nat) (env : afE) (t : afT) : Int := List.rec 0 (fun p _ ih => afCl p.2 (afNth env (n - 1 - p.1)) + ih) t
noncomputable def afHiS (n : Nat) (env : afE) (t : afT) : Int := List.rec 0 (fun p _ ih => afCh p.2 (afNth env (n - 1 - p.1)) + ih) t
theorem afTerm {rh : afR} {n : Nat} {env : afE} (he : afEo rh n env) {t : afT} (d : afD rh t) {p : Nat × Int} (hp : p ∈ t) : afIn (afNth env (n - 1 - p.1)) ((rh p.1).getD 0) := by
  obtain ⟨z, hz⟩ := d p hp
  rw [hz]
  exact (he.at hz).2
theorem afLoS_ok {rh : afR} {n : Nat} {env : afE} (he : afEo rh n env) : ∀ {t : afT}, afD rh t → afLoS n env t ≤ afS rh t
  | [], _ => Int.le_refl 0
  | p :: t, d => by
    have h1 := afLoS_ok he (t := t) (fun q hq => d q (List.mem_cons_of_mem _ hq))
    have h2 := afCl_ok (k := p.2) (afTerm he d List.mem_cons_self)
    show afCl p.2 (afNth env (n - 1 - p.1)) + afLoS n env t ≤ p.2 * (rh p.1).getD 0 + afS rh t
    omega
theorem afHiS_ok {rh : afR} {n : Nat} {env : afE} (he : afEo rh n env) : ∀ {t : afT}, afD rh t → afS rh t ≤ afHiS n env t
  | [], _ => Int.le_refl 0
  | p :: t, d => by
    have h1 := afHiS_ok he (t := t) (fun q hq => d q (List.mem_cons_of_mem _ hq))
    have h2 := afCh_ok (k := p.2) (afTerm he d List.mem_cons_self)
    show p.2 * (rh p.1).getD 0 + afS rh t ≤ afCh p.2 (afNth env (n - 1 - p.1)) + afHiS n env t
    omega
/-- what the others leave for one term -/
theorem afRest {rh : afR} {n : Nat} {env : afE} (he : afEo rh n env) : ∀ {t : afT}, afD rh t → ∀ p ∈ t, afS rh t - p.2 * (rh p.1).getD 0 ≤ afHiS n env t - afCh p.2 (afNth env (n - 1 - p.1))
  | [], _, _, h => by cases h
  | q :: t, d, p, hp => by
    have dt : afD rh t := fun q hq => d q (List.mem_cons_of_mem _ hq)
    show q.2 * (rh q.1).getD 0 + afS rh t - p.2 * (rh p.1).getD 0 ≤ afCh q.2 (afNth env (n - 1 - q.1)) + afHiS n env t - afCh p.2 (afNth env (n - 1 - p.1))
    rcases List.mem_cons.mp hp with rfl | hp
    · have := afHiS_ok he dt
      omega
    · have h1 := afRest he dt p hp
      have h2 := afCh_ok (k := q.2) (afTerm he d List.mem_cons_self)
      omega
/-- numbers named, their bounds, facts (each is at least 0) -/
abbrev afG : Type := Nat × afE × List afF
def afSo (rh : afR) (s : afG) : Prop := afEo rh s.1 s.2.1 ∧ ∀ f ∈ s.2.2, afD rh f.1 ∧ 0 ≤ afV rh f
noncomputable def afLo (s : afG) (f : afF) : Int := afLoS s.1 s.2.1 f.1 + f.2
noncomputable def afHi (s : afG) (f : afF) : Int := afHiS s.1 s.2.1 f.1 + f.2
theorem afLo_ok {rh : afR} {s : afG} {f : afF} (h : afSo rh s) (d : afD rh f.1) : afLo s f ≤ afV rh f := by
  have := afLoS_ok h.1 d
  unfold afLo afV
  omega
theorem afHi_ok {rh : afR} {s : afG} {f : afF} (h : afSo rh s) (d : afD rh f.1) : afV rh f ≤ afHi s f := by
  have := afHiS_ok h.1 d
  unfold afHi afV
  omega
/-- f is at least 0: by bounds, or by one fact and bounds -/
noncomputable def afEnt1 (s : afG) (f : afF) : Bool := abIf (aiLe 0 (afLo s f)) true (List.rec false (fun c _ ih => abIf (aiLe 0 (afLo s (afSub f c))) true ih) s.2.2)
theorem afEnt1_ok {rh : afR} {s : afG} {f : afF} (hs : afSo rh s) (d : afD rh f.1) (h : afEnt1 s f = true) : 0 ≤ afV rh f := by
  rcases abIf_or h with q | q
  · have := aiLe_ok q
    have := afLo_ok hs d
    omega
  · have key : ∀ l : List afF, (∀ c ∈ l, afD rh c.1 ∧ 0 ≤ afV rh c) → List.rec (motive := fun _ => Bool) false (fun c _ ih => abIf (aiLe 0 (afLo s (afSub f c))) true ih) l = true → 0 ≤ afV rh f := by
      intro l
      induction l with
      | nil => intro _ h; cases h
      | cons c l ih =>
        intro hl h
        rcases abIf_or h with q | q
        · obtain ⟨d1, p1⟩ := hl c List.mem_cons_self
          have := aiLe_ok q
          have h2 := afLo_ok hs (afSub_D d d1)
          rw [afSub_V] at h2
          omega
        · exact ih (fun c hc => hl c (List.mem_cons_of_mem _ hc)) q
    exact key _ hs.2 q
/-- or by two facts -/
noncomputable def afEnt (s : afG) (f : afF) : Bool := abIf (afEnt1 s f) true (List.rec false (fun c _ ih => abIf (afEnt1 s (afSub f c)) true ih) s.2.2)
theorem afEnt_ok {rh : afR} {s : afG} {f : afF} (hs : afSo rh s) (d : afD rh f.1) (h : afEnt s f = true) : 0 ≤ afV rh f := by
  rcases abIf_or h with q | q
  · exact afEnt1_ok hs d q
  · have key : ∀ l : List afF, (∀ c ∈ l, afD rh c.1 ∧ 0 ≤ afV rh c) → List.rec (motive := fun _ => Bool) false (fun c _ ih => abIf (afEnt1 s (afSub f c)) true ih) l = true → 0 ≤ afV rh f := by
      intro l
      induction l with
      | nil => intro _ h; cases h
      | cons c l ih =>
        intro hl h
        rcases abIf_or h with q | q
        · obtain ⟨d1, p1⟩ := hl c List.mem_cons_self
          have h2 := afEnt1_ok hs (afSub_D d d1) q
          rw [afSub_V] at h2
          omega
        · exact ih (fun c hc => hl c (List.mem_cons_of_mem _ hc)) q
    exact key _ hs.2 q
/-- a fact makes one bound narrower -/
noncomputable def afT1 (n : Nat) (f : afF) (p : Nat × Int) (env : afE) : afE :=
  abIf (aiLe 1 p.2)
    (abIf (aiLe (-((afHiS n env f.1 + f.2 - afCh p.2 (afNth env (n - 1 - p.1))) / p.2)) (afNth env (n - 1 - p.1)).1) env
      (afUpd (-((afHiS n env f.1 + f.2 - afCh p.2 (afNth env (n - 1 - p.1))) / p.2), (afNth env (n - 1 - p.1)).2) env (n - 1 - p.1)))
    (abIf (aiLe 1 (-p.2))
      (abIf (aiLe (afNth env (n - 1 - p.1)).2 ((afHiS n env f.1 + f.2 - afCh p.2 (afNth env (n - 1 - p.1))) / (-p.2))) env
        (afUpd ((afNth env (n - 1 - p.1)).1, (afHiS n env f.1 + f.2 - afCh p.2 (afNth env (n - 1 - p.1))) / (-p.2)) env (n - 1 - p.1))) env)
theorem afEo_upd {rh : afR} {n : Nat} {env : afE} (he : afEo rh n env) {x : Nat} {z : Int} (hx : rh x = some z) {q : Int × Int} (hq : afIn q z) : afEo rh n (afUpd q env (n - 1 - x)) := by
  obtain ⟨h1, h2, h3⟩ := he
  obtain ⟨hn, -⟩ := afEo.at ⟨h1, h2, h3⟩ hx
  refine ⟨by rw [afUpd_len, h1], fun y hy => ?_, h3⟩
  obtain ⟨w, hw, hb⟩ := h2 y hy
  refine ⟨w, hw, ?_⟩
  rcases afUpd_nth q env (n - 1 - x) (n - 1 - y) with e | ⟨e1, e2⟩
  · rw [e]; exact hb
  · have : y = x := by omega
    subst this
    rw [hx] at hw
    cases hw
    rw [e2]
    exact hq
theorem afT1_ok {rh : afR} {n : Nat} {env : afE} (he : afEo rh n env) {f : afF} (d : afD rh f.1) (h : 0 ≤ afV rh f) {p : Nat × Int} (hp : p ∈ f.1) : afEo rh n (afT1 n f p env) := by
  obtain ⟨z, hz⟩ := d p hp
  have hr := afRest he d p hp
  have hb := (he.at hz).2
  rw [hz] at hr
  have hr' : afS rh f.1 - p.2 * z ≤ afHiS n env f.1 - afCh p.2 (afNth env (n - 1 - p.1)) := hr
  have h' : 0 ≤ afS rh f.1 + f.2 := h
  unfold afT1
  generalize hR : afHiS n env f.1 + f.2 - afCh p.2 (afNth env (n - 1 - p.1)) = r
  have hk : -(p.2 * z) ≤ r := by omega
  cases q1 : aiLe 1 p.2 with
  | true =>
    rw [abIf_t rfl]
    have k1 := aiLe_ok q1
    have h3 : -z ≤ r / p.2 := Int.le_ediv_of_mul_le (by omega) (by rw [Int.neg_mul, Int.mul_comm]; exact hk)
    cases q2 : aiLe (-(r / p.2)) (afNth env (n - 1 - p.1)).1 with
    | true => rw [abIf_t rfl]; exact he
    | false =>
      rw [abIf_f rfl]
      exact afEo_upd he hz ⟨by show -(r / p.2) ≤ z; omega, hb.2⟩
  | false =>
    rw [abIf_f rfl]
    cases q3 : aiLe 1 (-p.2) with
    | false => rw [abIf_f rfl]; exact he
    | true =>
      rw [abIf_t rfl]
      have k1 := aiLe_ok q3
      have h3 : z ≤ r / (-p.2) := Int.le_ediv_of_mul_le (by omega) (by rw [Int.mul_neg, Int.mul_comm]; exact hk)
      cases q2 : aiLe (afNth env (n - 1 - p.1)).2 (r / (-p.2)) with
      | true => rw [abIf_t rfl]; exact he
      | false =>
        rw [abIf_f rfl]
        exact afEo_upd he hz ⟨hb.1, h3⟩
noncomputable def afTi (n : Nat) (f : afF) (t : afT) (env : afE) : afE := List.rec env (fun p _ ih => afT1 n f p ih) t
theorem afTi_ok {rh : afR} {n : Nat} {env : afE} (he : afEo rh n env) {f : afF} (d : afD rh f.1) (h : 0 ≤ afV rh f) : ∀ {t : afT}, (∀ p ∈ t, p ∈ f.1) → afEo rh n (afTi n f t env)
  | [], _ => he
  | p :: t, ht => afT1_ok (afTi_ok he d h (t := t) (fun q hq => ht q (List.mem_cons_of_mem _ hq))) d h (ht p List.mem_cons_self)
noncomputable def afTa (n : Nat) (l : List afF) (env : afE) : afE := List.rec env (fun c _ ih => afTi n c c.1 ih) l
theorem afTa_ok {rh : afR} {n : Nat} {env : afE} (he : afEo rh n env) : ∀ {l : List afF}, (∀ c ∈ l, afD rh c.1 ∧ 0 ≤ afV rh c) → afEo rh n (afTa n l env)
  | [], _ => he
  | c :: l, hl => by
    obtain ⟨d, h⟩ := hl c List.mem_cons_self
    exact afTi_ok (afTa_ok he (fun c hc => hl c (List.mem_cons_of_mem _ hc))) d h (fun _ q => q)
noncomputable def afTwo (t : afT) : Bool := List.rec false (fun _ r _ => List.rec false (fun _ _ _ => true) r) t
/-- one fact more -/
noncomputable def afAd (s : afG) (f : afF) : afG := (s.1, afTa s.1 s.2.2 (afTi s.1 f f.1 s.2.1), abIf (afTwo f.1) (f :: s.2.2) s.2.2)
theorem afAd_ok {rh : afR} {s : afG} {f : afF} (hs : afSo rh s) (d : afD rh f.1) (h : 0 ≤ afV rh f) : afSo rh (afAd s f) := by
  refine ⟨afTa_ok (afTi_ok hs.1 d h (fun _ q => q)) hs.2, ?_⟩
  show ∀ c ∈ abIf (afTwo f.1) (f :: s.2.2) s.2.2, afD rh c.1 ∧ 0 ≤ afV rh c
  cases q : afTwo f.1 with
  | false => rw [abIf_f rfl]; exact hs.2
  | true =>
    rw [abIf_t rfl]
    intro c hc
    rcases List.mem_cons.mp hc with rfl | hc
    · exact ⟨d, h⟩
    · exact hs.2 c hc
/-- what follows where f is at least 0 -/
noncomputable def afAsm (s : afG) (f : afF) (K : afG → Bool) : Bool := abIf (aiLe 0 (afHi s f)) (abIf (aiLe 0 (afLo s f)) (K s) (K (afAd s f))) true
theorem afAsm_ok {rh : afR} {s : afG} {f : afF} {K : afG → Bool} (h : afAsm s f K = true) (hs : afSo rh s) (d : afD rh f.1) (hf : 0 ≤ afV rh f) : ∃ s' : afG, K s' = true ∧ afSo rh s' ∧ s'.1 = s.1 := by
  unfold afAsm at h
  cases q1 : aiLe 0 (afHi s f) with
  | false =>
    have := aiLe_f q1
    have := afHi_ok hs d
    omega
  | true =>
    rw [q1, abIf_t rfl] at h
    cases q2 : aiLe 0 (afLo s f) with
    | true =>
      rw [q2, abIf_t rfl] at h
      exact ⟨s, h, hs, rfl⟩
    | false =>
      rw [q2, abIf_f rfl] at h
      exact ⟨_, h, afAd_ok hs d hf, rfl⟩
/-- a new name -/
noncomputable def afFr (s : afG) (lo hi : Int) : afG := (s.1 + 1, (lo, hi) :: s.2.1, s.2.2)
theorem afFr_ok {rh : afR} {s : afG} {lo hi z : Int} (hs : afSo rh s) (h1 : lo ≤ z) (h2 : z ≤ hi) : ∃ rh' : afR, afLe rh rh' ∧ rh' s.1 = some z ∧ afSo rh' (afFr s lo hi) := by
  obtain ⟨⟨e1, e2, e3⟩, hc⟩ := hs
  have hle : afLe rh (fun x => if x = s.1 then some z else rh x) := fun x w hx => by
    have hn : ¬ x = s.1 := fun e => by
      rw [e3 x (by omega)] at hx
      cases hx
    show (if x = s.1 then some z else rh x) = some w
    rw [if_neg hn]
    exact hx
  refine ⟨fun x => if x = s.1 then some z else rh x, hle, if_pos rfl, ⟨⟨?_, fun x hx => ?_, fun x hx => ?_⟩, fun f hf => ?_⟩⟩
  · show s.2.1.length + 1 = s.1 + 1
    rw [e1]
  · have hx' : x < s.1 + 1 := hx
    by_cases e : x = s.1
    · refine ⟨z, if_pos e, ?_⟩
      show afIn (afNth ((lo, hi) :: s.2.1) (s.1 + 1 - 1 - x)) z
      rw [show s.1 + 1 - 1 - x = 0 by omega]
      exact ⟨h1, h2⟩
    · obtain ⟨w, hw, hb⟩ := e2 x (by omega)
      refine ⟨w, hle x w hw, ?_⟩
      show afIn (afNth ((lo, hi) :: s.2.1) (s.1 + 1 - 1 - x)) w
      rw [show s.1 + 1 - 1 - x = (s.1 - 1 - x) + 1 by omega]
      exact hb
  · have hx' : s.1 + 1 ≤ x := hx
    show (if x = s.1 then some z else rh x) = none
    rw [if_neg (by omega)]
    exact e3 x (by omega)
  · obtain ⟨d, h⟩ := hc f hf
    exact ⟨d.mono hle, by rw [afV_mono hle d]; exact h⟩
