/-! a contract out of its runs -/
theorem avFit_ok0 {sb : Nat} {RG : avRJ} {rh : afR} {ws : va_W} {s : avS} (hso : afSo rh s.1) (n6 : ∀ k ∈ s.2, avKn RG ws sb rh k) {th : List afF} {sh : avSh} {ls : List avV} (h0 : avShOk sh = true) (h : avFit s th sh ls = true) : (afSo (avRh rh th) (avSt0 sh).1 ∧ ∀ k ∈ (avSt0 sh).2, avKn RG ws sb (avRh rh th) k) ∧ sh.1.length = ls.length ∧ ∀ (i : Nat) (v w : avV) (x : Value), sh.1[i]? = some v → ls[i]? = some w → ¬ v.1 = 6 → avGv RG ws sb rh w x → avGv RG ws sb (avRh rh th) v x ∧ v.1 = w.1 := by
  obtain ⟨h1, h2⟩ := abIf_and h
  obtain ⟨h3, h4⟩ := abIf_and h2
  obtain ⟨h5, h6⟩ := abIf_and h4
  obtain ⟨h7, h8⟩ := abIf_and h6
  obtain ⟨g1, g2⟩ := abIf_and h0
  obtain ⟨g3, g4⟩ := abIf_and g2
  have hd := avScL_ok hso.1 h1
  obtain ⟨b1, b2⟩ := avBs_ok hso hd h5
  rw [b1] at g1 g3 g4
  obtain ⟨v1, v2⟩ := avVs_ok h3
  refine ⟨⟨⟨⟨?_, fun x hx => ?_, fun x hx => ?_⟩, avFs_ok hso hd g3 h7⟩, avKs_ok hd n6 g4 h8⟩, v1, fun i v w x hv hw h6 gx => ?_⟩
  · show sh.2.1.reverse.length = sh.2.1.length
    rw [List.length_reverse]
  · have hx' : x < sh.2.1.length := hx
    obtain ⟨q, q1, q2⟩ := afNth_rev sh.2.1 hx'
    refine ⟨_, avRh_some (by omega), ?_⟩
    show afIn (afNth sh.2.1.reverse (sh.2.1.length - 1 - x)) _
    rw [q2]
    exact b2 x q q1
  · have hx' : sh.2.1.length ≤ x := hx
    show (if x < th.length then _ else none) = none
    rw [if_neg (by omega)]
  · have e := v2 i v w hv hw h6
    subst e
    refine ⟨avGv_sb hd ?_ gx, rfl⟩
    have key : ∀ l : List avV, List.rec (motive := fun _ => Bool) true (fun v _ ih => abIf (avSc th.length v.2.2.1) ih false) l = true → ∀ v ∈ l, avSc th.length v.2.2.1 = true := by
      intro l
      induction l with
      | nil => intro _ v hv; cases hv
      | cons a l ih =>
        intro h v hv
        obtain ⟨q1, q2⟩ := abIf_and h
        rcases List.mem_cons.mp hv with rfl | hv
        · exact q1
        · exact ih q2 v hv
    exact key _ g1 v (List.mem_of_getElem? hv)
theorem avSok_sh {RG : avRJ} {ws : va_W} {sb : Nat} {rh rh' : afR} : ∀ {a b : List avV} {vs : List Value}, a.length = b.length → (∀ v ∈ a, v.1 ≤ 5) → (∀ (i : Nat) (v w : avV) (x : Value), a[i]? = some v → b[i]? = some w → ¬ v.1 = 6 → avGv RG ws sb rh w x → avGv RG ws sb rh' v x ∧ v.1 = w.1) → avSok RG ws sb rh b vs → avSok RG ws sb rh' a vs
  | [], [], _, _, _, _, h => h
  | [], _ :: _, _, hl, _, _, _ => by cases hl
  | _ :: _, [], _, hl, _, _, _ => by cases hl
  | v :: a, w :: b, _, hl, h5, hp, h => by
    obtain ⟨x, xr, rfl, g, h'⟩ := h
    have q5 := h5 v List.mem_cons_self
    refine ⟨x, xr, rfl, (hp 0 v w x rfl rfl (by omega) g).1, ?_⟩
    exact avSok_sh (by simpa using hl) (fun v hv => h5 v (List.mem_cons_of_mem _ hv)) (fun i v w x hv hw => hp (i + 1) v w x hv hw) h'
/-- what a contract's run must end with -/
noncomputable def avKc (i : avSi) (o : Option avV) (s : avS) : Bool := abIf (Nat.beq i.1 9) (Option.rec true (fun _ => false) o) (Option.rec false (fun v => avFits s v i) o)
theorem avKc_ok {RG : avRJ} {u : va_W} {sb : Nat} {rh rh1 : afR} {i : avSi} {o : Option avV} {q s : avS} {rv : Option Value} {K : Option avV → avS → Bool} (h : avKc i o q = true) (hq : afSo rh1 q.1) (hrv : avRv RG u sb rh1 o rv) (hl : u.length ≤ 4096) (hs : afSo rh s.1) (hK : avAns i (s.1, []) K = true) : ∃ (rh' : afR) (o' : Option avV) (q' : avS), K o' q' = true ∧ afLe rh rh' ∧ avRv RG u sb rh' o' rv ∧ afSo rh' q'.1 ∧ ∀ k ∈ q'.2, avKn RG u sb rh' k := by
  have h' : abIf (Nat.beq i.1 9) (Option.rec (motive := fun _ => Bool) true (fun _ => false) o) (Option.rec (motive := fun _ => Bool) false (fun v => avFits q v i) o) = true := h
  have hK' : abIf (Nat.beq i.1 9) (K none (s.1, [])) (avFirst i (s.1, []) fun v s => K (some v) s) = true := hK
  cases q9 : Nat.beq i.1 9 with
  | true =>
    rw [q9, abIf_t rfl] at h' hK'
    cases o with
    | some v => cases h'
    | none =>
      have e : rv = none := hrv
      subst e
      exact ⟨rh, none, (s.1, []), hK', afLe.rf rh, rfl, hs, fun k hk => (by cases hk)⟩
  | false =>
    rw [q9, abIf_f rfl] at h' hK'
    cases o with
    | none => cases h'
    | some v =>
      obtain ⟨x, rfl, g⟩ := hrv
      obtain ⟨rh', g', v', e1, e2, e3, e4⟩ := avFirst_ok (s := (s.1, [])) hs hl (avFits_ok hq g h') hK'
      exact ⟨rh', some v', (g', []), e1, e2, ⟨x, rfl, e4⟩, e3, fun k hk => (by cases hk)⟩
