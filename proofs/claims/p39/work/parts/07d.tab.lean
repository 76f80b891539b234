/-! THE TABLES ARE RIGHT: each entry against the bytes and the words of the Statement -/
noncomputable def abLi {al : Type} (l : List al) : Nat → Option al := List.rec (motive := fun _ => Nat → Option al) (fun _ => none) (fun h _ ih i => Nat.rec (some h) (fun n _ => ih n) i) l
theorem abLi_mem {al : Type} : ∀ {l : List al} {i : Nat} {w : al}, abLi l i = some w → w ∈ l
  | [], _, _, h => by cases h
  | _ :: _, 0, _, h => by cases h; exact List.mem_cons_self
  | _ :: l, i + 1, _, h => List.mem_cons_of_mem _ (abLi_mem (l := l) (i := i) h)
noncomputable def abWc1 (w : Jvm.Cond) (i : Nat) : Bool := (decide (abLi lw_tbl i = some w) && goodWord w) || decide (w ∈ abNw)
theorem abWc1_ok {w : Jvm.Cond} {i : Nat} (h : abWc1 w i = true) : w ∈ abTw := by
  rcases Bool.or_eq_true_iff.mp h with q | q
  · obtain ⟨h1, h2⟩ := Bool.and_eq_true_iff.mp q
    exact abTaT (abLi_mem (of_decide_eq_true h1)) h2
  · exact List.mem_append.mpr (Or.inr (of_decide_eq_true q))
noncomputable def abWck (ws : List Jvm.Cond) : List Nat → Bool := List.rec (motive := fun _ => List Nat → Bool) (fun _ => true) (fun w _ ih is => List.rec false (fun i is' _ => abIf (abWc1 w i) (ih is') false) is) ws
theorem abWck_ok : ∀ {ws : List Jvm.Cond} {is : List Nat}, abWck ws is = true → ∀ w ∈ ws, w ∈ abTw
  | [], _, _, _, h => by cases h
  | w :: ws, [], h, _, _ => by cases h
  | w :: ws, i :: is, h, v, hv => by
    have h' : abIf (abWc1 w i) (abWck ws is) false = true := h
    cases q : abWc1 w i with
    | false => rw [abIf_f q] at h'; cases h'
    | true =>
      rw [abIf_t q] at h'
      rcases List.mem_cons.mp hv with rfl | hv
      · exact abWc1_ok q
      · exact abWck_ok h' v hv
noncomputable def abEtb (k : Nat) (e : abEy) : Bool :=
  (decide (e.1 = 85) || (match abIns e with | some i => decide (decode (abBy k) e.2.1 = .ok i) | none => false)) && abWck (abWds k e) e.2.2.2.2.2 && abSmk k e && decide (e.1 < 88)
theorem abEtb_ok {k : Nat} {e : abEy} (h : abEtb k e = true) : abEtOk k e ∧ e.1 < 88 := by
  obtain ⟨h1, h2⟩ := Bool.and_eq_true_iff.mp h
  obtain ⟨h3, h4⟩ := Bool.and_eq_true_iff.mp h1
  obtain ⟨h5, h6⟩ := Bool.and_eq_true_iff.mp h3
  refine ⟨⟨?_, abWck_ok h6, h4⟩, of_decide_eq_true h2⟩
  rcases Bool.or_eq_true_iff.mp h5 with q | q
  · exact Or.inl (of_decide_eq_true q)
  · cases hi : abIns e with
    | none => rw [hi] at q; cases q
    | some i =>
      rw [hi] at q
      exact Or.inr ⟨i, rfl, of_decide_eq_true q⟩
/-- the entries of a method between two places -/
noncomputable def abTrr (k lo hi : Nat) (t : Lean.RArray abEy) : Bool := Lean.RArray.rec (fun e => abIf (Nat.ble lo e.2.1) (abIf (Nat.ble (e.2.1 + 1) hi) (abEtb k e) true) true) (fun _ _ _ a b => abIf a b false) t
theorem abTrr_ok {k lo hi : Nat} : ∀ {t : Lean.RArray abEy}, abTrr k lo hi t = true → ∀ pc : Nat, lo ≤ (t.get pc).2.1 → (t.get pc).2.1 < hi → abEtOk k (t.get pc) ∧ (t.get pc).1 < 88
  | .leaf e, h, pc, h1, h2 => by
    have h' : abIf (Nat.ble lo e.2.1) (abIf (Nat.ble (e.2.1 + 1) hi) (abEtb k e) true) true = true := h
    rw [abIf_t (abBle_t h1), abIf_t (abBle_t h2)] at h'
    exact abEtb_ok h'
  | .branch p l r, h, pc, h1, h2 => by
    have h' : abIf (abTrr k lo hi l) (abTrr k lo hi r) false = true := h
    cases q : abTrr k lo hi l with
    | false => rw [abIf_f q] at h'; cases h'
    | true =>
      rw [abIf_t q] at h'
      cases hb : Nat.ble p pc with
      | true =>
        rw [abGet_b1 hb] at h1 h2 ⊢
        exact abTrr_ok h' pc h1 h2
      | false =>
        rw [abGet_b0 hb] at h1 h2 ⊢
        exact abTrr_ok q pc h1 h2
/-- the entries of a method from a place on -/
noncomputable def abTru (k lo : Nat) (t : Lean.RArray abEy) : Bool := Lean.RArray.rec (fun e => abIf (Nat.ble lo e.2.1) (abEtb k e) true) (fun _ _ _ a b => abIf a b false) t
theorem abTru_ok {k lo : Nat} : ∀ {t : Lean.RArray abEy}, abTru k lo t = true → ∀ pc : Nat, lo ≤ (t.get pc).2.1 → abEtOk k (t.get pc) ∧ (t.get pc).1 < 88
  | .leaf e, h, pc, h1 => by
    have h' : abIf (Nat.ble lo e.2.1) (abEtb k e) true = true := h
    rw [abIf_t (abBle_t h1)] at h'
    exact abEtb_ok h'
  | .branch p l r, h, pc, h1 => by
    have h' : abIf (abTru k lo l) (abTru k lo r) false = true := h
    cases q : abTru k lo l with
    | false => rw [abIf_f q] at h'; cases h'
    | true =>
      rw [abIf_t q] at h'
      cases hb : Nat.ble p pc with
      | true =>
        rw [abGet_b1 hb] at h1 ⊢
        exact abTru_ok h' pc h1
      | false =>
        rw [abGet_b0 hb] at h1 ⊢
        exact abTru_ok q pc h1
/-- the methods between a and a + n -/
noncomputable def abTrs (a n : Nat) : Bool := Nat.rec true (fun n ih => abIf (abTru (a + n) 0 (abMe (a + n)).2.2.2.2.2) ih false) n
theorem abTrs_ok {a : Nat} : ∀ {n : Nat}, abTrs a n = true → ∀ k, a ≤ k → k < a + n → abTru k 0 (abMe k).2.2.2.2.2 = true
  | 0, _, k, h1, h2 => absurd h1 (by omega)
  | n + 1, h, k, h1, h2 => by
    have h' : abIf (abTru (a + n) 0 (abMe (a + n)).2.2.2.2.2) (abTrs a n) false = true := h
    cases q : abTru (a + n) 0 (abMe (a + n)).2.2.2.2.2 with
    | false => rw [abIf_f q] at h'; cases h'
    | true =>
      rw [abIf_t q] at h'
      by_cases e : k = a + n
      · rw [e]; exact q
      · exact abTrs_ok h' k h1 (by omega)
/-- where a method's own words stand -/
noncomputable def abMkb (q pc pi : Nat) : Bool := plainFor (abNm q) && decide (abLi lw_tbl pc = some (Jvm.Cond.code (abNm q) (abBy q) (abMe q).1.2.2.1 (abRtT q))) && decide (abLi lw_tbl pi = some (Jvm.Cond.initialized (abNm q).cls)) && decide ((abNm q).cls ≠ "java/lang/invoke/MethodHandle") && decide ((abNm q).cls ≠ "java/lang/invoke/VarHandle") && decide ((parseMethodDescriptor (abNm q).desc).map (fun d => d.parameters.length) = some (abMe q).2.1) && decide ((abMe q).1.2.2.1 ≤ 41) && goodWord (Jvm.Cond.code (abNm q) (abBy q) (abMe q).1.2.2.1 (abRtT q)) && goodWord (Jvm.Cond.initialized (abNm q).cls)
theorem abMkb_ok {q pc pi : Nat} (h : abMkb q pc pi = true) : abMok q := by
  obtain ⟨h9, g9⟩ := Bool.and_eq_true_iff.mp h
  obtain ⟨h8, g8⟩ := Bool.and_eq_true_iff.mp h9
  obtain ⟨h1, g7⟩ := Bool.and_eq_true_iff.mp h8
  obtain ⟨h2, g6⟩ := Bool.and_eq_true_iff.mp h1
  obtain ⟨h3, g5⟩ := Bool.and_eq_true_iff.mp h2
  obtain ⟨h4, g4⟩ := Bool.and_eq_true_iff.mp h3
  obtain ⟨h5, g3⟩ := Bool.and_eq_true_iff.mp h4
  obtain ⟨g1, g2⟩ := Bool.and_eq_true_iff.mp h5
  exact ⟨g1, List.mem_filter.mpr ⟨abLi_mem (of_decide_eq_true g2), g8⟩, List.mem_filter.mpr ⟨abLi_mem (of_decide_eq_true g3), g9⟩, ⟨of_decide_eq_true g4, of_decide_eq_true g5, of_decide_eq_true g6⟩, of_decide_eq_true g7⟩
noncomputable def abMks (a : Nat) (l : List (Nat × Nat)) : Bool := List.rec (motive := fun _ => Nat → Bool) (fun _ => true) (fun h _ ih q => abIf (abMkb q h.1 h.2) (ih (q + 1)) false) l a
theorem abMks_ok : ∀ {l : List (Nat × Nat)} {a : Nat}, abMks a l = true → ∀ q, a ≤ q → q < a + l.length → abMok q
  | [], a, _, q, h1, h2 => absurd h1 (by simp at h2; omega)
  | x :: l, a, h, q, h1, h2 => by
    have h' : abIf (abMkb a x.1 x.2) (abMks (a + 1) l) false = true := h
    cases z : abMkb a x.1 x.2 with
    | false => rw [abIf_f z] at h'; cases h'
    | true =>
      rw [abIf_t z] at h'
      by_cases e : q = a
      · rw [e]; exact abMkb_ok z
      · exact abMks_ok h' q (by omega) (by simp at h2; omega)
