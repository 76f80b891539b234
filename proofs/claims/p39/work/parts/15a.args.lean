/-! arguments -/
theorem avSm_ok {RG : avRJ} {ws : va_W} {sb : Nat} {rh : afR} : ∀ {st : List avV} {xs : List Value}, avSok RG ws sb rh st xs → (xs.map fun v => v.category).sum ≤ avSm st
  | [], xs, h => by
    have e : xs = [] := h
    subst e
    exact Nat.le_refl _
  | v :: st, _, h => by
    obtain ⟨x, xr, rfl, g, h'⟩ := h
    have ih := avSm_ok h'
    have hs : avSm (v :: st) = abIf (Nat.beq v.1 1) (avSm st + 2) (abIf (Nat.ble v.1 5) (avSm st + 1) (avSm st + 2)) := rfl
    rw [List.map_cons, List.sum_cons, hs]
    have hc := lv_cat x
    cases q1 : Nat.beq v.1 1 with
    | true => rw [abIf_t rfl]; omega
    | false =>
      rw [abIf_f rfl]
      cases q2 : Nat.ble v.1 5 with
      | false => rw [abIf_f rfl]; omega
      | true =>
        rw [abIf_t rfl]
        have := avCat1 (by have := abBle q2; omega) (abBeq_f q1) g
        omega
theorem avTk_ok {RG : avRJ} {ws : va_W} {sb : Nat} {rh : afR} {K : List avV → List avV → Bool} : ∀ (n : Nat) (acc st : List avV) (xs ys : List Value), avTk K n acc st = true → avSok RG ws sb rh st xs → avSok RG ws sb rh acc ys → (∀ v ∈ acc, v.1 ≤ 5) → ∃ (as rest : List avV) (zs rx : List Value), K as rest = true ∧ xs = zs.reverse ++ rx ∧ zs.length = n ∧ avSok RG ws sb rh as (zs ++ ys) ∧ avSok RG ws sb rh rest rx ∧ ∀ v ∈ as, v.1 ≤ 5
  | 0, acc, st, xs, ys, h, hS, hA, h7 => ⟨acc, st, [], xs, h, rfl, rfl, hA, hS, h7⟩
  | n + 1, acc, st, xs, ys, h, hS, hA, h7 => by
    obtain ⟨v, st', rfl, h1⟩ := avHd_some (show avHd st (fun v r => abIf (Nat.ble v.1 5) (abIf (Nat.beq v.1 4) false (avTk K n (v :: acc) r)) false) = true from h)
    obtain ⟨h2, h3⟩ := abIf_and h1
    have h4 : avTk K n (v :: acc) st' = true := by
      cases q : Nat.beq v.1 4 with
      | true => rw [q, abIf_t rfl] at h3; cases h3
      | false => rw [q, abIf_f rfl] at h3; exact h3
    obtain ⟨x, xr, rfl, gv, hS'⟩ := hS
    obtain ⟨as, rest, zs, rx, q1, q2, q3, q4, q5, q6⟩ := avTk_ok n (v :: acc) st' xr (x :: ys) h4 hS' ⟨x, ys, rfl, gv, hA⟩ (fun w hw => by
      rcases List.mem_cons.mp hw with rfl | hw
      · exact abBle h2
      · exact h7 w hw)
    refine ⟨as, rest, zs ++ [x], rx, q1, by rw [List.reverse_append, q2]; rfl, by rw [List.length_append, q3]; rfl, by rw [List.append_assoc]; exact q4, q5, q6⟩
theorem avJs_get : ∀ (n i : Nat) (v : avV), (avJs n)[i]? = some v → v = avJ
  | 0, _, _, h => by cases h
  | n + 1, 0, v, h => (Option.some.inj h).symm
  | n + 1, i + 1, v, h => avJs_get n i v h
theorem avJs_len : ∀ n : Nat, (avJs n).length = n
  | 0 => rfl
  | n + 1 => congrArg Nat.succ (avJs_len n)
theorem avEn_ok {RG : avRJ} {ws : va_W} {sb : Nat} {rh : afR} : ∀ (as : List avV) (vs : List Value) (n base : Nat), avSok RG ws sb rh as vs → (∀ v ∈ as, v.1 ≤ 5) → avSm as ≤ n → (avEn as n).length = n ∧ (lg_sl vs).length ≤ n ∧ ∀ (i : Nat) (v : avV), (avEn as n)[i]? = some v → ¬ v.1 = 6 → ∃ x : Value, (base + i, x) ∈ lv_args base vs ∧ avGv RG ws sb rh v x
  | [], vs, n, base, hS, h7, hn => by
    have e : vs = [] := hS
    subst e
    refine ⟨avJs_len n, Nat.zero_le _, fun i v hi hv => ?_⟩
    have e := avJs_get n i v hi
    subst e
    exact absurd rfl hv
  | v :: as, vs, n, base, hS, h7, hn => by
    obtain ⟨x, xr, rfl, gv, hS'⟩ := hS
    have hv7 := h7 v List.mem_cons_self
    have h7' : ∀ w ∈ as, w.1 ≤ 5 := fun w hw => h7 w (List.mem_cons_of_mem _ hw)
    have hs : avSm (v :: as) = abIf (Nat.beq v.1 1) (avSm as + 2) (abIf (Nat.ble v.1 5) (avSm as + 1) (avSm as + 2)) := rfl
    rw [hs] at hn
    have he : avEn (v :: as) n = abIf (Nat.beq v.1 1) (v :: avJ :: avEn as (n - 2)) (v :: avEn as (n - 1)) := rfl
    rw [he]
    cases q1 : Nat.beq v.1 1 with
    | true =>
      rw [q1, abIf_t rfl] at hn
      rw [abIf_t rfl]
      obtain ⟨-, y, rfl, -⟩ := avGv_l gv (abBeq q1)
      obtain ⟨r1, r2, r3⟩ := avEn_ok as xr (n - 2) (base + 2) hS' h7' (by omega)
      refine ⟨by simp only [List.length_cons, r1]; omega, ?_, fun i w hi hw => ?_⟩
      · have e : lg_sl (Value.long y :: xr) = [.val (.long y), .second] ++ lg_sl xr := rfl
        rw [e, List.length_append]
        simp only [List.length_cons, List.length_nil]
        omega
      · match i, hi with
        | 0, hi =>
          cases hi
          exact ⟨.long y, List.mem_cons_self, gv⟩
        | 1, hi =>
          cases hi
          exact absurd rfl hw
        | i + 2, hi =>
          obtain ⟨x', z1, z2⟩ := r3 i w hi hw
          refine ⟨x', ?_, z2⟩
          have e : lv_args base (Value.long y :: xr) = (base, .long y) :: lv_args (base + 2) xr := rfl
          rw [e, show base + (i + 2) = base + 2 + i by omega]
          exact List.mem_cons_of_mem _ z1
    | false =>
      rw [q1, abIf_f rfl, abIf_t (abBle_t hv7)] at hn
      rw [abIf_f rfl]
      have hc := avCat1 (by omega) (abBeq_f q1) gv
      have hc2 : ¬ x.category = 2 := by omega
      obtain ⟨r1, r2, r3⟩ := avEn_ok as xr (n - 1) (base + 1) hS' h7' (by omega)
      refine ⟨by simp only [List.length_cons, r1]; omega, ?_, fun i w hi hw => ?_⟩
      · have e : lg_sl (x :: xr) = [.val x] ++ lg_sl xr := by simp [lg_sl, hc2]
        rw [e, List.length_append]
        simp only [List.length_cons, List.length_nil]
        omega
      · match i, hi with
        | 0, hi =>
          cases hi
          exact ⟨x, List.mem_cons_self, gv⟩
        | i + 1, hi =>
          obtain ⟨x', z1, z2⟩ := r3 i w hi hw
          refine ⟨x', ?_, z2⟩
          have e : lv_args base (x :: xr) = (base, x) :: lv_args (base + 1) xr := by simp [lv_args, hc2]
          rw [e, show base + (i + 1) = base + 1 + i by omega]
          exact List.mem_cons_of_mem _ z1
