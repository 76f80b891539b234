/-! SOUNDNESS, 3: calls and the run -/
noncomputable def abWs (q : Nat) : List Jvm.Cond := Jvm.Cond.code (abNm q) (abBy q) (abMe q).1.2.2.1 (abRtT q) :: abTb
noncomputable def abRoom (q d : Nat) : Room := { frames := d + 1, cells := (abMe q).2.2.1, slots := (abMe q).2.2.2.1, locals := 60 * (d + 1) }
/-- what must hold of a method that is called -/
def abMok (q : Nat) : Prop := plainFor (abNm q) = true ∧ Jvm.Cond.code (abNm q) (abBy q) (abMe q).1.2.2.1 (abRtT q) ∈ abTb ∧ Jvm.Cond.initialized (abNm q).cls ∈ abTb ∧ ((abNm q).cls ≠ "java/lang/invoke/MethodHandle" ∧ (abNm q).cls ≠ "java/lang/invoke/VarHandle" ∧ (parseMethodDescriptor (abNm q).desc).map (fun d => d.parameters.length) = some (abMe q).2.1) ∧ (abMe q).1.2.2.1 ≤ 41
/-- the tables are right -/
def abTabs : Prop := (∀ q, q < abNM → abMok q) ∧ (∀ w ∈ abTb, goodWord w = true) ∧ ∀ k pc : Nat, k < abNM + 3 → ((abMe k).2.2.2.2.2.get pc).2.1 = pc → abEtOk k ((abMe k).2.2.2.2.2.get pc) ∧ ((abMe k).2.2.2.2.2.get pc).1 < 88
def abXp (t : Lean.RArray abEy) (x : abF) : Prop := (t.get x.1).2.1 = x.1 ∧ 82 ≤ (t.get x.1).1 ∧ (t.get x.1).1 ≤ 85 ∧ abRt (t.get x.1) x.1 x.2.1 x.2.2.1 x.2.2.2 = some [x]
def abSd (D : va_G) (z sb sl : Nat) (rh : Nat → Int) (w0 : va_W) (p : Program) (l : Launch) (ev : Env) (R : Room) (s : State) (m : MethodId) (args : Array Value) (below : List Frame) (meth : Method) (c : Code) (Q : State → Prop) (t : Lean.RArray abEy) (r : List abF) : Prop :=
  ∀ x ∈ r, abXp t x → abW D z sb sl rh w0 p l ev R s m args below meth c Q x.1 x.2.1 x.2.2.1 x.2.2.2
/-- the run is sound up to n steps -/
def abRuns (D : va_G) (z sb sl : Nat) (rh : Nat → Int) (xs0 : Nat → Int32) (n : Nat) : Prop := ∀ (w0 : va_W) (p : Program) (l : Launch) (ev : Env) (R : Room) (s : State) (m : MethodId) (args : Array Value) (below : List Frame) (meth : Method) (c : Code) (Q : State → Prop) (k d pc : Nat) (ls st : List abV) (g : abSt) (r : List abF), abFr z sb sl rh xs0 k d p R s m args meth c → k < abNM + 3 → abRun n d k (abMe k).2.2.2.2.2 pc ls st g = some r → abSd D z sb sl rh w0 p l ev R s m args below meth c Q (abMe k).2.2.2.2.2 r → abW D z sb sl rh w0 p l ev R s m args below meth c Q pc ls st g
theorem abRt_eq {e : abEy} {pc : Nat} {ls st : List abV} {g : abSt} {r : List abF} (h : abRt e pc ls st g = some r) : r = [(pc, ls, st, g)] := by
  have fl : ∀ (F : abFt) (env : abE) (v : abV), (∀ (kk : abR) (r : List abF), F env v kk = some r → kk = some r) → F env v (some [(pc, ls, st, g)]) = some r → r = [(pc, ls, st, g)] := fun F env v hF h => (Option.some.inj (hF _ _ h)).symm
  unfold abRt at h
  cases q1 : Nat.beq e.1 85 with
  | true => rw [abIf_t q1] at h; exact (Option.some.inj h).symm
  | false =>
    rw [abIf_f q1] at h
    cases q2 : Nat.beq e.1 82 with
    | true =>
      rw [abIf_t q2] at h
      cases st with
      | nil => exact (Option.some.inj h).symm
      | cons v s' => cases h
    | false =>
      rw [abIf_f q2] at h
      obtain ⟨v, s', rfl, h1⟩ := abHd_some h
      cases s' with
      | cons a b => cases h1
      | nil =>
        have h2 : abIf (Nat.beq e.1 84) (abFtl g.2.2.1 v (some [(pc, ls, [v], g)])) (abIf (Nat.beq e.2.2.1 1) (abFtz g.2.2.1 v (some [(pc, ls, [v], g)])) (abFti g.2.2.1 v (some [(pc, ls, [v], g)]))) = some r := h1
        cases q3 : Nat.beq e.1 84 with
        | true =>
          rw [abIf_t q3] at h2
          exact (Option.some.inj (abIf_some h2).2).symm
        | false =>
          rw [abIf_f q3] at h2
          cases q4 : Nat.beq e.2.2.1 1 with
          | true =>
            rw [abIf_t q4] at h2
            unfold abFtz abWi at h2
            cases q5 : Nat.beq v.1 0 with
            | true =>
              rw [abIf_t q5] at h2
              exact (Option.some.inj (abIf_some (abIf_some h2).2).2).symm
            | false =>
              rw [abIf_f q5] at h2
              obtain ⟨q, -, h3⟩ := abWe_ok (abIf_some h2).2
              exact (Option.some.inj (abIf_some (abIf_some h3).2).2).symm
          | false =>
            rw [abIf_f q4] at h2
            exact (Option.some.inj (abIf_some h2).2).symm
theorem abBd_ok {r0 : abR} {F : abF → abR} {r : List abF} (h : abBd r0 F = some r) : ∃ exs, r0 = some exs ∧ ∀ x ∈ exs, ∃ r', F x = some r' ∧ ∀ z ∈ r', z ∈ r := by
  unfold abBd at h
  cases r0 with
  | none => cases h
  | some exs =>
    refine ⟨exs, rfl, ?_⟩
    have key : ∀ (l : List abF) (r : List abF), (List.rec (some []) (fun x _ ih => abJn (F x) ih) l : abR) = some r → ∀ x ∈ l, ∃ r', F x = some r' ∧ ∀ z ∈ r', z ∈ r := by
      intro l
      induction l with
      | nil => intro r _ x hx; cases hx
      | cons a l ih =>
        intro r h x hx
        obtain ⟨u, v, h1, h2, rfl⟩ := abJn_some (show abJn (F a) (List.rec (some []) (fun x _ ih => abJn (F x) ih) l) = some r from h)
        rcases List.mem_cons.mp hx with rfl | hx
        · exact ⟨u, h1, fun z q => List.mem_append_left _ q⟩
        · obtain ⟨r', q1, q2⟩ := ih v h2 x hx
          exact ⟨r', q1, fun z q => List.mem_append_right _ (q2 z q)⟩
    exact key exs r h
theorem abTk_ok {ws : va_W} {sb sl : Nat} {rh : Nat → Int} {K : List abV → List abV → abR} {r : List abF} : ∀ (n : Nat) (acc st : List abV) (xs ys : List Value), abTk K n acc st = some r → abSok ws sb sl rh st xs → abSok ws sb sl rh acc ys → (∀ v ∈ acc, v.1 ≤ 7) → ∃ (as rest : List abV) (zs rx : List Value), K as rest = some r ∧ xs = zs.reverse ++ rx ∧ zs.length = n ∧ abSok ws sb sl rh as (zs ++ ys) ∧ abSok ws sb sl rh rest rx ∧ ∀ v ∈ as, v.1 ≤ 7
  | 0, acc, st, xs, ys, h, hS, hA, h7 => ⟨acc, st, [], xs, h, rfl, rfl, hA, hS, h7⟩
  | n + 1, acc, st, xs, ys, h, hS, hA, h7 => by
    obtain ⟨v, st', rfl, h1⟩ := abHd_some (show abHd st (fun v r => abIf (Nat.ble v.1 7) (abTk K n (v :: acc) r) none) = some r from h)
    obtain ⟨h2, h3⟩ := abIf_some h1
    obtain ⟨x, xr, rfl, gv, hS'⟩ := hS
    obtain ⟨as, rest, zs, rx, q1, q2, q3, q4, q5, q6⟩ := abTk_ok n (v :: acc) st' xr (x :: ys) h3 hS' ⟨x, ys, rfl, gv, hA⟩ (fun w hw => by
      rcases List.mem_cons.mp hw with rfl | hw
      · exact abBle h2
      · exact h7 w hw)
    refine ⟨as, rest, zs ++ [x], rx, q1, by rw [List.reverse_append, q2]; rfl, by rw [List.length_append, q3]; rfl, by rw [List.append_assoc]; exact q4, q5, q6⟩
theorem abJs_get : ∀ (n i : Nat) (v : abV), (abJs n)[i]? = some v → v = abJ
  | 0, _, _, h => by cases h
  | n + 1, 0, v, h => (Option.some.inj h).symm
  | n + 1, i + 1, v, h => abJs_get n i v h
theorem abJs_len : ∀ n : Nat, (abJs n).length = n
  | 0 => rfl
  | n + 1 => congrArg Nat.succ (abJs_len n)
theorem abEn_ok {ws : va_W} {sb sl : Nat} {rh : Nat → Int} : ∀ (as : List abV) (vs : List Value) (n base : Nat), abSok ws sb sl rh as vs → (∀ v ∈ as, v.1 ≤ 7) → abSm as ≤ n → (abEn as n).length = n ∧ (lg_sl vs).length ≤ n ∧ ∀ (i : Nat) (v : abV), (abEn as n)[i]? = some v → v.1 ≤ 7 → ∃ x : Value, (base + i, x) ∈ lv_args base vs ∧ abG ws sb sl rh v x
  | [], vs, n, base, hS, h7, hn => by
    have e : vs = [] := hS
    subst e
    refine ⟨abJs_len n, Nat.zero_le _, fun i v hi hv => ?_⟩
    have e := abJs_get n i v hi
    subst e
    exact absurd hv (by decide)
  | v :: as, vs, n, base, hS, h7, hn => by
    obtain ⟨x, xr, rfl, gv, hS'⟩ := hS
    have hv7 := h7 v List.mem_cons_self
    have h7' : ∀ w ∈ as, w.1 ≤ 7 := fun w hw => h7 w (List.mem_cons_of_mem _ hw)
    have hs : abSm (v :: as) = abIf (Nat.beq (v.1 / 2) 1) (abSm as + 2) (abIf (Nat.ble v.1 7) (abSm as + 1) (abSm as + 2)) := rfl
    rw [hs] at hn
    have he : abEn (v :: as) n = abIf (Nat.beq (v.1 / 2) 1) (v :: abJ :: abEn as (n - 2)) (v :: abEn as (n - 1)) := rfl
    rw [he]
    cases q1 : Nat.beq (v.1 / 2) 1 with
    | true =>
      rw [abIf_t q1] at hn
      rw [abIf_t rfl]
      have h2 := abDiv q1
      obtain ⟨y, rfl⟩ := abG_l gv (by omega)
      obtain ⟨r1, r2, r3⟩ := abEn_ok as xr (n - 2) (base + 2) hS' h7' (by omega)
      refine ⟨by simp only [List.length_cons, r1]; omega, ?_, fun i w hi hw => ?_⟩
      · have e : lg_sl (Value.long y :: xr) = [.val (.long y), .second] ++ lg_sl xr := rfl
        rw [e, List.length_append]
        simp only [List.length_cons, List.length_nil]
        omega
      · match i, hi with
        | 0, hi =>
          cases hi
          exact ⟨.long y, List.mem_cons_self, gv⟩
        | 1, hi =>
          cases hi
          exact absurd hw (by decide)
        | i + 2, hi =>
          obtain ⟨x', z1, z2⟩ := r3 i w hi hw
          refine ⟨x', ?_, z2⟩
          have e : lv_args base (Value.long y :: xr) = (base, .long y) :: lv_args (base + 2) xr := rfl
          rw [e, show base + (i + 2) = base + 2 + i by omega]
          exact List.mem_cons_of_mem _ z1
    | false =>
      rw [abIf_f q1, abIf_t (abBle_t hv7)] at hn
      rw [abIf_f rfl]
      have hc := abCat_ok (abCat1 hv7 (abBeq_f q1)) gv
      have hc2 : ¬ x.category = 2 := by omega
      obtain ⟨r1, r2, r3⟩ := abEn_ok as xr (n - 1) (base + 1) hS' h7' (by omega)
      refine ⟨by simp only [List.length_cons, r1]; omega, ?_, fun i w hi hw => ?_⟩
      · have e : lg_sl (x :: xr) = [.val x] ++ lg_sl xr := by simp [lg_sl, hc2]
        rw [e, List.length_append]
        simp only [List.length_cons, List.length_nil]
        omega
      · match i, hi with
        | 0, hi =>
          cases hi
          exact ⟨x, List.mem_cons_self, gv⟩
        | i + 1, hi =>
          obtain ⟨x', z1, z2⟩ := r3 i w hi hw
          refine ⟨x', ?_, z2⟩
          have e : lv_args base (x :: xr) = (base, x) :: lv_args (base + 1) xr := by simp [lv_args, hc2]
          rw [e, show base + (i + 1) = base + 1 + i by omega]
          exact List.mem_cons_of_mem _ z1
