/-! int operations -/
def abRow2 (ins : Jvm.ClassFile.Instr) (f : Int32 → Int32 → Int32) (P : Int32 → Prop) : Prop := ∀ {p : Program} {l : Launch} {ev : Env} {R : Room} {s : State} {m : MethodId} {args : Array Value} {below : List Frame} {meth : Method} {c : Code} {H : Heap} {locs : List Loc} {cells slots : Nat} {Q : State → Prop} {cc : ByteArray} {pc : Nat} {A : Array Slot} {rest : List Value} {x y : Int32}, p.tables.exec = Jvm.exec → c.code = cc → decode cc pc = .ok (ins, 1) → P y → W p l ev R s m args below meth c H locs cells slots Q (F0 m (pc + 1) A (.int (f x y) :: rest)) → W p l ev R s m args below meth c H locs cells slots Q (F0 m pc A (.int y :: .int x :: rest))
def abOpk (f : Int32 → Int32 → Int32) (P : Int32 → Prop) (F : abOp) : Prop := ∀ (ws : va_W) (sb sl : Nat) (rh : Nat → Int) (v w : abV) (a b c d : Nat) (K : abV → abR) (r : List abF) (x y : Int32), F v w a b c d K = some r → abG ws sb sl rh v (.int x) → abG ws sb sl rh w (.int y) → (a : Int) ≤ x.toInt + abB → x.toInt + abB ≤ (b : Int) → (c : Int) ≤ y.toInt + abB → y.toInt + abB ≤ (d : Int) → ∃ u : abV, K u = some r ∧ P y ∧ abG ws sb sl rh u (.int (f x y))
theorem abBin {op : Nat} {ins : Jvm.ClassFile.Instr} {f : Int32 → Int32 → Int32} {P : Int32 → Prop} {F : abOp} (h85 : ¬ op = 85) (hins : ∀ pc a1 a2 x ps, abIns (op, pc, a1, a2, x, ps) = some (ins, 1)) (row : abRow2 ins f P) (hop : abOpk f P F) : abOk op (abOi F) := by
  intro D z sb sl rh xs0 w0 p l ev R s m args below meth c Q k d nx e pc ls st g r hF hE ho hpc hnx h
  obtain ⟨hx, hb, -⟩ := hF
  obtain ⟨o, pc', a1, a2, x, ps⟩ := e
  have ho : o = op := ho
  have hp : pc' = pc := hpc
  subst ho; subst hp
  have hd := abEt_dec hE h85 (hins _ _ _ _ _)
  obtain ⟨w, v, rr, rfl, h0⟩ := ab2_some h
  intro H locs ws A xs hH hX hL hS
  obtain ⟨y0, xr, rfl, gw, x0, xr', rfl, gv, hS'⟩ := hS
  obtain ⟨a, b, y, h1, rfl, p1, p2, -, -⟩ := abWi0 h0 hH.2.2.2.2.2.2.2 gv
  obtain ⟨c0, d0, y', h2, rfl, p3, p4, -, -⟩ := abWi0 h1 hH.2.2.2.2.2.2.2 gw
  obtain ⟨u, h3, hP, gu⟩ := hop ws sb sl rh v w a b c0 d0 _ r y y' h2 gv gw p1 p2 p3 p4
  refine row hx hb hd hP ?_
  exact hnx _ _ _ _ r h3 (fun _ q => q) H locs ws A _ hH hX hL ⟨_, _, rfl, gu, hS'⟩
theorem abNoP : ∀ y : Int32, (fun _ : Int32 => True) y := fun _ => trivial
theorem abFadd_ok : abOpk (fun x y => x + y) (fun _ => True) abFadd := by
  intro ws sb sl rh v w a b c d K r x y h gv gw a1 a2 c1 c2
  have hx := abI32 x
  have hy := abI32 y
  have h' : K (abBI (a + c - 9223372036854775808) (b + d - 9223372036854775808)) = some r := h
  obtain ⟨lo, hlo⟩ : ∃ lo : Nat, lo = a + c - 9223372036854775808 := ⟨_, rfl⟩
  obtain ⟨hi, hhi⟩ : ∃ hi : Nat, hi = b + d - 9223372036854775808 := ⟨_, rfl⟩
  rw [← hlo, ← hhi] at h'
  have hs := Int32.toInt_add x y
  exact ⟨_, h', trivial, abBI_ok hs (by simp only [abB] at *; omega) (by simp only [abB] at *; omega)⟩
theorem abFsub_ok : abOpk (fun x y => x - y) (fun _ => True) abFsub := by
  intro ws sb sl rh v w a b c d K r x y h gv gw a1 a2 c1 c2
  have hx := abI32 x
  have hy := abI32 y
  obtain ⟨lo, hlo⟩ : ∃ lo : Nat, lo = a + 9223372036854775808 - d := ⟨_, rfl⟩
  obtain ⟨hi, hhi⟩ : ∃ hi : Nat, hi = b + 9223372036854775808 - c := ⟨_, rfl⟩
  have hs := Int32.toInt_sub x y
  have gen : abG ws sb sl rh (abBI lo hi) (.int (x - y)) := abBI_ok hs (by simp only [abB] at *; omega) (by simp only [abB] at *; omega)
  unfold abFsub at h
  rw [← hlo, ← hhi] at h
  cases q1 : Nat.beq (abTag v) 0 with
  | true =>
    rw [abIf_t q1] at h
    exact ⟨_, h, trivial, gen⟩
  | false =>
    rw [abIf_f q1] at h
    cases q2 : Nat.beq (abTag v) (abTag w) with
    | false =>
      rw [abIf_f q2] at h
      exact ⟨_, h, trivial, gen⟩
    | true =>
      rw [abIf_t q2] at h
      have e1 := abBeq q2
      have e2 := abBeq_f q1
      obtain ⟨t, ht⟩ : ∃ t, abTag v = t + 1 := ⟨abTag v - 1, by omega⟩
      have r1 := abTag_i gv t ht
      have r2 := abTag_i gw t (by rw [← e1]; exact ht)
      have e : x = y := Int32.toInt_inj.mp (r1.trans r2.symm)
      subst e
      refine ⟨_, h, trivial, ⟨x - x, rfl, ?_, ?_⟩⟩ <;> rw [Int32.sub_self] <;> decide
theorem abOf_eq {x : Int32} {a b : Nat} (a1 : (a : Int) ≤ x.toInt + abB) (a2 : x.toInt + abB ≤ (b : Int)) (h : a = b) : abOf a = x := by
  subst h
  have e : (a : Int) - 9223372036854775808 = x.toInt := by simp only [abB] at *; omega
  unfold abOf
  rw [e, Int32.ofInt_toInt]
theorem abKi_ok {ws : va_W} {sb sl : Nat} {rh : Nat → Int} (y : Int32) : abG ws sb sl rh (abKi y) (.int y) := by
  have hy := abI32 y
  refine ⟨y, rfl, ?_, ?_⟩
  · show (((y.toInt + 9223372036854775808).toNat : Nat) : Int) ≤ _
    simp only [abB]
    omega
  · show _ ≤ (((y.toInt + 9223372036854775808).toNat : Nat) : Int)
    simp only [abB]
    omega
theorem abFk_ok (f : Int32 → Int32 → Int32) : abOpk f (fun _ => True) (abFk f) := by
  intro ws sb sl rh v w a b c d K r x y h gv gw a1 a2 c1 c2
  refine ⟨_, h, trivial, ?_⟩
  cases q1 : Nat.beq a b with
  | false => rw [abIf_f rfl]; exact abTI_ok _
  | true =>
    rw [abIf_t rfl]
    cases q2 : Nat.beq c d with
    | false => rw [abIf_f rfl]; exact abTI_ok _
    | true =>
      rw [abIf_t rfl, abOf_eq a1 a2 (abBeq q1), abOf_eq c1 c2 (abBeq q2)]
      exact abKi_ok _
theorem abFd_ok (f : Int32 → Int32 → Int32) : abOpk f (fun y => ¬ y = 0) (abFd f) := by
  intro ws sb sl rh v w a b c d K r x y h gv gw a1 a2 c1 c2
  obtain ⟨h1, h2⟩ := abIf_some h
  obtain ⟨u, q1, -, q2⟩ := abFk_ok f ws sb sl rh v w a b c d K r x y h2 gv gw a1 a2 c1 c2
  refine ⟨u, q1, ?_, q2⟩
  rintro rfl
  have := abBle h1
  simp only [abB] at c1 c2
  have e0 : (0 : Int32).toInt = 0 := rfl
  omega
theorem abAnd_lo (x y : Int32) (h : 0 ≤ y.toInt) : 0 ≤ (x &&& y).toInt ∧ (x &&& y).toInt ≤ y.toInt := by
  have hy : y.toBitVec.toNat < 2 ^ 31 := by
    have := BitVec.toInt_eq_toNat_cond y.toBitVec
    have h2 : 0 ≤ y.toBitVec.toInt := h
    have h3 := y.toBitVec.isLt
    by_cases hc : 2 * y.toBitVec.toNat < 2 ^ 32
    · omega
    · rw [if_neg hc] at this
      omega
  have e2 : y.toInt = (y.toBitVec.toNat : Int) := by
    show y.toBitVec.toInt = _
    rw [BitVec.toInt_eq_toNat_cond, if_pos (by omega)]
  have hle : (x &&& y).toBitVec.toNat ≤ y.toBitVec.toNat := by
    show (x.toBitVec &&& y.toBitVec).toNat ≤ _
    rw [BitVec.toNat_and]
    exact Nat.and_le_right
  have e1 : (x &&& y).toInt = ((x &&& y).toBitVec.toNat : Int) := by
    show (x &&& y).toBitVec.toInt = _
    rw [BitVec.toInt_eq_toNat_cond, if_pos (by omega)]
  rw [e1, e2]
  omega
theorem abFand_ok : abOpk (fun x y => x &&& y) (fun _ => True) abFand := by
  intro ws sb sl rh v w a b c d K r x y h gv gw a1 a2 c1 c2
  unfold abFand at h
  cases q1 : Nat.beq a b with
  | true =>
    rw [abIf_t q1] at h
    exact abFk_ok _ ws sb sl rh v w a b c d K r x y h gv gw a1 a2 c1 c2
  | false =>
    rw [abIf_f q1] at h
    cases q2 : Nat.ble 9223372036854775808 c with
    | false =>
      rw [abIf_f q2] at h
      exact ⟨_, h, trivial, abTI_ok _⟩
    | true =>
      rw [abIf_t q2] at h
      have := abBle q2
      simp only [abB] at c1 c2
      have hh := abAnd_lo x y (by omega)
      refine ⟨_, h, trivial, ⟨_, rfl, ?_, ?_⟩⟩
      · show ((9223372036854775808 : Nat) : Int) ≤ _
        simp only [abB]
        omega
      · show _ ≤ ((d : Nat) : Int)
        simp only [abB]
        omega
theorem abFmul_ok : abOpk (fun x y => x * y) (fun _ => True) abFmul := by
  intro ws sb sl rh v w a b c d K r x y h gv gw a1 a2 c1 c2
  refine ⟨_, h, trivial, ?_⟩
  cases q1 : Nat.ble 9223372036854775808 a with
  | false => rw [abIf_f rfl]; exact abTI_ok _
  | true =>
    rw [abIf_t rfl]
    cases q2 : Nat.ble 9223372036854775808 c with
    | false => rw [abIf_f rfl]; exact abTI_ok _
    | true =>
      rw [abIf_t rfl]
      have e1 := abBle q1
      have e2 := abBle q2
      simp only [abB] at a1 a2 c1 c2
      have hs := Int32.toInt_mul x y
      clear h q1 q2
      generalize hB : (9223372036854775808 : Nat) = B at *
      have hxn : x.toInt = ((x.toInt.toNat : Nat) : Int) := by omega
      have hyn : y.toInt = ((y.toInt.toNat : Nat) : Int) := by omega
      generalize x.toInt.toNat = xn at hxn
      generalize y.toInt.toNat = yn at hyn
      have m1 : (a - B) * (c - B) ≤ xn * yn := Nat.mul_le_mul (by omega) (by omega)
      have m2 : xn * yn ≤ (b - B) * (d - B) := Nat.mul_le_mul (by omega) (by omega)
      have e : x.toInt * y.toInt = ((xn * yn : Nat) : Int) := by rw [hxn, hyn, Int.natCast_mul]
      have hBB : (B : Int) = abB := by rw [← hB]; rfl
      generalize (a - B) * (c - B) = lo at *
      generalize (b - B) * (d - B) = hi at *
      exact abBI_ok hs (by rw [e]; omega) (by rw [e]; omega)
theorem abS21 : abOk 21 (abOi abFadd) := abBin (by decide) (fun _ _ _ _ _ => rfl) (fun hx hb hd _ k => lv_iadd hx hb hd k) abFadd_ok
theorem abS22 : abOk 22 (abOi abFsub) := abBin (by decide) (fun _ _ _ _ _ => rfl) (fun hx hb hd _ k => lv_isub hx hb hd k) abFsub_ok
theorem abS24 : abOk 24 (abOi (abFd fun x y => x / y)) := abBin (by decide) (fun _ _ _ _ _ => rfl) (fun hx hb hd hp k => lv_idiv hx hb hd hp k) (abFd_ok _)
theorem abS25 : abOk 25 (abOi (abFd fun x y => x - x / y * y)) := abBin (by decide) (fun _ _ _ _ _ => rfl) (fun hx hb hd hp k => lv_irem hx hb hd hp k) (abFd_ok _)
theorem abS26 : abOk 26 (abOi abFand) := abBin (by decide) (fun _ _ _ _ _ => rfl) (fun hx hb hd _ k => lv_iand hx hb hd k) abFand_ok
theorem abS27 : abOk 27 (abOi (abFk fun x y => x ||| y)) := abBin (by decide) (fun _ _ _ _ _ => rfl) (fun hx hb hd _ k => lv_ior hx hb hd k) (abFk_ok _)
theorem abS28 : abOk 28 (abOi (abFk fun x y => x ^^^ y)) := abBin (by decide) (fun _ _ _ _ _ => rfl) (fun hx hb hd _ k => lv_ixor hx hb hd k) (abFk_ok _)
theorem abS29 : abOk 29 (abOi (abFk fun x y => x <<< (y &&& 31))) := abBin (by decide) (fun _ _ _ _ _ => rfl) (fun hx hb hd _ k => lv_ishl hx hb hd k) (abFk_ok _)
theorem abS30 : abOk 30 (abOi (abFk fun x y => x >>> (y &&& 31))) := abBin (by decide) (fun _ _ _ _ _ => rfl) (fun hx hb hd _ k => lv_ishr hx hb hd k) (abFk_ok _)
theorem abHas_run {D : va_G} {z sb sl : Nat} {rh : Nat → Int} {w0 : va_W} {p : Program} {l : Launch} {ev : Env} {R : Room} {s : State} {m : MethodId} {args : Array Value} {below : List Frame} {meth : Method} {c : Code} {Q : State → Prop} {r : List abF} {nx : abNx} (hnx : abNs D z sb sl rh w0 p l ev R s m args below meth c Q r nx) {pc : Nat} {ls st : List abV} {g : abSt} (h : abHas rh (fun e => nx pc ls st (abSe g e)) r) {H : Heap} {locs : List Loc} {ws : va_W} {A : Array Slot} {xs : List Value} (hH : abHok D z sb sl rh s ws H locs g) (hX : abX w0 ws) (hL : abLok ws sb sl rh ls c.maxLocals A) (hS : abSok ws sb sl rh st xs) : W p l ev R s m args below meth c H locs g.2.2.2.1 g.2.2.2.2 Q (F0 m pc A xs) := by
  obtain ⟨e, r', h1, h2, h3⟩ := h
  exact hnx pc ls st (abSe g e) r' h1 h2 H locs ws A xs (hH.env h3) hX hL hS
theorem abS23 : abOk 23 (abOi2 abFmul) := by
  intro D z sb sl rh xs0 w0 p l ev R s m args below meth c Q k d nx e pc ls st g r hF hE ho hpc hnx h
  obtain ⟨hx, hb, -⟩ := hF
  obtain ⟨o, pc', a1, a2, x, ps⟩ := e
  have ho : o = 23 := ho
  have hp : pc' = pc := hpc
  subst ho; subst hp
  have hd := abEt_dec hE (show ¬ (23 : Nat) = 85 by decide) rfl
  obtain ⟨w, v, rr, rfl, h0⟩ := ab2_some h
  intro H locs ws A xs hH hX hL hS
  have hS0 := hS
  obtain ⟨y0, xr, rfl, gw, x0, xr', rfl, gv, hS'⟩ := hS
  obtain ⟨a, b, y, h1, rfl, p1, p2, -, -⟩ := abWi0 h0 hH.2.2.2.2.2.2.2 gv
  obtain ⟨c0, d0, y', h2, rfl, p3, p4, -, -⟩ := abWi0 h1 hH.2.2.2.2.2.2.2 gw
  have go : abFmul v w a b c0 d0 (fun u => nx (pc' + 1) ls (u :: rr) g) = some r → W p l ev R s m args below meth c H locs g.2.2.2.1 g.2.2.2.2 Q (F0 m pc' A (.int y' :: .int y :: xr')) := by
    intro h3
    obtain ⟨u, h4, hP, gu⟩ := abFmul_ok ws sb sl rh v w a b c0 d0 _ r y y' h3 gv gw p1 p2 p3 p4
    refine lv_imul hx hb hd ?_
    exact hnx _ _ _ _ r h4 (fun _ q => q) H locs ws A _ hH hX hL ⟨_, _, rfl, gu, hS'⟩
  cases q1 : Nat.beq (abTag v) 0 with
  | true =>
    rw [abIf_t q1] at h2
    cases q2 : Nat.beq (abTag w) 0 with
    | true => rw [abIf_t q2] at h2; exact go h2
    | false =>
      rw [abIf_f q2] at h2
      cases q3 : Nat.beq c0 d0 with
      | true => rw [abIf_t q3] at h2; exact go h2
      | false =>
        rw [abIf_f q3] at h2
        cases q4 : Nat.ble (d0 - c0) 12 with
        | false => rw [abIf_f q4] at h2; exact go h2
        | true =>
          rw [abIf_t q4] at h2
          exact abHas_run hnx (abSpl_ok h2 hH.2.2.2.2.2.2.2 (abTag_i gw) p3 p4) hH hX hL hS0
  | false =>
    rw [abIf_f q1] at h2
    cases q3 : Nat.beq a b with
    | true => rw [abIf_t q3] at h2; exact go h2
    | false =>
      rw [abIf_f q3] at h2
      cases q4 : Nat.ble (b - a) 12 with
      | false => rw [abIf_f q4] at h2; exact go h2
      | true =>
        rw [abIf_t q4] at h2
        exact abHas_run hnx (abSpl_ok h2 hH.2.2.2.2.2.2.2 (abTag_i gv) p1 p2) hH hX hL hS0
