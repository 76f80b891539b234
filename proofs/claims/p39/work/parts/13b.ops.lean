/-! numbers -/
theorem aiMin_le (a b : Int) : aiMin a b ≤ a ∧ aiMin a b ≤ b ∧ (aiMin a b = a ∨ aiMin a b = b) := by
  unfold aiMin
  cases q : aiLe a b with
  | true => rw [abIf_t rfl]; exact ⟨Int.le_refl _, aiLe_ok q, Or.inl rfl⟩
  | false => rw [abIf_f rfl]; have := aiLe_f q; exact ⟨by omega, Int.le_refl _, Or.inr rfl⟩
theorem aiMax_le (a b : Int) : a ≤ aiMax a b ∧ b ≤ aiMax a b ∧ (aiMax a b = a ∨ aiMax a b = b) := by
  unfold aiMax
  cases q : aiLe a b with
  | true => rw [abIf_t rfl]; exact ⟨aiLe_ok q, Int.le_refl _, Or.inr rfl⟩
  | false => rw [abIf_f rfl]; have := aiLe_f q; exact ⟨Int.le_refl _, by omega, Or.inl rfl⟩
theorem avBtw {a b x : Int} (y : Int) (h1 : a ≤ x) (h2 : x ≤ b) : (a * y ≤ x * y ∧ x * y ≤ b * y) ∨ (b * y ≤ x * y ∧ x * y ≤ a * y) := by
  rcases Int.le_total 0 y with h | h
  · exact Or.inl ⟨Int.mul_le_mul_of_nonneg_right h1 h, Int.mul_le_mul_of_nonneg_right h2 h⟩
  · refine Or.inr ⟨?_, ?_⟩
    · have : x * (-y) ≤ b * (-y) := Int.mul_le_mul_of_nonneg_right h2 (by omega)
      rw [Int.mul_neg, Int.mul_neg] at this
      omega
    · have : a * (-y) ≤ x * (-y) := Int.mul_le_mul_of_nonneg_right h1 (by omega)
      rw [Int.mul_neg, Int.mul_neg] at this
      omega
theorem avMul4_ok {a b c d x y : Int} (h1 : a ≤ x) (h2 : x ≤ b) (h3 : c ≤ y) (h4 : y ≤ d) : aiMin (aiMin (a * c) (a * d)) (aiMin (b * c) (b * d)) ≤ x * y ∧ x * y ≤ aiMax (aiMax (a * c) (a * d)) (aiMax (b * c) (b * d)) := by
  have m1 := aiMin_le (aiMin (a * c) (a * d)) (aiMin (b * c) (b * d))
  have m2 := aiMin_le (a * c) (a * d)
  have m3 := aiMin_le (b * c) (b * d)
  have n1 := aiMax_le (aiMax (a * c) (a * d)) (aiMax (b * c) (b * d))
  have n2 := aiMax_le (a * c) (a * d)
  have n3 := aiMax_le (b * c) (b * d)
  have k1 := avBtw y h1 h2
  have k2 := avBtw a h3 h4
  have k3 := avBtw b h3 h4
  rw [Int.mul_comm c a, Int.mul_comm y a, Int.mul_comm d a] at k2
  rw [Int.mul_comm c b, Int.mul_comm y b, Int.mul_comm d b] at k3
  generalize a * c = ac at *
  generalize a * d = ad at *
  generalize b * c = bc at *
  generalize b * d = bd at *
  generalize x * y = xy at *
  generalize a * y = ay at *
  generalize b * y = bY at *
  omega
theorem avCo_f {f : afF} {y : Int → Bool} {n : Bool} (h : avCo f y n = true) : (f.1 = [] ∧ y f.2 = true) ∨ n = true := by
  obtain ⟨t, c⟩ := f
  cases t with
  | nil => exact Or.inl ⟨rfl, h⟩
  | cons p t => exact Or.inr h
theorem afV_c {rh : afR} {f : afF} (h : f.1 = []) : afV rh f = f.2 := by
  unfold afV
  rw [h]
  show 0 + f.2 = f.2
  omega
theorem avFitB_ok {rh : afR} {s : avS} {t : Nat} {lo hi z : Int} {K : avV → avS → Bool} (hs : afSo rh s.1) (hz : avRn t z) (hb : avMn t ≤ lo → hi ≤ avMx t → lo ≤ z ∧ z ≤ hi) (h : avFitB t lo hi s K = true) : avGoes rh s t z K := by
  unfold avFitB at h
  cases q1 : aiLe (avMn t) lo with
  | false => rw [q1, abIf_f rfl] at h; exact avTop_ok hs hz h
  | true =>
    rw [q1, abIf_t rfl] at h
    cases q2 : aiLe hi (avMx t) with
    | false => rw [q2, abIf_f rfl] at h; exact avTop_ok hs hz h
    | true =>
      rw [q2, abIf_t rfl] at h
      obtain ⟨h1, h2⟩ := hb (aiLe_ok q1) (aiLe_ok q2)
      exact avBox_ok hs h1 h2 h
/-- what an operation on ints comes to -/
def avOpk (f : Int32 → Int32 → Int32) (P : Int32 → Prop) (F : avOp) : Prop := ∀ (rh : afR) (s : avS) (a b : afF) (K : avV → avS → Bool) (x y : Int32), afSo rh s.1 → afD rh a.1 → afD rh b.1 → x.toInt = afV rh a → y.toInt = afV rh b → F s a b K = true → P y ∧ avGoes rh s 0 (f x y).toInt K
theorem avBin {RT : Lean.RArray avRg} {RG : avRJ} {op : Nat} {ins : Jvm.ClassFile.Instr} {f : Int32 → Int32 → Int32} {P : Int32 → Prop} {F : avOp} (h85 : ¬ op = 85) (hins : ∀ pc a1 a2 x ps, abIns (op, pc, a1, a2, x, ps) = some (ins, 1)) (row : abRow2 ins f P) (hop : avOpk f P F) : avOk RT RG op (avOi 0 F) := by
  intro D z sb w0 r0 p l ev R s m args below meth c cc cs Q k d nx e pc ls st q hF hE ho hpc hnx h
  obtain ⟨hx, hb, -⟩ := hF
  obtain ⟨o, pc', a1, a2, x, ps⟩ := e
  have ho : o = op := ho
  have hp : pc' = pc := hpc
  subst ho; subst hp
  have hd := abEt_dec hE h85 (hins _ _ _ _ _)
  obtain ⟨w, v, rr, rfl, h0⟩ := av2_some h
  obtain ⟨k1, h1⟩ := avFo_some h0
  obtain ⟨k2, h2⟩ := avFo_some h1
  intro rh H locs ws A xs hH hX hL hS
  obtain ⟨y0, xr, rfl, gw, x0, xr', rfl, gv, hS'⟩ := hS
  obtain ⟨d1, x1, rfl, e1⟩ := avGv_i gv k1
  obtain ⟨d2, y1, rfl, e2⟩ := avGv_i gw k2
  obtain ⟨hP, rh', g, u, h3, hle, hso, du, eu⟩ := hop rh q _ _ _ x1 y1 hH.2.2.2.2.1 d1 d2 e1 e2 h2
  refine row hx hb hd hP ?_
  exact hnx _ _ _ _ h3 rh' H locs ws A _ (hH.names hle hso) (hX.nm hle) (hL.mono (abX.rf ws) hle) ⟨_, _, rfl, ⟨du, _, rfl, eu.symm⟩, hS'.mono (abX.rf ws) hle⟩
theorem avWrap {z : Int} (h : avRn 0 z) : z.bmod (2 ^ 32) = z := by
  have h1 : (-2147483648 : Int) ≤ z := h.1
  have h2 : z ≤ (2147483647 : Int) := h.2
  exact Int.bmod_eq_of_le (by omega) (by omega)
theorem avFadd_ok : avOpk (fun x y => x + y) (fun _ => True) (avFadd 0) := by
  intro rh s a b K x y hs da db ea eb h
  refine ⟨trivial, avNum_ok hs (afAdd_D da db) (avI32 _) (fun hr => ?_) h⟩
  rw [afAdd_V] at hr ⊢
  rw [Int32.toInt_add, ea, eb]
  exact avWrap hr
theorem avFsub_ok : avOpk (fun x y => x - y) (fun _ => True) (avFsub 0) := by
  intro rh s a b K x y hs da db ea eb h
  refine ⟨trivial, avNum_ok hs (afSub_D da db) (avI32 _) (fun hr => ?_) h⟩
  rw [afSub_V] at hr ⊢
  rw [Int32.toInt_sub, ea, eb]
  exact avWrap hr
theorem avFmul_ok : avOpk (fun x y => x * y) (fun _ => True) (avFmul 0) := by
  intro rh s a b K x y hs da db ea eb h
  refine ⟨trivial, ?_⟩
  have hz := avI32 (x * y)
  have hm : avRn 0 (x.toInt * y.toInt) → (x * y).toInt = x.toInt * y.toInt := fun hr => by
    rw [Int32.toInt_mul]
    exact avWrap hr
  rcases avCo_f h with ⟨c1, h1⟩ | h1
  · refine avNum_ok hs (afMul_D da) hz (fun hr => ?_) h1
    rw [afMul_V] at hr ⊢
    have e2 := afV_c (rh := rh) c1
    rw [← e2, ← ea, ← eb, Int.mul_comm] at hr ⊢
    exact hm hr
  rcases avCo_f h1 with ⟨c1, h2⟩ | h2
  · refine avNum_ok hs (afMul_D db) hz (fun hr => ?_) h2
    rw [afMul_V] at hr ⊢
    have e2 := afV_c (rh := rh) c1
    rw [← e2, ← ea, ← eb] at hr ⊢
    exact hm hr
  have l1 := afLo_ok hs da
  have l2 := afHi_ok hs da
  have l3 := afLo_ok hs db
  have l4 := afHi_ok hs db
  have hb := avMul4_ok l1 l2 l3 l4
  rw [← ea, ← eb] at hb
  refine avFitB_ok hs hz (fun g1 g2 => ?_) h2
  have := hm ⟨by omega, by omega⟩
  rw [this]
  exact hb
theorem avTop2_ok {f : Int32 → Int32 → Int32} : avOpk f (fun _ => True) (avFtop 0) := fun _ _ _ _ _ _ _ hs _ _ _ _ h => ⟨trivial, avTop_ok hs (avI32 _) h⟩
theorem avAnd_ok : avOpk (fun x y => x &&& y) (fun _ => True) (avFand 0) := by
  intro rh s a b K x y hs da db ea eb h
  refine ⟨trivial, ?_⟩
  show avGoes rh s 0 (x &&& y).toInt K
  unfold avFand at h
  cases q : aiLe 0 (afLo s.1 b) with
  | false => rw [q, abIf_f rfl] at h; exact avTop_ok hs (avI32 _) h
  | true =>
    rw [q, abIf_t rfl] at h
    have l1 := afLo_ok hs db
    have l2 := afHi_ok hs db
    have := aiLe_ok q
    have hy := abAnd_lo x y (by omega)
    exact avBox_ok hs hy.1 (by have := hy.2; omega) h
theorem avTdiv {x y : Int} (hy : 1 ≤ y) : (0 ≤ x → x.tdiv y = x / y ∧ 0 ≤ x / y ∧ x / y ≤ x) ∧ (x < 0 → x ≤ x.tdiv y ∧ x.tdiv y ≤ 0) := by
  have nn : ∀ w : Int, 0 ≤ w → w.tdiv y = w / y ∧ 0 ≤ w / y ∧ w / y ≤ w := fun w hw => ⟨Int.tdiv_eq_ediv_of_nonneg hw, Int.ediv_nonneg hw (by omega), Int.ediv_le_self y hw⟩
  refine ⟨nn x, fun hx => ?_⟩
  have h := nn (-x) (by omega)
  rw [Int.neg_tdiv] at h
  omega
theorem avDivI (x y : Int32) (hy : 1 ≤ y.toInt) : (x / y).toInt = x.toInt.tdiv y.toInt := by
  rw [Int32.toInt_div]
  have h1 := avI32 x
  have h2 := avTdiv (x := x.toInt) hy
  have g1 : (-2147483648 : Int) ≤ x.toInt := h1.1
  have g2 : x.toInt ≤ (2147483647 : Int) := h1.2
  refine avWrap ⟨?_, ?_⟩
  · show (-2147483648 : Int) ≤ _
    rcases Int.lt_or_le x.toInt 0 with q | q
    · have := h2.2 q; omega
    · have := h2.1 q; omega
  · show _ ≤ (2147483647 : Int)
    rcases Int.lt_or_le x.toInt 0 with q | q
    · have := h2.2 q; omega
    · have := h2.1 q; omega
theorem avNe0 {y : Int32} (h : 1 ≤ y.toInt) : ¬ y = 0 := fun e => by
  rw [e] at h
  exact absurd h (by decide)
theorem avDiv_ok : avOpk (fun x y => x / y) (fun y => ¬ y = 0) (avFdiv 0) := by
  intro rh s a b K x y hs da db ea eb h
  unfold avFdiv at h
  cases q : aiLe 1 (afLo s.1 b) with
  | false =>
    rw [q, abIf_f rfl] at h
    obtain ⟨q1, h2⟩ := abIf_and h
    have l4 := afHi_ok hs db
    have hq1 := aiLe_ok q1
    refine ⟨fun e => ?_, avTop_ok hs (avI32 _) h2⟩
    rw [e] at eb
    have e0 : (0 : Int32).toInt = 0 := rfl
    omega
  | true =>
    rw [q, abIf_t rfl] at h
    have l1 := afLo_ok hs da
    have l2 := afHi_ok hs da
    have l3 := afLo_ok hs db
    have hq := aiLe_ok q
    have hy : 1 ≤ y.toInt := by omega
    refine ⟨avNe0 hy, ?_⟩
    show avGoes rh s 0 (x / y).toInt K
    rw [avDivI x y hy]
    have ht := avTdiv (x := x.toInt) hy
    cases q2 : aiLe 0 (afLo s.1 a) with
    | false =>
      rw [q2, abIf_f rfl] at h
      have m := aiMax_le (afHi s.1 a) 0
      rcases Int.lt_or_le x.toInt 0 with g | g
      · have := ht.2 g
        exact avBox_ok hs (by omega) (by omega) h
      · have := ht.1 g
        have := aiLe_f q2
        exact avBox_ok hs (by omega) (by omega) h
    | true =>
      rw [q2, abIf_t rfl] at h
      have g := aiLe_ok q2
      obtain ⟨t1, t2, t3⟩ := ht.1 (by omega)
      rw [t1]
      rcases avCo_f h with ⟨c1, h1⟩ | h1
      · have e2 := afV_c (rh := rh) c1
        have e3 : b.2 = y.toInt := by omega
        rw [e3] at h1
        exact avBox_ok hs (Int.ediv_le_ediv (by omega) (by omega)) (Int.ediv_le_ediv (by omega) (by omega)) h1
      · exact avBox_ok hs t2 (by omega) h1
theorem avRem_ok : avOpk (fun x y => x - x / y * y) (fun y => ¬ y = 0) (avFrem 0) := by
  intro rh s a b K x y hs da db ea eb h
  obtain ⟨q, h⟩ := abIf_and h
  have l1 := afLo_ok hs da
  have l2 := afHi_ok hs da
  have l3 := afLo_ok hs db
  have l4 := afHi_ok hs db
  have hq := aiLe_ok q
  have hy : 1 ≤ y.toInt := by omega
  refine ⟨avNe0 hy, ?_⟩
  show avGoes rh s 0 (x - x / y * y).toInt K
  rw [rem_toInt]
  obtain ⟨b1, b2⟩ := tmod_bounds (a := x.toInt) (M := y.toInt) (by omega)
  cases q2 : aiLe 0 (afLo s.1 a) with
  | false =>
    rw [q2, abIf_f rfl] at h
    exact avBox_ok hs (by omega) (by omega) h
  | true =>
    rw [q2, abIf_t rfl] at h
    have g := aiLe_ok q2
    have e := Int.tmod_eq_emod_of_nonneg (a := x.toInt) (b := y.toInt) (by omega)
    cases q3 : aiLe (afHi s.1 a + 1) (afLo s.1 b) with
    | true =>
      rw [q3, abIf_t rfl] at h
      have g3 := aiLe_ok q3
      refine ⟨rh, s.1, a, h, afLe.rf rh, hs, da, ?_⟩
      rw [e, Int.emod_eq_of_lt (by omega) (by omega)]
      exact ea.symm
    | false =>
      rw [q3, abIf_f rfl] at h
      have m := aiMin_le (afHi s.1 a) (afHi s.1 b - 1)
      have h0 := Int.emod_nonneg x.toInt (b := y.toInt) (by omega)
      have h5 := Int.emod_add_mul_ediv x.toInt y.toInt
      have h6 : 0 ≤ y.toInt * (x.toInt / y.toInt) := Int.mul_nonneg (by omega) (Int.ediv_nonneg (by omega) (by omega))
      have h1 : x.toInt % y.toInt ≤ x.toInt := by omega
      exact avBox_ok hs (by omega) (by omega) h
theorem avS21 {RT : Lean.RArray avRg} {RG : avRJ} : avOk RT RG 21 (avOi 0 (avFadd 0)) := avBin (by decide) (fun _ _ _ _ _ => rfl) (fun hx hb hd _ k => lv_iadd hx hb hd k) avFadd_ok
theorem avS22 {RT : Lean.RArray avRg} {RG : avRJ} : avOk RT RG 22 (avOi 0 (avFsub 0)) := avBin (by decide) (fun _ _ _ _ _ => rfl) (fun hx hb hd _ k => lv_isub hx hb hd k) avFsub_ok
theorem avS23 {RT : Lean.RArray avRg} {RG : avRJ} : avOk RT RG 23 (avOi 0 (avFmul 0)) := avBin (by decide) (fun _ _ _ _ _ => rfl) (fun hx hb hd _ k => lv_imul hx hb hd k) avFmul_ok
theorem avS24 {RT : Lean.RArray avRg} {RG : avRJ} : avOk RT RG 24 (avOi 0 (avFdiv 0)) := avBin (by decide) (fun _ _ _ _ _ => rfl) (fun hx hb hd hp k => lv_idiv hx hb hd hp k) avDiv_ok
theorem avS25 {RT : Lean.RArray avRg} {RG : avRJ} : avOk RT RG 25 (avOi 0 (avFrem 0)) := avBin (by decide) (fun _ _ _ _ _ => rfl) (fun hx hb hd hp k => lv_irem hx hb hd hp k) avRem_ok
theorem avS26 {RT : Lean.RArray avRg} {RG : avRJ} : avOk RT RG 26 (avOi 0 (avFand 0)) := avBin (by decide) (fun _ _ _ _ _ => rfl) (fun hx hb hd _ k => lv_iand hx hb hd k) avAnd_ok
theorem avS27 {RT : Lean.RArray avRg} {RG : avRJ} : avOk RT RG 27 (avOi 0 (avFtop 0)) := avBin (by decide) (fun _ _ _ _ _ => rfl) (fun hx hb hd _ k => lv_ior hx hb hd k) avTop2_ok
theorem avS28 {RT : Lean.RArray avRg} {RG : avRJ} : avOk RT RG 28 (avOi 0 (avFtop 0)) := avBin (by decide) (fun _ _ _ _ _ => rfl) (fun hx hb hd _ k => lv_ixor hx hb hd k) avTop2_ok
theorem avS29 {RT : Lean.RArray avRg} {RG : avRJ} : avOk RT RG 29 (avOi 0 (avFtop 0)) := avBin (by decide) (fun _ _ _ _ _ => rfl) (fun hx hb hd _ k => lv_ishl hx hb hd k) avTop2_ok
theorem avS30 {RT : Lean.RArray avRg} {RG : avRJ} : avOk RT RG 30 (avOi 0 (avFtop 0)) := avBin (by decide) (fun _ _ _ _ _ => rfl) (fun hx hb hd _ k => lv_ishr hx hb hd k) avTop2_ok
