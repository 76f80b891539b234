/-! bits (rows of kit/laws/BITS.to-paste, then ours) -/
def bt (x : Int32) (i : Nat) : Bool := x.toBitVec.getLsbD i
theorem b_ext {x y : Int32} (h : ∀ i, i < 32 → bt x i = bt y i) : x = y := Int32.toBitVec_inj.mp (BitVec.eq_of_getLsbD_eq (fun i hi => h i hi))
theorem b_or (x y : Int32) (i : Nat) : bt (x ||| y) i = (bt x i || bt y i) := by unfold bt; rw [Int32.toBitVec_or, BitVec.getLsbD_or]
theorem b_and (x y : Int32) (i : Nat) : bt (x &&& y) i = (bt x i && bt y i) := by unfold bt; rw [Int32.toBitVec_and, BitVec.getLsbD_and]
theorem b_xor (x y : Int32) (i : Nat) : bt (x ^^^ y) i = (bt x i ^^ bt y i) := by unfold bt; rw [Int32.toBitVec_xor, BitVec.getLsbD_xor]
theorem b_big {x : Int32} {i : Nat} (h : 32 ≤ i) : bt x i = false := BitVec.getLsbD_of_ge _ _ h
theorem b_255 (i : Nat) : bt 255 i = decide (i < 8) := by
  rcases Nat.lt_or_ge i 32 with h | h
  · exact (by decide +kernel : ∀ i, i < 32 → bt 255 i = decide (i < 8)) i h
  · rw [b_big h, decide_eq_false (by omega)]
theorem b_65535 (i : Nat) : bt 65535 i = decide (i < 16) := by
  rcases Nat.lt_or_ge i 32 with h | h
  · exact (by decide +kernel : ∀ i, i < 32 → bt 65535 i = decide (i < 16)) i h
  · rw [b_big h, decide_eq_false (by omega)]
theorem b_m1 : ∀ i, i < 32 → bt (-1) i = true := by decide +kernel
theorem b_0 (i : Nat) : bt 0 i = false := BitVec.getLsbD_zero
theorem s_l : ∀ n, n < 32 → ((nI n &&& 31).toBitVec.smod 32).toNat = n := by decide +kernel
theorem s_u : ∀ n, n < 32 → (((nI n).toUInt32 &&& Int32.toUInt32 31).toBitVec % 32).toNat = n := by decide +kernel
theorem b_shl (n : Nat) (hn : n < 32) (x : Int32) {i : Nat} (hi : i < 32) : bt (x <<< (nI n &&& 31)) i = (decide (n ≤ i) && bt x (i - n)) := by
  unfold bt
  rw [Int32.toBitVec_shiftLeft]
  show (x.toBitVec <<< ((nI n &&& 31).toBitVec.smod 32).toNat).getLsbD i = _
  rw [s_l n hn, BitVec.getLsbD_shiftLeft]
  rcases Nat.lt_or_ge i n with h | h
  · simp [h, Nat.not_le.mpr h]
  · simp [hi, h, Nat.not_lt.mpr h]
theorem b_ushr (n : Nat) (hn : n < 32) (x : Int32) (i : Nat) : bt ((x.toUInt32 >>> ((nI n).toUInt32 &&& Int32.toUInt32 31)).toInt32) i = bt x (n + i) := by
  show (x.toUInt32 >>> ((nI n).toUInt32 &&& Int32.toUInt32 31)).toBitVec.getLsbD i = x.toUInt32.toBitVec.getLsbD (n + i)
  rw [UInt32.toBitVec_shiftRight]
  show (x.toUInt32.toBitVec >>> (((nI n).toUInt32 &&& Int32.toUInt32 31).toBitVec % 32).toNat).getLsbD i = _
  rw [s_u n hn, BitVec.getLsbD_ushiftRight]
theorem b_sshr (n : Nat) (hn : n < 32) (x : Int32) {i : Nat} (hi : i < 32) : bt (x >>> (nI n &&& 31)) i = if n + i < 32 then bt x (n + i) else bt x 31 := by
  unfold bt
  rw [Int32.toBitVec_shiftRight]
  show (x.toBitVec.sshiftRight ((nI n &&& 31).toBitVec.smod 32).toNat).getLsbD i = _
  rw [s_l n hn, BitVec.getLsbD_sshiftRight, BitVec.msb_eq_getLsbD_last]
  simp [hi]
section HAB2
variable {x : haCx} {mu : haMu} {k d pc : Nat} {ls st : List avV} {e : abEy}
theorem ha_iandB {a b : Int} {x1 y1 : Int32} (hF : haF x k d) (hE : abEtOk k e) (hpc : e.2.1 = pc) (ho : e.1 = 26) (ha : a = x1.toInt) (hb : b = y1.toInt) (h : haW x mu (pc + 1) ls (haI (x1 &&& y1).toInt :: st)) : haW x mu pc ls (haI b :: haI a :: st) := by
  obtain ⟨D, z, sb, RG, w0, p, l, ev, R, s, m, args, below, meth, c, cc, cs, Q⟩ := x
  intro rh H locs ws A xs hH hX hL hS
  obtain ⟨⟨hx, hbb, -⟩, hw0, hRG⟩ := hF
  obtain ⟨o, pc2, a1, a2, xx, ps⟩ := e
  have ho' : o = 26 := ho
  have hpc' : pc2 = pc := hpc
  subst ho'; subst hpc'
  have hd := abEt_dec hE (show ¬ (26 : Nat) = 85 by decide) rfl
  obtain ⟨y0, xr, rfl, gw, x0, xr', rfl, gv, hS'⟩ := hS
  obtain ⟨d1, x2, rfl, e1⟩ := avGv_i gv rfl
  obtain ⟨d2, y2, rfl, e2⟩ := avGv_i gw rfl
  have e1' : x2 = x1 := Int32.toInt_inj.mp (by rw [e1, ← ha]; exact haCst rh a)
  have e2' : y2 = y1 := Int32.toInt_inj.mp (by rw [e2, ← hb]; exact haCst rh b)
  subst e1'; subst e2'
  refine lv_iand hx hbb hd ?_
  exact h rh H locs ws A _ hH hX hL ⟨_, _, rfl, ⟨afNil_D rh, _, rfl, (haCst rh _).symm⟩, hS'⟩
theorem ha_iorB {a b : Int} {x1 y1 : Int32} (hF : haF x k d) (hE : abEtOk k e) (hpc : e.2.1 = pc) (ho : e.1 = 27) (ha : a = x1.toInt) (hb : b = y1.toInt) (h : haW x mu (pc + 1) ls (haI (x1 ||| y1).toInt :: st)) : haW x mu pc ls (haI b :: haI a :: st) := by
  obtain ⟨D, z, sb, RG, w0, p, l, ev, R, s, m, args, below, meth, c, cc, cs, Q⟩ := x
  intro rh H locs ws A xs hH hX hL hS
  obtain ⟨⟨hx, hbb, -⟩, hw0, hRG⟩ := hF
  obtain ⟨o, pc2, a1, a2, xx, ps⟩ := e
  have ho' : o = 27 := ho
  have hpc' : pc2 = pc := hpc
  subst ho'; subst hpc'
  have hd := abEt_dec hE (show ¬ (27 : Nat) = 85 by decide) rfl
  obtain ⟨y0, xr, rfl, gw, x0, xr', rfl, gv, hS'⟩ := hS
  obtain ⟨d1, x2, rfl, e1⟩ := avGv_i gv rfl
  obtain ⟨d2, y2, rfl, e2⟩ := avGv_i gw rfl
  have e1' : x2 = x1 := Int32.toInt_inj.mp (by rw [e1, ← ha]; exact haCst rh a)
  have e2' : y2 = y1 := Int32.toInt_inj.mp (by rw [e2, ← hb]; exact haCst rh b)
  subst e1'; subst e2'
  refine lv_ior hx hbb hd ?_
  exact h rh H locs ws A _ hH hX hL ⟨_, _, rfl, ⟨afNil_D rh, _, rfl, (haCst rh _).symm⟩, hS'⟩
theorem ha_ixorB {a b : Int} {x1 y1 : Int32} (hF : haF x k d) (hE : abEtOk k e) (hpc : e.2.1 = pc) (ho : e.1 = 28) (ha : a = x1.toInt) (hb : b = y1.toInt) (h : haW x mu (pc + 1) ls (haI (x1 ^^^ y1).toInt :: st)) : haW x mu pc ls (haI b :: haI a :: st) := by
  obtain ⟨D, z, sb, RG, w0, p, l, ev, R, s, m, args, below, meth, c, cc, cs, Q⟩ := x
  intro rh H locs ws A xs hH hX hL hS
  obtain ⟨⟨hx, hbb, -⟩, hw0, hRG⟩ := hF
  obtain ⟨o, pc2, a1, a2, xx, ps⟩ := e
  have ho' : o = 28 := ho
  have hpc' : pc2 = pc := hpc
  subst ho'; subst hpc'
  have hd := abEt_dec hE (show ¬ (28 : Nat) = 85 by decide) rfl
  obtain ⟨y0, xr, rfl, gw, x0, xr', rfl, gv, hS'⟩ := hS
  obtain ⟨d1, x2, rfl, e1⟩ := avGv_i gv rfl
  obtain ⟨d2, y2, rfl, e2⟩ := avGv_i gw rfl
  have e1' : x2 = x1 := Int32.toInt_inj.mp (by rw [e1, ← ha]; exact haCst rh a)
  have e2' : y2 = y1 := Int32.toInt_inj.mp (by rw [e2, ← hb]; exact haCst rh b)
  subst e1'; subst e2'
  refine lv_ixor hx hbb hd ?_
  exact h rh H locs ws A _ hH hX hL ⟨_, _, rfl, ⟨afNil_D rh, _, rfl, (haCst rh _).symm⟩, hS'⟩
theorem ha_ishlB {a b : Int} {x1 y1 : Int32} (hF : haF x k d) (hE : abEtOk k e) (hpc : e.2.1 = pc) (ho : e.1 = 29) (ha : a = x1.toInt) (hb : b = y1.toInt) (h : haW x mu (pc + 1) ls (haI (x1 <<< (y1 &&& 31)).toInt :: st)) : haW x mu pc ls (haI b :: haI a :: st) := by
  obtain ⟨D, z, sb, RG, w0, p, l, ev, R, s, m, args, below, meth, c, cc, cs, Q⟩ := x
  intro rh H locs ws A xs hH hX hL hS
  obtain ⟨⟨hx, hbb, -⟩, hw0, hRG⟩ := hF
  obtain ⟨o, pc2, a1, a2, xx, ps⟩ := e
  have ho' : o = 29 := ho
  have hpc' : pc2 = pc := hpc
  subst ho'; subst hpc'
  have hd := abEt_dec hE (show ¬ (29 : Nat) = 85 by decide) rfl
  obtain ⟨y0, xr, rfl, gw, x0, xr', rfl, gv, hS'⟩ := hS
  obtain ⟨d1, x2, rfl, e1⟩ := avGv_i gv rfl
  obtain ⟨d2, y2, rfl, e2⟩ := avGv_i gw rfl
  have e1' : x2 = x1 := Int32.toInt_inj.mp (by rw [e1, ← ha]; exact haCst rh a)
  have e2' : y2 = y1 := Int32.toInt_inj.mp (by rw [e2, ← hb]; exact haCst rh b)
  subst e1'; subst e2'
  refine lv_ishl hx hbb hd ?_
  exact h rh H locs ws A _ hH hX hL ⟨_, _, rfl, ⟨afNil_D rh, _, rfl, (haCst rh _).symm⟩, hS'⟩
theorem ha_ishrB {a b : Int} {x1 y1 : Int32} (hF : haF x k d) (hE : abEtOk k e) (hpc : e.2.1 = pc) (ho : e.1 = 30) (ha : a = x1.toInt) (hb : b = y1.toInt) (h : haW x mu (pc + 1) ls (haI (x1 >>> (y1 &&& 31)).toInt :: st)) : haW x mu pc ls (haI b :: haI a :: st) := by
  obtain ⟨D, z, sb, RG, w0, p, l, ev, R, s, m, args, below, meth, c, cc, cs, Q⟩ := x
  intro rh H locs ws A xs hH hX hL hS
  obtain ⟨⟨hx, hbb, -⟩, hw0, hRG⟩ := hF
  obtain ⟨o, pc2, a1, a2, xx, ps⟩ := e
  have ho' : o = 30 := ho
  have hpc' : pc2 = pc := hpc
  subst ho'; subst hpc'
  have hd := abEt_dec hE (show ¬ (30 : Nat) = 85 by decide) rfl
  obtain ⟨y0, xr, rfl, gw, x0, xr', rfl, gv, hS'⟩ := hS
  obtain ⟨d1, x2, rfl, e1⟩ := avGv_i gv rfl
  obtain ⟨d2, y2, rfl, e2⟩ := avGv_i gw rfl
  have e1' : x2 = x1 := Int32.toInt_inj.mp (by rw [e1, ← ha]; exact haCst rh a)
  have e2' : y2 = y1 := Int32.toInt_inj.mp (by rw [e2, ← hb]; exact haCst rh b)
  subst e1'; subst e2'
  refine lv_ishr hx hbb hd ?_
  exact h rh H locs ws A _ hH hX hL ⟨_, _, rfl, ⟨afNil_D rh, _, rfl, (haCst rh _).symm⟩, hS'⟩
end HAB2
theorem tb_1 (i : Nat) : bt 1 i = decide (i = 0) := by
  rcases Nat.lt_or_ge i 32 with h | h
  · exact (by decide +kernel : ∀ i, i < 32 → bt 1 i = decide (i = 0)) i h
  · rw [b_big h]
    exact (decide_eq_false (by omega)).symm
theorem tb_and1 {x : Int32} : x &&& 1 = 0 ↔ bt x 0 = false := by
  constructor
  · intro h
    have h1 := b_and x 1 0
    rw [h, b_0, tb_1] at h1
    simpa using h1.symm
  · intro h
    refine b_ext (fun i _ => ?_)
    rw [b_and, tb_1, b_0]
    by_cases e : i = 0
    · rw [e, h]; rfl
    · rw [decide_eq_false e, Bool.and_false]
theorem tb_test {y : Int32} {j : Nat} (hj : j < 32) : (y >>> (nI j &&& 31)) &&& 1 = 0 ↔ bt y j = false := by
  rw [tb_and1, b_sshr j hj y (by omega), if_pos (by omega), Nat.add_zero]
theorem tb_off {y : Int32} {b i : Nat} (hb : b < 32) (hi : i < 32) : bt (y &&& (((1 : Int32) <<< (nI b &&& 31)) ^^^ (-1))) i = (bt y i && decide (¬ i = b)) := by
  rw [b_and, b_xor, b_shl b hb 1 hi, b_m1 i hi, tb_1]
  by_cases e : i = b
  · rw [e, decide_eq_true (Nat.le_refl b), decide_eq_true (show b - b = 0 by omega), decide_eq_false (fun h => h rfl)]
    rfl
  · rw [decide_eq_true e]
    by_cases h : b ≤ i
    · rw [decide_eq_false (show ¬ i - b = 0 by omega), Bool.and_false]
      rfl
    · rw [decide_eq_false h]
      rfl
/-- how many of the bits 0 to 5 -/
def tbC (y : Int32) : Nat := (bt y 0).toNat + (bt y 1).toNat + (bt y 2).toNat + (bt y 3).toNat + (bt y 4).toNat + (bt y 5).toNat
theorem tbC_off {y : Int32} {b : Nat} (hb : b < 6) (h : bt y b = true) : tbC (y &&& (((1 : Int32) <<< (nI b &&& 31)) ^^^ (-1))) + 1 = tbC y := by
  unfold tbC
  rw [tb_off (i := 0) (by omega) (by omega), tb_off (i := 1) (by omega) (by omega), tb_off (i := 2) (by omega) (by omega), tb_off (i := 3) (by omega) (by omega), tb_off (i := 4) (by omega) (by omega), tb_off (i := 5) (by omega) (by omega)]
  rcases (show b = 0 ∨ b = 1 ∨ b = 2 ∨ b = 3 ∨ b = 4 ∨ b = 5 by omega) with e | e | e | e | e | e
  all_goals
    subst e
    rw [h]
    simp
    try omega
theorem tbC_6 (y : Int32) : tbC y ≤ 6 := by
  have f : ∀ b : Bool, b.toNat ≤ 1 := fun b => by cases b <;> decide
  unfold tbC
  have := f (bt y 0); have := f (bt y 1); have := f (bt y 2); have := f (bt y 3); have := f (bt y 4); have := f (bt y 5)
  omega
theorem tb_nI {j : Nat} (h : j < 32) : (j : Int) = (nI j).toInt := (nI_toInt (by omega)).symm
