/-! locals counted up, longs, changes of kind, branches, jumps -/
theorem avS20 {RT : Lean.RArray avRg} {RG : avRJ} : avOk RT RG 20 (avOinc) := by
  intro D z sb w0 r0 p l ev R s m args below meth c cc cs Q k d nx e pc ls st q hF hE hop hpc hnx h
  obtain ⟨hx, hb, hml, hown, hts, hnm, hz, hR3, hR4⟩ := hF
  obtain ⟨o, pc', a1, a2, x, ps⟩ := e
  have ho : o = 20 := hop
  have hp : pc' = pc := hpc
  subst ho; subst hp
  have hd := abEt_dec hE (show ¬ (20 : Nat) = 85 by decide) rfl
  have hq := Bool.and_eq_true_iff.mp (show (decide (a2 < (abMe k).1.2.2.1) && decide ((Int32.ofInt ((x : Int) - abB)).toInt + abB = x)) = true from hE.2.2)
  have hi := of_decide_eq_true hq.1
  have hc := of_decide_eq_true hq.2
  rw [← hml] at hi
  obtain ⟨h3, h2⟩ := avFo_some h
  intro rh H locs ws A xs hH hX hL hS
  obtain ⟨l1, lv, l2, l3⟩ := id hL
  have hn : ls[a2]? = some (avNth ls a2) := by
    rw [avNth_get] at h3 ⊢
    cases z : ls[a2]? with
    | none => rw [z] at h3; exact absurd h3 (by decide)
    | some v => rfl
  obtain ⟨y0, m0, gv⟩ := l3 a2 _ hn (by dsimp only at h3; omega)
  obtain ⟨d1, y, rfl, e1⟩ := avGv_i gv h3
  obtain ⟨kk, hkk⟩ := List.getElem?_of_mem m0
  obtain ⟨n0, hn0⟩ : ∃ n0 : Int32, n0 = Int32.ofInt ((x : Int) - abB) := ⟨_, rfl⟩
  rw [← hn0] at hc
  obtain ⟨rh', g, u, h4, hle, hso, du, eu⟩ := avNum_ok (z := (y + n0).toInt) hH.2.2.2.2.1 (afAdd_D d1 (afNil_D rh)) (avI32 _) (fun hr => by
    rw [afAdd_V] at hr ⊢
    have e3 : afV rh (([], (x : Int) - 9223372036854775808) : afF) = (x : Int) - 9223372036854775808 := afC_V rh _
    have e4 : abB = 9223372036854775808 := rfl
    have e5 : n0.toInt = (x : Int) - 9223372036854775808 := by omega
    have hr' : avRn 0 (afV rh (avNth ls a2).2.2 + afV rh (([], (x : Int) - 9223372036854775808) : afF)) := hr
    show _ = afV rh (avNth ls a2).2.2 + afV rh (([], (x : Int) - 9223372036854775808) : afF)
    rw [e3] at hr' ⊢
    rw [Int32.toInt_add, e1, e5]
    exact avWrap hr') h2
  have hL2 : avLok RG ws sb rh' ls c.maxLocals A := hL.mono (abX.rf ws) hle
  refine lv_iinc (v := y + n0) hx hb hd l2 (k := kk) hkk (by rw [hn0]) hi rfl (fun ls' hls' => ?_)
  exact hnx _ _ _ _ h4 rh' H locs ws ls' _ (hH.names hle hso) (hX.nm hle) (avLok.st1 l1 (fun i v hi hv => by
    obtain ⟨x, q1, q2⟩ := l3 i v hi hv
    exact ⟨x, q1, q2.mono (abX.rf ws) hle⟩) ⟨du, _, rfl, eu.symm⟩ hls') (hS.mono (abX.rf ws) hle)
theorem avS31 {RT : Lean.RArray avRg} {RG : avRJ} : avOk RT RG 31 (avOneg) := by
  intro D z sb w0 r0 p l ev R s m args below meth c cc cs Q k d nx e pc ls st q hF hE hop hpc hnx h
  obtain ⟨hx, hb, hml, hown, hts, hnm, hz, hR3, hR4⟩ := hF
  obtain ⟨o, pc', a1, a2, x, ps⟩ := e
  have ho : o = 31 := hop
  have hp : pc' = pc := hpc
  subst ho; subst hp
  have hd := abEt_dec hE (show ¬ (31 : Nat) = 85 by decide) rfl
  obtain ⟨v, rr, rfl, h0⟩ := avHd_some h
  obtain ⟨k1, h1⟩ := avFo_some h0
  intro rh H locs ws A xs hH hX hL hS
  obtain ⟨x0, xr, rfl, gv, hS'⟩ := hS
  obtain ⟨d1, y, rfl, e1⟩ := avGv_i gv k1
  obtain ⟨rh', g, u, h4, hle, hso, du, eu⟩ := avNum_ok (z := (-y).toInt) hH.2.2.2.2.1 (afMul_D d1) (avI32 _) (fun hr => by
    rw [afMul_V] at hr ⊢
    rw [Int32.toInt_neg, e1]
    have e2 : -1 * afV rh v.2.2 = -afV rh v.2.2 := by omega
    rw [e2] at hr ⊢
    exact avWrap hr) h1
  refine lv_ineg hx hb hd ?_
  exact hnx _ _ _ _ h4 rh' H locs ws A _ (hH.names hle hso) (hX.nm hle) (hL.mono (abX.rf ws) hle) ⟨_, _, rfl, ⟨du, _, rfl, eu.symm⟩, hS'.mono (abX.rf ws) hle⟩
theorem avWrapL {z : Int} (h : avRn 1 z) : z.bmod (2 ^ 64) = z := by
  have h1 : (-9223372036854775808 : Int) ≤ z := h.1
  have h2 : z ≤ (9223372036854775807 : Int) := h.2
  exact Int.bmod_eq_of_le (by omega) (by omega)
/-- what an operation on longs comes to -/
def avOpl (f : Int64 → Int64 → Int64) (F : avOp) : Prop := ∀ (rh : afR) (s : avS) (a b : afF) (K : avV → avS → Bool) (x y : Int64), afSo rh s.1 → afD rh a.1 → afD rh b.1 → x.toInt = afV rh a → y.toInt = afV rh b → F s a b K = true → avGoes rh s 1 (f x y).toInt K
def avRowL (ins : Jvm.ClassFile.Instr) (f : Int64 → Int64 → Int64) : Prop := ∀ {p : Program} {l : Launch} {ev : Env} {R : Room} {s : State} {m : MethodId} {args : Array Value} {below : List Frame} {meth : Method} {c : Code} {H : Heap} {locs : List Loc} {cells slots : Nat} {Q : State → Prop} {cc : ByteArray} {pc : Nat} {A : Array Slot} {rest : List Value} {x y : Int64}, p.tables.exec = Jvm.exec → c.code = cc → decode cc pc = .ok (ins, 1) → W p l ev R s m args below meth c H locs cells slots Q (F0 m (pc + 1) A (.long (f x y) :: rest)) → W p l ev R s m args below meth c H locs cells slots Q (F0 m pc A (.long y :: .long x :: rest))
theorem avBinL {RT : Lean.RArray avRg} {RG : avRJ} {op : Nat} {ins : Jvm.ClassFile.Instr} {f : Int64 → Int64 → Int64} {F : avOp} (h85 : ¬ op = 85) (hins : ∀ pc a1 a2 x ps, abIns (op, pc, a1, a2, x, ps) = some (ins, 1)) (row : avRowL ins f) (hop : avOpl f F) : avOk RT RG op (avOi 1 F) := by
  intro D z sb w0 r0 p l ev R s m args below meth c cc cs Q k d nx e pc ls st q hF hE ho hpc hnx h
  obtain ⟨hx, hb, -⟩ := hF
  obtain ⟨o, pc', a1, a2, x, ps⟩ := e
  have ho : o = op := ho
  have hp : pc' = pc := hpc
  subst ho; subst hp
  have hd := abEt_dec hE h85 (hins _ _ _ _ _)
  obtain ⟨w, v, rr, rfl, h0⟩ := av2_some h
  obtain ⟨k1, h1⟩ := avFo_some h0
  obtain ⟨k2, h2⟩ := avFo_some h1
  intro rh H locs ws A xs hH hX hL hS
  obtain ⟨y0, xr, rfl, gw, x0, xr', rfl, gv, hS'⟩ := hS
  obtain ⟨d1, x1, rfl, e1⟩ := avGv_l gv k1
  obtain ⟨d2, y1, rfl, e2⟩ := avGv_l gw k2
  obtain ⟨rh', g, u, h3, hle, hso, du, eu⟩ := hop rh q _ _ _ x1 y1 hH.2.2.2.2.1 d1 d2 e1 e2 h2
  refine row hx hb hd ?_
  exact hnx _ _ _ _ h3 rh' H locs ws A _ (hH.names hle hso) (hX.nm hle) (hL.mono (abX.rf ws) hle) ⟨_, _, rfl, ⟨du, _, rfl, eu.symm⟩, hS'.mono (abX.rf ws) hle⟩
theorem avLadd_ok : avOpl (fun x y => x + y) (avFadd 1) := by
  intro rh s a b K x y hs da db ea eb h
  refine avNum_ok hs (afAdd_D da db) (avI64 _) (fun hr => ?_) h
  rw [afAdd_V] at hr ⊢
  rw [Int64.toInt_add, ea, eb]
  exact avWrapL hr
theorem avLsub_ok : avOpl (fun x y => x - y) (avFsub 1) := by
  intro rh s a b K x y hs da db ea eb h
  refine avNum_ok hs (afSub_D da db) (avI64 _) (fun hr => ?_) h
  rw [afSub_V] at hr ⊢
  rw [Int64.toInt_sub, ea, eb]
  exact avWrapL hr
theorem avTopl_ok {f : Int64 → Int64 → Int64} : avOpl f (avFtop 1) := fun _ _ _ _ _ _ _ hs _ _ _ _ h => avTop_ok hs (avI64 _) h
theorem avS32 {RT : Lean.RArray avRg} {RG : avRJ} : avOk RT RG 32 (avOi 1 (avFadd 1)) := avBinL (by decide) (fun _ _ _ _ _ => rfl) (fun hx hb hd k => lv_ladd hx hb hd k) avLadd_ok
theorem avS33 {RT : Lean.RArray avRg} {RG : avRJ} : avOk RT RG 33 (avOi 1 (avFsub 1)) := avBinL (by decide) (fun _ _ _ _ _ => rfl) (fun hx hb hd k => lv_lsub hx hb hd k) avLsub_ok
theorem avS34 {RT : Lean.RArray avRg} {RG : avRJ} : avOk RT RG 34 (avOi 1 (avFtop 1)) := avBinL (by decide) (fun _ _ _ _ _ => rfl) (fun hx hb hd k => lv_lmul hx hb hd k) avTopl_ok
theorem avS35 {RT : Lean.RArray avRg} {RG : avRJ} : avOk RT RG 35 (avOi 1 (avFtop 1)) := avBinL (by decide) (fun _ _ _ _ _ => rfl) (fun hx hb hd k => lv_land hx hb hd k) avTopl_ok
theorem avS36 {RT : Lean.RArray avRg} {RG : avRJ} : avOk RT RG 36 (avOi 1 (avFtop 1)) := avBinL (by decide) (fun _ _ _ _ _ => rfl) (fun hx hb hd k => lv_lor hx hb hd k) avTopl_ok
theorem avS37 {RT : Lean.RArray avRg} {RG : avRJ} : avOk RT RG 37 (avOi 1 (avFtop 1)) := avBinL (by decide) (fun _ _ _ _ _ => rfl) (fun hx hb hd k => lv_lxor hx hb hd k) avTopl_ok
theorem avS38 {RT : Lean.RArray avRg} {RG : avRJ} : avOk RT RG 38 (avOjs) := by
  intro D z sb w0 r0 p l ev R s m args below meth c cc cs Q k d nx e pc ls st q hF hE hop hpc hnx h
  obtain ⟨hx, hb, hml, hown, hts, hnm, hz, hR3, hR4⟩ := hF
  obtain ⟨o, pc', a1, a2, x, ps⟩ := e
  have ho : o = 38 := hop
  have hp : pc' = pc := hpc
  subst ho; subst hp
  have hd := abEt_dec hE (show ¬ (38 : Nat) = 85 by decide) rfl
  obtain ⟨w, v, rr, rfl, h0⟩ := av2_some h
  obtain ⟨k1, h1⟩ := avFo_some h0
  obtain ⟨k2, h2⟩ := avFo_some h1
  intro rh H locs ws A xs hH hX hL hS
  obtain ⟨y0, xr, rfl, gw, x0, xr', rfl, gv, hS'⟩ := hS
  obtain ⟨d1, y1, rfl, e1⟩ := avGv_i gw k1
  obtain ⟨d2, x1, rfl, e2⟩ := avGv_l gv k2
  refine lv_lshl hx hb hd rfl ?_
  obtain ⟨rh', g, u, h3, hle, hso, du, eu⟩ := avTop_ok hH.2.2.2.2.1 (avI64 _) h2
  exact hnx _ _ _ _ h3 rh' H locs ws A _ (hH.names hle hso) (hX.nm hle) (hL.mono (abX.rf ws) hle) ⟨_, _, rfl, ⟨du, _, rfl, eu.symm⟩, hS'.mono (abX.rf ws) hle⟩
theorem avS39 {RT : Lean.RArray avRg} {RG : avRJ} : avOk RT RG 39 (avOjs) := by
  intro D z sb w0 r0 p l ev R s m args below meth c cc cs Q k d nx e pc ls st q hF hE hop hpc hnx h
  obtain ⟨hx, hb, hml, hown, hts, hnm, hz, hR3, hR4⟩ := hF
  obtain ⟨o, pc', a1, a2, x, ps⟩ := e
  have ho : o = 39 := hop
  have hp : pc' = pc := hpc
  subst ho; subst hp
  have hd := abEt_dec hE (show ¬ (39 : Nat) = 85 by decide) rfl
  obtain ⟨w, v, rr, rfl, h0⟩ := av2_some h
  obtain ⟨k1, h1⟩ := avFo_some h0
  obtain ⟨k2, h2⟩ := avFo_some h1
  intro rh H locs ws A xs hH hX hL hS
  obtain ⟨y0, xr, rfl, gw, x0, xr', rfl, gv, hS'⟩ := hS
  obtain ⟨d1, y1, rfl, e1⟩ := avGv_i gw k1
  obtain ⟨d2, x1, rfl, e2⟩ := avGv_l gv k2
  refine lv_lshr hx hb hd rfl ?_
  obtain ⟨rh', g, u, h3, hle, hso, du, eu⟩ := avTop_ok hH.2.2.2.2.1 (avI64 _) h2
  exact hnx _ _ _ _ h3 rh' H locs ws A _ (hH.names hle hso) (hX.nm hle) (hL.mono (abX.rf ws) hle) ⟨_, _, rfl, ⟨du, _, rfl, eu.symm⟩, hS'.mono (abX.rf ws) hle⟩
theorem avS40 {RT : Lean.RArray avRg} {RG : avRJ} : avOk RT RG 40 (avOi2l) := by
  intro D z sb w0 r0 p l ev R s m args below meth c cc cs Q k d nx e pc ls st q hF hE hop hpc hnx h
  obtain ⟨hx, hb, hml, hown, hts, hnm, hz, hR3, hR4⟩ := hF
  obtain ⟨o, pc', a1, a2, x, ps⟩ := e
  have ho : o = 40 := hop
  have hp : pc' = pc := hpc
  subst ho; subst hp
  have hd := abEt_dec hE (show ¬ (40 : Nat) = 85 by decide) rfl
  obtain ⟨v, rr, rfl, h0⟩ := avHd_some h
  obtain ⟨k1, h1⟩ := avFo_some h0
  intro rh H locs ws A xs hH hX hL hS
  obtain ⟨x0, xr, rfl, gv, hS'⟩ := hS
  obtain ⟨d1, y, rfl, e1⟩ := avGv_i gv k1
  refine lv_i2l hx hb hd rfl ?_
  exact hnx _ _ _ _ h1 rh H locs ws A _ hH hX hL ⟨_, _, rfl, ⟨d1, _, rfl, by rw [Int32.toInt_toInt64]; exact e1⟩, hS'⟩
theorem avS41 {RT : Lean.RArray avRg} {RG : avRJ} : avOk RT RG 41 (avOl2i) := by
  intro D z sb w0 r0 p l ev R s m args below meth c cc cs Q k d nx e pc ls st q hF hE hop hpc hnx h
  obtain ⟨hx, hb, hml, hown, hts, hnm, hz, hR3, hR4⟩ := hF
  obtain ⟨o, pc', a1, a2, x, ps⟩ := e
  have ho : o = 41 := hop
  have hp : pc' = pc := hpc
  subst ho; subst hp
  have hd := abEt_dec hE (show ¬ (41 : Nat) = 85 by decide) rfl
  obtain ⟨v, rr, rfl, h0⟩ := avHd_some h
  obtain ⟨k1, h1⟩ := avFo_some h0
  intro rh H locs ws A xs hH hX hL hS
  obtain ⟨x0, xr, rfl, gv, hS'⟩ := hS
  obtain ⟨d1, y, rfl, e1⟩ := avGv_l gv k1
  obtain ⟨rh', g, u, h4, hle, hso, du, eu⟩ := avNum_ok (z := y.toInt32.toInt) hH.2.2.2.2.1 d1 (avI32 _) (fun hr => by
    rw [Int64.toInt_toInt32, e1]
    exact avWrap hr) h1
  refine lv_l2i hx hb hd rfl ?_
  exact hnx _ _ _ _ h4 rh' H locs ws A _ (hH.names hle hso) (hX.nm hle) (hL.mono (abX.rf ws) hle) ⟨_, _, rfl, ⟨du, _, rfl, eu.symm⟩, hS'.mono (abX.rf ws) hle⟩
theorem avS42 {RT : Lean.RArray avRg} {RG : avRJ} : avOk RT RG 42 (avOcut (-128) 127) := by
  intro D z sb w0 r0 p l ev R s m args below meth c cc cs Q k d nx e pc ls st q hF hE hop hpc hnx h
  obtain ⟨hx, hb, hml, hown, hts, hnm, hz, hR3, hR4⟩ := hF
  obtain ⟨o, pc', a1, a2, x, ps⟩ := e
  have ho : o = 42 := hop
  have hp : pc' = pc := hpc
  subst ho; subst hp
  have hd := abEt_dec hE (show ¬ (42 : Nat) = 85 by decide) rfl
  obtain ⟨v, rr, rfl, h0⟩ := avHd_some h
  obtain ⟨k1, h1⟩ := avFo_some h0
  intro rh H locs ws A xs hH hX hL hS
  obtain ⟨x0, xr, rfl, gv, hS'⟩ := hS
  obtain ⟨d1, y, rfl, e1⟩ := avGv_i gv k1
  have b1 := Int8.le_toInt y.toInt8
  have b2 := Int8.toInt_lt y.toInt8
  have fin : avNew 0 (-128) 127 q (fun u s => nx (pc' + 1) ls (u :: rr) s) = true → W p l ev R s m args below meth c H locs cc cs Q (F0 m pc' A (.int y :: xr)) := by
    intro h2
    obtain ⟨rh', g, u, h3, hle, hso, du, eu⟩ := avNew_ok (z := y.toInt8.toInt32.toInt) hH.2.2.2.2.1 (by rw [Int8.toInt_toInt32]; omega) (by rw [Int8.toInt_toInt32]; omega) h2
    refine lv_i2b hx hb hd rfl ?_
    exact hnx _ _ _ _ h3 rh' H locs ws A _ (hH.names hle hso) (hX.nm hle) (hL.mono (abX.rf ws) hle) ⟨_, _, rfl, ⟨du, _, rfl, eu.symm⟩, hS'.mono (abX.rf ws) hle⟩
  cases q1 : avGe q (afAdd v.2.2 ([], -(-128))) with
  | false => rw [q1, abIf_f rfl] at h1; exact fin h1
  | true =>
    rw [q1, abIf_t rfl] at h1
    cases q2 : avGe q (afSub ([], 127) v.2.2) with
    | false => rw [q2, abIf_f rfl] at h1; exact fin h1
    | true =>
      rw [q2, abIf_t rfl] at h1
      have g1 := avGe_ok hH.2.2.2.2.1 (afAdd_D d1 (afNil_D rh)) q1
      have g2 := avGe_ok hH.2.2.2.2.1 (afSub_D (f := ([], 127)) (afNil_D rh) d1) q2
      rw [afAdd_V] at g1
      rw [afSub_V] at g2
      have c1 : afV rh (([], -(-128)) : afF) = -(-128) := afC_V rh _
      have c2 : afV rh (([], 127) : afF) = 127 := afC_V rh _
      refine lv_i2b hx hb hd rfl ?_
      refine hnx _ _ _ _ h1 rh H locs ws A _ hH hX hL ⟨_, _, rfl, ?_, hS'⟩
      obtain ⟨t, r, f⟩ := v
      have ht : t = 0 := k1
      subst ht
      refine ⟨d1, _, rfl, ?_⟩
      show y.toInt8.toInt32.toInt = afV rh f
      rw [Int8.toInt_toInt32, Int32.toInt_toInt8, e1]
      show (afV rh f).bmod (2 ^ 8) = afV rh f
      have g1' : 0 ≤ afV rh f + afV rh (([], -(-128)) : afF) := g1
      have g2' : 0 ≤ afV rh (([], 127) : afF) - afV rh f := g2
      exact Int.bmod_eq_of_le (by omega) (by omega)
theorem avS43 {RT : Lean.RArray avRg} {RG : avRJ} : avOk RT RG 43 (avOcmp) := by
  intro D z sb w0 r0 p l ev R s m args below meth c cc cs Q k d nx e pc ls st q hF hE hop hpc hnx h
  obtain ⟨hx, hb, hml, hown, hts, hnm, hz, hR3, hR4⟩ := hF
  obtain ⟨o, pc', a1, a2, x, ps⟩ := e
  have ho : o = 43 := hop
  have hp : pc' = pc := hpc
  subst ho; subst hp
  have hd := abEt_dec hE (show ¬ (43 : Nat) = 85 by decide) rfl
  obtain ⟨w, v, rr, rfl, h0⟩ := av2_some h
  obtain ⟨k1, h1⟩ := avFo_some h0
  obtain ⟨k2, h2⟩ := avFo_some h1
  intro rh H locs ws A xs hH hX hL hS
  obtain ⟨y0, xr, rfl, gw, x0, xr', rfl, gv, hS'⟩ := hS
  obtain ⟨d1, x1, rfl, e1⟩ := avGv_l gv k1
  obtain ⟨d2, y1, rfl, e2⟩ := avGv_l gw k2
  refine W.lcmp hx hb hd ?_
  refine hnx _ _ _ _ h2 rh H locs ws A _ hH hX hL ⟨_, _, rfl, ⟨afSub_D d1 d2, _, rfl, ?_⟩, hS'⟩
  show (lg_cmp x1 y1).toInt = avSg (afV rh (afSub v.2.2 w.2.2))
  rw [afSub_V, abSg_cmp, e1, e2]
  unfold abSg avSg
  rcases Int.lt_trichotomy (afV rh v.2.2) (afV rh w.2.2) with z1 | z1 | z1
  · rw [if_pos z1, if_pos (show afV rh v.2.2 - afV rh w.2.2 < 0 by omega)]
  · rw [if_neg (show ¬ afV rh v.2.2 < afV rh w.2.2 by omega), if_pos z1, if_neg (show ¬ afV rh v.2.2 - afV rh w.2.2 < 0 by omega), if_pos (show afV rh v.2.2 - afV rh w.2.2 = 0 by omega)]
  · rw [if_neg (show ¬ afV rh v.2.2 < afV rh w.2.2 by omega), if_neg (show ¬ afV rh v.2.2 = afV rh w.2.2 by omega), if_neg (show ¬ afV rh v.2.2 - afV rh w.2.2 < 0 by omega), if_neg (show ¬ afV rh v.2.2 - afV rh w.2.2 = 0 by omega)]
theorem avOne_ok {RG : avRJ} {ws : va_W} {sb : Nat} {rh : afR} {v : avV} {x : Value} {k : Bool} (h : avOne v k = true) (g : avGv RG ws sb rh v x) : k = true ∧ x.category = 1 := by
  unfold avOne at h
  cases q1 : Nat.beq v.1 1 with
  | true => rw [q1, abIf_t rfl] at h; cases h
  | false =>
    rw [q1, abIf_f rfl] at h
    obtain ⟨h1, h2⟩ := abIf_and h
    have h3 := abBle h1
    exact ⟨h2, avCat1 (by omega) (abBeq_f q1) g⟩
theorem avS44 {RT : Lean.RArray avRg} {RG : avRJ} : avOk RT RG 44 (avOdup) := by
  intro D z sb w0 r0 p l ev R s m args below meth c cc cs Q k d nx e pc ls st q hF hE hop hpc hnx h
  obtain ⟨hx, hb, hml, hown, hts, hnm, hz, hR3, hR4⟩ := hF
  obtain ⟨o, pc', a1, a2, x, ps⟩ := e
  have ho : o = 44 := hop
  have hp : pc' = pc := hpc
  subst ho; subst hp
  have hd := abEt_dec hE (show ¬ (44 : Nat) = 85 by decide) rfl
  obtain ⟨v, rr, rfl, h0⟩ := avHd_some h
  intro rh H locs ws A xs hH hX hL hS
  obtain ⟨x0, xr, rfl, gv, hS'⟩ := hS
  obtain ⟨h1, hc⟩ := avOne_ok h0 gv
  refine lv_dup hx hb hd hc ?_
  exact hnx _ _ _ _ h1 rh H locs ws A _ hH hX hL ⟨_, _, rfl, gv, _, _, rfl, gv, hS'⟩
theorem avS45 {RT : Lean.RArray avRg} {RG : avRJ} : avOk RT RG 45 (avOdup2) := by
  intro D z sb w0 r0 p l ev R s m args below meth c cc cs Q k d nx e pc ls st q hF hE hop hpc hnx h
  obtain ⟨hx, hb, hml, hown, hts, hnm, hz, hR3, hR4⟩ := hF
  obtain ⟨o, pc', a1, a2, x, ps⟩ := e
  have ho : o = 45 := hop
  have hp : pc' = pc := hpc
  subst ho; subst hp
  have hd := abEt_dec hE (show ¬ (45 : Nat) = 85 by decide) rfl
  obtain ⟨v, rr, rfl, h0⟩ := avHd_some h
  intro rh H locs ws A xs hH hX hL hS
  obtain ⟨x0, xr, rfl, gv, hS'⟩ := hS
  cases q1 : Nat.beq v.1 1 with
  | true =>
    rw [q1, abIf_t rfl] at h0
    obtain ⟨-, y, rfl, -⟩ := avGv_l gv (abBeq q1)
    refine lv_dup2_2 hx hb hd rfl ?_
    exact hnx _ _ _ _ h0 rh H locs ws A _ hH hX hL ⟨_, _, rfl, gv, _, _, rfl, gv, hS'⟩
  | false =>
    rw [q1, abIf_f rfl] at h0
    obtain ⟨w, r2, rfl, h1⟩ := avHd_some h0
    obtain ⟨y1, xr1, rfl, gw, hS2⟩ := hS'
    obtain ⟨h2, hc1⟩ := avOne_ok h1 gv
    obtain ⟨h3, hc2⟩ := avOne_ok h2 gw
    refine lv_dup2_11 hx hb hd hc1 hc2 ?_
    exact hnx _ _ _ _ h3 rh H locs ws A _ hH hX hL ⟨_, _, rfl, gv, _, _, rfl, gw, _, _, rfl, gv, _, _, rfl, gw, hS2⟩
/-- what holds of the number d, in a state that is meant -/
theorem avAsm_ok {rh : afR} {s : avS} {f : afF} {K : avS → Bool} (h : avAsm s f K = true) (hs : afSo rh s.1) (d : afD rh f.1) (hf : 0 ≤ afV rh f) : ∃ g : afG, K (g, s.2) = true ∧ afSo rh g := by
  obtain ⟨g, h1, h2, -⟩ := afAsm_ok h hs d hf
  exact ⟨g, h1, h2⟩
def avHolds (rh : afR) (s : avS) (K : avS → Bool) : Prop := ∃ g : afG, K (g, s.2) = true ∧ afSo rh g
def avBrk (P : Int → Prop) (B : avBt) : Prop := ∀ (rh : afR) (s : avS) (d : afF) (f g : avS → Bool), B s d f g = true → afSo rh s.1 → afD rh d.1 → (P (afV rh d) → avHolds rh s f) ∧ (¬ P (afV rh d) → avHolds rh s g)
theorem afK_V {rh : afR} (k : Int) : afV rh (([], k) : afF) = k := afC_V rh k
theorem avBlt_ok : avBrk (fun n => n < 0) avBlt := by
  intro rh s d f g h hs hd
  obtain ⟨h1, h2⟩ := abIf_and h
  refine ⟨fun hp => avAsm_ok h1 hs (afSub_D (f := ([], -1)) (afNil_D rh) hd) ?_, fun hp => avAsm_ok h2 hs hd (by omega)⟩
  rw [afSub_V, afK_V]
  omega
theorem avBgt_ok : avBrk (fun n => 0 < n) avBgt := by
  intro rh s d f g h hs hd
  obtain ⟨h1, h2⟩ := abIf_and h
  refine ⟨fun hp => avAsm_ok h1 hs (afAdd_D (g := ([], -1)) hd (afNil_D rh)) ?_, fun hp => avAsm_ok h2 hs (afMul_D hd) ?_⟩
  · rw [afAdd_V, afK_V]
    omega
  · rw [afMul_V]
    omega
theorem avNe_ok {rh : afR} {s : avS} {d : afF} {K : avS → Bool} (h : avNe s d K = true) (hs : afSo rh s.1) (hd : afD rh d.1) (hn : ¬ afV rh d = 0) : avHolds rh s K := by
  have up : avAsm s (afAdd d ([], -1)) K = true → 0 < afV rh d → avHolds rh s K := fun h1 hp => avAsm_ok h1 hs (afAdd_D (g := ([], -1)) hd (afNil_D rh)) (by rw [afAdd_V, afK_V]; omega)
  have dn : avAsm s (afSub ([], -1) d) K = true → afV rh d < 0 → avHolds rh s K := fun h1 hp => avAsm_ok h1 hs (afSub_D (f := ([], -1)) (afNil_D rh) hd) (by rw [afSub_V, afK_V]; omega)
  unfold avNe at h
  cases q1 : afEnt1 s.1 d with
  | true =>
    rw [q1, abIf_t rfl] at h
    have := afEnt1_ok hs hd q1
    exact up h (by omega)
  | false =>
    rw [q1, abIf_f rfl] at h
    cases q2 : afEnt1 s.1 (afMul (-1) d) with
    | true =>
      rw [q2, abIf_t rfl] at h
      have h3 := afEnt1_ok hs (afMul_D hd) q2
      rw [afMul_V] at h3
      exact dn h (by omega)
    | false =>
      rw [q2, abIf_f rfl] at h
      cases q3 : afTwo d.1 with
      | true => rw [q3, abIf_t rfl] at h; exact ⟨s.1, h, hs⟩
      | false =>
        rw [q3, abIf_f rfl] at h
        obtain ⟨h1, h2⟩ := abIf_and h
        rcases Int.lt_or_le (afV rh d) 0 with g | g
        · exact dn h2 g
        · exact up h1 (by omega)
theorem avBe_ok : avBrk (fun n => n = 0) avBe := by
  intro rh s d f g h hs hd
  obtain ⟨h1, h2⟩ := abIf_and h
  refine ⟨fun hp => ?_, fun hp => avNe_ok h2 hs hd hp⟩
  obtain ⟨g1, k1, k2⟩ := avAsm_ok h1 hs hd (by omega)
  obtain ⟨g2, k3, k4⟩ := avAsm_ok (s := (g1, s.2)) k1 k2 (afMul_D hd) (by rw [afMul_V]; omega)
  exact ⟨g2, k3, k4⟩
theorem avSw_ok {P : Int → Prop} {B : avBt} (h : avBrk P B) : avBrk (fun n => ¬ P n) (avSw B) := fun rh s d f g h1 hs hd => by
  obtain ⟨h2, h3⟩ := h rh s d g f h1 hs hd
  exact ⟨h3, fun hp => h2 (Classical.not_not.mp hp)⟩
theorem avIcmp {RT : Lean.RArray avRg} {RG : avRJ} {op : Nat} {cd : Jvm.ClassFile.Cond} {P : Int → Int → Prop} {P0 : Int → Prop} {B : avBt} (h85 : ¬ op = 85) (hins : ∀ (pc a1 a2 x : Nat) (ps : List Nat), abIns (op, pc, a1, a2, x, ps) = some (.if_icmp cd ((a1 : Int) - pc), 3)) (row : abRowB2 cd P) (hB : avBrk P0 B) (hP : ∀ m n : Int, P m n ↔ P0 (m - n)) : avOk RT RG op (avOic B) := by
  intro D z sb w0 r0 p l ev R s m args below meth c cc cs Q k d nx e pc ls st q hF hE ho hpc hnx h
  obtain ⟨hx, hb, -⟩ := hF
  obtain ⟨o, pc', a1, a2, x, ps⟩ := e
  have ho : o = op := ho
  have hp : pc' = pc := hpc
  subst ho; subst hp
  have hd := abEt_dec hE h85 (hins _ _ _ _ _)
  obtain ⟨w, v, rr, rfl, h0⟩ := av2_some h
  obtain ⟨k1, h1⟩ := avFo_some h0
  obtain ⟨k2, h2⟩ := avFo_some h1
  intro rh H locs ws A xs hH hX hL hS
  obtain ⟨y0, xr, rfl, gw, x0, xr', rfl, gv, hS'⟩ := hS
  obtain ⟨d1, x1, rfl, e1⟩ := avGv_i gv k1
  obtain ⟨d2, y1, rfl, e2⟩ := avGv_i gw k2
  obtain ⟨t1, t2⟩ := hB rh q _ _ _ h2 hH.2.2.2.2.1 (afSub_D d1 d2)
  rw [afSub_V, ← e1, ← e2] at t1 t2
  refine row hx hb hd (show ((pc' : Nat) : Int) + ((a1 : Int) - pc') = ((a1 : Nat) : Int) by omega) (fun hp => ?_) (fun hp => ?_)
  · obtain ⟨g, h3, hso⟩ := t1 ((hP _ _).mp hp)
    exact hnx _ _ _ _ h3 rh H locs ws A _ (hH.names (afLe.rf rh) hso) hX hL hS'
  · obtain ⟨g, h3, hso⟩ := t2 (fun z => hp ((hP _ _).mpr z))
    exact hnx _ _ _ _ h3 rh H locs ws A _ (hH.names (afLe.rf rh) hso) hX hL hS'
theorem avIf1 {RT : Lean.RArray avRg} {RG : avRJ} {op : Nat} {cd : Jvm.ClassFile.Cond} {P : Int → Int → Prop} {P0 : Int → Prop} {B : avBt} (h85 : ¬ op = 85) (hins : ∀ (pc a1 a2 x : Nat) (ps : List Nat), abIns (op, pc, a1, a2, x, ps) = some (.ifCond cd ((a1 : Int) - pc), 3)) (row : abRowB1 cd P) (hB : avBrk P0 B) (hP : ∀ m : Int, P m 0 ↔ P0 m) (hS : ∀ m : Int, P0 (avSg m) ↔ P0 m) : avOk RT RG op (avOif B) := by
  intro D z sb w0 r0 p l ev R s m args below meth c cc cs Q k d nx e pc ls st q hF hE ho hpc hnx h
  obtain ⟨hx, hb, -⟩ := hF
  obtain ⟨o, pc', a1, a2, x, ps⟩ := e
  have ho : o = op := ho
  have hp : pc' = pc := hpc
  subst ho; subst hp
  have hd := abEt_dec hE h85 (hins _ _ _ _ _)
  obtain ⟨v, rr, rfl, h0⟩ := avHd_some h
  intro rh H locs ws A xs hH hX hL hS'
  obtain ⟨x0, xr, rfl, gv, hS'⟩ := hS'
  have key : afD rh v.2.2.1 ∧ B q v.2.2 (nx a1 ls rr) (nx (pc' + 3) ls rr) = true ∧ ∃ y : Int32, x0 = .int y ∧ (P y.toInt 0 ↔ P0 (afV rh v.2.2)) := by
    cases q1 : Nat.beq v.1 0 with
    | true =>
      rw [q1, abIf_t rfl] at h0
      obtain ⟨d1, y, rfl, e1⟩ := avGv_i gv (abBeq q1)
      exact ⟨d1, h0, y, rfl, by rw [e1]; exact hP _⟩
    | false =>
      rw [q1, abIf_f rfl] at h0
      obtain ⟨h1, h2⟩ := abIf_and h0
      obtain ⟨t, r, f⟩ := v
      have ht : t = 4 := abBeq h1
      subst ht
      obtain ⟨d1, y, rfl, e1⟩ := gv
      exact ⟨d1, h2, y, rfl, by rw [e1, hP]; exact hS _⟩
  obtain ⟨d1, h2, y, rfl, hpp⟩ := key
  obtain ⟨t1, t2⟩ := hB rh q _ _ _ h2 hH.2.2.2.2.1 d1
  refine row hx hb hd (show ((pc' : Nat) : Int) + ((a1 : Int) - pc') = ((a1 : Nat) : Int) by omega) (fun hp => ?_) (fun hp => ?_)
  · obtain ⟨g, h3, hso⟩ := t1 (hpp.mp hp)
    exact hnx _ _ _ _ h3 rh H locs ws A _ (hH.names (afLe.rf rh) hso) hX hL hS'
  · obtain ⟨g, h3, hso⟩ := t2 (fun z => hp (hpp.mpr z))
    exact hnx _ _ _ _ h3 rh H locs ws A _ (hH.names (afLe.rf rh) hso) hX hL hS'
theorem avSgP (m : Int) : (avSg m = 0 ↔ m = 0) ∧ (avSg m < 0 ↔ m < 0) ∧ (0 < avSg m ↔ 0 < m) := by
  unfold avSg
  by_cases h1 : m < 0
  · rw [if_pos h1]
    refine ⟨⟨fun q => by omega, fun q => by omega⟩, ⟨fun _ => h1, fun _ => by omega⟩, ⟨fun q => by omega, fun q => by omega⟩⟩
  · rw [if_neg h1]
    by_cases h2 : m = 0
    · rw [if_pos h2]
      refine ⟨⟨fun _ => h2, fun _ => rfl⟩, ⟨fun q => by omega, fun q => by omega⟩, ⟨fun q => by omega, fun q => by omega⟩⟩
    · rw [if_neg h2]
      refine ⟨⟨fun q => by omega, fun q => by omega⟩, ⟨fun q => by omega, fun q => by omega⟩, ⟨fun _ => by omega, fun _ => by omega⟩⟩
theorem avS46 {RT : Lean.RArray avRg} {RG : avRJ} : avOk RT RG 46 (avOif avBe) := avIf1 (P := fun m n => m = n) (P0 := fun n => n = 0) (by decide) (fun _ _ _ _ _ => rfl) abR1eq avBe_ok (fun m => Iff.rfl) (fun m => (avSgP m).1)
theorem avS52 {RT : Lean.RArray avRg} {RG : avRJ} : avOk RT RG 52 (avOic avBe) := avIcmp (P := fun m n => m = n) (P0 := fun n => n = 0) (by decide) (fun _ _ _ _ _ => rfl) abR2eq avBe_ok (fun m n => by constructor <;> intro q <;> omega)
theorem avS47 {RT : Lean.RArray avRg} {RG : avRJ} : avOk RT RG 47 (avOif (avSw avBe)) := avIf1 (P := fun m n => ¬ m = n) (P0 := fun n => ¬ n = 0) (by decide) (fun _ _ _ _ _ => rfl) abR1ne (avSw_ok avBe_ok) (fun m => Iff.rfl) (fun m => not_congr (avSgP m).1)
theorem avS53 {RT : Lean.RArray avRg} {RG : avRJ} : avOk RT RG 53 (avOic (avSw avBe)) := avIcmp (P := fun m n => ¬ m = n) (P0 := fun n => ¬ n = 0) (by decide) (fun _ _ _ _ _ => rfl) abR2ne (avSw_ok avBe_ok) (fun m n => by constructor <;> intro q <;> omega)
theorem avS48 {RT : Lean.RArray avRg} {RG : avRJ} : avOk RT RG 48 (avOif avBlt) := avIf1 (P := fun m n => m < n) (P0 := fun n => n < 0) (by decide) (fun _ _ _ _ _ => rfl) abR1lt avBlt_ok (fun m => Iff.rfl) (fun m => (avSgP m).2.1)
theorem avS54 {RT : Lean.RArray avRg} {RG : avRJ} : avOk RT RG 54 (avOic avBlt) := avIcmp (P := fun m n => m < n) (P0 := fun n => n < 0) (by decide) (fun _ _ _ _ _ => rfl) abR2lt avBlt_ok (fun m n => by constructor <;> intro q <;> omega)
theorem avS49 {RT : Lean.RArray avRg} {RG : avRJ} : avOk RT RG 49 (avOif (avSw avBlt)) := avIf1 (P := fun m n => ¬ m < n) (P0 := fun n => ¬ n < 0) (by decide) (fun _ _ _ _ _ => rfl) abR1ge (avSw_ok avBlt_ok) (fun m => Iff.rfl) (fun m => not_congr (avSgP m).2.1)
theorem avS55 {RT : Lean.RArray avRg} {RG : avRJ} : avOk RT RG 55 (avOic (avSw avBlt)) := avIcmp (P := fun m n => ¬ m < n) (P0 := fun n => ¬ n < 0) (by decide) (fun _ _ _ _ _ => rfl) abR2ge (avSw_ok avBlt_ok) (fun m n => by constructor <;> intro q <;> omega)
theorem avS50 {RT : Lean.RArray avRg} {RG : avRJ} : avOk RT RG 50 (avOif avBgt) := avIf1 (P := fun m n => n < m) (P0 := fun n => 0 < n) (by decide) (fun _ _ _ _ _ => rfl) abR1gt avBgt_ok (fun m => Iff.rfl) (fun m => (avSgP m).2.2)
theorem avS56 {RT : Lean.RArray avRg} {RG : avRJ} : avOk RT RG 56 (avOic avBgt) := avIcmp (P := fun m n => n < m) (P0 := fun n => 0 < n) (by decide) (fun _ _ _ _ _ => rfl) abR2gt avBgt_ok (fun m n => by constructor <;> intro q <;> omega)
theorem avS51 {RT : Lean.RArray avRg} {RG : avRJ} : avOk RT RG 51 (avOif (avSw avBgt)) := avIf1 (P := fun m n => ¬ n < m) (P0 := fun n => ¬ 0 < n) (by decide) (fun _ _ _ _ _ => rfl) abR1le (avSw_ok avBgt_ok) (fun m => Iff.rfl) (fun m => not_congr (avSgP m).2.2)
theorem avS57 {RT : Lean.RArray avRg} {RG : avRJ} : avOk RT RG 57 (avOic (avSw avBgt)) := avIcmp (P := fun m n => ¬ n < m) (P0 := fun n => ¬ 0 < n) (by decide) (fun _ _ _ _ _ => rfl) abR2le (avSw_ok avBgt_ok) (fun m n => by constructor <;> intro q <;> omega)
theorem avS58 {RT : Lean.RArray avRg} {RG : avRJ} : avOk RT RG 58 (avOgo) := by
  intro D z sb w0 r0 p l ev R s m args below meth c cc cs Q k d nx e pc ls st q hF hE hop hpc hnx h
  obtain ⟨hx, hb, hml, hown, hts, hnm, hz, hR3, hR4⟩ := hF
  obtain ⟨o, pc', a1, a2, x, ps⟩ := e
  have ho : o = 58 := hop
  have hp : pc' = pc := hpc
  subst ho; subst hp
  have hd := abEt_dec hE (show ¬ (58 : Nat) = 85 by decide) rfl
  intro rh H locs ws A xs hH hX hL hS
  refine lv_goto hx hb hd (show ((pc' : Nat) : Int) + ((a1 : Int) - pc') = ((a1 : Nat) : Int) by omega) ?_
  exact hnx _ _ _ _ h rh H locs ws A _ hH hX hL hS
theorem avTs_ok {rh : afR} {s : avS} {d : afF} {nx : Nat → avS → Bool} (hs : afSo rh s.1) (hd : afD rh d.1) : ∀ {ps : List Nat} {i : Int} {j t : Nat}, avTs s d nx ps i = true → ps[j]? = some t → afV rh d = i + j → avHolds rh s (nx t)
  | [], _, _, _, _, h, _ => by cases h
  | t0 :: ps, i, 0, t, h, hj, e => by
    cases hj
    obtain ⟨h1, h2⟩ := abIf_and h
    obtain ⟨g1, k1, k2⟩ := avAsm_ok h1 hs (afSub_D hd (afNil_D rh)) (by rw [afSub_V, afK_V]; omega)
    obtain ⟨g2, k3, k4⟩ := avAsm_ok (s := (g1, s.2)) k1 k2 (afSub_D (f := ([], i)) (afNil_D rh) hd) (by rw [afSub_V, afK_V]; omega)
    exact ⟨g2, k3, k4⟩
  | t0 :: ps, i, j + 1, t, h, hj, e => by
    obtain ⟨h1, h2⟩ := abIf_and h
    exact avTs_ok hs hd (ps := ps) (i := i + 1) (j := j) h2 hj (by omega)
theorem avS59 {RT : Lean.RArray avRg} {RG : avRJ} : avOk RT RG 59 (avOsw) := by
  intro D z sb w0 r0 p l ev R s m args below meth c cc cs Q k d nx e pc ls st q hF hE hop hpc hnx h
  obtain ⟨hx, hb, hml, hown, hts, hnm, hz, hR3, hR4⟩ := hF
  obtain ⟨o, pc', a1, a2, x, ps⟩ := e
  have ho : o = 59 := hop
  have hp : pc' = pc := hpc
  subst ho; subst hp
  have hd := abEt_dec hE (show ¬ (59 : Nat) = 85 by decide) rfl
  have hlen := of_decide_eq_true (show decide (0 < ps.length) = true from hE.2.2)
  obtain ⟨v, rr, rfl, h0⟩ := avHd_some h
  obtain ⟨k1, h1⟩ := avFo_some h0
  intro rh H locs ws A xs hH hX hL hS
  obtain ⟨x0, xr, rfl, gv, hS'⟩ := hS
  obtain ⟨d1, y, rfl, e1⟩ := avGv_i gv k1
  obtain ⟨h2, h3⟩ := abIf_and h1
  obtain ⟨h4, h5⟩ := abIf_and h3
  have hso := hH.2.2.2.2.1
  have hB : abB = 9223372036854775808 := rfl
  have hX0 : avX (59, pc', a1, a2, x, ps) = (x : Int) - abB := rfl
  dsimp only at hd
  have out : (y.toInt < (x : Int) - abB ∨ (x : Int) - abB + ps.length - 1 < y.toInt) → avHolds rh q (fun s => nx a1 ls rr s) → W p l ev R s m args below meth c H locs cc cs Q (F0 m pc' A (.int y :: xr)) := by
    intro ho2 hg
    obtain ⟨g, h6, hso2⟩ := hg
    exact lv_tableOut hx hb hd ho2 (show ((pc' : Nat) : Int) + ((a1 : Int) - pc') = ((a1 : Nat) : Int) by omega) (hnx _ _ _ _ h6 rh H locs ws A _ (hH.names (afLe.rf rh) hso2) hX hL hS')
  by_cases z1 : y.toInt < (x : Int) - abB
  · refine out (Or.inl z1) (avAsm_ok h2 hso (afSub_D (f := ([], _)) (afNil_D rh) d1) ?_)
    rw [afSub_V, afK_V, hX0]
    omega
  · by_cases z2 : (x : Int) - abB + ps.length - 1 < y.toInt
    · refine out (Or.inr z2) (avAsm_ok h4 hso (afSub_D d1 (afNil_D rh)) ?_)
      rw [afSub_V, afK_V, hX0]
      show 0 ≤ _ - ((x : Int) - abB + (ps.length : Int))
      omega
    · obtain ⟨t, ht⟩ : ∃ t, ps[(y.toInt - ((x : Int) - abB)).toNat]? = some t := ⟨_, List.getElem?_eq_getElem (by omega)⟩
      obtain ⟨g, h6, hso2⟩ := avTs_ok hso d1 h5 ht (by rw [hX0]; omega)
      refine lv_tableIn (off := (t : Int) - pc') hx hb hd (by omega) (by omega) ?_ (show ((pc' : Nat) : Int) + ((t : Int) - pc') = ((t : Nat) : Int) by omega) (hnx _ _ _ _ h6 rh H locs ws A _ (hH.names (afLe.rf rh) hso2) hX hL hS')
      rw [List.getElem?_toArray, List.getElem?_map, ht]
      rfl
