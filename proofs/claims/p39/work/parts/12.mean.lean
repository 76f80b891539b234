/-! what a state of the second engine means -/
/-- the regions of the cells, what holds of the world beside, where the texts lie -/
abbrev avRJ : Type := (Nat → Nat) × (va_W → Prop) × (Nat → Nat)
def avSg (n : Int) : Int := if n < 0 then -1 else if n = 0 then 0 else 1
def avGv (RG : avRJ) (ws : va_W) (sb : Nat) (rh : afR) (v : avV) (x : Value) : Prop :=
  afD rh v.2.2.1 ∧ match v.1 with
  | 0 => ∃ y : Int32, x = .int y ∧ y.toInt = afV rh v.2.2
  | 1 => ∃ y : Int64, x = .long y ∧ y.toInt = afV rh v.2.2
  | 2 => ∃ (j a : Nat) (e : va_E), ws[j]? = some (a, e) ∧ x = .ref a ∧ RG.1 j = v.2.1 ∧ (j : Int) = afV rh v.2.2
  | 3 => x = .null
  | 4 => ∃ y : Int32, x = .int y ∧ y.toInt = avSg (afV rh v.2.2)
  | 5 => x = .ref (RG.2.2 v.2.1)
  | 6 => True
  | 7 => x = .ref sb
  | _ => False
theorem avGv.mono {RG : avRJ} {w0 w1 : va_W} {sb : Nat} {rh rh' : afR} {v : avV} {x : Value} (hx : abX w0 w1) (hr : afLe rh rh') (h : avGv RG w0 sb rh v x) : avGv RG w1 sb rh' v x := by
  obtain ⟨t, r, f⟩ := v
  obtain ⟨d, h⟩ := h
  refine ⟨d.mono hr, ?_⟩
  have e : afV rh' f = afV rh f := afV_mono hr d
  match t, h with
  | 0, h =>
    obtain ⟨y, h1, h2⟩ := h
    exact ⟨y, h1, by rw [h2]; exact e.symm⟩
  | 1, h =>
    obtain ⟨y, h1, h2⟩ := h
    exact ⟨y, h1, by rw [h2]; exact e.symm⟩
  | 2, h =>
    obtain ⟨j, a, en, h1, h2, h3, h4⟩ := h
    obtain ⟨en', h'⟩ := hx _ _ _ h1
    exact ⟨j, a, en', h', h2, h3, by rw [h4]; exact e.symm⟩
  | 3, h => exact h
  | 4, h =>
    obtain ⟨y, h1, h2⟩ := h
    refine ⟨y, h1, ?_⟩
    rw [h2]
    show avSg (afV rh f) = avSg (afV rh' f)
    rw [e]
  | 5, h => exact h
  | 6, _ => trivial
  | 7, h => exact h
  | _ + 8, h => exact h
/-- what a slot always holds -/
def avM (RG : avRJ) (ws : va_W) (i : avSi) (x : Value) : Prop := match i.1 with
  | 0 => ∃ y : Int32, x = .int y ∧ i.2.1 ≤ y.toInt ∧ y.toInt ≤ i.2.2
  | 1 => ∃ y : Int64, x = .long y ∧ i.2.1 ≤ y.toInt ∧ y.toInt ≤ i.2.2
  | 2 => ∃ (j a : Nat) (e : va_E), ws[j]? = some (a, e) ∧ x = .ref a ∧ RG.1 j = i.2.1.toNat ∧ (0 ≤ i.2.2 → (j : Int) = i.2.2)
  | 3 => x = .null
  | _ => False
theorem avM.mono {RG : avRJ} {w0 w1 : va_W} {i : avSi} {x : Value} (hx : abX w0 w1) (h : avM RG w0 i x) : avM RG w1 i x := by
  obtain ⟨t, a, b⟩ := i
  match t, h with
  | 0, h => exact h
  | 1, h => exact h
  | 2, h =>
    obtain ⟨j, a, en, h1, h2, h3, h4⟩ := h
    obtain ⟨en', h'⟩ := hx _ _ _ h1
    exact ⟨j, a, en', h', h2, h3, h4⟩
  | 3, h => exact h
  | _ + 4, h => exact h
/-- a cell as its region says -/
def avCs1 (tys : List (ClassId × FieldType)) (RG : avRJ) (ws : va_W) (q : Option (Nat × va_E)) (c : avRg) : Prop :=
  (c.1 ≤ 90 → ∃ (a : Nat) (fs : List Value) (y : vw_C), q = some (a, .inr (c.1, fs)) ∧ fs.length = c.2.1 ∧ abCls[c.1]? = some y ∧ y.2.2 = c.2.1 ∧ ∀ (k : Nat) (x : Value), fs[k]? = some x → avM RG ws (c.2.2.get k) x) ∧
  (∀ ty : FieldType, abTyA c.1 = some ty → ∃ (a : Nat) (cA : ClassId) (f : Nat → Int32) (t0 : Nat), q = some (a, .inl (cA, c.2.1, .inl f)) ∧ tys[t0]? = some (cA, ty) ∧ c.2.1 ≤ 65536 ∧ ∀ k : Nat, k < c.2.1 → avM RG ws (c.2.2.get k) (.int (f k))) ∧
  (c.1 = 101 → ∃ (a : Nat) (cA : ClassId) (f : Nat → Int64) (t0 : Nat), q = some (a, .inl (cA, c.2.1, .inr (.inl f))) ∧ tys[t0]? = some (cA, .long) ∧ c.2.1 ≤ 65536 ∧ ∀ k : Nat, k < c.2.1 → avM RG ws (c.2.2.get k) (.long (f k))) ∧
  (200 ≤ c.1 → ∃ (a : Nat) (cA : ClassId) (f : Nat → Option Nat) (t0 : Nat) (y : vw_C), q = some (a, .inl (cA, c.2.1, .inr (.inr (.inr (.inr f))))) ∧ abCls[c.1 - 200]? = some y ∧ tys[t0]? = some (cA, .object y.1) ∧ c.2.1 ≤ 65536 ∧ ∀ k : Nat, k < c.2.1 → avM RG ws (c.2.2.get k) (va_rf (f k)))
theorem avCs1.mono {tys : List (ClassId × FieldType)} {RG : avRJ} {w0 w1 : va_W} {q : Option (Nat × va_E)} {c : avRg} (hx : abX w0 w1) (h : avCs1 tys RG w0 q c) : avCs1 tys RG w1 q c := by
  obtain ⟨h1, h2, h3, h4⟩ := h
  refine ⟨fun hc => ?_, fun ty hc => ?_, fun hc => ?_, fun hc => ?_⟩
  · obtain ⟨a, fs, y, e1, e2, e3, e4, e5⟩ := h1 hc
    exact ⟨a, fs, y, e1, e2, e3, e4, fun k x hk => (e5 k x hk).mono hx⟩
  · obtain ⟨a, cA, f, t0, e1, e2, e3, e4⟩ := h2 ty hc
    exact ⟨a, cA, f, t0, e1, e2, e3, fun k hk => (e4 k hk).mono hx⟩
  · obtain ⟨a, cA, f, t0, e1, e2, e3, e4⟩ := h3 hc
    exact ⟨a, cA, f, t0, e1, e2, e3, fun k hk => (e4 k hk).mono hx⟩
  · obtain ⟨a, cA, f, t0, y, e1, e2, e3, e4, e5⟩ := h4 hc
    exact ⟨a, cA, f, t0, y, e1, e2, e3, e4, fun k hk => (e5 k hk).mono hx⟩
/-- a cell's content at a slot -/
def avAt (e : va_E) (i : Nat) : Option Value := match e with
  | .inr q => q.2[i]?
  | .inl q => if i < q.2.1 then (match q.2.2 with
    | .inl f => some (.int (f i))
    | .inr (.inl f) => some (.long (f i))
    | .inr (.inr (.inr (.inr f))) => some (va_rf (f i))
    | _ => none) else none
def avKn (RG : avRJ) (ws : va_W) (sb : Nat) (rh : afR) (k : avK) : Prop :=
  afD rh k.2.1.1 ∧ afD rh k.2.2.1.1 ∧ ∃ (j i a : Nat) (e : va_E) (x : Value), (j : Int) = afV rh k.2.1 ∧ RG.1 j = k.1 ∧ (i : Int) = afV rh k.2.2.1 ∧ ws[j]? = some (a, e) ∧ avAt e i = some x ∧ avGv RG ws sb rh k.2.2.2 x
theorem avKn.names {RG : avRJ} {ws : va_W} {sb : Nat} {rh rh' : afR} {k : avK} (hr : afLe rh rh') (h : avKn RG ws sb rh k) : avKn RG ws sb rh' k := by
  obtain ⟨d1, d2, j, i, a, e, x, h1, h2, h3, h4, h5, h6⟩ := h
  exact ⟨d1.mono hr, d2.mono hr, j, i, a, e, x, by rw [afV_mono hr d1]; exact h1, h2, by rw [afV_mono hr d2]; exact h3, h4, h5, h6.mono (abX.rf ws) hr⟩
/-- the texts: where each lies, its length; two words of the library's classes -/
def avStr (RG : avRJ) (z : Nat) (s : State) : Prop := (∃ adV : Nat → Nat, ∀ i : Nat, i < abSl.length → va_O "java/lang/String" (RG.2.2 i) (fun q : Nat => z ≤ q) s s.heap ∧ va_OF "java/lang/String" "coder" "B" (.int 0) (RG.2.2 i) (fun q : Nat => z ≤ q) s s.heap ∧ va_OF "java/lang/String" "value" "[B" (.ref (adV i)) (RG.2.2 i) (fun q : Nat => z ≤ q) s s.heap ∧ ∃ f : Nat → Int32, va_T .byte (adV i) (abSl.getD i 0) (fun j => .int (f j)) (fun q : Nat => z ≤ q) s s.heap) ∧
  (∀ (i : Nat) (q : String × Nat × String), abSr[i]? = some q → vk_R q.1 q.2.1 q.2.2 (RG.2.2 i) s) ∧ va_Z "java/lang/String" "COMPACT_STRINGS" "Z" (.int 1) (fun q : Nat => z ≤ q) s s.heap ∧ va_Zq "jdk/internal/util/Preconditions" "SIOOBE_FORMATTER" "Ljava/util/function/BiFunction;" (fun q : Nat => z ≤ q) s s.heap
theorem avStr.to {RG : avRJ} {z : Nat} {s U : State} (h : avStr RG z s) (hW : s.WarmedH U.vm) (hS : ∀ a : Nat, a < s.heap.size → ¬ z ≤ a → U.heap[a]? = s.heap[a]?) : avStr RG z U := by
  obtain ⟨⟨adV, h1⟩, h2, h3, h4⟩ := h
  refine ⟨⟨adV, fun i hi => ?_⟩, fun i q hq => (h2 i q hq).warm hW, va_Z.moved hW.alike (va_Z.kept h3 hS), va_Zq.moved hW.alike (va_Zq.kept h4 hS)⟩
  obtain ⟨a1, a2, a3, f, a4⟩ := h1 i hi
  exact ⟨va_O.moved hW.alike (va_O.kept a1 hS), va_OF.moved hW.alike (va_OF.kept a2 hS), va_OF.moved hW.alike (va_OF.kept a3 hS), f, va_T.moved hW.alike (va_T.kept a4 hS)⟩
/-- the world beside, another predicate of it -/
def avRJ.wJ (RG : avRJ) (J : va_W → Prop) : avRJ := (RG.1, J, RG.2.2)
def avHok (D : va_G) (z sb : Nat) (RT : Lean.RArray avRg) (RG : avRJ) (rh : afR) (s : State) (ws : va_W) (H : Heap) (locs : List Loc) (q : avS) : Prop :=
  (∃ tys : List (ClassId × FieldType), va_K D abCls tys s ∧ (∀ j : Nat, j < ws.length → avCs1 tys RG ws ws[j]? (RT.get (RG.1 j))) ∧ ws.length ≤ 4096 ∧ RG.2.1 ws ∧ avStr RG z s) ∧ va_P D abCls ws H ∧ va_D (fun q : Nat => z ≤ q) ws ∧ va_S (fun q : Nat => z ≤ q) s.heap H locs ∧ afSo rh q.1 ∧ ∀ k ∈ q.2, avKn RG ws sb rh k
theorem avHok.names {D : va_G} {z sb : Nat} {RT : Lean.RArray avRg} {RG : avRJ} {rh rh' : afR} {s : State} {ws : va_W} {H : Heap} {locs : List Loc} {q : avS} {g : afG} (h : avHok D z sb RT RG rh s ws H locs q) (hr : afLe rh rh') (hs : afSo rh' g) : avHok D z sb RT RG rh' s ws H locs (g, q.2) := by
  obtain ⟨h1, h2, h3, h4, -, h6⟩ := h
  exact ⟨h1, h2, h3, h4, hs, fun k hk => (h6 k hk).names hr⟩
def avLok (RG : avRJ) (ws : va_W) (sb : Nat) (rh : afR) (ls : List avV) (n : Nat) (A : Array Slot) : Prop :=
  ls.length = n ∧ ∃ lv : List (Nat × Value), lv_has A n lv ∧ ∀ (i : Nat) (v : avV), ls[i]? = some v → ¬ v.1 = 6 → ∃ x : Value, (i, x) ∈ lv ∧ avGv RG ws sb rh v x
def avSok (RG : avRJ) (ws : va_W) (sb : Nat) (rh : afR) : List avV → List Value → Prop
  | [], xs => xs = []
  | v :: r, xs => ∃ (x : Value) (xr : List Value), xs = x :: xr ∧ avGv RG ws sb rh v x ∧ avSok RG ws sb rh r xr
theorem avLok.mono {RG : avRJ} {w0 w1 : va_W} {sb : Nat} {rh rh' : afR} {ls : List avV} {n : Nat} {A : Array Slot} (hx : abX w0 w1) (hr : afLe rh rh') (h : avLok RG w0 sb rh ls n A) : avLok RG w1 sb rh' ls n A := by
  obtain ⟨h1, lv, h2, h3⟩ := h
  refine ⟨h1, lv, h2, fun i v hi hv => ?_⟩
  obtain ⟨x, q1, q2⟩ := h3 i v hi hv
  exact ⟨x, q1, q2.mono hx hr⟩
theorem avSok.mono {RG : avRJ} {w0 w1 : va_W} {sb : Nat} {rh rh' : afR} (hx : abX w0 w1) (hr : afLe rh rh') : ∀ {st : List avV} {xs : List Value}, avSok RG w0 sb rh st xs → avSok RG w1 sb rh' st xs
  | [], _, h => h
  | _ :: _, _, h => by
    obtain ⟨x, xr, h1, h2, h3⟩ := h
    exact ⟨x, xr, h1, h2.mono hx hr, h3.mono hx hr⟩
/-- what a frame of method k stands on; d: how deep it may still call -/
def avFr (z : Nat) (k d : Nat) (p : Program) (R : Room) (s : State) (m : MethodId) (args : Array Value) (meth : Method) (c : Code) : Prop :=
  p.tables.exec = Jvm.exec ∧ c.code = abBy k ∧ c.maxLocals = (abMe k).1.2.2.1 ∧ s.vm.findClass (abOwn k) = some m.cls ∧ (∀ w ∈ abTw, w.before args s = true) ∧ meth.name = (abNm k).name ∧ z ≤ s.heap.size ∧ d + 6 ≤ R.frames ∧ 60 * (d + 6) ≤ R.locals
/-- the world keeps its addresses, and what was named at the start keeps its number -/
def avXw (w0 : va_W) (r0 : afR) (ws : va_W) (rh : afR) : Prop := abX w0 ws ∧ afLe r0 rh
theorem avXw.nm {w0 ws : va_W} {r0 rh rh' : afR} (h : avXw w0 r0 ws rh) (hle : afLe rh rh') : avXw w0 r0 ws rh' := ⟨h.1, h.2.tr hle⟩
theorem avXw.tr {w0 ws ws' : va_W} {r0 rh : afR} (h : avXw w0 r0 ws rh) (hx : abX ws ws') : avXw w0 r0 ws' rh := ⟨h.1.tr hx, h.2⟩
def avW (D : va_G) (z sb : Nat) (RT : Lean.RArray avRg) (RG : avRJ) (w0 : va_W) (r0 : afR) (p : Program) (l : Launch) (ev : Env) (R : Room) (s : State) (m : MethodId) (args : Array Value) (below : List Frame) (meth : Method) (c : Code) (cc cs : Nat) (Q : State → Prop) (pc : Nat) (ls st : List avV) (q : avS) : Prop :=
  ∀ (rh : afR) (H : Heap) (locs : List Loc) (ws : va_W) (A : Array Slot) (xs : List Value), avHok D z sb RT RG rh s ws H locs q → avXw w0 r0 ws rh → avLok RG ws sb rh ls c.maxLocals A → avSok RG ws sb rh st xs → W p l ev R s m args below meth c H locs cc cs Q (F0 m pc A xs)
def avNs (D : va_G) (z sb : Nat) (RT : Lean.RArray avRg) (RG : avRJ) (w0 : va_W) (r0 : afR) (p : Program) (l : Launch) (ev : Env) (R : Room) (s : State) (m : MethodId) (args : Array Value) (below : List Frame) (meth : Method) (c : Code) (cc cs : Nat) (Q : State → Prop) (nx : avNx) : Prop :=
  ∀ (pc : Nat) (ls st : List avV) (q : avS), nx pc ls st q = true → avW D z sb RT RG w0 r0 p l ev R s m args below meth c cc cs Q pc ls st q
def avOk (RT : Lean.RArray avRg) (RG : avRJ) (op : Nat) (F : avPo) : Prop := ∀ (D : va_G) (z sb : Nat) (w0 : va_W) (r0 : afR) (p : Program) (l : Launch) (ev : Env) (R : Room) (s : State) (m : MethodId) (args : Array Value) (below : List Frame) (meth : Method) (c : Code) (cc cs : Nat) (Q : State → Prop) (k d : Nat) (nx : avNx) (e : abEy) (pc : Nat) (ls st : List avV) (q : avS), avFr z k d p R s m args meth c → abEtOk k e → e.1 = op → e.2.1 = pc → avNs D z sb RT RG w0 r0 p l ev R s m args below meth c cc cs Q nx → F nx e pc ls st q = true → avW D z sb RT RG w0 r0 p l ev R s m args below meth c cc cs Q pc ls st q
/-! taking off the stack, bounds, numbers -/
theorem avHd_some {st : List avV} {f : avV → List avV → Bool} (h : avHd st f = true) : ∃ v s', st = v :: s' ∧ f v s' = true := by
  cases st with
  | nil => cases h
  | cons v s' => exact ⟨v, s', rfl, h⟩
theorem av2_some {st : List avV} {f : avV → avV → List avV → Bool} (h : av2 st f = true) : ∃ w v s', st = w :: v :: s' ∧ f w v s' = true := by
  obtain ⟨w, s1, rfl, h1⟩ := avHd_some h
  obtain ⟨v, s2, rfl, h2⟩ := avHd_some h1
  exact ⟨w, v, s2, rfl, h2⟩
theorem avFo_some {t : Nat} {v : avV} {k : afF → Bool} (h : avFo t v k = true) : v.1 = t ∧ k v.2.2 = true := by
  obtain ⟨h1, h2⟩ := abIf_and h
  exact ⟨abBeq h1, h2⟩
theorem avGe_ok {rh : afR} {s : avS} {f : afF} (hs : afSo rh s.1) (d : afD rh f.1) (h : avGe s f = true) : 0 ≤ afV rh f := by
  rcases abIf_or h with q | q
  · have := aiLe_ok q
    have := afLo_ok hs d
    omega
  · exact afEnt_ok hs d q
/-- what goes on with a number z of kind t -/
def avGoes (rh : afR) (s : avS) (t : Nat) (z : Int) (K : avV → avS → Bool) : Prop := ∃ (rh' : afR) (g : afG) (f : afF), K (t, 0, f) (g, s.2) = true ∧ afLe rh rh' ∧ afSo rh' g ∧ afD rh' f.1 ∧ afV rh' f = z
theorem avNew_ok {rh : afR} {s : avS} {t : Nat} {lo hi z : Int} {K : avV → avS → Bool} (hs : afSo rh s.1) (h1 : lo ≤ z) (h2 : z ≤ hi) (h : avNew t lo hi s K = true) : avGoes rh s t z K := by
  obtain ⟨rh', a1, a2, a3⟩ := afFr_ok hs h1 h2
  exact ⟨rh', _, _, h, a1, a3, afN_D a2, afN_V a2⟩
theorem avBox_ok {rh : afR} {s : avS} {t : Nat} {lo hi z : Int} {K : avV → avS → Bool} (hs : afSo rh s.1) (h1 : lo ≤ z) (h2 : z ≤ hi) (h : avBox t lo hi s K = true) : avGoes rh s t z K := by
  unfold avBox at h
  cases q : aiEq lo hi with
  | true =>
    rw [q, abIf_t rfl] at h
    have := aiEq_ok q
    refine ⟨rh, s.1, ([], lo), h, afLe.rf rh, hs, afNil_D rh, ?_⟩
    have := afC_V rh lo
    show afV rh (afC lo) = z
    omega
  | false =>
    rw [q, abIf_f rfl] at h
    exact avNew_ok hs h1 h2 h
/-- z is a number of kind t -/
def avRn (t : Nat) (z : Int) : Prop := avMn t ≤ z ∧ z ≤ avMx t
theorem avTop_ok {rh : afR} {s : avS} {t : Nat} {z : Int} {K : avV → avS → Bool} (hs : afSo rh s.1) (hz : avRn t z) (h : avTop t s K = true) : avGoes rh s t z K := avNew_ok hs hz.1 hz.2 h
/-- z: what comes of it; it is the form's own number where that is one of kind t -/
theorem avNum_ok {rh : afR} {s : avS} {t : Nat} {f : afF} {z : Int} {K : avV → avS → Bool} (hs : afSo rh s.1) (d : afD rh f.1) (hz : avRn t z) (he : avRn t (afV rh f) → z = afV rh f) (h : avNum t s f K = true) : avGoes rh s t z K := by
  unfold avNum at h
  cases q1 : avGe s (afAdd f ([], -avMn t)) with
  | false => rw [q1, abIf_f rfl] at h; exact avTop_ok hs hz h
  | true =>
    rw [q1, abIf_t rfl] at h
    cases q2 : avGe s (afSub ([], avMx t) f) with
    | false => rw [q2, abIf_f rfl] at h; exact avTop_ok hs hz h
    | true =>
      rw [q2, abIf_t rfl] at h
      have g1 := avGe_ok hs (afAdd_D d (afNil_D rh)) q1
      have g2 := avGe_ok hs (afSub_D (f := ([], avMx t)) (afNil_D rh) d) q2
      rw [afAdd_V] at g1
      rw [afSub_V] at g2
      have c1 : afV rh (([], -avMn t) : afF) = -avMn t := afC_V rh _
      have c2 : afV rh (([], avMx t) : afF) = avMx t := afC_V rh _
      rw [c1] at g1
      rw [c2] at g2
      exact ⟨rh, s.1, f, h, afLe.rf rh, hs, d, (he ⟨by omega, by omega⟩).symm⟩
theorem avI32 (y : Int32) : avRn 0 y.toInt := by
  have h1 := Int32.le_toInt y
  have h2 := Int32.toInt_lt y
  refine ⟨?_, ?_⟩
  · show (-2147483648 : Int) ≤ _
    omega
  · show _ ≤ (2147483647 : Int)
    omega
theorem avI64 (y : Int64) : avRn 1 y.toInt := by
  have h1 := Int64.le_toInt y
  have h2 := Int64.toInt_lt y
  refine ⟨?_, ?_⟩
  · show (-9223372036854775808 : Int) ≤ _
    omega
  · show _ ≤ (9223372036854775807 : Int)
    omega
