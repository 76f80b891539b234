/-! the words that a contract may carry, and the links of nest mates beside them -/
def abNl : List (String × Nat × MethodName) := [("TallBins", 43, ⟨"TallBins$Row", "<init>", "()V"⟩), ("TallBins", 46, ⟨"TallBins$Heap", "<init>", "()V"⟩), ("TallBins", 57, ⟨"TallBins$Planner", "<init>", "()V"⟩), ("TallBins", 64, ⟨"TallBins$Blender", "<init>", "()V"⟩), ("TallBins$Rules", 44, ⟨"TallBins$Bars", "<init>", "()V"⟩), ("TallBins$House", 26, ⟨"TallBins$Ledger", "<init>", "()V"⟩), ("TallBins$Bin", 35, ⟨"TallBins$Heap", "<init>", "()V"⟩)]
def abAo : List String := ["TallBins$Bin", "TallBins$Heap", "TallBins$House", "TallBins$Row"]
noncomputable def abNw : List Jvm.Cond := (abNl.map fun q => Jvm.Cond.methodLinkNest q.1 q.2.1 q.2.2 "TallBins") ++ abAo.map fun C => Jvm.Cond.arrayOver (.object C)
/-- what no contract carries as a word: the links of nest mates, the rows of our classes -/
def abNsw (s : State) : Prop := (∀ q ∈ abNl, va_Nw (.methodLinkNest q.1 q.2.1 q.2.2 "TallBins") s) ∧ ∀ C ∈ abAo, va_AO C s
noncomputable def abTb : List Jvm.Cond := lw_tbl.filter goodWord
noncomputable def abTw : List Jvm.Cond := abTb ++ abNw
theorem abTaL {w : Jvm.Cond} (h : w ∈ abTb) : w ∈ abTw := List.mem_append.mpr (Or.inl h)
theorem abTaT {w : Jvm.Cond} (h : w ∈ lw_tbl) (g : goodWord w = true) : w ∈ abTw := abTaL (List.mem_filter.mpr ⟨h, g⟩)
theorem abTb_good : ∀ w ∈ abTb, goodWord w = true := fun _ h => (List.mem_filter.mp h).2
theorem abTa_hts {args : Array Value} {s : State} (h1 : ∀ w ∈ abTb, w.before args s = true) (h2 : abNsw s) : ∀ w ∈ abTw, w.before args s = true := fun w hw => by
  rcases List.mem_append.mp hw with h | h
  · exact h1 w h
  · rcases List.mem_append.mp h with h | h
    · obtain ⟨q, hq, rfl⟩ := List.mem_map.mp h
      exact va_Nw.use rfl (h2.1 q hq)
    · obtain ⟨C, hC, rfl⟩ := List.mem_map.mp h
      exact va_AO.use (h2.2 C hC)
theorem abTa_nest {args : Array Value} {s : State} (h : ∀ w ∈ abTw, w.before args s = true) : abNsw s := ⟨fun q hq => va_Nw.of rfl (h _ (List.mem_append.mpr (Or.inr (List.mem_append.mpr (Or.inl (List.mem_map.mpr ⟨q, hq, rfl⟩)))))), fun C hC => va_AO.of (h _ (List.mem_append.mpr (Or.inr (List.mem_append.mpr (Or.inr (List.mem_map.mpr ⟨C, hC, rfl⟩))))))⟩
/-! SOUNDNESS, 1: what the tables must say, what a state of the engine means -/
noncomputable def abNm (k : Nat) : MethodName := (abMe k).1.1
noncomputable def abBy (k : Nat) : ByteArray := (abMe k).1.2.1
noncomputable def abRtT (k : Nat) : Option FieldType := (abMe k).1.2.2.2
noncomputable def abOwn (k : Nat) : String := (abNm k).cls
def abFn (n : Nat) : Option (Fin 4) := if h : n < 4 then some ⟨n, h⟩ else none
def abIn1 (f : Fin 4 → Jvm.ClassFile.Instr) (n : Nat) : Option (Jvm.ClassFile.Instr × Nat) := match abFn n with
  | some i => some (f i, 1)
  | none => none
def abAty (n : Nat) : Option Jvm.ClassFile.ArrayType := match n with
  | 100 => some .int
  | 101 => some .long
  | 102 => some .byte
  | 103 => some .boolean
  | _ => none
/-- the instruction that an entry stands for -/
def abIns (e : abEy) : Option (Jvm.ClassFile.Instr × Nat) :=
  let pc := e.2.1; let a1 := e.2.2.1; let a2 := e.2.2.2.1; let x := e.2.2.2.2.1; let ps := e.2.2.2.2.2
  match e.1 with
  | 1 => some (.iconst ((x : Int) - abB), 1)
  | 2 => some (.bipush ((x : Int) - abB), 2)
  | 3 => some (.sipush ((x : Int) - abB), 3)
  | 4 => some (.ldc a1, 2)
  | 5 => some (.ldc_w a1, 3)
  | 6 => if x = 9223372036854775808 then some (.lconst 0, 1) else some (.lconst 1, 1)
  | 7 => some (.ldc2_w a1, 3)
  | 8 => some (.iload a2, 2)
  | 9 => abIn1 .iload_n a2
  | 10 => some (.lload a2, 2)
  | 11 => abIn1 .lload_n a2
  | 12 => some (.aload a2, 2)
  | 13 => abIn1 .aload_n a2
  | 14 => some (.istore a2, 2)
  | 15 => abIn1 .istore_n a2
  | 16 => some (.lstore a2, 2)
  | 17 => abIn1 .lstore_n a2
  | 18 => some (.astore a2, 2)
  | 19 => abIn1 .astore_n a2
  | 20 => some (.iinc a2 ((x : Int) - abB), 3)
  | 21 => some (.iadd, 1)
  | 22 => some (.isub, 1)
  | 23 => some (.imul, 1)
  | 24 => some (.idiv, 1)
  | 25 => some (.irem, 1)
  | 26 => some (.iand, 1)
  | 27 => some (.ior, 1)
  | 28 => some (.ixor, 1)
  | 29 => some (.ishl, 1)
  | 30 => some (.ishr, 1)
  | 31 => some (.ineg, 1)
  | 32 => some (.ladd, 1)
  | 33 => some (.lsub, 1)
  | 34 => some (.lmul, 1)
  | 35 => some (.land, 1)
  | 36 => some (.lor, 1)
  | 37 => some (.lxor, 1)
  | 38 => some (.lshl, 1)
  | 39 => some (.lshr, 1)
  | 40 => some (.i2l, 1)
  | 41 => some (.l2i, 1)
  | 42 => some (.i2b, 1)
  | 43 => some (.lcmp, 1)
  | 44 => some (.dup, 1)
  | 45 => some (.dup2, 1)
  | 46 => some (.ifCond .eq ((a1 : Int) - pc), 3)
  | 47 => some (.ifCond .ne ((a1 : Int) - pc), 3)
  | 48 => some (.ifCond .lt ((a1 : Int) - pc), 3)
  | 49 => some (.ifCond .ge ((a1 : Int) - pc), 3)
  | 50 => some (.ifCond .gt ((a1 : Int) - pc), 3)
  | 51 => some (.ifCond .le ((a1 : Int) - pc), 3)
  | 52 => some (.if_icmp .eq ((a1 : Int) - pc), 3)
  | 53 => some (.if_icmp .ne ((a1 : Int) - pc), 3)
  | 54 => some (.if_icmp .lt ((a1 : Int) - pc), 3)
  | 55 => some (.if_icmp .ge ((a1 : Int) - pc), 3)
  | 56 => some (.if_icmp .gt ((a1 : Int) - pc), 3)
  | 57 => some (.if_icmp .le ((a1 : Int) - pc), 3)
  | 58 => some (.goto ((a1 : Int) - pc), 3)
  | 59 => some (.tableswitch ((a1 : Int) - pc) ((x : Int) - abB) ((x : Int) - abB + ps.length - 1) (ps.map fun (t : Nat) => (t : Int) - pc).toArray, (pc + 4) / 4 * 4 + 12 + 4 * ps.length - pc)
  | 60 => some (.getfield x, 3)
  | 61 => some (.putfield x, 3)
  | 62 => some (.putfield x, 3)
  | 63 => some (.putfield x, 3)
  | 64 => some (.iaload, 1)
  | 65 => some (.baload, 1)
  | 66 => some (.laload, 1)
  | 67 => some (.aaload, 1)
  | 68 => some (.arraylength, 1)
  | 69 => some (.iastore, 1)
  | 70 => some (.bastore, 1)
  | 71 => some (.lastore, 1)
  | 72 => some (.aastore, 1)
  | 73 => some (.new x, 3)
  | 74 => match abAty a1 with
    | some t => some (.newarray t, 2)
    | none => none
  | 75 => some (.anewarray x, 3)
  | 76 => some (.invokespecial x, 3)
  | 77 => some (.invokestatic x, 3)
  | 78 => some (.invokevirtual x, 3)
  | 79 => some (.invokestatic x, 3)
  | 80 => some (.invokespecial x, 3)
  | 81 => some (.invokespecial x, 3)
  | 82 => some (.return_, 1)
  | 83 => some (.ireturn, 1)
  | 84 => some (.lreturn, 1)
  | 86 => some (.arraylength, 1)
  | 87 => some (.iaload, 1)
  | _ => none
/-- the words of the tables that an entry rests on -/
noncomputable def abWds (k : Nat) (e : abEy) : List Jvm.Cond :=
  let a1 := e.2.2.1; let a2 := e.2.2.2.1; let x := e.2.2.2.2.1
  match e.1 with
  | 4 => [.constant (abOwn k) a1 (abOf x)]
  | 5 => [.constant (abOwn k) a1 (abOf x)]
  | 7 => [.constantLong (abOwn k) a1 (Int64.ofInt ((x : Int) - abB))]
  | 60 => match abCls[a1]? with | some q => [.fieldLink (abOwn k) x q.1 (q.2.1 a2).2.1 (q.2.1 a2).2.2.1] | none => []
  | 61 => match abCls[a1]? with | some q => [.fieldLink (abOwn k) x q.1 (q.2.1 a2).2.1 (q.2.1 a2).2.2.1] | none => []
  | 62 => match abCls[a1]? with | some q => [.fieldLink (abOwn k) x q.1 (q.2.1 a2).2.1 (q.2.1 a2).2.2.1] | none => []
  | 63 => match abCls[a1]? with | some q => [.fieldLink (abOwn k) x q.1 (q.2.1 a2).2.1 (q.2.1 a2).2.2.1] | none => []
  | 73 => match abCls[a1]? with | some q => [.classLink (abOwn k) x q.1, .instantiable q.1 q.2.2, .initialized q.1] | none => []
  | 74 => match abAty a1 with | some t => [.arrayClass (newarray.typeOf t)] | none => []
  | 75 => match abCls[a1]? with | some q => [.classLink (abOwn k) x q.1, .arrayOver (.object q.1)] | none => []
  | 76 => [.methodLink (abOwn k) x objectInit, .instanceMethod objectInit, .code objectInit ⟨#[0xb1]⟩ 1 none]
  | 77 => [.methodLink (abOwn k) x arraycopyName, .native arraycopyName, .static arraycopyName, .initialized "java/lang/System"]
  | 78 => [.methodLink (abOwn k) x (abNm a1), .instanceMethod (abNm a1), .selects (abOwn a1) (abNm a1) (abNm a1)]
  | 79 => [.methodLink (abOwn k) x (abNm a1), .static (abNm a1)]
  | 80 => [.methodLink (abOwn k) x (abNm a1), .instanceMethod (abNm a1)]
  | 81 => [.methodLinkNest (abOwn k) x (abNm a1) "TallBins", .instanceMethod (abNm a1)]
  | _ => []
/-- further things of an entry -/
noncomputable def abSmk (k : Nat) (e : abEy) : Bool :=
  let a1 := e.2.2.1; let a2 := e.2.2.2.1; let x := e.2.2.2.2.1; let nl := (abMe k).1.2.2.1
  match e.1 with
  | 1 => decide ((Int32.ofInt ((x : Int) - abB)).toInt + abB = x)
  | 2 => decide ((Int8.ofInt ((x : Int) - abB)).toInt32.toInt + abB = x)
  | 3 => decide ((Int16.ofInt ((x : Int) - abB)).toInt32.toInt + abB = x)
  | 4 => decide ((abOf x).toInt + abB = x)
  | 5 => decide ((abOf x).toInt + abB = x)
  | 6 => decide (x = 9223372036854775808 ∨ x = 9223372036854775809)
  | 7 => decide ((Int64.ofInt ((x : Int) - abB)).toInt + abB = x)
  | 14 => decide (a2 < nl)
  | 15 => decide (a2 < nl)
  | 16 => decide (a2 + 1 < nl)
  | 17 => decide (a2 + 1 < nl)
  | 18 => decide (a2 < nl)
  | 19 => decide (a2 < nl)
  | 20 => decide (a2 < nl) && decide ((Int32.ofInt ((x : Int) - abB)).toInt + abB = x)
  | 59 => decide (0 < e.2.2.2.2.2.length)
  | 60 => match abCls[a1]? with | some q => decide (a2 < q.2.2) && decide (a1 < 90) | none => false
  | 61 => match abCls[a1]? with | some q => decide (a2 < q.2.2) && decide (a1 < 90) && decide (abTyp a1 a2 = .int) && (!(q.2.1 a2).2.2.2 || (decide ((abNm k).name = "<init>") && decide (abOwn k = q.1))) | none => false
  | 62 => match abCls[a1]? with | some q => decide (a2 < q.2.2) && decide (a1 < 90) && decide (abTyp a1 a2 = .boolean) && (!(q.2.1 a2).2.2.2 || (decide ((abNm k).name = "<init>") && decide (abOwn k = q.1))) | none => false
  | 63 => match abCls[a1]? with | some q => decide (a2 < q.2.2) && decide (a1 < 90) && (match abTyp a1 a2 with | .object _ => true | .array _ => true | _ => false) && (!(q.2.1 a2).2.2.2 || (decide ((abNm k).name = "<init>") && decide (abOwn k = q.1))) | none => false
  | 73 => match abCls[a1]? with | some q => decide (a2 = q.2.2) && decide (a1 < 90) | none => false
  | 74 => (abAty a1).isSome
  | 75 => match abCls[a1]? with | some _ => decide (a1 < 90) | none => false
  | 78 => decide (a1 < abNM) && decide ((abMe a1).2.2.2.2.1 < 90) && (match abCls[(abMe a1).2.2.2.2.1]? with | some q => decide (q.1 = abOwn a1) | none => false)
  | 79 => decide (a1 < abNM)
  | 80 => decide (a1 < abNM) && decide ((abNm a1).name = "<init>") && decide (abRtT a1 = none)
  | 81 => decide (a1 < abNM) && decide ((abNm a1).name = "<init>") && decide (abRtT a1 = none)
  | 82 => decide (abRtT k = none)
  | 83 => if a1 = 1 then decide (abRtT k = some .boolean) else decide (abRtT k = some .int)
  | 84 => decide (abRtT k = some .long)
  | 85 => decide (abNM ≤ k)
  | 86 => decide (abNM ≤ k)
  | 87 => decide (abNM ≤ k)
  | _ => true
/-- an entry is right -/
def abEtOk (k : Nat) (e : abEy) : Prop := (e.1 = 85 ∨ ∃ i, abIns e = some i ∧ decode (abBy k) e.2.1 = .ok i) ∧ (∀ w ∈ abWds k e, w ∈ abTw) ∧ abSmk k e = true
theorem abEt_dec {k : Nat} {e : abEy} {i : Jvm.ClassFile.Instr × Nat} (h : abEtOk k e) (h85 : ¬ e.1 = 85) (hi : abIns e = some i) : decode (abBy k) e.2.1 = .ok i := by
  rcases h.1 with q | ⟨j, q1, q2⟩
  · exact absurd q h85
  · rw [hi] at q1
    cases q1
    exact q2
/-! the meaning of a state -/
def abTyA (n : Nat) : Option FieldType := match n with
  | 100 => some .int
  | 102 => some .byte
  | 103 => some .boolean
  | _ => none
def abCs (tys : List (ClassId × FieldType)) (ws : va_W) (sb sl : Nat) (rh : Nat → Int) (q : Option (Nat × va_E)) (c : abCel) : Prop :=
  abWf (abD c.2.1) 0 c.2.2 ∧
  (c.1 ≤ 90 → ∃ (a : Nat) (fs : List Value) (y : vw_C), q = some (a, .inr (c.1, fs)) ∧ fs.length = c.2.1 ∧ abCls[c.1]? = some y ∧ y.2.2 = c.2.1 ∧ ∀ (k : Nat) (x : Value), fs[k]? = some x → abG ws sb sl rh (c.2.2.get k) x) ∧
  (∀ ty : FieldType, abTyA c.1 = some ty → ∃ (a : Nat) (cA : ClassId) (f : Nat → Int32) (t0 : Nat), q = some (a, .inl (cA, c.2.1, .inl f)) ∧ tys[t0]? = some (cA, ty) ∧ c.2.1 ≤ 65536 ∧ ∀ k : Nat, k < c.2.1 → abG ws sb sl rh (c.2.2.get k) (.int (f k))) ∧
  (c.1 = 101 → ∃ (a : Nat) (cA : ClassId) (f : Nat → Int64) (t0 : Nat), q = some (a, .inl (cA, c.2.1, .inr (.inl f))) ∧ tys[t0]? = some (cA, .long) ∧ c.2.1 ≤ 65536 ∧ ∀ k : Nat, k < c.2.1 → abG ws sb sl rh (c.2.2.get k) (.long (f k))) ∧
  (200 ≤ c.1 → ∃ (a : Nat) (cA : ClassId) (f : Nat → Option Nat) (t0 : Nat) (y : vw_C), q = some (a, .inl (cA, c.2.1, .inr (.inr (.inr (.inr f))))) ∧ abCls[c.1 - 200]? = some y ∧ tys[t0]? = some (cA, .object y.1) ∧ c.2.1 ≤ 65536 ∧ ∀ k : Nat, k < c.2.1 → abG ws sb sl rh (c.2.2.get k) (va_rf (f k)))
def abHok (D : va_G) (z sb sl : Nat) (rh : Nat → Int) (s : State) (ws : va_W) (H : Heap) (locs : List Loc) (g : abSt) : Prop :=
  (∃ tys : List (ClassId × FieldType), va_K D abCls tys s ∧ ∀ j : Nat, j < 4096 → abCs tys ws sb sl rh ws[j]? (g.1.get j)) ∧ va_P D abCls ws H ∧ va_D (fun q : Nat => z ≤ q) ws ∧ va_S (fun q : Nat => z ≤ q) s.heap H locs ∧ ws.length = g.2.1 ∧ g.2.1 ≤ 4096 ∧ abWf 12 0 g.1 ∧ abEok rh g.2.2.1
def abLok (ws : va_W) (sb sl : Nat) (rh : Nat → Int) (ls : List abV) (n : Nat) (A : Array Slot) : Prop :=
  ls.length = n ∧ ∃ lv : List (Nat × Value), lv_has A n lv ∧ ∀ (i : Nat) (v : abV), ls[i]? = some v → v.1 ≤ 7 → ∃ x : Value, (i, x) ∈ lv ∧ abG ws sb sl rh v x
def abSok (ws : va_W) (sb sl : Nat) (rh : Nat → Int) : List abV → List Value → Prop
  | [], xs => xs = []
  | v :: r, xs => ∃ (x : Value) (xr : List Value), xs = x :: xr ∧ abG ws sb sl rh v x ∧ abSok ws sb sl rh r xr
theorem abLok.mono {w0 w1 : va_W} {sb sl : Nat} {rh : Nat → Int} {ls : List abV} {n : Nat} {A : Array Slot} (hx : abX w0 w1) (h : abLok w0 sb sl rh ls n A) : abLok w1 sb sl rh ls n A := by
  obtain ⟨h1, lv, h2, h3⟩ := h
  refine ⟨h1, lv, h2, fun i v hi hv => ?_⟩
  obtain ⟨x, q1, q2⟩ := h3 i v hi hv
  exact ⟨x, q1, q2.mono hx⟩
theorem abSok.mono {w0 w1 : va_W} {sb sl : Nat} {rh : Nat → Int} (hx : abX w0 w1) : ∀ {st : List abV} {xs : List Value}, abSok w0 sb sl rh st xs → abSok w1 sb sl rh st xs
  | [], _, h => h
  | _ :: _, _, h => by
    obtain ⟨x, xr, h1, h2, h3⟩ := h
    exact ⟨x, xr, h1, h2.mono hx, h3.mono hx⟩
theorem abCs.mono {tys tys' : List (ClassId × FieldType)} {w0 w1 : va_W} {sb sl : Nat} {rh : Nat → Int} {q : Option (Nat × va_E)} {c : abCel} (hx : abX w0 w1) (ht : ∀ (t0 : Nat) (y : ClassId × FieldType), tys[t0]? = some y → tys'[t0]? = some y) (h : abCs tys w0 sb sl rh q c) : abCs tys' w1 sb sl rh q c := by
  obtain ⟨h0, h1, h2, h3, h4⟩ := h
  refine ⟨h0, fun hc => ?_, fun ty hc => ?_, fun hc => ?_, fun hc => ?_⟩
  · obtain ⟨a, fs, y, e1, e2, e3, e4, e5⟩ := h1 hc
    exact ⟨a, fs, y, e1, e2, e3, e4, fun k x hk => (e5 k x hk).mono hx⟩
  · obtain ⟨a, cA, f, t0, e1, e2, e3, e4⟩ := h2 ty hc
    exact ⟨a, cA, f, t0, e1, ht _ _ e2, e3, fun k hk => (e4 k hk).mono hx⟩
  · obtain ⟨a, cA, f, t0, e1, e2, e3, e4⟩ := h3 hc
    exact ⟨a, cA, f, t0, e1, ht _ _ e2, e3, fun k hk => (e4 k hk).mono hx⟩
  · obtain ⟨a, cA, f, t0, y, e1, e2, e3, e4, e5⟩ := h4 hc
    exact ⟨a, cA, f, t0, y, e1, e2, ht _ _ e3, e4, fun k hk => (e5 k hk).mono hx⟩
/-- what a frame of method k stands on; d: how deep it may still call -/
def abFr (z sb sl : Nat) (rh : Nat → Int) (xs0 : Nat → Int32) (k d : Nat) (p : Program) (R : Room) (s : State) (m : MethodId) (args : Array Value) (meth : Method) (c : Code) : Prop :=
  p.tables.exec = Jvm.exec ∧ c.code = abBy k ∧ c.maxLocals = (abMe k).1.2.2.1 ∧ s.vm.findClass (abOwn k) = some m.cls ∧ (∀ w ∈ abTw, w.before args s = true) ∧ meth.name = (abNm k).name ∧ z ≤ s.heap.size ∧
  (abMe k).2.2.1 ≤ R.cells ∧ (abMe k).2.2.2.1 ≤ R.slots ∧ d + 1 ≤ R.frames ∧ 60 * (d + 1) ≤ R.locals ∧ (abNM ≤ k → va_X sb sl xs0 s s.heap ∧ sb < z ∧ sl ≤ 65536 ∧ ∀ j, rh j = (xs0 j).toInt)
def abW (D : va_G) (z sb sl : Nat) (rh : Nat → Int) (w0 : va_W) (p : Program) (l : Launch) (ev : Env) (R : Room) (s : State) (m : MethodId) (args : Array Value) (below : List Frame) (meth : Method) (c : Code) (Q : State → Prop) (pc : Nat) (ls st : List abV) (g : abSt) : Prop :=
  ∀ (H : Heap) (locs : List Loc) (ws : va_W) (A : Array Slot) (xs : List Value), abHok D z sb sl rh s ws H locs g → abX w0 ws → abLok ws sb sl rh ls c.maxLocals A → abSok ws sb sl rh st xs → W p l ev R s m args below meth c H locs g.2.2.2.1 g.2.2.2.2 Q (F0 m pc A xs)
/-- what follows is sound where its ends are among r -/
def abNs (D : va_G) (z sb sl : Nat) (rh : Nat → Int) (w0 : va_W) (p : Program) (l : Launch) (ev : Env) (R : Room) (s : State) (m : MethodId) (args : Array Value) (below : List Frame) (meth : Method) (c : Code) (Q : State → Prop) (r : List abF) (nx : abNx) : Prop :=
  ∀ (pc : Nat) (ls st : List abV) (g : abSt) (r' : List abF), nx pc ls st g = some r' → (∀ x ∈ r', x ∈ r) → abW D z sb sl rh w0 p l ev R s m args below meth c Q pc ls st g
theorem abHd_some {st : List abV} {f : abV → List abV → abR} {r : List abF} (h : abHd st f = some r) : ∃ v s', st = v :: s' ∧ f v s' = some r := by
  cases st with
  | nil => cases h
  | cons v s' => exact ⟨v, s', rfl, h⟩
theorem ab2_some {st : List abV} {f : abV → abV → List abV → abR} {r : List abF} (h : ab2 st f = some r) : ∃ w v s', st = w :: v :: s' ∧ f w v s' = some r := by
  obtain ⟨w, s1, rfl, h1⟩ := abHd_some h
  obtain ⟨v, s2, rfl, h2⟩ := abHd_some h1
  exact ⟨w, v, s2, rfl, h2⟩
theorem abHok.env {D : va_G} {z sb sl : Nat} {rh : Nat → Int} {s : State} {ws : va_W} {H : Heap} {locs : List Loc} {g : abSt} {e : abE} (h : abHok D z sb sl rh s ws H locs g) (he : abEok rh e) : abHok D z sb sl rh s ws H locs (abSe g e) := by
  obtain ⟨h1, h2, h3, h4, h5, h6, h7, -⟩ := h
  exact ⟨h1, h2, h3, h4, h5, h6, h7, he⟩
