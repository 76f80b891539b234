/-! length and charAt of a text: seven methods of the JDK -/
def axF : Nat → Prop := fun _ => False
/-- what is known of a text at a: v its row, n its length -/
def axT (a v n : Nat) (U : State) (H : Heap) : Prop := va_O "java/lang/String" a axF U H ∧ va_OF "java/lang/String" "coder" "B" (.int 0) a axF U H ∧ va_OF "java/lang/String" "value" "[B" (.ref v) a axF U H ∧ (∃ f : Nat → Int32, va_T .byte v n (fun j => .int (f j)) axF U H) ∧ va_Z "java/lang/String" "COMPACT_STRINGS" "Z" (.int 1) axF U H ∧ va_Zq "jdk/internal/util/Preconditions" "SIOOBE_FORMATTER" "Ljava/util/function/BiFunction;" axF U H
theorem axT.moved {a v n : Nat} {s U : State} {H : Heap} (hal : s.vm.Alike U.vm) (h : axT a v n s H) : axT a v n U H := by
  obtain ⟨h1, h2, h3, ⟨f, h4⟩, h5, h6⟩ := h
  exact ⟨va_O.moved hal h1, va_OF.moved hal h2, va_OF.moved hal h3, ⟨f, va_T.moved hal h4⟩, va_Z.moved hal h5, va_Zq.moved hal h6⟩
theorem axT.kept {a v n : Nat} {s : State} {H H1 : Heap} (h : axT a v n s H) (hS : ∀ q : Nat, q < H.size → ¬ axF q → H1[q]? = H[q]?) : axT a v n s H1 := by
  obtain ⟨h1, h2, h3, ⟨f, h4⟩, h5, h6⟩ := h
  exact ⟨h1.kept hS, h2.kept hS, h3.kept hS, ⟨f, h4.kept hS⟩, h5.kept hS, h6.kept hS⟩
theorem axSl : ∀ g : Nat, g < 44 → avSlen g = abSl.getD g 0 ∧ avSlen g < 100 := by decide +kernel
theorem axT.of {RG : avRJ} {z : Nat} {s : State} {H : Heap} {locs : List Loc} (h : avStr RG z s) (hSS : va_S (fun q : Nat => z ≤ q) s.heap H locs) {g : Nat} (hg : g < 44) : ∃ v : Nat, axT (RG.2.2 g) v (avSlen g) s H := by
  obtain ⟨⟨adV, h1⟩, -, h3, h4⟩ := h
  obtain ⟨b1, b2, b3, f, b4⟩ := h1 g (show g < abSl.length from hg)
  have hF : ∀ q, axF q → z ≤ q := fun q h => h.elim
  rw [← (axSl g hg).1] at b4
  exact ⟨adV g, (b1.kept hSS.2.1).narrow hF, (b2.kept hSS.2.1).narrow hF, (b3.kept hSS.2.1).narrow hF, ⟨f, (b4.kept hSS.2.1).narrow hF⟩, (h3.kept hSS.2.1).narrow hF, (h4.kept hSS.2.1).narrow hF⟩
def axR (d : Nat) : Room := { frames := d, cells := 0, slots := 0, locals := 60 * d }
def axQ (P : Int32 → Prop) : Array Value → State → Outcome → State → Prop := va_Qi (S := Unit) (fun r _ => P r) (fun _ _ => True) axF
def axQv : Array Value → State → Outcome → State → Prop := va_Qv (S := Unit) (fun _ => True) (fun _ _ => True) axF
noncomputable def axC (y : MethodName) (b : ByteArray) (n : Nat) (r : Option FieldType) : List Jvm.Cond := Jvm.Cond.code y b n r :: abTb
theorem axIn {w : Jvm.Cond} (h : w ∈ lw_tbl) (g : goodWord w = true) : w ∈ abTb := List.mem_filter.mpr ⟨h, g⟩
theorem axGood {w : Jvm.Cond} (h : w ∈ abTb) : goodWord w = true := (List.mem_filter.mp h).2
theorem axG {big : List Jvm.Cond} {y : MethodName} {b : ByteArray} {n : Nat} {r : Option FieldType} (hb : ∀ w ∈ abTb, w ∈ big) (h : Jvm.Cond.code y b n r ∈ abTb) : GoodIn big (axC y b n r) := fun w hw => by
  rcases List.mem_cons.mp hw with rfl | hw
  · exact ⟨hb _ h, good_of_word (axGood h)⟩
  · exact ⟨hb _ hw, good_of_word (axGood hw)⟩
theorem axBl {vs : List Value} {a v n : Nat} : FrameBlind (va_Pc vs (fun U => axT a v n U U.heap)) := fun A U gg mk q => ⟨q.1, axT.moved (s := U) (U := U.calling gg mk A) (Vm.Alike.refl U.vm) q.2⟩
theorem axBl0 {vs : List Value} : FrameBlind (va_Pc vs (fun _ => True)) := fun _ _ _ _ q => ⟨q.1, trivial⟩
/-- a char -/
def axCh (r : Int32) : Prop := 0 ≤ r.toInt ∧ r.toInt ≤ 65535 ∧ narrow .char (.int r) = .int r
theorem axCh_and (x : Int32) : axCh (x &&& 255) := by
  obtain ⟨j, hj, e⟩ := pk_andE x (m := 255) 8 (by decide)
  have h2 : (nI j).toInt = (j : Int) := nI_toInt (by omega)
  refine ⟨?_, ?_, sc_nar x⟩
  · rw [e, h2]; omega
  · rw [e, h2]; omega
abbrev axYc : MethodName := ⟨"java/lang/String", "coder", "()B"⟩
abbrev axYl : MethodName := ⟨"java/lang/String", "length", "()I"⟩
abbrev axYi : MethodName := ⟨"java/lang/String", "isLatin1", "()Z"⟩
abbrev axYx : MethodName := ⟨"java/lang/String", "checkIndex", "(II)V"⟩
abbrev axYa : MethodName := ⟨"java/lang/String", "charAt", "(I)C"⟩
abbrev axYb : MethodName := ⟨"java/lang/StringLatin1", "charAt", "([BI)C"⟩
abbrev axYp : MethodName := ⟨"jdk/internal/util/Preconditions", "checkIndex", "(IILjava/util/function/BiFunction;)I"⟩
abbrev axBc : ByteArray := prog_17_method_152_code
abbrev axBll : ByteArray := prog_17_method_54_code
abbrev axBi : ByteArray := prog_17_method_154_code
abbrev axBx : ByteArray := prog_17_method_155_code
abbrev axBa : ByteArray := prog_17_method_56_code
abbrev axBb : ByteArray := prog_18_method_2_code
abbrev axBp : ByteArray := prog_21_method_11_code
theorem ax_coder (l : Launch) {a v n : Nat} : Met l axYc (axC axYc axBc 1 (some .byte)) (axR 0) (va_Pc [.ref a] (fun U => axT a v n U U.heap)) (axQ (fun r => r = 0)) 0 0 axF := by
  refine abOfW (cc := axBc) (maxL := 1) (ret := some .byte) (by decide +kernel) rfl ?_
  intro p e s m args below meth c s₁ B hml hv
  obtain ⟨rfl, hT1, hT2, hT3, ⟨f, hT4⟩, hT5, hT6⟩ := hv
  have hx := B.exec
  have hb := B.bytes
  have hr := B.returns
  have hts := atoms_spec (ws := axC axYc axBc 1 (some .byte)) B.pre
  have hw : ∀ {w : Jvm.Cond}, w ∈ lw_tbl → goodWord w = true → w.before [Value.ref a].toArray s = true := fun h g => hts _ (List.mem_cons_of_mem _ (axIn h g))
  have hown : s.vm.findClass "java/lang/String" = some m.cls := findClass_of_methodNamed B.named
  have hS : va_S axF s.heap s.heap [] := va_S.rf
  have hl := lv_entry [.ref a] (n := 1) (Nat.le_of_ble_eq_true rfl)
  rw [lg_entry_eq]
  generalize (lg_sl [.ref a] ++ List.replicate (1 - (lg_sl [.ref a]).length) Slot.unset).toArray = ls at hl ⊢
  have hl : lv_has ls 1 [(0, .ref a)] := hl
  refine va_gets (C := "java/lang/String") (own := "java/lang/String") (ref := "java/lang/String") (index := 38) hx hb hT5 hS hown (hw (by decide +kernel) (by decide +kernel)) (fun _ h => h) (by decide +kernel) ?_
  refine lv_if_eq (off := 10) (tgt := 13) hx hb (show decode axBc 3 = .ok (.ifCond .eq 10, 3) from by decide +kernel) rfl (fun h => absurd h (by decide)) (fun _ => ?_)
  refine lv_aload_n (k := 0) hx hb (show decode axBc 6 = .ok (.aload_n 0, 1) from by decide +kernel) rfl (lv_at hl 0 rfl) ?_
  refine vk_getf (own := "java/lang/String") (ref := "java/lang/String") (index := 15) hx hb hT2 hS hown (hw (by decide +kernel) (by decide +kernel)) (fun _ h => h) (show decode axBc 7 = .ok (.getfield 15, 3) from by decide +kernel) ?_
  refine lv_goto (off := 4) (tgt := 14) hx hb (show decode axBc 10 = .ok (.goto 4, 3) from by decide +kernel) rfl ?_
  exact W.zret (ty := .byte) hx hb hr rfl (fun t ht hW => ⟨⟨0, (), rfl, rfl, trivial⟩, hS.F ht⟩) hS.2.2 (by decide +kernel)
theorem ax_latin (l : Launch) {a v n : Nat} : Met l axYi (axC axYi axBi 1 (some .boolean)) (axR 0) (va_Pc [.ref a] (fun U => axT a v n U U.heap)) (axQ (fun r => r = 1)) 0 0 axF := by
  refine abOfW (cc := axBi) (maxL := 1) (ret := some .boolean) (by decide +kernel) rfl ?_
  intro p e s m args below meth c s₁ B hml hv
  obtain ⟨rfl, hT1, hT2, hT3, ⟨f, hT4⟩, hT5, hT6⟩ := hv
  have hx := B.exec
  have hb := B.bytes
  have hr := B.returns
  have hts := atoms_spec (ws := axC axYi axBi 1 (some .boolean)) B.pre
  have hw : ∀ {w : Jvm.Cond}, w ∈ lw_tbl → goodWord w = true → w.before [Value.ref a].toArray s = true := fun h g => hts _ (List.mem_cons_of_mem _ (axIn h g))
  have hown : s.vm.findClass "java/lang/String" = some m.cls := findClass_of_methodNamed B.named
  have hS : va_S axF s.heap s.heap [] := va_S.rf
  have hl := lv_entry [.ref a] (n := 1) (Nat.le_of_ble_eq_true rfl)
  rw [lg_entry_eq]
  generalize (lg_sl [.ref a] ++ List.replicate (1 - (lg_sl [.ref a]).length) Slot.unset).toArray = ls at hl ⊢
  have hl : lv_has ls 1 [(0, .ref a)] := hl
  refine va_gets (C := "java/lang/String") (own := "java/lang/String") (ref := "java/lang/String") (index := 38) hx hb hT5 hS hown (hw (by decide +kernel) (by decide +kernel)) (fun _ h => h) (by decide +kernel) ?_
  refine lv_if_eq (off := 14) (tgt := 17) hx hb (show decode axBi 3 = .ok (.ifCond .eq 14, 3) from by decide +kernel) rfl (fun h => absurd h (by decide)) (fun _ => ?_)
  refine lv_aload_n (k := 0) hx hb (show decode axBi 6 = .ok (.aload_n 0, 1) from by decide +kernel) rfl (lv_at hl 0 rfl) ?_
  refine vk_getf (own := "java/lang/String") (ref := "java/lang/String") (index := 15) hx hb hT2 hS hown (hw (by decide +kernel) (by decide +kernel)) (fun _ h => h) (show decode axBi 7 = .ok (.getfield 15, 3) from by decide +kernel) ?_
  refine lv_if_ne (off := 7) (tgt := 17) hx hb (show decode axBi 10 = .ok (.ifCond .ne 7, 3) from by decide +kernel) rfl (fun h => absurd rfl h) (fun _ => ?_)
  refine lv_iconst (n := 1) (v := 1) hx hb (show decode axBi 13 = .ok (.iconst 1, 1) from by decide +kernel) rfl ?_
  refine lv_goto (off := 4) (tgt := 18) hx hb (show decode axBi 14 = .ok (.goto 4, 3) from by decide +kernel) rfl ?_
  exact W.zret (ty := .boolean) hx hb hr rfl (fun t ht hW => ⟨⟨1, (), rfl, rfl, trivial⟩, hS.F ht⟩) hS.2.2 (by decide +kernel)
theorem ax_length (l : Launch) {a v n : Nat} (hn : n < 100) : Met l axYl (axC axYl axBll 1 (some .int)) (axR 1) (va_Pc [.ref a] (fun U => axT a v n U U.heap)) (axQ (fun r => r = nI n)) 0 0 axF := by
  refine abOfW (cc := axBll) (maxL := 1) (ret := some .int) (by decide +kernel) rfl ?_
  intro p e s m args below meth c s₁ B hml hv
  obtain ⟨rfl, hT⟩ := hv
  obtain ⟨hT1, hT2, hT3, ⟨f, hT4⟩, hT5, hT6⟩ := id hT
  have hx := B.exec
  have hb := B.bytes
  have hr := B.returns
  have hts := atoms_spec (ws := axC axYl axBll 1 (some .int)) B.pre
  have hw : ∀ {w : Jvm.Cond}, w ∈ lw_tbl → goodWord w = true → w.before [Value.ref a].toArray s = true := fun h g => hts _ (List.mem_cons_of_mem _ (axIn h g))
  have hown : s.vm.findClass "java/lang/String" = some m.cls := findClass_of_methodNamed B.named
  have hS : va_S axF s.heap s.heap [] := va_S.rf
  have hl := lv_entry [.ref a] (n := 1) (Nat.le_of_ble_eq_true rfl)
  rw [lg_entry_eq]
  generalize (lg_sl [.ref a] ++ List.replicate (1 - (lg_sl [.ref a]).length) Slot.unset).toArray = ls at hl ⊢
  have hl : lv_has ls 1 [(0, .ref a)] := hl
  refine lv_aload_n (k := 0) hx hb (show decode axBll 0 = .ok (.aload_n 0, 1) from by decide +kernel) rfl (lv_at hl 0 rfl) ?_
  refine vk_getf (own := "java/lang/String") (ref := "java/lang/String") (index := 9) hx hb hT3 hS hown (hw (by decide +kernel) (by decide +kernel)) (fun _ h => h) (show decode axBll 1 = .ok (.getfield 9, 3) from by decide +kernel) ?_
  refine va_tlen (v := nI n) hx hb hT4 hS rfl (show decode axBll 4 = .ok (.arraylength, 1) from by decide +kernel) ?_
  refine lv_aload_n (k := 0) hx hb (show decode axBll 5 = .ok (.aload_n 0, 1) from by decide +kernel) rfl (lv_at hl 0 rfl) ?_
  have S : CallFix p m c axBll 1 s [Value.ref a].toArray (axC axYl axBll 1 (some .int)) "java/lang/String" := ⟨hx, hb, hml, hown, hts⟩
  obtain ⟨cell, r1, r2, r3, -⟩ := hT1
  refine va_calli (S := Unit) (va_runV (C := "java/lang/String") (index := 335) (n := 0) (b := a) (As := []) (rest := [.int (nI n)]) S (ax_coder l (a := a) (v := v) (n := n)) ⟨callB_of 0 hts (axG (fun w h => List.mem_cons_of_mem _ h) (axIn (by decide +kernel) (by decide +kernel))) rfl rfl rfl (hw (by decide +kernel) (by decide +kernel)) (hw (by decide +kernel) (by decide +kernel)) (by decide +kernel) ⟨Nat.le_of_ble_eq_true rfl, Nat.le_of_ble_eq_true rfl⟩, hw (by decide +kernel) (by decide +kernel), hw (by decide +kernel) (by decide +kernel)⟩ ⟨axBl, ⟨cell, r1, r2, r3⟩, fun U hU hW => ⟨rfl, by show axT a v n U U.heap; rw [hU]; exact axT.moved hW.alike hT⟩⟩ rfl rfl hl.1 rfl (avRoomW (Nat.le_of_ble_eq_true rfl)) (show decode axBll 6 = .ok (.invokevirtual 335, 3) from by decide +kernel) ⟨Nat.zero_le _, Nat.zero_le _⟩) hS (fun _ _ h => h) (fun _ h => h) (fun r u t H1 locs1 ht hal hpost hB hsz hk hS1 => ?_)
  have hr0 : r = 0 := hpost
  subst hr0
  refine lv_ishr hx hb (show decode axBll 9 = .ok (.ishr, 1) from by decide +kernel) ?_
  rw [sc_shr0 (n := n) (by omega)]
  exact W.iret hx hb hr (fun t ht hW => ⟨⟨nI n, (), rfl, rfl, trivial⟩, hS1.F ht⟩) hS1.2.2 (by decide +kernel)
theorem ax_pre (l : Launch) {i n : Int32} {w : Value} (hw0 : w = .null ∨ ∃ t : Nat, w = .ref t) (h0 : 0 ≤ i.toInt) (h1 : i.toInt < n.toInt) : Met l axYp (axC axYp axBp 3 (some .int)) (axR 0) (va_Pc [.int i, .int n, w] (fun _ => True)) (axQ (fun _ => True)) 0 0 axF := by
  refine abOfW (cc := axBp) (maxL := 3) (ret := some .int) (by decide +kernel) rfl ?_
  intro p e s m args below meth c s₁ B hml hv
  obtain ⟨rfl, -⟩ := hv
  have hx := B.exec
  have hb := B.bytes
  have hr := B.returns
  have hS : va_S axF s.heap s.heap [] := va_S.rf
  rw [lg_entry_eq]
  have main : ∀ ls : Array Slot, lv_has ls 3 [(0, .int i), (1, .int n), (2, w)] → W p l e (headSpec (axC axYp axBp 3 (some .int)) (axR 0)).room s m [Value.int i, .int n, w].toArray below meth c s.heap [] 0 0 (MQ below (axQ (fun _ => True)) [Value.int i, .int n, w].toArray s 0 0 axF) (F0 m 0 ls []) := by
    intro ls hl
    refine lv_iload_n (k := 0) hx hb (show decode axBp 0 = .ok (.iload_n 0, 1) from by decide +kernel) rfl (lv_at hl 0 rfl) ?_
    refine lv_if_lt (off := 8) (tgt := 9) hx hb (show decode axBp 1 = .ok (.ifCond .lt 8, 3) from by decide +kernel) rfl (fun h => ?_) (fun _ => ?_)
    · exfalso
      have := Int32.lt_iff_toInt_lt.mp h
      have e0 : (0 : Int32).toInt = 0 := rfl
      omega
    refine lv_iload_n (k := 0) hx hb (show decode axBp 4 = .ok (.iload_n 0, 1) from by decide +kernel) rfl (lv_at hl 0 rfl) ?_
    refine lv_iload_n (k := 1) hx hb (show decode axBp 5 = .ok (.iload_n 1, 1) from by decide +kernel) rfl (lv_at hl 1 rfl) ?_
    refine lv_icmp_lt (off := 10) (tgt := 16) hx hb (show decode axBp 6 = .ok (.if_icmp .lt 10, 3) from by decide +kernel) rfl (fun _ => ?_) (fun h => absurd (Int32.lt_iff_toInt_lt.mpr h1) h)
    refine lv_iload_n (k := 0) hx hb (show decode axBp 16 = .ok (.iload_n 0, 1) from by decide +kernel) rfl (lv_at hl 0 rfl) ?_
    exact W.iret hx hb hr (fun t ht hW => ⟨⟨i, (), rfl, trivial, trivial⟩, hS.F ht⟩) hS.2.2 (by decide +kernel)
  rcases hw0 with rfl | ⟨t, rfl⟩
  · exact main _ (lv_entry [.int i, .int n, .null] (n := 3) (Nat.le_of_ble_eq_true rfl))
  · exact main _ (lv_entry [.int i, .int n, .ref t] (n := 3) (Nat.le_of_ble_eq_true rfl))
theorem ax_check (l : Launch) {i k : Int32} {a v n : Nat} (h0 : 0 ≤ i.toInt) (h1 : i.toInt < k.toInt) : Met l axYx (axC axYx axBx 2 none) (axR 1) (va_Pc [.int i, .int k] (fun U => axT a v n U U.heap)) axQv 0 0 axF := by
  refine abOfW (cc := axBx) (maxL := 2) (ret := none) (by decide +kernel) rfl ?_
  intro p e s m args below meth c s₁ B hml hv
  obtain ⟨rfl, hT1, hT2, hT3, ⟨f, hT4⟩, hT5, hT6⟩ := hv
  have hx := B.exec
  have hb := B.bytes
  have hr := B.returns
  have hts := atoms_spec (ws := axC axYx axBx 2 none) B.pre
  have hw : ∀ {w : Jvm.Cond}, w ∈ lw_tbl → goodWord w = true → w.before [Value.int i, .int k].toArray s = true := fun h g => hts _ (List.mem_cons_of_mem _ (axIn h g))
  have hown : s.vm.findClass "java/lang/String" = some m.cls := findClass_of_methodNamed B.named
  have hS : va_S axF s.heap s.heap [] := va_S.rf
  have hl := lv_entry [.int i, .int k] (n := 2) (Nat.le_of_ble_eq_true rfl)
  rw [lg_entry_eq]
  generalize (lg_sl [.int i, .int k] ++ List.replicate (2 - (lg_sl [.int i, .int k]).length) Slot.unset).toArray = ls at hl ⊢
  have hl : lv_has ls 2 [(0, .int i), (1, .int k)] := hl
  refine lv_iload_n (k := 0) hx hb (show decode axBx 0 = .ok (.iload_n 0, 1) from by decide +kernel) rfl (lv_at hl 0 rfl) ?_
  refine lv_iload_n (k := 1) hx hb (show decode axBx 1 = .ok (.iload_n 1, 1) from by decide +kernel) rfl (lv_at hl 1 rfl) ?_
  have S : CallFix p m c axBx 2 s [Value.int i, .int k].toArray (axC axYx axBx 2 none) "java/lang/String" := ⟨hx, hb, hml, hown, hts⟩
  have go : ∀ w : Value, (w = .null ∨ ∃ t : Nat, w = .ref t) → va_Z "jdk/internal/util/Preconditions" "SIOOBE_FORMATTER" "Ljava/util/function/BiFunction;" w axF s s.heap → W p l e (headSpec (axC axYx axBx 2 none) (axR 1)).room s m [Value.int i, .int k].toArray below meth c s.heap [] 0 0 (MQ below axQv [Value.int i, .int k].toArray s 0 0 axF) (F0 m 2 ls [.int k, .int i]) := by
    intro w hw0 hZ
    refine va_gets (C := "jdk/internal/util/Preconditions") (own := "java/lang/String") (ref := "jdk/internal/util/Preconditions") (index := 1053) hx hb hZ hS hown (hw (by decide +kernel) (by decide +kernel)) (fun _ h => h) (show decode axBx 2 = .ok (.getstatic 1053, 3) from by decide +kernel) ?_
    refine va_calli (S := Unit) (va_runS (index := 1059) (n := 3) (As := [.int i, .int k, w]) (rest := []) S (ax_pre l hw0 h0 h1) ⟨callB_of 3 hts (axG (fun w h => List.mem_cons_of_mem _ h) (axIn (by decide +kernel) (by decide +kernel))) rfl rfl rfl (hw (by decide +kernel) (by decide +kernel)) (hw (by decide +kernel) (by decide +kernel)) (by decide +kernel) ⟨Nat.le_of_ble_eq_true rfl, Nat.le_of_ble_eq_true rfl⟩, hw (by decide +kernel) (by decide +kernel)⟩ ⟨axBl0, fun U hU hW => ⟨rfl, trivial⟩⟩ rfl rfl hl.1 rfl (avRoomW (Nat.le_of_ble_eq_true rfl)) (show decode axBx 5 = .ok (.invokestatic 1059, 3) from by decide +kernel) ⟨Nat.zero_le _, Nat.zero_le _⟩) hS (fun _ _ h => h) (fun _ h => h) (fun r u t H1 locs1 ht hal hpost hB hsz hk hS1 => ?_)
    refine lv_pop hx hb (show decode axBx 8 = .ok (.pop, 1) from by decide +kernel) rfl ?_
    exact W.vret hx hb hr (fun t ht hW => ⟨⟨(), rfl, trivial, trivial⟩, hS1.F ht⟩) hS1.2.2 (by decide +kernel)
  rcases hT6 with h6 | ⟨t, h6⟩
  · exact go _ (Or.inl rfl) h6
  · exact go _ (Or.inr ⟨t, rfl⟩) h6
theorem ax_lat (l : Launch) {i : Int32} {a v n : Nat} (hn : n < 100) (h0 : 0 ≤ i.toInt) (h1 : i.toInt < (n : Int)) : Met l axYb (axC axYb axBb 2 (some .char)) (axR 2) (va_Pc [.ref v, .int i] (fun U => axT a v n U U.heap)) (axQ axCh) 0 0 axF := by
  refine abOfW (cc := axBb) (maxL := 2) (ret := some .char) (by decide +kernel) rfl ?_
  intro p e s m args below meth c s₁ B hml hv
  obtain ⟨rfl, hT⟩ := hv
  obtain ⟨hT1, hT2, hT3, ⟨f, hT4⟩, hT5, hT6⟩ := id hT
  have hx := B.exec
  have hb := B.bytes
  have hr := B.returns
  have hts := atoms_spec (ws := axC axYb axBb 2 (some .char)) B.pre
  have hw : ∀ {w : Jvm.Cond}, w ∈ lw_tbl → goodWord w = true → w.before [Value.ref v, .int i].toArray s = true := fun h g => hts _ (List.mem_cons_of_mem _ (axIn h g))
  have hown : s.vm.findClass "java/lang/StringLatin1" = some m.cls := findClass_of_methodNamed B.named
  have hS : va_S axF s.heap s.heap [] := va_S.rf
  have hl := lv_entry [.ref v, .int i] (n := 2) (Nat.le_of_ble_eq_true rfl)
  rw [lg_entry_eq]
  generalize (lg_sl [.ref v, .int i] ++ List.replicate (2 - (lg_sl [.ref v, .int i]).length) Slot.unset).toArray = ls at hl ⊢
  have hl : lv_has ls 2 [(0, .ref v), (1, .int i)] := hl
  have hnn : (nI n).toInt = (n : Int) := nI_toInt (by omega)
  refine lv_iload_n (k := 1) hx hb (show decode axBb 0 = .ok (.iload_n 1, 1) from by decide +kernel) rfl (lv_at hl 1 rfl) ?_
  refine lv_aload_n (k := 0) hx hb (show decode axBb 1 = .ok (.aload_n 0, 1) from by decide +kernel) rfl (lv_at hl 0 rfl) ?_
  refine va_tlen (v := nI n) hx hb hT4 hS rfl (show decode axBb 2 = .ok (.arraylength, 1) from by decide +kernel) ?_
  have S : CallFix p m c axBb 2 s [Value.ref v, .int i].toArray (axC axYb axBb 2 (some .char)) "java/lang/StringLatin1" := ⟨hx, hb, hml, hown, hts⟩
  refine va_callv (S := Unit) (va_runS (index := 9) (n := 2) (As := [.int i, .int (nI n)]) (rest := []) S (ax_check l (a := a) (v := v) (n := n) h0 (by rw [hnn]; exact h1)) ⟨callB_of 2 hts (axG (fun w h => List.mem_cons_of_mem _ h) (axIn (by decide +kernel) (by decide +kernel))) rfl rfl rfl (hw (by decide +kernel) (by decide +kernel)) (hw (by decide +kernel) (by decide +kernel)) (by decide +kernel) ⟨Nat.le_of_ble_eq_true rfl, Nat.le_of_ble_eq_true rfl⟩, hw (by decide +kernel) (by decide +kernel)⟩ ⟨axBl, fun U hU hW => ⟨rfl, by show axT a v n U U.heap; rw [hU]; exact axT.moved hW.alike hT⟩⟩ rfl rfl hl.1 rfl (avRoomW (Nat.le_of_ble_eq_true rfl)) (show decode axBb 3 = .ok (.invokestatic 9, 3) from by decide +kernel) ⟨Nat.zero_le _, Nat.zero_le _⟩) hS (fun _ _ h => h) (fun _ h => h) (fun u t H1 locs1 ht hal hpost hB hsz hk hS1 => ?_)
  refine lv_aload_n (k := 0) hx hb (show decode axBb 6 = .ok (.aload_n 0, 1) from by decide +kernel) rfl (lv_at hl 0 rfl) ?_
  refine lv_iload_n (k := 1) hx hb (show decode axBb 7 = .ok (.iload_n 1, 1) from by decide +kernel) rfl (lv_at hl 1 rfl) ?_
  refine va_tb (v := .int (f i.toNatClampNeg)) hx hb hT4 hS1 (vp_in_iff.mpr ⟨h0, h1⟩) rfl (show decode axBb 8 = .ok (.baload, 1) from by decide +kernel) ?_
  refine lv_sipush (n := 255) (v := 255) hx hb (show decode axBb 9 = .ok (.sipush 255, 3) from by decide +kernel) rfl ?_
  refine lv_iand hx hb (show decode axBb 12 = .ok (.iand, 1) from by decide +kernel) ?_
  refine lv_i2c hx hb (show decode axBb 13 = .ok (.i2c, 1) from by decide +kernel) (sc_c2 _) ?_
  exact W.zret (ty := .char) hx hb hr (axCh_and _).2.2 (fun t ht hW => ⟨⟨_, (), rfl, axCh_and _, trivial⟩, hS1.F ht⟩) hS1.2.2 (by decide +kernel)
theorem ax_charAt (l : Launch) {i : Int32} {a v n : Nat} (hn : n < 100) (h0 : 0 ≤ i.toInt) (h1 : i.toInt < (n : Int)) : Met l axYa (axC axYa axBa 2 (some .char)) (axR 3) (va_Pc [.ref a, .int i] (fun U => axT a v n U U.heap)) (axQ axCh) 0 0 axF := by
  refine abOfW (cc := axBa) (maxL := 2) (ret := some .char) (by decide +kernel) rfl ?_
  intro p e s m args below meth c s₁ B hml hv
  obtain ⟨rfl, hT⟩ := hv
  obtain ⟨hT1, hT2, hT3, ⟨f, hT4⟩, hT5, hT6⟩ := id hT
  have hx := B.exec
  have hb := B.bytes
  have hr := B.returns
  have hts := atoms_spec (ws := axC axYa axBa 2 (some .char)) B.pre
  have hw : ∀ {w : Jvm.Cond}, w ∈ lw_tbl → goodWord w = true → w.before [Value.ref a, .int i].toArray s = true := fun h g => hts _ (List.mem_cons_of_mem _ (axIn h g))
  have hown : s.vm.findClass "java/lang/String" = some m.cls := findClass_of_methodNamed B.named
  have hS : va_S axF s.heap s.heap [] := va_S.rf
  have hl := lv_entry [.ref a, .int i] (n := 2) (Nat.le_of_ble_eq_true rfl)
  rw [lg_entry_eq]
  generalize (lg_sl [.ref a, .int i] ++ List.replicate (2 - (lg_sl [.ref a, .int i]).length) Slot.unset).toArray = ls at hl ⊢
  have hl : lv_has ls 2 [(0, .ref a), (1, .int i)] := hl
  refine lv_aload_n (k := 0) hx hb (show decode axBa 0 = .ok (.aload_n 0, 1) from by decide +kernel) rfl (lv_at hl 0 rfl) ?_
  have S : CallFix p m c axBa 2 s [Value.ref a, .int i].toArray (axC axYa axBa 2 (some .char)) "java/lang/String" := ⟨hx, hb, hml, hown, hts⟩
  obtain ⟨cell, r1, r2, r3, -⟩ := hT1
  refine va_calli (S := Unit) (va_runV (C := "java/lang/String") (index := 492) (n := 0) (b := a) (As := []) (rest := []) S (ax_latin l (a := a) (v := v) (n := n)) ⟨callB_of 0 hts (axG (fun w h => List.mem_cons_of_mem _ h) (axIn (by decide +kernel) (by decide +kernel))) rfl rfl rfl (hw (by decide +kernel) (by decide +kernel)) (hw (by decide +kernel) (by decide +kernel)) (by decide +kernel) ⟨Nat.le_of_ble_eq_true rfl, Nat.le_of_ble_eq_true rfl⟩, hw (by decide +kernel) (by decide +kernel), hw (by decide +kernel) (by decide +kernel)⟩ ⟨axBl, ⟨cell, r1, r2, r3⟩, fun U hU hW => ⟨rfl, by show axT a v n U U.heap; rw [hU]; exact axT.moved hW.alike hT⟩⟩ rfl rfl hl.1 rfl (avRoomW (Nat.le_of_ble_eq_true rfl)) (show decode axBa 1 = .ok (.invokevirtual 492, 3) from by decide +kernel) ⟨Nat.zero_le _, Nat.zero_le _⟩) hS (fun _ _ h => h) (fun _ h => h) (fun r u t H1 locs1 ht hal hpost hB hsz hk hS1 => ?_)
  have hr0 : r = 1 := hpost
  subst hr0
  refine lv_if_eq (off := 12) (tgt := 16) hx hb (show decode axBa 4 = .ok (.ifCond .eq 12, 3) from by decide +kernel) rfl (fun h => absurd h (by decide)) (fun _ => ?_)
  refine lv_aload_n (k := 0) hx hb (show decode axBa 7 = .ok (.aload_n 0, 1) from by decide +kernel) rfl (lv_at hl 0 rfl) ?_
  refine vk_getf (own := "java/lang/String") (ref := "java/lang/String") (index := 9) hx hb hT3 hS1 hown (hw (by decide +kernel) (by decide +kernel)) (fun _ h => h) (show decode axBa 8 = .ok (.getfield 9, 3) from by decide +kernel) ?_
  refine lv_iload_n (k := 1) hx hb (show decode axBa 11 = .ok (.iload_n 1, 1) from by decide +kernel) rfl (lv_at hl 1 rfl) ?_
  refine va_calli (S := Unit) (va_runS (index := 495) (n := 2) (As := [.ref v, .int i]) (rest := []) S (ax_lat l (a := a) hn h0 h1) ⟨callB_of 2 hts (axG (fun w h => List.mem_cons_of_mem _ h) (axIn (by decide +kernel) (by decide +kernel))) rfl rfl rfl (hw (by decide +kernel) (by decide +kernel)) (hw (by decide +kernel) (by decide +kernel)) (by decide +kernel) ⟨Nat.le_of_ble_eq_true rfl, Nat.le_of_ble_eq_true rfl⟩, hw (by decide +kernel) (by decide +kernel)⟩ ⟨axBl, fun U hU hW => ⟨rfl, by show axT a v n U U.heap; rw [hU]; exact axT.moved hW.alike (hT.kept hS1.2.1)⟩⟩ rfl rfl hl.1 rfl (avRoomW (Nat.le_of_ble_eq_true rfl)) (show decode axBa 12 = .ok (.invokestatic 495, 3) from by decide +kernel) ⟨Nat.zero_le _, Nat.zero_le _⟩) hS1 (fun _ _ h => h) (fun _ h => h) (fun r u t H2 locs2 ht hal hpost hB hsz hk hS2 => ?_)
  have hc : axCh r := hpost
  exact W.zret (ty := .char) hx hb hr hc.2.2 (fun t ht hW => ⟨⟨_, (), rfl, hc, trivial⟩, hS2.F ht⟩) hS2.2.2 (by decide +kernel)
/-- a world that no call touches -/
theorem axP {D : va_G} {ws : va_W} {H H1 : Heap} (hP : va_P D abCls ws H) (hk : ∀ q : Nat, q < H.size → H1[q]? = H[q]?) : va_P D abCls ws H1 := fun i q hq => by
  have h := hP i q hq
  exact h.kept (hk q.1 h.lt)
theorem avS95 {RT : Lean.RArray avRg} {RG : avRJ} {k : Nat} {e : abEy} (hd : decode (abBy k) e.2.1 = .ok (.invokevirtual e.2.2.2.2.1, 3)) (hl : Jvm.Cond.methodLink (abOwn k) e.2.2.2.2.1 ⟨"java/lang/String", "length", "()I"⟩ ∈ abTw) (hm : Jvm.Cond.instanceMethod ⟨"java/lang/String", "length", "()I"⟩ ∈ abTw) : avOkE RT RG k e avOsl := by
  intro D z sb w0 r0 p l ev R s m args below meth c cc cs Q d nx pc ls st q hF hpc hnx hcs h
  obtain ⟨hx, hb, hml, hown, hts, hnm, hz, hR3, hR4⟩ := hF
  obtain ⟨o, pc', a1, a2, x, ps⟩ := e
  have hp : pc' = pc := hpc
  subst hp
  obtain ⟨v, rr, rfl, h1⟩ := avHd_some h
  obtain ⟨h2, h3⟩ := abIf_and h1
  obtain ⟨h4, h5⟩ := abIf_and h3
  obtain ⟨h6, h7⟩ := abIf_and h5
  intro rh H locs ws A xs hH hX hL hS
  obtain ⟨⟨tys, hK, hC, hlen⟩, hP, hD, hSS, hso, hkn⟩ := id hH
  obtain ⟨x0, xr, rfl, gv, hS'⟩ := hS
  obtain ⟨t, g, f⟩ := v
  have t5 : t = 5 := abBeq h2
  subst t5
  obtain ⟨-, e0⟩ := gv
  have e0 : x0 = .ref (RG.2.2 g) := e0
  subst e0
  have hg : g < 44 := abBle h4
  have hsum := Nat.le_trans (avSm_ok hS') (abBle h6)
  obtain ⟨v, hT⟩ := axT.of hlen.2.2 hSS hg
  have hn := (axSl g hg).2
  have hAsz : A.size = c.maxLocals := by
    obtain ⟨l1, lv, l2, l3⟩ := hL
    exact l2.1
  have S : CallFix p m c (abBy k) c.maxLocals s args abTw (abOwn k) := ⟨hx, hb, rfl, hown, hts⟩
  obtain ⟨cell, r1, r2, r3, -⟩ := hT.1
  refine va_calli (S := Unit) (avRunV (W := 8) (C := "java/lang/String") (n := 0) (As := []) (rest := xr) S (ax_length l hn) ⟨callB_of 0 hts (axG (fun w h => abTaL h) (axIn (by decide +kernel) (by decide +kernel))) rfl rfl rfl (hts _ (abTaT (by decide +kernel) (by decide +kernel))) (hts _ hl) (by decide +kernel) ⟨by show 1 + 1 ≤ R.frames; omega, by show 8 + (1 + 11) + 60 * 1 ≤ R.locals; omega⟩, hts _ hm, hts _ (abTaT (by decide +kernel) (by decide +kernel))⟩ (by show 8 + (1 + 11) + 60 * 1 ≤ R.locals; omega) ⟨axBl, ⟨cell, r1, r2, r3⟩, fun U hU hW => ⟨rfl, by show axT _ _ _ U U.heap; rw [hU]; exact axT.moved hW.alike hT⟩⟩ rfl rfl hAsz rfl (avRoomW hsum) hd hcs) hSS (fun _ _ h => h.elim) (fun _ h => h.elim) (fun r u t H1 locs1 ht hal hpost hB hsz hk hS1 => ?_)
  have hr0 : r = nI (avSlen g) := hpost
  subst hr0
  have hk1 : ∀ q : Nat, q < H.size → H1[q]? = H[q]? := fun q h => hk q h (fun z => z.elim)
  refine hnx _ _ _ _ h7 rh H1 locs1 ws A _ ⟨⟨tys, hK, hC, hlen⟩, axP hP hk1, hD, hS1, hso, hkn⟩ hX hL ⟨_, _, rfl, ⟨afNil_D rh, _, rfl, ?_⟩, hS'⟩
  rw [show afV rh (([], (avSlen g : Int)) : afF) = (avSlen g : Int) from afC_V rh _]
  exact nI_toInt (by omega)
theorem avS96 {RT : Lean.RArray avRg} {RG : avRJ} {k : Nat} {e : abEy} (hd : decode (abBy k) e.2.1 = .ok (.invokevirtual e.2.2.2.2.1, 3)) (hl : Jvm.Cond.methodLink (abOwn k) e.2.2.2.2.1 ⟨"java/lang/String", "charAt", "(I)C"⟩ ∈ abTw) (hm : Jvm.Cond.instanceMethod ⟨"java/lang/String", "charAt", "(I)C"⟩ ∈ abTw) : avOkE RT RG k e avOsc := by
  intro D z sb w0 r0 p l ev R s m args below meth c cc cs Q d nx pc ls st q hF hpc hnx hcs h
  obtain ⟨hx, hb, hml, hown, hts, hnm, hz, hR3, hR4⟩ := hF
  obtain ⟨o, pc', a1, a2, x, ps⟩ := e
  have hp : pc' = pc := hpc
  subst hp
  obtain ⟨w, v, rr, rfl, h0⟩ := av2_some h
  obtain ⟨kw, h1⟩ := avFo_some h0
  obtain ⟨h2, h3⟩ := abIf_and h1
  obtain ⟨h4, h5⟩ := abIf_and h3
  obtain ⟨h6, h7⟩ := abIf_and h5
  obtain ⟨h8, h9⟩ := abIf_and h7
  obtain ⟨h10, h11⟩ := abIf_and h9
  intro rh H locs ws A xs hH hX hL hS
  obtain ⟨⟨tys, hK, hC, hlen⟩, hP, hD, hSS, hso, hkn⟩ := id hH
  obtain ⟨y0, yr, rfl, gw, x0, xr, rfl, gv, hS'⟩ := hS
  obtain ⟨d1, i, rfl, e1⟩ := avGv_i gw kw
  obtain ⟨t, g, f⟩ := v
  have t5 : t = 5 := abBeq h2
  subst t5
  obtain ⟨-, e0⟩ := gv
  have e0 : x0 = .ref (RG.2.2 g) := e0
  subst e0
  have hg : g < 44 := abBle h4
  have hsum := Nat.le_trans (avSm_ok hS') (abBle h10)
  obtain ⟨v, hT⟩ := axT.of hlen.2.2 hSS hg
  have hn := (axSl g hg).2
  have i1 := avGe_ok hso d1 h6
  have i2 := avGe_ok hso (afSub_D (f := ([], (avSlen g : Int) - 1)) (afNil_D rh) d1) h8
  rw [afSub_V, afK_V] at i2
  rw [← e1] at i1 i2
  have hAsz : A.size = c.maxLocals := by
    obtain ⟨l1, lv, l2, l3⟩ := hL
    exact l2.1
  have S : CallFix p m c (abBy k) c.maxLocals s args abTw (abOwn k) := ⟨hx, hb, rfl, hown, hts⟩
  obtain ⟨cell, r1, r2, r3, -⟩ := hT.1
  refine va_calli (S := Unit) (avRunV (W := 8) (C := "java/lang/String") (n := 1) (As := [.int i]) (rest := xr) S (ax_charAt l hn i1 (by omega)) ⟨callB_of 1 hts (axG (fun w h => abTaL h) (axIn (by decide +kernel) (by decide +kernel))) rfl rfl rfl (hts _ (abTaT (by decide +kernel) (by decide +kernel))) (hts _ hl) (by decide +kernel) ⟨by show 3 + 1 ≤ R.frames; omega, by show 8 + (2 + 11) + 60 * 3 ≤ R.locals; omega⟩, hts _ hm, hts _ (abTaT (by decide +kernel) (by decide +kernel))⟩ (by show 8 + (2 + 11) + 60 * 3 ≤ R.locals; omega) ⟨axBl, ⟨cell, r1, r2, r3⟩, fun U hU hW => ⟨rfl, by show axT _ _ _ U U.heap; rw [hU]; exact axT.moved hW.alike hT⟩⟩ rfl rfl hAsz rfl (avRoomW hsum) hd hcs) hSS (fun _ _ h => h.elim) (fun _ h => h.elim) (fun r u t H1 locs1 ht hal hpost hB hsz hk hS1 => ?_)
  have hc : axCh r := hpost
  have hk1 : ∀ q : Nat, q < H.size → H1[q]? = H[q]? := fun q h => hk q h (fun z => z.elim)
  obtain ⟨rh', g', u', h12, hle, hso', du, eu⟩ := avNew_ok (z := r.toInt) hso hc.1 hc.2.1 h11
  exact hnx _ _ _ _ h12 rh' H1 locs1 ws A _ (avHok.names (g := g') ⟨⟨tys, hK, hC, hlen⟩, axP hP hk1, hD, hS1, hso, hkn⟩ hle hso') (hX.nm hle) (hL.mono (abX.rf ws) hle) ⟨_, _, rfl, ⟨du, _, rfl, eu.symm⟩, hS'.mono (abX.rf ws) hle⟩
