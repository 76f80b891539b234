/-! THE TEXTS AT THE START, AND THE LIBRARY'S TWO FIELDS -/
def lwTm (q : String × Nat × String) : Term := .string q.1 q.2.1
def lwVt (q : String × Nat × String) : Term := .field (lwTm q) "java/lang/String" "value" "[B"
def lwTb (q : String × Nat × String) : List Int32 := q.2.2.toList.map (fun c => Int32.ofNat c.toNat)
def lwW1 (q : String × Nat × String) : List Cond := [.exactly (lwTm q) "java/lang/String", .eq (.field (lwTm q) "java/lang/String" "coder" "B") (.int 0), .arrayOf (lwVt q) .byte, .eq (.length (lwVt q)) (.int (Int32.ofNat (lwTb q).length))]
def lwW2 (q : String × Nat × String) : List Cond := (List.range (lwTb q).length).map (fun j => .eq (.elem (lwVt q) (.int (Int32.ofNat j))) (.int ((lwTb q).getD j 0)))
def lwSub [DecidableEq Cond] : List Cond → List Cond → Bool
  | [], _ => true
  | _ :: _, [] => false
  | a :: l, b :: m => if a = b then lwSub l m else lwSub (a :: l) m
theorem lwSub_ok [DecidableEq Cond] : ∀ {l m : List Cond}, lwSub l m = true → ∀ w ∈ l, w ∈ m
  | [], _, _, w, h => by cases h
  | _ :: _, [], h, w, _ => by cases h
  | a :: l, b :: m, h, w, hw => by
    unfold lwSub at h
    by_cases e : a = b
    · rw [if_pos e] at h
      rcases List.mem_cons.mp hw with rfl | hw
      · rw [e]; exact List.mem_cons_self
      · exact List.mem_cons_of_mem _ (lwSub_ok h w hw)
    · rw [if_neg e] at h
      exact List.mem_cons_of_mem _ (lwSub_ok h w hw)
def lwAll : List Cond := abSr.flatMap (fun q => lwW1 q ++ lwW2 q)
set_option maxRecDepth 100000 in
theorem lwAll_in : lwSub lwAll (flatC (Jvm.Cond.and given_1 narrow_1)) = true := by decide +kernel
theorem lwLens : abSr.map (fun q => (lwTb q).length) = abSl := by decide +kernel
theorem lwRefs : ∀ q ∈ abSr, Jvm.Cond.stringRef q.1 q.2.1 q.2.2 ∈ lw_tbl := by decide +kernel
theorem lwStr_of {args : Array Value} {s : State} (hts : ∀ w ∈ lw_tbl, w.before args s = true) (hgv : (Jvm.Cond.and given_1 narrow_1).before args s = true) : ∃ tx : Nat → Nat, ∀ (g : Nat → Nat) (J : va_W → Prop), avStr (g, J, tx) s.heap.size s := by
  have hs := flat_of_before _ hgv
  have hA : ∀ a : Nat, a < s.heap.size → ¬ (s.heap.size ≤ a) := fun a h1 h2 => absurd h2 (Nat.not_le.mpr h1)
  have hw : ∀ q ∈ abSr, ∀ w ∈ lwW1 q ++ lwW2 q, w.before args s = true := fun q hq w hw => hs _ (lwSub_ok lwAll_in w (List.mem_flatMap.mpr ⟨q, hq, hw⟩))
  have h0 : ∀ i : Nat, ∃ q : Nat × Nat, ∀ e : String × Nat × String, abSr[i]? = some e → (lwTm e).eval args s none [] s = some (.ref q.1) ∧ va_O "java/lang/String" q.1 (fun a : Nat => s.heap.size ≤ a) s s.heap ∧ va_OF "java/lang/String" "coder" "B" (.int 0) q.1 (fun a : Nat => s.heap.size ≤ a) s s.heap ∧ va_OF "java/lang/String" "value" "[B" (.ref q.2) q.1 (fun a : Nat => s.heap.size ≤ a) s s.heap ∧ va_T .byte q.2 (lwTb e).length (fun j => .int ((lwTb e).getD j 0)) (fun a : Nat => s.heap.size ≤ a) s s.heap := by
    intro i
    cases he : abSr[i]? with
    | none => exact ⟨(0, 0), fun e h => by cases h⟩
    | some e =>
      have hm := List.mem_of_getElem? he
      have w1 : (Cond.exactly (lwTm e) "java/lang/String").before args s = true := hw e hm _ (List.mem_append_left _ List.mem_cons_self)
      have w2 : (Cond.eq (.field (lwTm e) "java/lang/String" "coder" "B") (.int 0)).before args s = true := hw e hm _ (List.mem_append_left _ (List.mem_cons_of_mem _ List.mem_cons_self))
      have w3 : (Cond.arrayOf (lwVt e) .byte).before args s = true := hw e hm _ (List.mem_append_left _ (List.mem_cons_of_mem _ (List.mem_cons_of_mem _ List.mem_cons_self)))
      have w4 : (Cond.eq (.length (lwVt e)) (.int (Int32.ofNat (lwTb e).length))).before args s = true := hw e hm _ (List.mem_append_left _ (List.mem_cons_of_mem _ (List.mem_cons_of_mem _ (List.mem_cons_of_mem _ List.mem_cons_self))))
      have w5 : ∀ j : Nat, j < (lwTb e).length → (Cond.eq (.elem (lwVt e) (.int (Int32.ofNat j))) (.int ((lwTb e).getD j 0))).before args s = true := fun j hj => hw e hm _ (List.mem_append_right _ (List.mem_map.mpr ⟨j, List.mem_range.mpr hj, rfl⟩))
      have hlen : (lwTb e).length < 2 ^ 31 := by
        have hb : ∀ q ∈ abSr, (lwTb q).length < 2 ^ 31 := by decide +kernel
        exact hb e hm
      obtain ⟨a, c, cA, kA, q1, q2, q3, q4, q5, q6, -⟩ := Cond.exactly_spec (args := args) (first := s) (o := none) (s := s) (idx := []) (t := lwTm e) (cls := "java/lang/String") w1
      obtain ⟨t, ht, hT⟩ := va_Tof (f := fun j => .int ((lwTb e).getD j 0)) (A := fun a : Nat => s.heap.size ≤ a) hlen w3 (va_eqt w4) (fun j hj => va_eqt (w5 j hj)) hA
      refine ⟨(a, t), fun e' h' => ?_⟩
      cases h'
      exact ⟨q1, ⟨cA, q3, q5, by rw [q6]; exact q2, hA a (Array.getElem?_eq_some_iff.mp q3).1⟩, vk_OFof q1 (va_eqt w2) hA, vk_OFof q1 ht hA, hT⟩
  obtain ⟨ad, had⟩ := Classical.axiomOfChoice h0
  refine ⟨fun i => (ad i).1, fun g J => ⟨⟨fun i => (ad i).2, fun i hi => ?_⟩, fun i q hq => ?_, ?_, ?_⟩⟩
  · have hi' : i < abSr.length := by
      have h1 : abSr.length = abSl.length := by rw [← lwLens, List.length_map]
      omega
    obtain ⟨g1, g2, g3, g4, g5⟩ := had i abSr[i] (List.getElem?_eq_getElem hi')
    have hl : abSl.getD i 0 = (lwTb abSr[i]).length := by
      rw [← lwLens, List.getD_eq_getElem?_getD, List.getElem?_map, List.getElem?_eq_getElem hi']
      rfl
    refine ⟨g2, g3, g4, fun j => (lwTb abSr[i]).getD j 0, ?_⟩
    rw [hl]
    exact g5
  · exact vk_R.of (hts _ (lwRefs q (List.mem_of_getElem? hq))) (had i q hq).1
  · exact va_Zof (args := args) (hts _ (by decide +kernel)) (hts _ (by decide +kernel)) (va_eqt (hs _ (by decide +kernel))) hA
  · exact va_Zqof (args := args) (hts _ (by decide +kernel)) (hts _ (by decide +kernel)) (hs _ (by decide +kernel)) hA
