/-! all of the second table (printed by wip/gen/gen3.py) -/
noncomputable def avMemN (q : Nat) (l : List Nat) : Bool := List.rec false (fun x _ ih => abIf (Nat.beq x q) true ih) l
theorem avMemN_ok {q : Nat} : ∀ {l : List Nat}, avMemN q l = true → q ∈ l
  | [], h => by cases h
  | x :: l, h => by
    rcases abIf_or (show abIf (Nat.beq x q) true (avMemN q l) = true from h) with g | g
    · rw [abBeq g]; exact List.mem_cons_self
    · exact List.mem_cons_of_mem _ (avMemN_ok g)
def avKs0 : List Nat := [43, 44, 51, 85, 86, 115, 162, 168, 181, 183, 184, 188, 190, 191, 192, 193, 194, 197, 198, 208, 212, 267, 272]
noncomputable def avNil0 (l : List avCon) : Bool := List.rec true (fun _ _ _ => false) l
noncomputable def avC0a (n : Nat) : Bool := Nat.rec true (fun k ih => abIf (abIf (avNil0 (avCC0.get k)) true (avMemN k avKs0)) ih false) n
theorem avC0a_ok : ∀ {n : Nat}, avC0a n = true → ∀ k : Nat, k < n → avNil0 (avCC0.get k) = true ∨ k ∈ avKs0
  | 0, _, k, hk => by omega
  | n + 1, h, k, hk => by
    obtain ⟨h1, h2⟩ := abIf_and (show abIf (abIf (avNil0 (avCC0.get n)) true (avMemN n avKs0)) (avC0a n) false = true from h)
    by_cases e : k = n
    · rw [e]
      rcases abIf_or h1 with g | g
      · exact Or.inl g
      · exact Or.inr (avMemN_ok g)
    · exact avC0a_ok h2 k (by omega)
theorem avC0all : avC0a 276 = true := by decide +kernel
theorem avG43 : ∀ c ∈ avCC0.get 43, avConOk avRT avTT avCC0 avOPt 43 c := (List.forall_mem_cons.mpr ⟨avCB_ok avY43_0, fun _ h => by cases h⟩ : ∀ c ∈ [avC43_0], avConOk avRT avTT avCC0 avOPt 43 c)
theorem avG44 : ∀ c ∈ avCC0.get 44, avConOk avRT avTT avCC0 avOPt 44 c := (List.forall_mem_cons.mpr ⟨avCB_ok avY44_0, fun _ h => by cases h⟩ : ∀ c ∈ [avC44_0], avConOk avRT avTT avCC0 avOPt 44 c)
theorem avG51 : ∀ c ∈ avCC0.get 51, avConOk avRT avTT avCC0 avOPt 51 c := (List.forall_mem_cons.mpr ⟨avCB_ok avY51_0, fun _ h => by cases h⟩ : ∀ c ∈ [avC51_0], avConOk avRT avTT avCC0 avOPt 51 c)
theorem avG85 : ∀ c ∈ avCC0.get 85, avConOk avRT avTT avCC0 avOPt 85 c := (List.forall_mem_cons.mpr ⟨avCB_ok avY85_0, fun _ h => by cases h⟩ : ∀ c ∈ [avC85_0], avConOk avRT avTT avCC0 avOPt 85 c)
theorem avG86 : ∀ c ∈ avCC0.get 86, avConOk avRT avTT avCC0 avOPt 86 c := (List.forall_mem_cons.mpr ⟨avCB_ok avY86_h, fun _ h => by cases h⟩ : ∀ c ∈ [avC86_h], avConOk avRT avTT avCC0 avOPt 86 c)
theorem avG115 : ∀ c ∈ avCC0.get 115, avConOk avRT avTT avCC0 avOPt 115 c := (List.forall_mem_cons.mpr ⟨avCB_ok avY115_0, fun _ h => by cases h⟩ : ∀ c ∈ [avC115_0], avConOk avRT avTT avCC0 avOPt 115 c)
theorem avG162 : ∀ c ∈ avCC0.get 162, avConOk avRT avTT avCC0 avOPt 162 c := (List.forall_mem_cons.mpr ⟨avCB_ok avY162_0, fun _ h => by cases h⟩ : ∀ c ∈ [avC162_0], avConOk avRT avTT avCC0 avOPt 162 c)
theorem avG168 : ∀ c ∈ avCC0.get 168, avConOk avRT avTT avCC0 avOPt 168 c := (List.forall_mem_cons.mpr ⟨avCB_ok avY168_h, fun _ h => by cases h⟩ : ∀ c ∈ [avC168_h], avConOk avRT avTT avCC0 avOPt 168 c)
theorem avG181 : ∀ c ∈ avCC0.get 181, avConOk avRT avTT avCC0 avOPt 181 c := (List.forall_mem_cons.mpr ⟨avCB_ok avY181_0, fun _ h => by cases h⟩ : ∀ c ∈ [avC181_0], avConOk avRT avTT avCC0 avOPt 181 c)
theorem avG183 : ∀ c ∈ avCC0.get 183, avConOk avRT avTT avCC0 avOPt 183 c := (List.forall_mem_cons.mpr ⟨avCB_ok avY183_0, fun _ h => by cases h⟩ : ∀ c ∈ [avC183_0], avConOk avRT avTT avCC0 avOPt 183 c)
theorem avG184 : ∀ c ∈ avCC0.get 184, avConOk avRT avTT avCC0 avOPt 184 c := (List.forall_mem_cons.mpr ⟨avCB_ok avY184_0, fun _ h => by cases h⟩ : ∀ c ∈ [avC184_0], avConOk avRT avTT avCC0 avOPt 184 c)
theorem avG188 : ∀ c ∈ avCC0.get 188, avConOk avRT avTT avCC0 avOPt 188 c := (List.forall_mem_cons.mpr ⟨avCB_ok avY188_0, List.forall_mem_cons.mpr ⟨avCB_ok avY188_1, List.forall_mem_cons.mpr ⟨avCB_ok avY188_2, List.forall_mem_cons.mpr ⟨avCB_ok avY188_3, List.forall_mem_cons.mpr ⟨avCB_ok avY188_4, List.forall_mem_cons.mpr ⟨avCB_ok avY188_5, List.forall_mem_cons.mpr ⟨avCB_ok avY188_6, List.forall_mem_cons.mpr ⟨avCB_ok avY188_7, List.forall_mem_cons.mpr ⟨avCB_ok avY188_8, List.forall_mem_cons.mpr ⟨avCB_ok avY188_9, List.forall_mem_cons.mpr ⟨avCB_ok avY188_10, List.forall_mem_cons.mpr ⟨avCB_ok avY188_11, List.forall_mem_cons.mpr ⟨avCB_ok avY188_12, List.forall_mem_cons.mpr ⟨avCB_ok avY188_13, List.forall_mem_cons.mpr ⟨avCB_ok avY188_14, List.forall_mem_cons.mpr ⟨avCB_ok avY188_15, List.forall_mem_cons.mpr ⟨avCB_ok avY188_16, List.forall_mem_cons.mpr ⟨avCB_ok avY188_17, List.forall_mem_cons.mpr ⟨avCB_ok avY188_18, List.forall_mem_cons.mpr ⟨avCB_ok avY188_19, List.forall_mem_cons.mpr ⟨avCB_ok avY188_20, List.forall_mem_cons.mpr ⟨avCB_ok avY188_21, fun _ h => by cases h⟩⟩⟩⟩⟩⟩⟩⟩⟩⟩⟩⟩⟩⟩⟩⟩⟩⟩⟩⟩⟩⟩ : ∀ c ∈ [avC188_0, avC188_1, avC188_2, avC188_3, avC188_4, avC188_5, avC188_6, avC188_7, avC188_8, avC188_9, avC188_10, avC188_11, avC188_12, avC188_13, avC188_14, avC188_15, avC188_16, avC188_17, avC188_18, avC188_19, avC188_20, avC188_21], avConOk avRT avTT avCC0 avOPt 188 c)
theorem avG190 : ∀ c ∈ avCC0.get 190, avConOk avRT avTT avCC0 avOPt 190 c := (List.forall_mem_cons.mpr ⟨avCB_ok avY190_0, List.forall_mem_cons.mpr ⟨avCB_ok avY190_1, List.forall_mem_cons.mpr ⟨avCB_ok avY190_2, List.forall_mem_cons.mpr ⟨avCB_ok avY190_3, List.forall_mem_cons.mpr ⟨avCB_ok avY190_4, List.forall_mem_cons.mpr ⟨avCB_ok avY190_5, List.forall_mem_cons.mpr ⟨avCB_ok avY190_6, List.forall_mem_cons.mpr ⟨avCB_ok avY190_7, List.forall_mem_cons.mpr ⟨avCB_ok avY190_8, List.forall_mem_cons.mpr ⟨avCB_ok avY190_9, List.forall_mem_cons.mpr ⟨avCB_ok avY190_10, List.forall_mem_cons.mpr ⟨avCB_ok avY190_11, List.forall_mem_cons.mpr ⟨avCB_ok avY190_12, List.forall_mem_cons.mpr ⟨avCB_ok avY190_13, List.forall_mem_cons.mpr ⟨avCB_ok avY190_14, fun _ h => by cases h⟩⟩⟩⟩⟩⟩⟩⟩⟩⟩⟩⟩⟩⟩⟩ : ∀ c ∈ [avC190_0, avC190_1, avC190_2, avC190_3, avC190_4, avC190_5, avC190_6, avC190_7, avC190_8, avC190_9, avC190_10, avC190_11, avC190_12, avC190_13, avC190_14], avConOk avRT avTT avCC0 avOPt 190 c)
theorem avG191 : ∀ c ∈ avCC0.get 191, avConOk avRT avTT avCC0 avOPt 191 c := (List.forall_mem_cons.mpr ⟨avCB_ok avY191_0, fun _ h => by cases h⟩ : ∀ c ∈ [avC191_0], avConOk avRT avTT avCC0 avOPt 191 c)
theorem avG192 : ∀ c ∈ avCC0.get 192, avConOk avRT avTT avCC0 avOPt 192 c := (List.forall_mem_cons.mpr ⟨avCB_ok avY192_0, List.forall_mem_cons.mpr ⟨avCB_ok avY192_1, List.forall_mem_cons.mpr ⟨avCB_ok avY192_2, List.forall_mem_cons.mpr ⟨avCB_ok avY192_3, List.forall_mem_cons.mpr ⟨avCB_ok avY192_4, List.forall_mem_cons.mpr ⟨avCB_ok avY192_5, List.forall_mem_cons.mpr ⟨avCB_ok avY192_6, List.forall_mem_cons.mpr ⟨avCB_ok avY192_7, List.forall_mem_cons.mpr ⟨avCB_ok avY192_8, List.forall_mem_cons.mpr ⟨avCB_ok avY192_9, List.forall_mem_cons.mpr ⟨avCB_ok avY192_10, fun _ h => by cases h⟩⟩⟩⟩⟩⟩⟩⟩⟩⟩⟩ : ∀ c ∈ [avC192_0, avC192_1, avC192_2, avC192_3, avC192_4, avC192_5, avC192_6, avC192_7, avC192_8, avC192_9, avC192_10], avConOk avRT avTT avCC0 avOPt 192 c)
theorem avG193 : ∀ c ∈ avCC0.get 193, avConOk avRT avTT avCC0 avOPt 193 c := (List.forall_mem_cons.mpr ⟨avCB_ok avY193_0, List.forall_mem_cons.mpr ⟨avCB_ok avY193_1, List.forall_mem_cons.mpr ⟨avCB_ok avY193_2, List.forall_mem_cons.mpr ⟨avCB_ok avY193_3, List.forall_mem_cons.mpr ⟨avCB_ok avY193_4, List.forall_mem_cons.mpr ⟨avCB_ok avY193_5, List.forall_mem_cons.mpr ⟨avCB_ok avY193_6, List.forall_mem_cons.mpr ⟨avCB_ok avY193_7, List.forall_mem_cons.mpr ⟨avCB_ok avY193_8, List.forall_mem_cons.mpr ⟨avCB_ok avY193_9, fun _ h => by cases h⟩⟩⟩⟩⟩⟩⟩⟩⟩⟩ : ∀ c ∈ [avC193_0, avC193_1, avC193_2, avC193_3, avC193_4, avC193_5, avC193_6, avC193_7, avC193_8, avC193_9], avConOk avRT avTT avCC0 avOPt 193 c)
theorem avG194 : ∀ c ∈ avCC0.get 194, avConOk avRT avTT avCC0 avOPt 194 c := (List.forall_mem_cons.mpr ⟨avCB_ok avY194_0, fun _ h => by cases h⟩ : ∀ c ∈ [avC194_0], avConOk avRT avTT avCC0 avOPt 194 c)
theorem avG197 : ∀ c ∈ avCC0.get 197, avConOk avRT avTT avCC0 avOPt 197 c := (List.forall_mem_cons.mpr ⟨avCB_ok avY197_0, fun _ h => by cases h⟩ : ∀ c ∈ [avC197_0], avConOk avRT avTT avCC0 avOPt 197 c)
theorem avG198 : ∀ c ∈ avCC0.get 198, avConOk avRT avTT avCC0 avOPt 198 c := (List.forall_mem_cons.mpr ⟨avCB_ok avY198_0, fun _ h => by cases h⟩ : ∀ c ∈ [avC198_0], avConOk avRT avTT avCC0 avOPt 198 c)
theorem avG208 : ∀ c ∈ avCC0.get 208, avConOk avRT avTT avCC0 avOPt 208 c := (List.forall_mem_cons.mpr ⟨avCB_ok avY208_0, fun _ h => by cases h⟩ : ∀ c ∈ [avC208_0], avConOk avRT avTT avCC0 avOPt 208 c)
theorem avG212 : ∀ c ∈ avCC0.get 212, avConOk avRT avTT avCC0 avOPt 212 c := (List.forall_mem_cons.mpr ⟨avCB_ok avY212_0, fun _ h => by cases h⟩ : ∀ c ∈ [avC212_0], avConOk avRT avTT avCC0 avOPt 212 c)
theorem avG267 : ∀ c ∈ avCC0.get 267, avConOk avRT avTT avCC0 avOPt 267 c := (List.forall_mem_cons.mpr ⟨avCB_ok avY267_h, fun _ h => by cases h⟩ : ∀ c ∈ [avC267_h], avConOk avRT avTT avCC0 avOPt 267 c)
theorem avG272 : ∀ c ∈ avCC0.get 272, avConOk avRT avTT avCC0 avOPt 272 c := (List.forall_mem_cons.mpr ⟨avCB_ok avY272_h, fun _ h => by cases h⟩ : ∀ c ∈ [avC272_h], avConOk avRT avTT avCC0 avOPt 272 c)
theorem avHc0 : ∀ q, q < abNM → ∀ c ∈ avCC0.get q, ((abMe q).2.2.1 = 0 ∧ (abMe q).2.2.2.1 = 0) ∧ avConOk avRT avTT avCC0 avOPt q c := by
  intro q hq c hc
  rcases avC0a_ok avC0all q hq with g | g
  · exfalso
    generalize avCC0.get q = l at g hc
    cases l with
    | nil => cases hc
    | cons x l => cases g
  · simp only [avKs0, List.mem_cons, List.not_mem_nil, or_false] at g
    rcases g with rfl | rfl | rfl | rfl | rfl | rfl | rfl | rfl | rfl | rfl | rfl | rfl | rfl | rfl | rfl | rfl | rfl | rfl | rfl | rfl | rfl | rfl | rfl
    · exact ⟨⟨by decide +kernel, by decide +kernel⟩, avG43 c hc⟩
    · exact ⟨⟨by decide +kernel, by decide +kernel⟩, avG44 c hc⟩
    · exact ⟨⟨by decide +kernel, by decide +kernel⟩, avG51 c hc⟩
    · exact ⟨⟨by decide +kernel, by decide +kernel⟩, avG85 c hc⟩
    · exact ⟨⟨by decide +kernel, by decide +kernel⟩, avG86 c hc⟩
    · exact ⟨⟨by decide +kernel, by decide +kernel⟩, avG115 c hc⟩
    · exact ⟨⟨by decide +kernel, by decide +kernel⟩, avG162 c hc⟩
    · exact ⟨⟨by decide +kernel, by decide +kernel⟩, avG168 c hc⟩
    · exact ⟨⟨by decide +kernel, by decide +kernel⟩, avG181 c hc⟩
    · exact ⟨⟨by decide +kernel, by decide +kernel⟩, avG183 c hc⟩
    · exact ⟨⟨by decide +kernel, by decide +kernel⟩, avG184 c hc⟩
    · exact ⟨⟨by decide +kernel, by decide +kernel⟩, avG188 c hc⟩
    · exact ⟨⟨by decide +kernel, by decide +kernel⟩, avG190 c hc⟩
    · exact ⟨⟨by decide +kernel, by decide +kernel⟩, avG191 c hc⟩
    · exact ⟨⟨by decide +kernel, by decide +kernel⟩, avG192 c hc⟩
    · exact ⟨⟨by decide +kernel, by decide +kernel⟩, avG193 c hc⟩
    · exact ⟨⟨by decide +kernel, by decide +kernel⟩, avG194 c hc⟩
    · exact ⟨⟨by decide +kernel, by decide +kernel⟩, avG197 c hc⟩
    · exact ⟨⟨by decide +kernel, by decide +kernel⟩, avG198 c hc⟩
    · exact ⟨⟨by decide +kernel, by decide +kernel⟩, avG208 c hc⟩
    · exact ⟨⟨by decide +kernel, by decide +kernel⟩, avG212 c hc⟩
    · exact ⟨⟨by decide +kernel, by decide +kernel⟩, avG267 c hc⟩
    · exact ⟨⟨by decide +kernel, by decide +kernel⟩, avG272 c hc⟩
theorem avCn0 (hT : abTabs) (N : Nat) (D : va_G) (z sb : Nat) (RG : avRJ) (hJ : avJok avGUt RG) : avCn D z sb avRT RG avCC0 N := avCn_all hT (avTabs_ok hT hJ) avTabZ_ok avHc0 N
