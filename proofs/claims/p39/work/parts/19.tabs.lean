/-! the entries that the first engine lacks (printed by wip/gen/gen3.py) -/
theorem avN26_1 {RG : avRJ} : avOkE avRT RG 26 (93, 1, 0, 0, 54, []) (avOldS 2) := avS93 (tx := "bin") (show decode (abBy 26) 1 = .ok (.ldc 54, 2) from by decide +kernel) rfl
theorem avN26_8 {RG : avRJ} : avOkE avRT RG 26 (93, 8, 1, 0, 60, []) (avOldS 2) := avS93 (tx := "grain") (show decode (abBy 26) 8 = .ok (.ldc 60, 2) from by decide +kernel) rfl
theorem avN26_15 {RG : avRJ} : avOkE avRT RG 26 (93, 15, 2, 0, 62, []) (avOldS 2) := avS93 (tx := "breath") (show decode (abBy 26) 15 = .ok (.ldc 62, 2) from by decide +kernel) rfl
theorem avN26_36 {RG : avRJ} : avOkE avRT RG 26 (93, 36, 3, 0, 64, []) (avOldS 2) := avS93 (tx := "bar") (show decode (abBy 26) 36 = .ok (.ldc 64, 2) from by decide +kernel) rfl
theorem avN27_18 {RG : avRJ} : avOkE avRT RG 27 (95, 18, 0, 0, 201, []) (avOsl) := avS95 (show decode (abBy 27) 18 = .ok (.invokevirtual 201, 3) from by decide +kernel) (abTaT (by decide +kernel) (by decide +kernel)) (abTaT (by decide +kernel) (by decide +kernel))
theorem avN27_30 {RG : avRJ} : avOkE avRT RG 27 (95, 30, 0, 0, 201, []) (avOsl) := avS95 (show decode (abBy 27) 30 = .ok (.invokevirtual 201, 3) from by decide +kernel) (abTaT (by decide +kernel) (by decide +kernel)) (abTaT (by decide +kernel) (by decide +kernel))
theorem avN27_49 {RG : avRJ} : avOkE avRT RG 27 (96, 49, 0, 0, 205, []) (avOsc) := avS96 (show decode (abBy 27) 49 = .ok (.invokevirtual 205, 3) from by decide +kernel) (abTaT (by decide +kernel) (by decide +kernel)) (abTaT (by decide +kernel) (by decide +kernel))
theorem avN29_37 {RG : avRJ} : avOkE avRT RG 29 (93, 37, 4, 0, 97, []) (avOldS 2) := avS93 (tx := "rings") (show decode (abBy 29) 37 = .ok (.ldc 97, 2) from by decide +kernel) rfl
theorem avN29_55 {RG : avRJ} : avOkE avRT RG 29 (93, 55, 5, 0, 105, []) (avOldS 2) := avS93 (tx := "hold") (show decode (abBy 29) 55 = .ok (.ldc 105, 2) from by decide +kernel) rfl
theorem avN29_74 {RG : avRJ} : avOkE avRT RG 29 (93, 74, 6, 0, 110, []) (avOldS 2) := avS93 (tx := "mouth") (show decode (abBy 29) 74 = .ok (.ldc 110, 2) from by decide +kernel) rfl
theorem avN29_92 {RG : avRJ} : avOkE avRT RG 29 (93, 92, 7, 0, 115, []) (avOldS 2) := avS93 (tx := "rough") (show decode (abBy 29) 92 = .ok (.ldc 115, 2) from by decide +kernel) rfl
theorem avN33_37 {RG : avRJ} : avOkE avRT RG 33 (93, 37, 8, 0, 123, []) (avOldS 2) := avS93 (tx := "heavy") (show decode (abBy 33) 37 = .ok (.ldc 123, 2) from by decide +kernel) rfl
theorem avN33_55 {RG : avRJ} : avOkE avRT RG 33 (93, 55, 9, 0, 128, []) (avOldS 2) := avS93 (tx := "grip") (show decode (abBy 33) 55 = .ok (.ldc 128, 2) from by decide +kernel) rfl
theorem avN33_73 {RG : avRJ} : avOkE avRT RG 33 (93, 73, 10, 0, 133, []) (avOldS 2) := avS93 (tx := "price") (show decode (abBy 33) 73 = .ok (.ldc 133, 2) from by decide +kernel) rfl
theorem avN34_1 {RG : avRJ} : avOkE avRT RG 34 (93, 1, 11, 0, 135, []) (avOldS 2) := avS93 (tx := "warm") (show decode (abBy 34) 1 = .ok (.ldc 135, 2) from by decide +kernel) rfl
theorem avN34_12 {RG : avRJ} : avOkE avRT RG 34 (93, 12, 12, 0, 137, []) (avOldS 2) := avS93 (tx := "damp") (show decode (abBy 34) 12 = .ok (.ldc 137, 2) from by decide +kernel) rfl
theorem avN34_29 {RG : avRJ} : avOkE avRT RG 34 (93, 29, 13, 0, 139, []) (avOldS 2) := avS93 (tx := "add") (show decode (abBy 34) 29 = .ok (.ldc 139, 2) from by decide +kernel) rfl
theorem avN36_19 {RG : avRJ} : avOkE avRT RG 36 (93, 19, 21, 0, 148, []) (avOldS 2) := avS93 (tx := "and") (show decode (abBy 36) 19 = .ok (.ldc 148, 2) from by decide +kernel) rfl
theorem avN36_38 {RG : avRJ} : avOkE avRT RG 36 (93, 38, 14, 0, 150, []) (avOldS 2) := avS93 (tx := "not") (show decode (abBy 36) 38 = .ok (.ldc 150, 2) from by decide +kernel) rfl
theorem avN37_1 {RG : avRJ} : avOkE avRT RG 37 (93, 1, 14, 0, 150, []) (avOldS 2) := avS93 (tx := "not") (show decode (abBy 37) 1 = .ok (.ldc 150, 2) from by decide +kernel) rfl
theorem avN38_1 {RG : avRJ} : avOkE avRT RG 38 (93, 1, 15, 0, 175, []) (avOldS 2) := avS93 (tx := "hot") (show decode (abBy 38) 1 = .ok (.ldc 175, 2) from by decide +kernel) rfl
theorem avN38_12 {RG : avRJ} : avOkE avRT RG 38 (93, 12, 16, 0, 177, []) (avOldS 2) := avS93 (tx := "wet") (show decode (abBy 38) 12 = .ok (.ldc 177, 2) from by decide +kernel) rfl
theorem avN38_23 {RG : avRJ} : avOkE avRT RG 38 (93, 23, 17, 0, 179, []) (avOldS 2) := avS93 (tx := "units") (show decode (abBy 38) 23 = .ok (.ldc 179, 2) from by decide +kernel) rfl
theorem avN38_34 {RG : avRJ} : avOkE avRT RG 38 (93, 34, 18, 0, 181, []) (avOldS 2) := avS93 (tx := "beetles") (show decode (abBy 38) 34 = .ok (.ldc 181, 2) from by decide +kernel) rfl
theorem avN38_45 {RG : avRJ} : avOkE avRT RG 38 (93, 45, 19, 0, 183, []) (avOldS 2) := avS93 (tx := "hung") (show decode (abBy 38) 45 = .ok (.ldc 183, 2) from by decide +kernel) rfl
theorem avN38_56 {RG : avRJ} : avOkE avRT RG 38 (93, 56, 20, 0, 185, []) (avOldS 2) := avS93 (tx := "drawn") (show decode (abBy 38) 56 = .ok (.ldc 185, 2) from by decide +kernel) rfl
theorem avN168_52 {RG : avRJ} : avOkE avRT RG 168 (90, 52, 0, 0, 0, []) (avOcut (-32768) 32767) := avS90 (show decode (abBy 168) 52 = .ok (.i2s, 1) from by decide +kernel)
theorem avN187_1 {RG : avRJ} : avOkE avRT RG 187 (93, 1, 22, 0, 251, []) (avOldS 2) := avS93 (tx := "bin") (show decode (abBy 187) 1 = .ok (.ldc 251, 2) from by decide +kernel) rfl
theorem avN187_10 {RG : avRJ} : avOkE avRT RG 187 (93, 10, 23, 0, 253, []) (avOldS 2) := avS93 (tx := "grain") (show decode (abBy 187) 10 = .ok (.ldc 253, 2) from by decide +kernel) rfl
theorem avN187_19 {RG : avRJ} : avOkE avRT RG 187 (93, 19, 24, 0, 255, []) (avOldS 2) := avS93 (tx := "breath") (show decode (abBy 187) 19 = .ok (.ldc 255, 2) from by decide +kernel) rfl
theorem avN187_28 {RG : avRJ} : avOkE avRT RG 187 (94, 28, 25, 0, 257, []) (avOldS 3) := avS94 (tx := "bar") (show decode (abBy 187) 28 = .ok (.ldc_w 257, 3) from by decide +kernel) rfl
theorem avN187_80 {RG : avRJ} : avOkE avRT RG 187 (93, 80, 22, 0, 251, []) (avOldS 2) := avS93 (tx := "bin") (show decode (abBy 187) 80 = .ok (.ldc 251, 2) from by decide +kernel) rfl
theorem avN187_96 {RG : avRJ} : avOkE avRT RG 187 (93, 96, 23, 0, 253, []) (avOldS 2) := avS93 (tx := "grain") (show decode (abBy 187) 96 = .ok (.ldc 253, 2) from by decide +kernel) rfl
theorem avN187_112 {RG : avRJ} : avOkE avRT RG 187 (94, 112, 25, 0, 257, []) (avOldS 3) := avS94 (tx := "bar") (show decode (abBy 187) 112 = .ok (.ldc_w 257, 3) from by decide +kernel) rfl
theorem avN187_151 {RG : avRJ} : avOkE avRT RG 187 (94, 151, 41, 0, 268, []) (avOldS 3) := avS94 (tx := "warm") (show decode (abBy 187) 151 = .ok (.ldc_w 268, 3) from by decide +kernel) rfl
theorem avN187_170 {RG : avRJ} : avOkE avRT RG 187 (94, 170, 42, 0, 269, []) (avOldS 3) := avS94 (tx := "damp") (show decode (abBy 187) 170 = .ok (.ldc_w 269, 3) from by decide +kernel) rfl
theorem avN187_189 {RG : avRJ} : avOkE avRT RG 187 (94, 189, 43, 0, 271, []) (avOldS 3) := avS94 (tx := "add") (show decode (abBy 187) 189 = .ok (.ldc_w 271, 3) from by decide +kernel) rfl
theorem avN188_25 {RG : avRJ} : avOkE avRT RG 188 (95, 25, 0, 0, 181, []) (avOsl) := avS95 (show decode (abBy 188) 25 = .ok (.invokevirtual 181, 3) from by decide +kernel) (abTaT (by decide +kernel) (by decide +kernel)) (abTaT (by decide +kernel) (by decide +kernel))
theorem avN188_41 {RG : avRJ} : avOkE avRT RG 188 (95, 41, 0, 0, 181, []) (avOsl) := avS95 (show decode (abBy 188) 41 = .ok (.invokevirtual 181, 3) from by decide +kernel) (abTaT (by decide +kernel) (by decide +kernel)) (abTaT (by decide +kernel) (by decide +kernel))
theorem avN188_64 {RG : avRJ} : avOkE avRT RG 188 (96, 64, 0, 0, 187, []) (avOsc) := avS96 (show decode (abBy 188) 64 = .ok (.invokevirtual 187, 3) from by decide +kernel) (abTaT (by decide +kernel) (by decide +kernel)) (abTaT (by decide +kernel) (by decide +kernel))
theorem avN191_58 {RG : avRJ} : avOkE avRT RG 191 (93, 58, 26, 0, 218, []) (avOldS 2) := avS93 (tx := "rings") (show decode (abBy 191) 58 = .ok (.ldc 218, 2) from by decide +kernel) rfl
theorem avN191_73 {RG : avRJ} : avOkE avRT RG 191 (93, 73, 27, 0, 224, []) (avOldS 2) := avS93 (tx := "hold") (show decode (abBy 191) 73 = .ok (.ldc 224, 2) from by decide +kernel) rfl
theorem avN191_85 {RG : avRJ} : avOkE avRT RG 191 (93, 85, 28, 0, 226, []) (avOldS 2) := avS93 (tx := "mouth") (show decode (abBy 191) 85 = .ok (.ldc 226, 2) from by decide +kernel) rfl
theorem avN191_96 {RG : avRJ} : avOkE avRT RG 191 (93, 96, 29, 0, 228, []) (avOldS 2) := avS93 (tx := "rough") (show decode (abBy 191) 96 = .ok (.ldc 228, 2) from by decide +kernel) rfl
theorem avN194_80 {RG : avRJ} : avOkE avRT RG 194 (93, 80, 30, 0, 232, []) (avOldS 2) := avS93 (tx := "heavy") (show decode (abBy 194) 80 = .ok (.ldc 232, 2) from by decide +kernel) rfl
theorem avN194_102 {RG : avRJ} : avOkE avRT RG 194 (93, 102, 31, 0, 234, []) (avOldS 2) := avS93 (tx := "grip") (show decode (abBy 194) 102 = .ok (.ldc 234, 2) from by decide +kernel) rfl
theorem avN194_124 {RG : avRJ} : avOkE avRT RG 194 (93, 124, 32, 0, 236, []) (avOldS 2) := avS93 (tx := "price") (show decode (abBy 194) 124 = .ok (.ldc 236, 2) from by decide +kernel) rfl
theorem avN195_41 {RG : avRJ} : avOkE avRT RG 195 (93, 41, 40, 0, 249, []) (avOldS 2) := avS93 (tx := "and") (show decode (abBy 195) 41 = .ok (.ldc 249, 2) from by decide +kernel) rfl
theorem avN196_1 {RG : avRJ} : avOkE avRT RG 196 (93, 1, 33, 0, 238, []) (avOldS 2) := avS93 (tx := "not") (show decode (abBy 196) 1 = .ok (.ldc 238, 2) from by decide +kernel) rfl
theorem avN196_73 {RG : avRJ} : avOkE avRT RG 196 (93, 73, 33, 0, 238, []) (avOldS 2) := avS93 (tx := "not") (show decode (abBy 196) 73 = .ok (.ldc 238, 2) from by decide +kernel) rfl
theorem avN197_1 {RG : avRJ} : avOkE avRT RG 197 (93, 1, 34, 0, 207, []) (avOldS 2) := avS93 (tx := "hot") (show decode (abBy 197) 1 = .ok (.ldc 207, 2) from by decide +kernel) rfl
theorem avN197_14 {RG : avRJ} : avOkE avRT RG 197 (93, 14, 35, 0, 209, []) (avOldS 2) := avS93 (tx := "wet") (show decode (abBy 197) 14 = .ok (.ldc 209, 2) from by decide +kernel) rfl
theorem avN197_27 {RG : avRJ} : avOkE avRT RG 197 (93, 27, 36, 0, 211, []) (avOldS 2) := avS93 (tx := "units") (show decode (abBy 197) 27 = .ok (.ldc 211, 2) from by decide +kernel) rfl
theorem avN197_40 {RG : avRJ} : avOkE avRT RG 197 (93, 40, 37, 0, 213, []) (avOldS 2) := avS93 (tx := "beetles") (show decode (abBy 197) 40 = .ok (.ldc 213, 2) from by decide +kernel) rfl
theorem avN197_53 {RG : avRJ} : avOkE avRT RG 197 (93, 53, 38, 0, 215, []) (avOldS 2) := avS93 (tx := "hung") (show decode (abBy 197) 53 = .ok (.ldc 215, 2) from by decide +kernel) rfl
theorem avN197_66 {RG : avRJ} : avOkE avRT RG 197 (93, 66, 39, 0, 217, []) (avOldS 2) := avS93 (tx := "drawn") (show decode (abBy 197) 66 = .ok (.ldc 217, 2) from by decide +kernel) rfl
theorem avN215_92 {RG : avRJ} : avOkE avRT RG 215 (91, 92, 0, 0, 0, []) (avOi 1 (avFdiv 1)) := avS91 (show decode (abBy 215) 92 = .ok (.ldiv, 1) from by decide +kernel)
theorem avN215_173 {RG : avRJ} : avOkE avRT RG 215 (92, 173, 0, 0, 0, []) (avOi 1 (avFrem 1)) := avS92 (show decode (abBy 215) 173 = .ok (.lrem, 1) from by decide +kernel)
theorem avN215_190 {RG : avRJ} : avOkE avRT RG 215 (92, 190, 0, 0, 0, []) (avOi 1 (avFrem 1)) := avS92 (show decode (abBy 215) 190 = .ok (.lrem, 1) from by decide +kernel)
theorem avN229_124 {RG : avRJ} : avOkE avRT RG 229 (91, 124, 0, 0, 0, []) (avOi 1 (avFdiv 1)) := avS91 (show decode (abBy 229) 124 = .ok (.ldiv, 1) from by decide +kernel)
theorem avN233_75 {RG : avRJ} : avOkE avRT RG 233 (91, 75, 0, 0, 0, []) (avOi 1 (avFdiv 1)) := avS91 (show decode (abBy 233) 75 = .ok (.ldiv, 1) from by decide +kernel)
theorem avN233_122 {RG : avRJ} : avOkE avRT RG 233 (91, 122, 0, 0, 0, []) (avOi 1 (avFdiv 1)) := avS91 (show decode (abBy 233) 122 = .ok (.ldiv, 1) from by decide +kernel)
theorem avN258_55 {RG : avRJ} : avOkE avRT RG 258 (91, 55, 0, 0, 0, []) (avOi 1 (avFdiv 1)) := avS91 (show decode (abBy 258) 55 = .ok (.ldiv, 1) from by decide +kernel)
theorem avN272_2 {RG : avRJ} : avOkE avRT RG 272 (91, 2, 0, 0, 0, []) (avOi 1 (avFdiv 1)) := avS91 (show decode (abBy 272) 2 = .ok (.ldiv, 1) from by decide +kernel)
theorem avNe26 {RG : avRJ} : ∀ e ∈ avNw 26, avOkE avRT RG 26 e (avOPt.get e.1) ∧ 90 ≤ e.1 := List.forall_mem_cons.mpr ⟨⟨avN26_1, by decide⟩, List.forall_mem_cons.mpr ⟨⟨avN26_8, by decide⟩, List.forall_mem_cons.mpr ⟨⟨avN26_15, by decide⟩, List.forall_mem_cons.mpr ⟨⟨avN26_36, by decide⟩, fun _ h => by cases h⟩⟩⟩⟩
theorem avNe27 {RG : avRJ} : ∀ e ∈ avNw 27, avOkE avRT RG 27 e (avOPt.get e.1) ∧ 90 ≤ e.1 := List.forall_mem_cons.mpr ⟨⟨avN27_18, by decide⟩, List.forall_mem_cons.mpr ⟨⟨avN27_30, by decide⟩, List.forall_mem_cons.mpr ⟨⟨avN27_49, by decide⟩, fun _ h => by cases h⟩⟩⟩
theorem avNe29 {RG : avRJ} : ∀ e ∈ avNw 29, avOkE avRT RG 29 e (avOPt.get e.1) ∧ 90 ≤ e.1 := List.forall_mem_cons.mpr ⟨⟨avN29_37, by decide⟩, List.forall_mem_cons.mpr ⟨⟨avN29_55, by decide⟩, List.forall_mem_cons.mpr ⟨⟨avN29_74, by decide⟩, List.forall_mem_cons.mpr ⟨⟨avN29_92, by decide⟩, fun _ h => by cases h⟩⟩⟩⟩
theorem avNe33 {RG : avRJ} : ∀ e ∈ avNw 33, avOkE avRT RG 33 e (avOPt.get e.1) ∧ 90 ≤ e.1 := List.forall_mem_cons.mpr ⟨⟨avN33_37, by decide⟩, List.forall_mem_cons.mpr ⟨⟨avN33_55, by decide⟩, List.forall_mem_cons.mpr ⟨⟨avN33_73, by decide⟩, fun _ h => by cases h⟩⟩⟩
theorem avNe34 {RG : avRJ} : ∀ e ∈ avNw 34, avOkE avRT RG 34 e (avOPt.get e.1) ∧ 90 ≤ e.1 := List.forall_mem_cons.mpr ⟨⟨avN34_1, by decide⟩, List.forall_mem_cons.mpr ⟨⟨avN34_12, by decide⟩, List.forall_mem_cons.mpr ⟨⟨avN34_29, by decide⟩, fun _ h => by cases h⟩⟩⟩
theorem avNe36 {RG : avRJ} : ∀ e ∈ avNw 36, avOkE avRT RG 36 e (avOPt.get e.1) ∧ 90 ≤ e.1 := List.forall_mem_cons.mpr ⟨⟨avN36_19, by decide⟩, List.forall_mem_cons.mpr ⟨⟨avN36_38, by decide⟩, fun _ h => by cases h⟩⟩
theorem avNe37 {RG : avRJ} : ∀ e ∈ avNw 37, avOkE avRT RG 37 e (avOPt.get e.1) ∧ 90 ≤ e.1 := List.forall_mem_cons.mpr ⟨⟨avN37_1, by decide⟩, fun _ h => by cases h⟩
theorem avNe38 {RG : avRJ} : ∀ e ∈ avNw 38, avOkE avRT RG 38 e (avOPt.get e.1) ∧ 90 ≤ e.1 := List.forall_mem_cons.mpr ⟨⟨avN38_1, by decide⟩, List.forall_mem_cons.mpr ⟨⟨avN38_12, by decide⟩, List.forall_mem_cons.mpr ⟨⟨avN38_23, by decide⟩, List.forall_mem_cons.mpr ⟨⟨avN38_34, by decide⟩, List.forall_mem_cons.mpr ⟨⟨avN38_45, by decide⟩, List.forall_mem_cons.mpr ⟨⟨avN38_56, by decide⟩, fun _ h => by cases h⟩⟩⟩⟩⟩⟩
theorem avNe168 {RG : avRJ} : ∀ e ∈ avNw 168, avOkE avRT RG 168 e (avOPt.get e.1) ∧ 90 ≤ e.1 := List.forall_mem_cons.mpr ⟨⟨avN168_52, by decide⟩, fun _ h => by cases h⟩
theorem avNe187 {RG : avRJ} : ∀ e ∈ avNw 187, avOkE avRT RG 187 e (avOPt.get e.1) ∧ 90 ≤ e.1 := List.forall_mem_cons.mpr ⟨⟨avN187_1, by decide⟩, List.forall_mem_cons.mpr ⟨⟨avN187_10, by decide⟩, List.forall_mem_cons.mpr ⟨⟨avN187_19, by decide⟩, List.forall_mem_cons.mpr ⟨⟨avN187_28, by decide⟩, List.forall_mem_cons.mpr ⟨⟨avN187_80, by decide⟩, List.forall_mem_cons.mpr ⟨⟨avN187_96, by decide⟩, List.forall_mem_cons.mpr ⟨⟨avN187_112, by decide⟩, List.forall_mem_cons.mpr ⟨⟨avN187_151, by decide⟩, List.forall_mem_cons.mpr ⟨⟨avN187_170, by decide⟩, List.forall_mem_cons.mpr ⟨⟨avN187_189, by decide⟩, fun _ h => by cases h⟩⟩⟩⟩⟩⟩⟩⟩⟩⟩
theorem avNe188 {RG : avRJ} : ∀ e ∈ avNw 188, avOkE avRT RG 188 e (avOPt.get e.1) ∧ 90 ≤ e.1 := List.forall_mem_cons.mpr ⟨⟨avN188_25, by decide⟩, List.forall_mem_cons.mpr ⟨⟨avN188_41, by decide⟩, List.forall_mem_cons.mpr ⟨⟨avN188_64, by decide⟩, fun _ h => by cases h⟩⟩⟩
theorem avNe191 {RG : avRJ} : ∀ e ∈ avNw 191, avOkE avRT RG 191 e (avOPt.get e.1) ∧ 90 ≤ e.1 := List.forall_mem_cons.mpr ⟨⟨avN191_58, by decide⟩, List.forall_mem_cons.mpr ⟨⟨avN191_73, by decide⟩, List.forall_mem_cons.mpr ⟨⟨avN191_85, by decide⟩, List.forall_mem_cons.mpr ⟨⟨avN191_96, by decide⟩, fun _ h => by cases h⟩⟩⟩⟩
theorem avNe194 {RG : avRJ} : ∀ e ∈ avNw 194, avOkE avRT RG 194 e (avOPt.get e.1) ∧ 90 ≤ e.1 := List.forall_mem_cons.mpr ⟨⟨avN194_80, by decide⟩, List.forall_mem_cons.mpr ⟨⟨avN194_102, by decide⟩, List.forall_mem_cons.mpr ⟨⟨avN194_124, by decide⟩, fun _ h => by cases h⟩⟩⟩
theorem avNe195 {RG : avRJ} : ∀ e ∈ avNw 195, avOkE avRT RG 195 e (avOPt.get e.1) ∧ 90 ≤ e.1 := List.forall_mem_cons.mpr ⟨⟨avN195_41, by decide⟩, fun _ h => by cases h⟩
theorem avNe196 {RG : avRJ} : ∀ e ∈ avNw 196, avOkE avRT RG 196 e (avOPt.get e.1) ∧ 90 ≤ e.1 := List.forall_mem_cons.mpr ⟨⟨avN196_1, by decide⟩, List.forall_mem_cons.mpr ⟨⟨avN196_73, by decide⟩, fun _ h => by cases h⟩⟩
theorem avNe197 {RG : avRJ} : ∀ e ∈ avNw 197, avOkE avRT RG 197 e (avOPt.get e.1) ∧ 90 ≤ e.1 := List.forall_mem_cons.mpr ⟨⟨avN197_1, by decide⟩, List.forall_mem_cons.mpr ⟨⟨avN197_14, by decide⟩, List.forall_mem_cons.mpr ⟨⟨avN197_27, by decide⟩, List.forall_mem_cons.mpr ⟨⟨avN197_40, by decide⟩, List.forall_mem_cons.mpr ⟨⟨avN197_53, by decide⟩, List.forall_mem_cons.mpr ⟨⟨avN197_66, by decide⟩, fun _ h => by cases h⟩⟩⟩⟩⟩⟩
theorem avNe215 {RG : avRJ} : ∀ e ∈ avNw 215, avOkE avRT RG 215 e (avOPt.get e.1) ∧ 90 ≤ e.1 := List.forall_mem_cons.mpr ⟨⟨avN215_92, by decide⟩, List.forall_mem_cons.mpr ⟨⟨avN215_173, by decide⟩, List.forall_mem_cons.mpr ⟨⟨avN215_190, by decide⟩, fun _ h => by cases h⟩⟩⟩
theorem avNe229 {RG : avRJ} : ∀ e ∈ avNw 229, avOkE avRT RG 229 e (avOPt.get e.1) ∧ 90 ≤ e.1 := List.forall_mem_cons.mpr ⟨⟨avN229_124, by decide⟩, fun _ h => by cases h⟩
theorem avNe233 {RG : avRJ} : ∀ e ∈ avNw 233, avOkE avRT RG 233 e (avOPt.get e.1) ∧ 90 ≤ e.1 := List.forall_mem_cons.mpr ⟨⟨avN233_75, by decide⟩, List.forall_mem_cons.mpr ⟨⟨avN233_122, by decide⟩, fun _ h => by cases h⟩⟩
theorem avNe258 {RG : avRJ} : ∀ e ∈ avNw 258, avOkE avRT RG 258 e (avOPt.get e.1) ∧ 90 ≤ e.1 := List.forall_mem_cons.mpr ⟨⟨avN258_55, by decide⟩, fun _ h => by cases h⟩
theorem avNe272 {RG : avRJ} : ∀ e ∈ avNw 272, avOkE avRT RG 272 e (avOPt.get e.1) ∧ 90 ≤ e.1 := List.forall_mem_cons.mpr ⟨⟨avN272_2, by decide⟩, fun _ h => by cases h⟩
theorem avNw_ok {RG : avRJ} : ∀ (k : Nat), ∀ e ∈ avNw k, avOkE avRT RG k e (avOPt.get e.1) ∧ 90 ≤ e.1 := by
  intro k e he
  unfold avNw at he
  split at he
  · exact avNe26 e he
  · exact avNe27 e he
  · exact avNe29 e he
  · exact avNe33 e he
  · exact avNe34 e he
  · exact avNe36 e he
  · exact avNe37 e he
  · exact avNe38 e he
  · exact avNe168 e he
  · exact avNe187 e he
  · exact avNe188 e he
  · exact avNe191 e he
  · exact avNe194 e he
  · exact avNe195 e he
  · exact avNe196 e he
  · exact avNe197 e he
  · exact avNe215 e he
  · exact avNe229 e he
  · exact avNe233 e he
  · exact avNe258 e he
  · exact avNe272 e he
  · cases he
theorem avTabs_ok {RG : avRJ} (hT : abTabs) (hJ : avJok avGUt RG) : avTabs avRT RG avTT avOPt := by
  intro k pc hk hpc
  have h := avLeafs_ok (avTcA_ok avTcAll k hk) pc
  obtain ⟨h1, -⟩ := abIf_and h
  generalize (avTT k).get pc = e at h1 hpc
  rcases abIf_or h1 with q | q
  · have e0 := abBeq q
    refine ⟨fun _ => ?_, fun h78 _ => absurd h78 (by omega)⟩
    rw [e0]
    intro D z sb w0 r0 p l ev R s m args below meth c cc cs Q d nx pc' ls st q' hF hp hn _ hf
    cases hf
  · rcases abIf_or q with q | q
    · have he := avEqE_ok q
      have hE := hT.2.2 k pc (by omega) (by rw [hpc] at he; rw [he]; exact hpc)
      rw [← hpc, he] at hE
      exact ⟨fun _ => (avOps_ok (CY := avCYt) avCl_ok ⟨avCy0_ok, hJ⟩ e.1 hE.2).at hE.1 rfl, fun _ _ => hE.1⟩
    · obtain ⟨n1, n2⟩ := avNw_ok (RG := RG) k e (avMemE_ok q)
      exact ⟨fun _ => n1, fun _ h84 => absurd h84 (by omega)⟩
