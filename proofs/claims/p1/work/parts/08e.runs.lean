/-! the runs, together -/
theorem abVs : ∀ t ∈ abPcs, ∀ rh : Nat → Int, abEok rh abFull → ∃ (n : Nat) (env : abE), abEok rh env ∧ abAll (abEnd 278) (abRun n 40 278 (abMe 278).2.2.2.2.2 t (abL0 7) [] (abSe abG0 env)) = true := List.forall_mem_cons.mpr ⟨fun _ h => ⟨2500, abFull, h, abV212⟩, List.forall_mem_cons.mpr ⟨fun _ h => ⟨2500, abFull, h, abV275⟩, List.forall_mem_cons.mpr ⟨fun _ h => ⟨10000, abFull, h, abV298⟩, List.forall_mem_cons.mpr ⟨fun _ h => ⟨2500, abFull, h, abV311⟩, List.forall_mem_cons.mpr ⟨fun _ h => ⟨2500, abFull, h, abV334⟩, List.forall_mem_cons.mpr ⟨fun _ h => ⟨2500, abFull, h, abV409⟩, List.forall_mem_cons.mpr ⟨fun _ h => ⟨2500, abFull, h, abV442⟩, List.forall_mem_cons.mpr ⟨fun _ h => ⟨2500, abFull, h, abV465⟩, List.forall_mem_cons.mpr ⟨fun _ h => ⟨2500, abFull, h, abV498⟩, List.forall_mem_cons.mpr ⟨fun _ h => ⟨2500, abFull, h, abV521⟩, List.forall_mem_cons.mpr ⟨fun _ h => ⟨2500, abFull, h, abV554⟩, List.forall_mem_cons.mpr ⟨fun _ h => ⟨2500, abFull, h, abV577⟩, List.forall_mem_cons.mpr ⟨fun _ h => ⟨2500, abFull, h, abV610⟩, List.forall_mem_cons.mpr ⟨fun _ h => ⟨2500, abFull, h, abV633⟩, List.forall_mem_cons.mpr ⟨fun _ h => ⟨2500, abFull, h, abV676⟩, List.forall_mem_cons.mpr ⟨fun _ h => ⟨2500, abFull, h, abV735⟩, List.forall_mem_cons.mpr ⟨fun _ h => ⟨2500, abFull, h, abV794⟩, List.forall_mem_cons.mpr ⟨fun _ h => ⟨2500, abFull, h, abV843⟩, List.forall_mem_cons.mpr ⟨fun _ h => ⟨2500, abFull, h, abV886⟩, List.forall_mem_cons.mpr ⟨fun _ h => ⟨2500, abFull, h, abV929⟩, List.forall_mem_cons.mpr ⟨fun _ h => ⟨2500, abFull, h, abV972⟩, List.forall_mem_cons.mpr ⟨fun _ h => ⟨2500, abFull, h, abV1005⟩, List.forall_mem_cons.mpr ⟨fun _ h => ⟨2500, abFull, h, abV1048⟩, List.forall_mem_cons.mpr ⟨fun _ h => ⟨2500, abFull, h, abV1091⟩, List.forall_mem_cons.mpr ⟨fun _ h => ⟨2500, abFull, h, abV1114⟩, List.forall_mem_cons.mpr ⟨fun _ h => ⟨2500, abFull, h, abV1137⟩, List.forall_mem_cons.mpr ⟨fun _ h => ⟨2500, abFull, h, abV1170⟩, List.forall_mem_cons.mpr ⟨fun _ h => ⟨2500, abFull, h, abV1193⟩, List.forall_mem_cons.mpr ⟨fun _ h => ⟨2500, abFull, h, abV1216⟩, List.forall_mem_cons.mpr ⟨fun _ h => ⟨2500, abFull, h, abV1229⟩, List.forall_mem_cons.mpr ⟨fun _ h => ⟨2500, abFull, h, abV1272⟩, List.forall_mem_cons.mpr ⟨fun _ h => ⟨2500, abFull, h, abV1295⟩, List.forall_mem_cons.mpr ⟨fun _ h => ⟨2500, abFull, h, abV1308⟩, List.forall_mem_cons.mpr ⟨fun _ h => ⟨2500, abFull, h, abV1341⟩, List.forall_mem_cons.mpr ⟨fun _ h => ⟨2500, abFull, h, abV1374⟩, List.forall_mem_cons.mpr ⟨fun _ h => ⟨2500, abFull, h, abV1407⟩, List.forall_mem_cons.mpr ⟨abV1430, List.forall_mem_cons.mpr ⟨fun _ h => ⟨2500, abFull, h, abV1453⟩, List.forall_mem_cons.mpr ⟨fun _ h => ⟨2500, abFull, h, abV1476⟩, List.forall_mem_cons.mpr ⟨fun _ h => ⟨2500, abFull, h, abV1519⟩, List.forall_mem_cons.mpr ⟨fun _ h => ⟨2500, abFull, h, abV1592⟩, fun _ h => absurd h List.not_mem_nil⟩⟩⟩⟩⟩⟩⟩⟩⟩⟩⟩⟩⟩⟩⟩⟩⟩⟩⟩⟩⟩⟩⟩⟩⟩⟩⟩⟩⟩⟩⟩⟩⟩⟩⟩⟩⟩⟩⟩⟩⟩
theorem abCs_run : ∀ L, L ≤ 7 → abAll (fun x => abQf x (18, abL0 L, [], abG0)) (abRun 2500 40 276 (abMe 276).2.2.2.2.2 0 [(5, L, 0), abJ, abJ, abJ] [] (.leaf (99, 0, .leaf abJ), 0, abFull, 0, 0)) = true
  | 0, _ => abC0
  | 1, _ => abC1
  | 2, _ => abC2
  | 3, _ => abC3
  | 4, _ => abC4
  | 5, _ => abC5
  | 6, _ => abC6
  | 7, _ => abC7
  | _ + 8, h => absurd h (by omega)
theorem abU_run : ∀ L, L < 7 → abAll (abEnd 277) (abRun 2500 40 277 (abMe 277).2.2.2.2.2 18 (abL0 L) [] abG0) = true
  | 0, _ => abU0
  | 1, _ => abU1
  | 2, _ => abU2
  | 3, _ => abU3
  | 4, _ => abU4
  | 5, _ => abU5
  | 6, _ => abU6
  | _ + 7, h => absurd h (by omega)
