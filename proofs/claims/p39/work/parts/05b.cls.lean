/-! the classes: what the tables say of them -/
set_option maxRecDepth 20000 in
theorem abCw0 : ∀ w ∈ u_ws RX0 TX0 7, w ∈ abTw := fun w hw => abTaT ((by decide +kernel : ∀ w ∈ u_ws RX0 TX0 7, w ∈ lw_tbl) w hw) ((by decide +kernel : ∀ w ∈ u_ws RX0 TX0 7, goodWord w = true) w hw)
theorem abCd0 : ∀ k, k < 7 → (TX0 k).1 = RX0 := by decide +kernel
set_option maxRecDepth 20000 in
theorem abCw1 : ∀ w ∈ u_ws RX1 TX1 11, w ∈ abTw := fun w hw => abTaT ((by decide +kernel : ∀ w ∈ u_ws RX1 TX1 11, w ∈ lw_tbl) w hw) ((by decide +kernel : ∀ w ∈ u_ws RX1 TX1 11, goodWord w = true) w hw)
theorem abCd1 : ∀ k, k < 11 → (TX1 k).1 = RX1 := by decide +kernel
set_option maxRecDepth 20000 in
theorem abCw2 : ∀ w ∈ u_ws RX2 TX2 8, w ∈ abTw := fun w hw => abTaT ((by decide +kernel : ∀ w ∈ u_ws RX2 TX2 8, w ∈ lw_tbl) w hw) ((by decide +kernel : ∀ w ∈ u_ws RX2 TX2 8, goodWord w = true) w hw)
theorem abCd2 : ∀ k, k < 8 → (TX2 k).1 = RX2 := by decide +kernel
set_option maxRecDepth 20000 in
theorem abCw3 : ∀ w ∈ u_ws RX3 TX3 5, w ∈ abTw := fun w hw => abTaT ((by decide +kernel : ∀ w ∈ u_ws RX3 TX3 5, w ∈ lw_tbl) w hw) ((by decide +kernel : ∀ w ∈ u_ws RX3 TX3 5, goodWord w = true) w hw)
theorem abCd3 : ∀ k, k < 5 → (TX3 k).1 = RX3 := by decide +kernel
set_option maxRecDepth 20000 in
theorem abCw4 : ∀ w ∈ u_ws RX4 TX4 9, w ∈ abTw := fun w hw => abTaT ((by decide +kernel : ∀ w ∈ u_ws RX4 TX4 9, w ∈ lw_tbl) w hw) ((by decide +kernel : ∀ w ∈ u_ws RX4 TX4 9, goodWord w = true) w hw)
theorem abCd4 : ∀ k, k < 9 → (TX4 k).1 = RX4 := by decide +kernel
set_option maxRecDepth 20000 in
theorem abCw5 : ∀ w ∈ u_ws RX5 TX5 3, w ∈ abTw := fun w hw => abTaT ((by decide +kernel : ∀ w ∈ u_ws RX5 TX5 3, w ∈ lw_tbl) w hw) ((by decide +kernel : ∀ w ∈ u_ws RX5 TX5 3, goodWord w = true) w hw)
theorem abCd5 : ∀ k, k < 3 → (TX5 k).1 = RX5 := by decide +kernel
set_option maxRecDepth 20000 in
theorem abCw6 : ∀ w ∈ u_ws RX6 TX6 9, w ∈ abTw := fun w hw => abTaT ((by decide +kernel : ∀ w ∈ u_ws RX6 TX6 9, w ∈ lw_tbl) w hw) ((by decide +kernel : ∀ w ∈ u_ws RX6 TX6 9, goodWord w = true) w hw)
theorem abCd6 : ∀ k, k < 9 → (TX6 k).1 = RX6 := by decide +kernel
set_option maxRecDepth 20000 in
theorem abCw7 : ∀ w ∈ u_ws RX7 TX7 9, w ∈ abTw := fun w hw => abTaT ((by decide +kernel : ∀ w ∈ u_ws RX7 TX7 9, w ∈ lw_tbl) w hw) ((by decide +kernel : ∀ w ∈ u_ws RX7 TX7 9, goodWord w = true) w hw)
theorem abCd7 : ∀ k, k < 9 → (TX7 k).1 = RX7 := by decide +kernel
set_option maxRecDepth 20000 in
theorem abCw8 : ∀ w ∈ u_ws RX8 TX8 1, w ∈ abTw := fun w hw => abTaT ((by decide +kernel : ∀ w ∈ u_ws RX8 TX8 1, w ∈ lw_tbl) w hw) ((by decide +kernel : ∀ w ∈ u_ws RX8 TX8 1, goodWord w = true) w hw)
theorem abCd8 : ∀ k, k < 1 → (TX8 k).1 = RX8 := by decide +kernel
set_option maxRecDepth 20000 in
theorem abCw9 : ∀ w ∈ u_ws RX9 TX9 3, w ∈ abTw := fun w hw => abTaT ((by decide +kernel : ∀ w ∈ u_ws RX9 TX9 3, w ∈ lw_tbl) w hw) ((by decide +kernel : ∀ w ∈ u_ws RX9 TX9 3, goodWord w = true) w hw)
theorem abCd9 : ∀ k, k < 3 → (TX9 k).1 = RX9 := by decide +kernel
set_option maxRecDepth 20000 in
theorem abCw10 : ∀ w ∈ u_ws RX10 TX10 15, w ∈ abTw := fun w hw => abTaT ((by decide +kernel : ∀ w ∈ u_ws RX10 TX10 15, w ∈ lw_tbl) w hw) ((by decide +kernel : ∀ w ∈ u_ws RX10 TX10 15, goodWord w = true) w hw)
theorem abCd10 : ∀ k, k < 15 → (TX10 k).1 = RX10 := by decide +kernel
set_option maxRecDepth 20000 in
theorem abCw11 : ∀ w ∈ u_ws RX11 TX11 13, w ∈ abTw := fun w hw => abTaT ((by decide +kernel : ∀ w ∈ u_ws RX11 TX11 13, w ∈ lw_tbl) w hw) ((by decide +kernel : ∀ w ∈ u_ws RX11 TX11 13, goodWord w = true) w hw)
theorem abCd11 : ∀ k, k < 13 → (TX11 k).1 = RX11 := by decide +kernel
set_option maxRecDepth 20000 in
theorem abCw12 : ∀ w ∈ u_ws RX12 TX12 41, w ∈ abTw := fun w hw => abTaT ((by decide +kernel : ∀ w ∈ u_ws RX12 TX12 41, w ∈ lw_tbl) w hw) ((by decide +kernel : ∀ w ∈ u_ws RX12 TX12 41, goodWord w = true) w hw)
theorem abCd12 : ∀ k, k < 41 → (TX12 k).1 = RX12 := by decide +kernel
theorem abCls_ok : ∀ (ci : Nat) (q : vw_C), abCls[ci]? = some q → (∀ w ∈ u_ws q.1 q.2.1 q.2.2, w ∈ abTw) ∧ (∀ k, k < q.2.2 → parseFieldDescriptor (q.2.1 k).2.2.1 = some (abTyp ci k)) ∧ (∀ a, a < q.2.2 → ∀ b, b < q.2.2 → a ≠ b → (q.2.1 a).2.1 ≠ (q.2.1 b).2.1) ∧ (∀ k, k < q.2.2 → (q.2.1 k).1 = q.1) := by
  intro ci q h
  match ci, h with
  | 0, h =>
    cases h
    exact ⟨abCw0, tyX0_ok, nmX0, abCd0⟩
  | 1, h =>
    cases h
    exact ⟨abCw1, tyX1_ok, nmX1, abCd1⟩
  | 2, h =>
    cases h
    exact ⟨abCw2, tyX2_ok, nmX2, abCd2⟩
  | 3, h =>
    cases h
    exact ⟨abCw3, tyX3_ok, nmX3, abCd3⟩
  | 4, h =>
    cases h
    exact ⟨abCw4, tyX4_ok, nmX4, abCd4⟩
  | 5, h =>
    cases h
    exact ⟨abCw5, tyX5_ok, nmX5, abCd5⟩
  | 6, h =>
    cases h
    exact ⟨abCw6, tyX6_ok, nmX6, abCd6⟩
  | 7, h =>
    cases h
    exact ⟨abCw7, tyX7_ok, nmX7, abCd7⟩
  | 8, h =>
    cases h
    exact ⟨abCw8, tyX8_ok, nmX8, abCd8⟩
  | 9, h =>
    cases h
    exact ⟨abCw9, tyX9_ok, nmX9, abCd9⟩
  | 10, h =>
    cases h
    exact ⟨abCw10, tyX10_ok, nmX10, abCd10⟩
  | 11, h =>
    cases h
    exact ⟨abCw11, tyX11_ok, nmX11, abCd11⟩
  | 12, h =>
    cases h
    exact ⟨abCw12, tyX12_ok, nmX12, abCd12⟩
  | _ + 13, h => exact absurd h (by simp [abCls])
