/-! THE TABLES ARE RIGHT: each entry against the bytes and the words of the Statement -/
noncomputable def abLi {al : Type} (l : List al) : Nat → Option al := List.rec (motive := fun _ => Nat → Option al) (fun _ => none) (fun h _ ih i => Nat.rec (some h) (fun n _ => ih n) i) l
theorem abLi_mem {al : Type} : ∀ {l : List al} {i : Nat} {w : al}, abLi l i = some w → w ∈ l
  | [], _, _, h => by cases h
  | _ :: _, 0, _, h => by cases h; exact List.mem_cons_self
  | _ :: l, i + 1, _, h => List.mem_cons_of_mem _ (abLi_mem (l := l) (i := i) h)
def abWck : List Jvm.Cond → List Nat → Bool
  | [], _ => true
  | w :: ws, i :: is => decide (abLi lw_tbl i = some w) && abWck ws is
  | _ :: _, [] => false
theorem abWck_ok : ∀ {ws : List Jvm.Cond} {is : List Nat}, abWck ws is = true → ∀ w ∈ ws, w ∈ lw_tbl
  | [], _, _, _, h => by cases h
  | w :: ws, i :: is, h, v, hv => by
    obtain ⟨h1, h2⟩ := Bool.and_eq_true_iff.mp (show (decide (abLi lw_tbl i = some w) && abWck ws is) = true from h)
    rcases List.mem_cons.mp hv with rfl | hv
    · exact abLi_mem (of_decide_eq_true h1)
    · exact abWck_ok h2 v hv
  | _ :: _, [], h, _, _ => by cases h
noncomputable def abEtb (k : Nat) (e : abEy) : Bool :=
  (decide (e.1 = 85) || (match abIns e with | some i => decide (decode (abBy k) e.2.1 = .ok i) | none => false)) && abWck (abWds k e) e.2.2.2.2.2 && abSmk k e && decide (e.1 < 88)
theorem abEtb_ok {k : Nat} {e : abEy} (h : abEtb k e = true) : abEtOk k e ∧ e.1 < 88 := by
  obtain ⟨h1, h2⟩ := Bool.and_eq_true_iff.mp h
  obtain ⟨h3, h4⟩ := Bool.and_eq_true_iff.mp h1
  obtain ⟨h5, h6⟩ := Bool.and_eq_true_iff.mp h3
  refine ⟨⟨?_, abWck_ok h6, h4⟩, of_decide_eq_true h2⟩
  rcases Bool.or_eq_true_iff.mp h5 with q | q
  · exact Or.inl (of_decide_eq_true q)
  · cases hi : abIns e with
    | none => rw [hi] at q; cases q
    | some i =>
      rw [hi] at q
      exact Or.inr ⟨i, rfl, of_decide_eq_true q⟩
/-- the entries of a method between two places -/
noncomputable def abTrr (k lo hi : Nat) (t : Lean.RArray abEy) : Bool := Lean.RArray.rec (fun e => abIf (Nat.ble lo e.2.1) (abIf (Nat.ble (e.2.1 + 1) hi) (abEtb k e) true) true) (fun _ _ _ a b => abIf a b false) t
theorem abTrr_ok {k lo hi : Nat} : ∀ {t : Lean.RArray abEy}, abTrr k lo hi t = true → ∀ pc : Nat, lo ≤ (t.get pc).2.1 → (t.get pc).2.1 < hi → abEtOk k (t.get pc) ∧ (t.get pc).1 < 88
  | .leaf e, h, pc, h1, h2 => by
    have h' : abIf (Nat.ble lo e.2.1) (abIf (Nat.ble (e.2.1 + 1) hi) (abEtb k e) true) true = true := h
    rw [abIf_t (abBle_t h1), abIf_t (abBle_t h2)] at h'
    exact abEtb_ok h'
  | .branch p l r, h, pc, h1, h2 => by
    have h' : abIf (abTrr k lo hi l) (abTrr k lo hi r) false = true := h
    cases q : abTrr k lo hi l with
    | false => rw [abIf_f q] at h'; cases h'
    | true =>
      rw [abIf_t q] at h'
      cases hb : Nat.ble p pc with
      | true =>
        rw [abGet_b1 hb] at h1 h2 ⊢
        exact abTrr_ok h' pc h1 h2
      | false =>
        rw [abGet_b0 hb] at h1 h2 ⊢
        exact abTrr_ok q pc h1 h2
/-- the entries of a method from a place on -/
noncomputable def abTru (k lo : Nat) (t : Lean.RArray abEy) : Bool := Lean.RArray.rec (fun e => abIf (Nat.ble lo e.2.1) (abEtb k e) true) (fun _ _ _ a b => abIf a b false) t
theorem abTru_ok {k lo : Nat} : ∀ {t : Lean.RArray abEy}, abTru k lo t = true → ∀ pc : Nat, lo ≤ (t.get pc).2.1 → abEtOk k (t.get pc) ∧ (t.get pc).1 < 88
  | .leaf e, h, pc, h1 => by
    have h' : abIf (Nat.ble lo e.2.1) (abEtb k e) true = true := h
    rw [abIf_t (abBle_t h1)] at h'
    exact abEtb_ok h'
  | .branch p l r, h, pc, h1 => by
    have h' : abIf (abTru k lo l) (abTru k lo r) false = true := h
    cases q : abTru k lo l with
    | false => rw [abIf_f q] at h'; cases h'
    | true =>
      rw [abIf_t q] at h'
      cases hb : Nat.ble p pc with
      | true =>
        rw [abGet_b1 hb] at h1 ⊢
        exact abTru_ok h' pc h1
      | false =>
        rw [abGet_b0 hb] at h1 ⊢
        exact abTru_ok q pc h1
/-- the methods between a and a + n -/
noncomputable def abTrs (a n : Nat) : Bool := Nat.rec true (fun n ih => abIf (abTru (a + n) 0 (abMe (a + n)).2.2.2.2.2) ih false) n
theorem abTrs_ok {a : Nat} : ∀ {n : Nat}, abTrs a n = true → ∀ k, a ≤ k → k < a + n → abTru k 0 (abMe k).2.2.2.2.2 = true
  | 0, _, k, h1, h2 => absurd h1 (by omega)
  | n + 1, h, k, h1, h2 => by
    have h' : abIf (abTru (a + n) 0 (abMe (a + n)).2.2.2.2.2) (abTrs a n) false = true := h
    cases q : abTru (a + n) 0 (abMe (a + n)).2.2.2.2.2 with
    | false => rw [abIf_f q] at h'; cases h'
    | true =>
      rw [abIf_t q] at h'
      by_cases e : k = a + n
      · rw [e]; exact q
      · exact abTrs_ok h' k h1 (by omega)
theorem abGood : ∀ w ∈ lw_tbl, goodWord w = true := by
  have h : lw_tbl.all goodWord = true := by decide +kernel
  exact fun w hw => List.all_eq_true.mp h w hw
/-- where a method's own words stand -/
noncomputable def abMkb (q pc pi : Nat) : Bool := plainName (abNm q).cls && decide (abLi lw_tbl pc = some (Jvm.Cond.code (abNm q) (abBy q) (abMe q).1.2.2.1 (abRtT q))) && decide (abLi lw_tbl pi = some (Jvm.Cond.initialized (abNm q).cls)) && decide ((abNm q).cls ≠ "java/lang/invoke/MethodHandle") && decide ((abNm q).cls ≠ "java/lang/invoke/VarHandle") && decide ((parseMethodDescriptor (abNm q).desc).map (fun d => d.parameters.length) = some (abMe q).2.1) && decide ((abMe q).1.2.2.1 ≤ 41)
theorem abMkb_ok {q pc pi : Nat} (h : abMkb q pc pi = true) : abMok q := by
  obtain ⟨h1, g7⟩ := Bool.and_eq_true_iff.mp h
  obtain ⟨h2, g6⟩ := Bool.and_eq_true_iff.mp h1
  obtain ⟨h3, g5⟩ := Bool.and_eq_true_iff.mp h2
  obtain ⟨h4, g4⟩ := Bool.and_eq_true_iff.mp h3
  obtain ⟨h5, g3⟩ := Bool.and_eq_true_iff.mp h4
  obtain ⟨g1, g2⟩ := Bool.and_eq_true_iff.mp h5
  exact ⟨g1, abLi_mem (of_decide_eq_true g2), abLi_mem (of_decide_eq_true g3), ⟨of_decide_eq_true g4, of_decide_eq_true g5, of_decide_eq_true g6⟩, of_decide_eq_true g7⟩
noncomputable def abMks (a : Nat) (l : List (Nat × Nat)) : Bool := List.rec (motive := fun _ => Nat → Bool) (fun _ => true) (fun h _ ih q => abIf (abMkb q h.1 h.2) (ih (q + 1)) false) l a
theorem abMks_ok : ∀ {l : List (Nat × Nat)} {a : Nat}, abMks a l = true → ∀ q, a ≤ q → q < a + l.length → abMok q
  | [], a, _, q, h1, h2 => absurd h1 (by simp at h2; omega)
  | x :: l, a, h, q, h1, h2 => by
    have h' : abIf (abMkb a x.1 x.2) (abMks (a + 1) l) false = true := h
    cases z : abMkb a x.1 x.2 with
    | false => rw [abIf_f z] at h'; cases h'
    | true =>
      rw [abIf_t z] at h'
      by_cases e : q = a
      · rw [e]; exact abMkb_ok z
      · exact abMks_ok h' q (by omega) (by simp at h2; omega)
set_option maxRecDepth 100000 in
theorem abMa0 : abMks 0 [(108, 84), (116, 85), (122, 86), (128, 87), (159, 86), (163, 87), (262, 88), (272, 89), (287, 90), (295, 91), (300, 91), (310, 92), (439, 93), (460, 94), (497, 95), (571, 84), (575, 84), (579, 84), (583, 84), (587, 88), (591, 90), (595, 85), (603, 85), (606, 85), (609, 85), (612, 85), (617, 85), (622, 85), (677, 85), (681, 85), (685, 85), (689, 85), (694, 85), (701, 85), (708, 85), (715, 86), (719, 85), (723, 85), (728, 85), (738, 87), (742, 85), (747, 87), (751, 88), (755, 86), (762, 87), (768, 84)] = true := by decide +kernel
set_option maxRecDepth 100000 in
theorem abMa46 : abMks 46 [(772, 84), (776, 84), (780, 84), (784, 84), (793, 90), (797, 90), (801, 90), (806, 92), (810, 88), (814, 89), (818, 89), (823, 84), (826, 84), (830, 93), (834, 93), (838, 93), (842, 84), (847, 88), (851, 86), (855, 92), (859, 92), (869, 84), (873, 92), (877, 88), (882, 90), (886, 90), (890, 92), (894, 92), (901, 92), (905, 92), (910, 90), (914, 90), (918, 84), (922, 86), (927, 84), (931, 90), (935, 84), (939, 94), (943, 94), (948, 90), (953, 88), (956, 94), (960, 94), (964, 94), (969, 84), (973, 84)] = true := by decide +kernel
set_option maxRecDepth 100000 in
theorem abMa92 : abMks 92 [(978, 92), (983, 84), (987, 84), (991, 84), (995, 88), (1000, 88), (1004, 90), (1008, 90), (1012, 84), (1016, 88), (1022, 84), (1026, 84), (1029, 84), (1033, 88), (1037, 90), (1041, 86), (1047, 90), (1055, 90), (1060, 90), (1064, 90), (1068, 84), (1074, 84), (1079, 84), (1083, 90), (1087, 92), (1092, 91), (1098, 84), (1102, 91), (1106, 84), (1110, 91), (1114, 91), (1122, 91), (1129, 84), (1133, 91), (1137, 84), (1141, 90), (1146, 84), (1149, 84), (1153, 88), (1157, 87), (1161, 87), (1165, 87), (1168, 87), (1172, 90), (1177, 90), (1181, 84)] = true := by decide +kernel
set_option maxRecDepth 100000 in
theorem abMa138 : abMks 138 [(1185, 84), (1189, 84), (1193, 84), (1197, 95), (1203, 90), (1207, 95), (1211, 95), (1215, 95), (1221, 84), (1225, 84), (1230, 84), (1234, 89), (1239, 84), (1243, 88), (1247, 90), (1251, 88), (1255, 84), (1260, 86), (1264, 84), (1268, 88), (1272, 88), (1276, 88), (1283, 84), (1287, 84), (1291, 88), (1296, 89), (1302, 84), (1306, 84), (1310, 93), (1314, 84), (1318, 93), (1322, 84), (1326, 93), (1332, 96), (1336, 96), (1339, 96), (1343, 96), (1470, 96), (1474, 96), (1478, 96), (1482, 96), (1486, 96), (1490, 96), (1494, 96), (1497, 96), (1501, 96)] = true := by decide +kernel
set_option maxRecDepth 100000 in
theorem abMa184 : abMks 184 [(1505, 96), (1509, 96), (1519, 96), (1523, 96), (1528, 96), (1537, 96), (1541, 96), (1545, 96), (1550, 96), (1555, 96), (1562, 96), (1570, 96), (1574, 96), (1579, 96), (1589, 96), (1597, 96), (1601, 96), (1605, 96), (1609, 96), (1618, 96), (1622, 96), (1628, 96), (1631, 96), (1638, 96), (1642, 96), (1646, 96), (1650, 96), (1655, 96), (1659, 96), (1663, 96), (1667, 96), (1671, 96), (1676, 96), (1680, 96), (1684, 96), (1688, 96), (1692, 96), (1698, 96), (1702, 96), (1707, 96), (1711, 96), (1715, 96), (1719, 96), (1723, 96), (1730, 96), (1734, 96)] = true := by decide +kernel
set_option maxRecDepth 100000 in
theorem abMa230 : abMks 230 [(1738, 96), (1742, 96), (1746, 96), (1750, 96), (1762, 96), (1768, 96), (1772, 96), (1776, 96), (1780, 96), (1784, 96), (1788, 96), (1792, 96), (1797, 96), (1801, 96), (1805, 96), (1810, 96), (1814, 96), (1818, 96), (1822, 96), (1826, 96), (1830, 96), (1834, 96), (1838, 96), (1842, 96), (1846, 96), (1850, 96), (1854, 96), (1859, 96), (1863, 96), (1867, 96), (1871, 96), (1875, 96), (1879, 96), (1883, 96), (1887, 96), (1892, 96), (1896, 96), (1899, 96), (1903, 96), (599, 97), (862, 97), (865, 97), (897, 97), (1051, 103), (1117, 97), (1758, 97)] = true := by decide +kernel
