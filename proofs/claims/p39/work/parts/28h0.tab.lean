/-! methods -/
set_option maxRecDepth 100000 in
theorem abMa0 : abMks 0 [(108, 84), (116, 85), (122, 86), (128, 87), (159, 86), (163, 87)] = true := by decide +kernel
set_option maxRecDepth 100000 in
theorem abMa6 : abMks 6 [(262, 88), (272, 89), (287, 90), (295, 91), (300, 91), (310, 92)] = true := by decide +kernel
set_option maxRecDepth 100000 in
theorem abMa12 : abMks 12 [(439, 93), (460, 94), (497, 95), (571, 84), (575, 84), (579, 84)] = true := by decide +kernel
set_option maxRecDepth 100000 in
theorem abMa18 : abMks 18 [(583, 84), (587, 88), (591, 90), (595, 85), (603, 85), (606, 85)] = true := by decide +kernel
set_option maxRecDepth 100000 in
theorem abMa24 : abMks 24 [(609, 85), (612, 85), (617, 85), (622, 85), (677, 85), (681, 85)] = true := by decide +kernel
set_option maxRecDepth 100000 in
theorem abMa30 : abMks 30 [(685, 85), (689, 85), (694, 85), (701, 85), (708, 85), (715, 86)] = true := by decide +kernel
set_option maxRecDepth 100000 in
theorem abMa36 : abMks 36 [(719, 85), (723, 85), (728, 85), (738, 87), (742, 85), (747, 87)] = true := by decide +kernel
set_option maxRecDepth 100000 in
theorem abMa42 : abMks 42 [(751, 88), (755, 86), (762, 87), (768, 84), (772, 84), (776, 84)] = true := by decide +kernel
set_option maxRecDepth 100000 in
theorem abMa48 : abMks 48 [(780, 84), (784, 84), (793, 90), (797, 90), (801, 90), (806, 92)] = true := by decide +kernel
set_option maxRecDepth 100000 in
theorem abMa54 : abMks 54 [(810, 88), (814, 89), (818, 89), (823, 84), (826, 84), (830, 93)] = true := by decide +kernel
set_option maxRecDepth 100000 in
theorem abMa60 : abMks 60 [(834, 93), (838, 93), (842, 84), (847, 88), (851, 86), (855, 92)] = true := by decide +kernel
set_option maxRecDepth 100000 in
theorem abMa66 : abMks 66 [(859, 92), (869, 84), (873, 92), (877, 88), (882, 90), (886, 90)] = true := by decide +kernel
set_option maxRecDepth 100000 in
theorem abMa72 : abMks 72 [(890, 92), (894, 92), (901, 92), (905, 92), (910, 90), (914, 90)] = true := by decide +kernel
set_option maxRecDepth 100000 in
theorem abMa78 : abMks 78 [(918, 84), (922, 86), (927, 84), (931, 90), (935, 84), (939, 94)] = true := by decide +kernel
set_option maxRecDepth 100000 in
theorem abMa84 : abMks 84 [(943, 94), (948, 90), (953, 88), (956, 94), (960, 94), (964, 94)] = true := by decide +kernel
set_option maxRecDepth 100000 in
theorem abMa90 : abMks 90 [(969, 84), (973, 84), (978, 92), (983, 84), (987, 84), (991, 84)] = true := by decide +kernel
