/-! methods -/
set_option maxRecDepth 100000 in
theorem abMa192 : abMks 192 [(1550, 96), (1555, 96), (1562, 96), (1570, 96), (1574, 96), (1579, 96)] = true := by decide +kernel
set_option maxRecDepth 100000 in
theorem abMa198 : abMks 198 [(1589, 96), (1597, 96), (1601, 96), (1605, 96), (1609, 96), (1618, 96)] = true := by decide +kernel
set_option maxRecDepth 100000 in
theorem abMa204 : abMks 204 [(1622, 96), (1628, 96), (1631, 96), (1638, 96), (1642, 96), (1646, 96)] = true := by decide +kernel
set_option maxRecDepth 100000 in
theorem abMa210 : abMks 210 [(1650, 96), (1655, 96), (1659, 96), (1663, 96), (1667, 96), (1671, 96)] = true := by decide +kernel
set_option maxRecDepth 100000 in
theorem abMa216 : abMks 216 [(1676, 96), (1680, 96), (1684, 96), (1688, 96), (1692, 96), (1698, 96)] = true := by decide +kernel
set_option maxRecDepth 100000 in
theorem abMa222 : abMks 222 [(1702, 96), (1707, 96), (1711, 96), (1715, 96), (1719, 96), (1723, 96)] = true := by decide +kernel
set_option maxRecDepth 100000 in
theorem abMa228 : abMks 228 [(1730, 96), (1734, 96), (1738, 96), (1742, 96), (1746, 96), (1750, 96)] = true := by decide +kernel
set_option maxRecDepth 100000 in
theorem abMa234 : abMks 234 [(1762, 96), (1768, 96), (1772, 96), (1776, 96), (1780, 96), (1784, 96)] = true := by decide +kernel
set_option maxRecDepth 100000 in
theorem abMa240 : abMks 240 [(1788, 96), (1792, 96), (1797, 96), (1801, 96), (1805, 96), (1810, 96)] = true := by decide +kernel
set_option maxRecDepth 100000 in
theorem abMa246 : abMks 246 [(1814, 96), (1818, 96), (1822, 96), (1826, 96), (1830, 96), (1834, 96)] = true := by decide +kernel
set_option maxRecDepth 100000 in
theorem abMa252 : abMks 252 [(1838, 96), (1842, 96), (1846, 96), (1850, 96), (1854, 96), (1859, 96)] = true := by decide +kernel
set_option maxRecDepth 100000 in
theorem abMa258 : abMks 258 [(1863, 96), (1867, 96), (1871, 96), (1875, 96), (1879, 96), (1883, 96)] = true := by decide +kernel
set_option maxRecDepth 100000 in
theorem abMa264 : abMks 264 [(1887, 96), (1892, 96), (1896, 96), (1899, 96), (1903, 96), (599, 97)] = true := by decide +kernel
set_option maxRecDepth 100000 in
theorem abMa270 : abMks 270 [(862, 97), (865, 97), (897, 97), (1051, 103), (1117, 97), (1758, 97)] = true := by decide +kernel
