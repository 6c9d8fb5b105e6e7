def wsQ_X10_line : List Cond := .code yX10_line cX10_line 4 (some .int) :: wsV RX10 114 RX10 yX10_needSurveyor wsX10_needSurveyor
theorem hQ_X10_line_needSurveyor : GoodIn wsQ_X10_line (wsV RX10 114 RX10 yX10_needSurveyor wsX10_needSurveyor) := goodIn_sub (fun _ h => List.mem_cons_of_mem _ h) (by decide +kernel)
def wsQ_L_line : List Cond := .codeWith yL_line cL_line 4 (some .int) [(0, 9, 12, 36)] :: wsV RL 104 RX10 yX10_line wsQ_X10_line
theorem hQ_L_line_X10_line : GoodIn wsQ_L_line (wsV RL 104 RX10 yX10_line wsQ_X10_line) := goodIn_sub (fun _ h => List.mem_cons_of_mem _ h) (by decide +kernel)

set_option maxRecDepth 20000 in
theorem wsL_law_x0 : ∀ w ∈ (vx_atM "java/lang/ArrayIndexOutOfBoundsException" ["java/lang/IndexOutOfBoundsException", "java/lang/RuntimeException", "java/lang/Exception"]).filter goodWord, w ∈ lw_tbl := by decide +kernel
set_option maxRecDepth 20000 in
theorem wsL_law_x1 : ∀ w ∈ (vx_atS RX10 111 "java/lang/UnsupportedOperationException" ["java/lang/RuntimeException", "java/lang/Exception"]).filter goodWord, w ∈ lw_tbl := by decide +kernel
set_option maxRecDepth 20000 in
theorem wsL_law_x2 : ∀ w ∈ (vx_atS RX10 153 "java/lang/IllegalArgumentException" ["java/lang/RuntimeException", "java/lang/Exception"]).filter goodWord, w ∈ lw_tbl := by decide +kernel
set_option maxRecDepth 20000 in
theorem wsL_law_x3 : ∀ w ∈ (vx_atS RX10 345 "java/lang/IndexOutOfBoundsException" ["java/lang/RuntimeException", "java/lang/Exception"]).filter goodWord, w ∈ lw_tbl := by decide +kernel
set_option maxRecDepth 20000 in
theorem wsL_law_x4 : ∀ w ∈ (vx_atS RX10 162 "java/util/NoSuchElementException" ["java/lang/RuntimeException", "java/lang/Exception"]).filter goodWord, w ∈ lw_tbl := by decide +kernel
set_option maxRecDepth 20000 in
theorem wsL_law_x5 : ∀ w ∈ (vx_atS RX10 272 "java/lang/IllegalStateException" ["java/lang/RuntimeException", "java/lang/Exception"]).filter goodWord, w ∈ lw_tbl := by decide +kernel
set_option maxRecDepth 20000 in
theorem wsL_law_x6 : ∀ w ∈ (vx_atS RX10 357 "java/lang/ArithmeticException" ["java/lang/RuntimeException", "java/lang/Exception"]).filter goodWord, w ∈ lw_tbl := by decide +kernel
theorem wsL_law_x0_g : GoodIn lw_tbl ((vx_atM "java/lang/ArrayIndexOutOfBoundsException" ["java/lang/IndexOutOfBoundsException", "java/lang/RuntimeException", "java/lang/Exception"]).filter goodWord) := goodIn_sub wsL_law_x0 (by decide +kernel)
theorem wsL_law_x1_g : GoodIn lw_tbl ((vx_atS RX10 111 "java/lang/UnsupportedOperationException" ["java/lang/RuntimeException", "java/lang/Exception"]).filter goodWord) := goodIn_sub wsL_law_x1 (by decide +kernel)
theorem wsL_law_x2_g : GoodIn lw_tbl ((vx_atS RX10 153 "java/lang/IllegalArgumentException" ["java/lang/RuntimeException", "java/lang/Exception"]).filter goodWord) := goodIn_sub wsL_law_x2 (by decide +kernel)
theorem wsL_law_x3_g : GoodIn lw_tbl ((vx_atS RX10 345 "java/lang/IndexOutOfBoundsException" ["java/lang/RuntimeException", "java/lang/Exception"]).filter goodWord) := goodIn_sub wsL_law_x3 (by decide +kernel)
theorem wsL_law_x4_g : GoodIn lw_tbl ((vx_atS RX10 162 "java/util/NoSuchElementException" ["java/lang/RuntimeException", "java/lang/Exception"]).filter goodWord) := goodIn_sub wsL_law_x4 (by decide +kernel)
theorem wsL_law_x5_g : GoodIn lw_tbl ((vx_atS RX10 272 "java/lang/IllegalStateException" ["java/lang/RuntimeException", "java/lang/Exception"]).filter goodWord) := goodIn_sub wsL_law_x5 (by decide +kernel)
theorem wsL_law_x6_g : GoodIn lw_tbl ((vx_atS RX10 357 "java/lang/ArithmeticException" ["java/lang/RuntimeException", "java/lang/Exception"]).filter goodWord) := goodIn_sub wsL_law_x6 (by decide +kernel)
set_option maxRecDepth 20000 in
theorem inJ0 : ∀ w ∈ wsJ00, w ∈ lw_tbl := fun w h => (goodIn_r wsJ00 [816, 818, 1434, 1436] (by decide +kernel) (by decide +kernel) w h).1
set_option maxRecDepth 20000 in
theorem inJ4 : ∀ w ∈ wsJ40, w ∈ lw_tbl := fun w h => (goodIn_r wsJ40 [184, 186, 188, 190] (by decide +kernel) (by decide +kernel) w h).1
set_option maxRecDepth 20000 in
theorem inJx00060 : ∀ w ∈ wsJx000600, w ∈ lw_tbl := fun w h => (goodIn_r wsJx000600 [804, 805, 806, 807, 808, 809] (by decide +kernel) (by decide +kernel) w h).1
set_option maxRecDepth 20000 in
theorem inJx7c733 : ∀ w ∈ wsJx7c7330, w ∈ lw_tbl := fun w h => (goodIn_r wsJx7c7330 [1440, 1441, 1442, 1443, 1444, 1445] (by decide +kernel) (by decide +kernel) w h).1
set_option maxRecDepth 20000 in
theorem inJx4a65c : ∀ w ∈ wsJx4a65c0, w ∈ lw_tbl := fun w h => (goodIn_r wsJx4a65c0 [223, 219, 221] (by decide +kernel) (by decide +kernel) w h).1
set_option maxRecDepth 20000 in
theorem inX1 : ∀ w ∈ wsX10, w ∈ lw_tbl := fun w h => (goodIn_r wsX10 [321, 323] (by decide +kernel) (by decide +kernel) w h).1
set_option maxRecDepth 20000 in
theorem inX3 : ∀ w ∈ wsX30, w ∈ lw_tbl := fun w h => (goodIn_r wsX30 [149, 151, 153, 155, 157] (by decide +kernel) (by decide +kernel) w h).1
set_option maxRecDepth 20000 in
theorem inX4 : ∀ w ∈ wsX40, w ∈ lw_tbl := fun w h => (goodIn_r wsX40 [401, 403, 405] (by decide +kernel) (by decide +kernel) w h).1
set_option maxRecDepth 20000 in
theorem inX5 : ∀ w ∈ wsX50, w ∈ lw_tbl := fun w h => (goodIn_r wsX50 [344, 346, 348] (by decide +kernel) (by decide +kernel) w h).1
set_option maxRecDepth 20000 in
theorem inX6 : ∀ w ∈ wsX60, w ∈ lw_tbl := fun w h => (goodIn_r wsX60 [241, 243, 245, 247] (by decide +kernel) (by decide +kernel) w h).1
set_option maxRecDepth 20000 in
theorem inX7 : ∀ w ∈ wsX70, w ∈ lw_tbl := fun w h => (goodIn_r wsX70 [497, 499, 501] (by decide +kernel) (by decide +kernel) w h).1
set_option maxRecDepth 20000 in
theorem inX8 : ∀ w ∈ wsX80, w ∈ lw_tbl := fun w h => (goodIn_r wsX80 [367, 369, 371, 373, 375, 377, 379, 381, 383, 385] (by decide +kernel) (by decide +kernel) w h).1
set_option maxRecDepth 20000 in
theorem inX9 : ∀ w ∈ wsX90, w ∈ lw_tbl := fun w h => (goodIn_r wsX90 [128, 130] (by decide +kernel) (by decide +kernel) w h).1
set_option maxRecDepth 20000 in
theorem inX10 : ∀ w ∈ wsX100, w ∈ lw_tbl := fun w h => (goodIn_r wsX100 [418, 420, 422, 424, 426, 428, 430, 432, 434, 436] (by decide +kernel) (by decide +kernel) w h).1
set_option maxRecDepth 20000 in
theorem inX11 : ∀ w ∈ wsX110, w ∈ lw_tbl := fun w h => (goodIn_r wsX110 [1621, 1623, 1625, 1627, 1629, 1631, 1633, 1635, 1637, 1639, 1641, 1643, 1645, 1647, 1649, 1651, 1653, 1655, 1657, 1659, 1661, 1663, 1665, 1667, 1669] (by decide +kernel) (by decide +kernel) w h).1
theorem goodIn_cons {big a : List Cond} {c : Cond} (h : GoodIn big [c]) (ha : GoodIn big a) : GoodIn big (c :: a) := fun w hw => (List.mem_cons.mp hw).elim (fun e => h w (by rw [e]; exact List.mem_cons_self)) (ha w)
set_option maxRecDepth 20000 in
set_option maxHeartbeats 4000000 in
theorem hL_law_X10_init : GoodIn lw_tbl (wsX10_init) := (goodIn_r _ [116, 117, 118, 119, 120, 121, 73, 412, 134, 135, 74, 413, 161, 162, 78, 414, 415, 416, 417, 194, 195, 81, 326, 327, 90, 408, 409, 410, 388, 389, 92, 411, 123, 124, 125, 133, 126, 127, 137, 138, 139, 160, 142, 143, 145, 140, 146, 148, 163, 164, 165, 166, 167, 77, 168, 169, 170, 193, 179, 180, 172, 173, 80, 174, 175, 176, 177, 178, 196, 197, 198, 199, 200, 201, 84, 319, 226, 227, 85, 320, 202, 203, 204, 212, 214, 205, 206, 83, 207, 216, 208, 209, 82, 210, 211, 228, 229, 230, 231, 232, 235, 238, 240, 250, 251, 252, 253, 217, 218, 215, 254, 256, 0, 257, 258, 260, 1, 261, 262, 264, 2, 265, 317, 270, 87, 271, 318, 266, 267, 86, 268, 269, 272, 273, 274, 275, 276, 277, 88, 278, 279, 2055, 280, 304, 305, 306, 307, 308, 310, 311, 312, 313, 314, 316, 315, 89, 328, 329, 330, 331, 352, 353, 354, 332, 333, 91, 355, 357, 359, 361, 363, 365, 351, 335, 336, 337, 338, 339, 342, 390, 391, 392, 393, 394, 397, 398, 399, 396, 128, 130, 418, 420, 422, 424, 426, 428, 430, 432, 434, 436, 149, 151, 153, 155, 157, 184, 186, 188, 190, 321, 323, 367, 369, 371, 373, 375, 377, 379, 381, 383, 385, 401, 403, 405, 223, 219, 221, 241, 243, 245, 247, 344, 346, 348] (by decide +kernel) (by decide +kernel))
set_option maxRecDepth 20000 in
set_option maxHeartbeats 4000000 in
theorem hL_law_X11_init : GoodIn lw_tbl (wsX11_init) := (goodIn_r _ [1592, 1593, 118, 119, 133, 1596, 1597, 1598, 1594, 1599, 1601, 1595, 1603, 160, 1606, 1608, 1612, 1613, 1620, 1621, 1623, 1625, 1627, 1629, 1631, 1633, 1635, 1637, 1639, 1641, 1643, 1645, 1647, 1649, 1651, 1653, 1655, 1657, 1659, 1661, 1663, 1665, 1667, 1669] (by decide +kernel) (by decide +kernel))
set_option maxRecDepth 20000 in
set_option maxHeartbeats 4000000 in
theorem hL_law_L_come : GoodIn lw_tbl (va_wsS RL 134 yL_come wsL_come) := goodIn_app (goodIn_r _ [457, 458, 71] (by decide +kernel) (by decide +kernel)) (goodIn_ca (goodIn_ca (goodIn_r _ [459, 460, 461, 462, 463, 72, 464, 465, 466, 468, 3, 469, 408, 411, 470, 471, 472, 90, 473, 474, 357, 355, 476, 477, 479, 480, 75, 481, 2065, 482, 483, 484, 485, 486, 95, 487, 488, 489, 490, 118, 119, 491, 493, 495, 504, 506, 4, 507, 508, 510, 5, 511, 512, 513, 514, 515, 516, 517, 518, 519, 353, 520, 521, 522, 523, 525, 6, 526, 527, 529, 7, 530, 352, 531, 533, 8, 534, 535, 99, 417, 607, 608, 609, 92, 610, 398, 397, 399, 612, 312, 87, 313, 611, 448, 449, 450, 451, 316, 315, 89, 354, 359, 361, 363, 365, 452, 453, 454, 91, 455, 338, 339, 133, 456, 342, 613, 614, 615, 616, 617, 619, 10, 620, 621, 623, 11, 624, 351, 655, 227, 85, 625, 626, 627, 628, 629, 630, 631, 632, 633, 634, 635, 81, 636, 319, 226, 320, 637, 638, 639, 84, 640, 215, 641, 642, 643, 644, 645, 646, 100, 647, 648, 649, 101, 650, 651, 652, 653, 654, 214, 656, 229, 230, 231, 232, 235, 238, 240, 657, 658, 659, 660, 661, 250, 251, 252, 253, 217, 218, 254, 256, 0, 257, 258, 260, 1, 261, 262, 264, 2, 265, 212, 317, 270, 271, 318, 266, 267, 86, 268, 269, 272, 273, 274, 275, 276, 277, 88, 278, 279, 2055, 280, 304, 305, 306, 307, 308, 310, 311, 314, 662, 664, 12, 665, 666, 667, 668, 669, 670, 671, 672, 673, 674, 675, 676, 677, 678, 680, 681, 683, 13, 684, 689, 690, 685, 686, 687, 688, 691, 693, 14, 694, 695, 696, 697, 698, 699, 700, 701, 702, 703, 704, 705, 706, 707, 708, 87, 709, 710, 711, 712, 713, 714, 716, 15, 717, 718, 719, 720, 721, 722, 724, 16, 725, 726, 727, 728, 729, 730, 731, 732, 733, 734, 735, 736, 737, 738, 739, 740, 741, 742, 744, 17, 745, 746, 747, 418, 420, 422, 424, 426, 428, 430, 432, 434, 436, 367, 369, 371, 373, 375, 377, 379, 381, 383, 385, 344, 346, 348, 497, 499, 501, 401, 403, 405, 241, 243, 245, 247, 321, 323, 223, 219, 221] (by decide +kernel) (by decide +kernel)) wsL_law_x0_g) wsL_law_x1_g)
set_option maxRecDepth 20000 in
set_option maxHeartbeats 4000000 in
theorem hL_law_X11_come : GoodIn lw_tbl (wsV RL 139 RX11 yX11_come wsX11_come) := goodIn_app (goodIn_r _ [1676, 1677, 1678] (by decide +kernel) (by decide +kernel)) (goodIn_ca (goodIn_r _ [1679, 1680, 1682, 26, 93, 1683, 1619, 1596, 1597, 1604, 1605, 1684, 1685, 1686, 1687, 1689, 27, 1690, 1691, 1693, 28, 1694, 1614, 1615, 1616, 1695, 1697, 29, 1698, 1603, 1699, 1701, 30, 1702, 1703, 1705, 31, 1706, 1707, 1709, 32, 1710, 1711, 1713, 33, 1714, 1715, 1717, 34, 1718, 1719, 1721, 35, 1722, 1723, 1725, 36, 1726, 1727, 1729, 37, 1730, 1618, 1731, 1733, 38, 1734, 1735, 1737, 39, 1738, 1600, 1739, 1599, 1740, 1742, 40, 1743, 1744, 1746, 41, 1747, 1621, 1623, 1625, 1627, 1629, 1631, 1633, 1635, 1637, 1639, 1641, 1643, 1645, 1647, 1649, 1651, 1653, 1655, 1657, 1659, 1661, 1663, 1665, 1667, 1669] (by decide +kernel) (by decide +kernel)) wsL_law_x0_g)
set_option maxRecDepth 20000 in
set_option maxHeartbeats 4000000 in
theorem hL_law_X11_thrown : GoodIn lw_tbl (wsV RL 140 RX11 yX11_thrown wsX11_thrown) := goodIn_app (goodIn_r _ [1672, 1673, 1674] (by decide +kernel) (by decide +kernel)) (goodIn_r _ [1675, 1619, 1621, 1623, 1625, 1627, 1629, 1631, 1633, 1635, 1637, 1639, 1641, 1643, 1645, 1647, 1649, 1651, 1653, 1655, 1657, 1659, 1661, 1663, 1665, 1667, 1669] (by decide +kernel) (by decide +kernel))
set_option maxRecDepth 20000 in
set_option maxHeartbeats 4000000 in
theorem hL_law_L_canal : GoodIn lw_tbl (va_wsS RL 143 yL_canal wsL_canal) := goodIn_app (goodIn_r _ [748, 749, 71] (by decide +kernel) (by decide +kernel)) (goodIn_ca (goodIn_ca (goodIn_r _ [750, 460, 751, 752, 753, 72, 754, 755, 466, 468, 3, 469, 408, 411, 470, 471, 472, 90, 473, 474, 357, 355, 476, 477, 479, 480, 75, 481, 2065, 482, 483, 484, 485, 486, 95, 487, 488, 489, 490, 118, 119, 491, 493, 495, 504, 506, 4, 507, 508, 510, 5, 511, 512, 513, 514, 515, 516, 517, 518, 519, 353, 520, 521, 522, 523, 525, 6, 526, 527, 529, 7, 530, 352, 531, 533, 8, 534, 535, 99, 417, 607, 608, 609, 92, 610, 398, 397, 399, 612, 312, 87, 313, 611, 448, 449, 450, 451, 316, 315, 89, 354, 359, 361, 363, 365, 452, 453, 454, 91, 455, 338, 339, 133, 456, 342, 613, 614, 615, 616, 617, 619, 10, 620, 621, 623, 11, 624, 351, 655, 227, 85, 625, 626, 627, 628, 629, 630, 631, 632, 633, 634, 635, 81, 636, 319, 226, 320, 637, 638, 639, 84, 640, 215, 641, 642, 643, 644, 645, 646, 100, 647, 648, 649, 101, 650, 651, 652, 653, 654, 214, 656, 229, 230, 231, 232, 235, 238, 240, 657, 658, 659, 660, 661, 250, 251, 252, 253, 217, 218, 254, 256, 0, 257, 258, 260, 1, 261, 262, 264, 2, 265, 212, 317, 270, 271, 318, 266, 267, 86, 268, 269, 272, 273, 274, 275, 276, 277, 88, 278, 279, 2055, 280, 304, 305, 306, 307, 308, 310, 311, 314, 662, 664, 12, 665, 666, 667, 668, 669, 670, 671, 672, 673, 674, 675, 676, 677, 678, 680, 681, 683, 13, 684, 689, 690, 685, 686, 687, 688, 691, 693, 14, 694, 695, 696, 697, 698, 699, 700, 701, 702, 703, 704, 705, 706, 707, 708, 87, 709, 710, 711, 712, 713, 714, 716, 15, 717, 718, 719, 720, 721, 722, 724, 16, 725, 726, 727, 728, 729, 730, 731, 732, 733, 734, 735, 736, 737, 738, 739, 740, 741, 742, 744, 17, 745, 746, 747, 418, 420, 422, 424, 426, 428, 430, 432, 434, 436, 367, 369, 371, 373, 375, 377, 379, 381, 383, 385, 344, 346, 348, 497, 499, 501, 401, 403, 405, 241, 243, 245, 247, 321, 323, 223, 219, 221] (by decide +kernel) (by decide +kernel)) wsL_law_x0_g) wsL_law_x1_g)
set_option maxRecDepth 20000 in
set_option maxHeartbeats 4000000 in
theorem hL_law_X11_canal_ : GoodIn lw_tbl (wsV RL 146 RX11 yX11_canal_ wsX11_canal_) := goodIn_app (goodIn_r _ [1748, 1749, 1750] (by decide +kernel) (by decide +kernel)) (goodIn_ca (goodIn_r _ [1751, 1680, 1682, 26, 93, 1683, 1619, 1596, 1597, 1604, 1605, 1684, 1685, 1686, 1752, 1754, 42, 1755, 1756, 1758, 43, 1759, 1760, 1762, 44, 1763, 1764, 1765, 1766, 1691, 1693, 28, 1694, 1614, 1615, 1616, 1711, 1713, 33, 1714, 1767, 1769, 45, 1770, 1771, 312, 87, 313, 1772, 270, 271, 1715, 1717, 34, 1718, 1695, 1697, 29, 1698, 1603, 1699, 1701, 30, 1702, 1703, 1705, 31, 1706, 1707, 1709, 32, 1710, 1719, 1721, 35, 1722, 1723, 1725, 36, 1726, 1727, 1729, 37, 1730, 1618, 1731, 1733, 38, 1734, 1735, 1737, 39, 1738, 1600, 1739, 1599, 1740, 1742, 40, 1743, 1744, 1746, 41, 1747, 1621, 1623, 1625, 1627, 1629, 1631, 1633, 1635, 1637, 1639, 1641, 1643, 1645, 1647, 1649, 1651, 1653, 1655, 1657, 1659, 1661, 1663, 1665, 1667, 1669] (by decide +kernel) (by decide +kernel)) wsL_law_x0_g)
set_option maxRecDepth 20000 in
set_option maxHeartbeats 4000000 in
theorem hL_law_L_close : GoodIn lw_tbl (va_wsS RL 147 yL_close wsL_close) := goodIn_app (goodIn_r _ [757, 758, 71] (by decide +kernel) (by decide +kernel)) (goodIn_ca (goodIn_ca (goodIn_r _ [759, 460, 760, 761, 762, 72, 763, 764, 466, 468, 3, 469, 408, 411, 470, 471, 472, 90, 473, 474, 357, 355, 476, 477, 479, 480, 75, 481, 2065, 482, 483, 484, 485, 486, 95, 487, 488, 489, 490, 118, 119, 491, 493, 495, 504, 506, 4, 507, 508, 510, 5, 511, 512, 513, 514, 515, 516, 517, 518, 519, 353, 520, 521, 522, 523, 525, 6, 526, 527, 529, 7, 530, 352, 531, 533, 8, 534, 535, 99, 417, 607, 608, 609, 92, 610, 398, 397, 399, 612, 312, 87, 313, 611, 448, 449, 450, 451, 316, 315, 89, 354, 359, 361, 363, 365, 452, 453, 454, 91, 455, 338, 339, 133, 456, 342, 613, 614, 615, 616, 617, 619, 10, 620, 621, 623, 11, 624, 351, 655, 227, 85, 625, 626, 627, 628, 629, 630, 631, 632, 633, 634, 635, 81, 636, 319, 226, 320, 637, 638, 639, 84, 640, 215, 641, 642, 643, 644, 645, 646, 100, 647, 648, 649, 101, 650, 651, 652, 653, 654, 214, 656, 229, 230, 231, 232, 235, 238, 240, 657, 658, 659, 660, 661, 250, 251, 252, 253, 217, 218, 254, 256, 0, 257, 258, 260, 1, 261, 262, 264, 2, 265, 212, 317, 270, 271, 318, 266, 267, 86, 268, 269, 272, 273, 274, 275, 276, 277, 88, 278, 279, 2055, 280, 304, 305, 306, 307, 308, 310, 311, 314, 662, 664, 12, 665, 666, 667, 668, 669, 670, 671, 672, 673, 674, 675, 676, 677, 678, 680, 681, 683, 13, 684, 689, 690, 685, 686, 687, 688, 691, 693, 14, 694, 695, 696, 697, 698, 699, 700, 701, 702, 703, 704, 705, 706, 707, 708, 87, 709, 710, 711, 712, 713, 714, 716, 15, 717, 718, 719, 720, 721, 722, 724, 16, 725, 726, 727, 728, 729, 730, 731, 732, 733, 734, 735, 736, 737, 738, 739, 740, 741, 742, 744, 17, 745, 746, 747, 418, 420, 422, 424, 426, 428, 430, 432, 434, 436, 367, 369, 371, 373, 375, 377, 379, 381, 383, 385, 344, 346, 348, 497, 499, 501, 401, 403, 405, 241, 243, 245, 247, 321, 323, 223, 219, 221] (by decide +kernel) (by decide +kernel)) wsL_law_x0_g) wsL_law_x1_g)
set_option maxRecDepth 20000 in
set_option maxHeartbeats 4000000 in
theorem hL_law_X11_close : GoodIn lw_tbl (wsV RL 150 RX11 yX11_close wsX11_close) := goodIn_app (goodIn_r _ [1773, 1774, 1775] (by decide +kernel) (by decide +kernel)) (goodIn_ca (goodIn_r _ [1776, 1680, 1682, 26, 93, 1683, 1619, 1596, 1597, 1604, 1605, 1684, 1685, 1686, 1777, 1779, 46, 1780, 1756, 1758, 43, 1759, 1760, 1762, 44, 1763, 1764, 1765, 1766, 1691, 1693, 28, 1694, 1614, 1615, 1616, 1711, 1713, 33, 1714, 1767, 1769, 45, 1770, 1771, 312, 87, 313, 1772, 270, 271, 1715, 1717, 34, 1718, 1695, 1697, 29, 1698, 1603, 1699, 1701, 30, 1702, 1703, 1705, 31, 1706, 1707, 1709, 32, 1710, 1719, 1721, 35, 1722, 1723, 1725, 36, 1726, 1727, 1729, 37, 1730, 1618, 1731, 1733, 38, 1734, 1735, 1737, 39, 1738, 1600, 1739, 1599, 1740, 1742, 40, 1743, 1744, 1746, 41, 1747, 1621, 1623, 1625, 1627, 1629, 1631, 1633, 1635, 1637, 1639, 1641, 1643, 1645, 1647, 1649, 1651, 1653, 1655, 1657, 1659, 1661, 1663, 1665, 1667, 1669] (by decide +kernel) (by decide +kernel)) wsL_law_x0_g)
set_option maxRecDepth 20000 in
set_option maxHeartbeats 4000000 in
theorem hL_law_L_district : GoodIn lw_tbl (va_wsS RL 151 yL_district wsL_district) := goodIn_app (goodIn_r _ [766, 767, 71] (by decide +kernel) (by decide +kernel)) (goodIn_ca (goodIn_ca (goodIn_r _ [768, 460, 769, 770, 771, 72, 772, 773, 466, 468, 3, 469, 408, 411, 470, 471, 472, 90, 473, 474, 357, 355, 476, 477, 479, 480, 75, 481, 2065, 482, 483, 484, 485, 486, 95, 487, 488, 489, 490, 118, 119, 491, 493, 495, 504, 506, 4, 507, 508, 510, 5, 511, 512, 513, 514, 515, 516, 517, 518, 519, 353, 520, 521, 522, 523, 525, 6, 526, 527, 529, 7, 530, 352, 531, 533, 8, 534, 535, 99, 417, 607, 608, 609, 92, 610, 398, 397, 399, 612, 312, 87, 313, 611, 448, 449, 450, 451, 316, 315, 89, 354, 359, 361, 363, 365, 452, 453, 454, 91, 455, 338, 339, 133, 456, 342, 613, 614, 615, 616, 617, 619, 10, 620, 621, 623, 11, 624, 351, 655, 227, 85, 625, 626, 627, 628, 629, 630, 631, 632, 633, 634, 635, 81, 636, 319, 226, 320, 637, 638, 639, 84, 640, 215, 641, 642, 643, 644, 645, 646, 100, 647, 648, 649, 101, 650, 651, 652, 653, 654, 214, 656, 229, 230, 231, 232, 235, 238, 240, 657, 658, 659, 660, 661, 250, 251, 252, 253, 217, 218, 254, 256, 0, 257, 258, 260, 1, 261, 262, 264, 2, 265, 212, 317, 270, 271, 318, 266, 267, 86, 268, 269, 272, 273, 274, 275, 276, 277, 88, 278, 279, 2055, 280, 304, 305, 306, 307, 308, 310, 311, 314, 662, 664, 12, 665, 666, 667, 668, 669, 670, 671, 672, 673, 674, 675, 676, 677, 678, 680, 681, 683, 13, 684, 689, 690, 685, 686, 687, 688, 691, 693, 14, 694, 695, 696, 697, 698, 699, 700, 701, 702, 703, 704, 705, 706, 707, 708, 87, 709, 710, 711, 712, 713, 714, 716, 15, 717, 718, 719, 720, 721, 722, 724, 16, 725, 726, 727, 728, 729, 730, 731, 732, 733, 734, 735, 736, 737, 738, 739, 740, 741, 742, 744, 17, 745, 746, 747, 418, 420, 422, 424, 426, 428, 430, 432, 434, 436, 367, 369, 371, 373, 375, 377, 379, 381, 383, 385, 344, 346, 348, 497, 499, 501, 401, 403, 405, 241, 243, 245, 247, 321, 323, 223, 219, 221] (by decide +kernel) (by decide +kernel)) wsL_law_x0_g) wsL_law_x1_g)
set_option maxRecDepth 20000 in
set_option maxHeartbeats 4000000 in
theorem hL_law_X11_district : GoodIn lw_tbl (wsV RL 153 RX11 yX11_district wsX11_district) := goodIn_app (goodIn_r _ [1781, 1782, 1783] (by decide +kernel) (by decide +kernel)) (goodIn_ca (goodIn_r _ [1784, 1680, 1682, 26, 93, 1683, 1619, 1596, 1597, 1604, 1605, 1684, 1685, 1686, 1785, 1787, 47, 1788, 1760, 1762, 44, 1763, 1764, 1765, 1766, 1691, 1693, 28, 1694, 1614, 1615, 1616, 1715, 1717, 34, 1718, 1789, 1790, 1791, 1792, 1793, 1794, 1711, 1713, 33, 1714, 1695, 1697, 29, 1698, 1603, 1699, 1701, 30, 1702, 1703, 1705, 31, 1706, 1707, 1709, 32, 1710, 1719, 1721, 35, 1722, 1723, 1725, 36, 1726, 1727, 1729, 37, 1730, 1618, 1731, 1733, 38, 1734, 1735, 1737, 39, 1738, 1600, 1739, 1599, 1740, 1742, 40, 1743, 1744, 1746, 41, 1747, 1621, 1623, 1625, 1627, 1629, 1631, 1633, 1635, 1637, 1639, 1641, 1643, 1645, 1647, 1649, 1651, 1653, 1655, 1657, 1659, 1661, 1663, 1665, 1667, 1669] (by decide +kernel) (by decide +kernel)) wsL_law_x0_g)
set_option maxRecDepth 20000 in
set_option maxHeartbeats 4000000 in
theorem hL_law_L_lose : GoodIn lw_tbl (va_wsS RL 154 yL_lose wsL_lose) := goodIn_app (goodIn_r _ [775, 776, 71] (by decide +kernel) (by decide +kernel)) (goodIn_ca (goodIn_ca (goodIn_r _ [777, 460, 778, 779, 780, 72, 781, 782, 466, 468, 3, 469, 408, 411, 470, 471, 472, 90, 473, 474, 357, 355, 476, 477, 479, 480, 75, 481, 2065, 482, 483, 484, 485, 486, 95, 487, 488, 489, 490, 118, 119, 491, 493, 495, 504, 506, 4, 507, 508, 510, 5, 511, 512, 513, 514, 515, 516, 517, 518, 519, 353, 520, 521, 522, 523, 525, 6, 526, 527, 529, 7, 530, 352, 531, 533, 8, 534, 535, 99, 417, 607, 608, 609, 92, 610, 398, 397, 399, 612, 312, 87, 313, 611, 448, 449, 450, 451, 316, 315, 89, 354, 359, 361, 363, 365, 452, 453, 454, 91, 455, 338, 339, 133, 456, 342, 613, 614, 615, 616, 617, 619, 10, 620, 621, 623, 11, 624, 351, 655, 227, 85, 625, 626, 627, 628, 629, 630, 631, 632, 633, 634, 635, 81, 636, 319, 226, 320, 637, 638, 639, 84, 640, 215, 641, 642, 643, 644, 645, 646, 100, 647, 648, 649, 101, 650, 651, 652, 653, 654, 214, 656, 229, 230, 231, 232, 235, 238, 240, 657, 658, 659, 660, 661, 250, 251, 252, 253, 217, 218, 254, 256, 0, 257, 258, 260, 1, 261, 262, 264, 2, 265, 212, 317, 270, 271, 318, 266, 267, 86, 268, 269, 272, 273, 274, 275, 276, 277, 88, 278, 279, 2055, 280, 304, 305, 306, 307, 308, 310, 311, 314, 662, 664, 12, 665, 666, 667, 668, 669, 670, 671, 672, 673, 674, 675, 676, 677, 678, 680, 681, 683, 13, 684, 689, 690, 685, 686, 687, 688, 691, 693, 14, 694, 695, 696, 697, 698, 699, 700, 701, 702, 703, 704, 705, 706, 707, 708, 87, 709, 710, 711, 712, 713, 714, 716, 15, 717, 718, 719, 720, 721, 722, 724, 16, 725, 726, 727, 728, 729, 730, 731, 732, 733, 734, 735, 736, 737, 738, 739, 740, 741, 742, 744, 17, 745, 746, 747, 418, 420, 422, 424, 426, 428, 430, 432, 434, 436, 367, 369, 371, 373, 375, 377, 379, 381, 383, 385, 344, 346, 348, 497, 499, 501, 401, 403, 405, 241, 243, 245, 247, 321, 323, 223, 219, 221] (by decide +kernel) (by decide +kernel)) wsL_law_x0_g) wsL_law_x1_g)
set_option maxRecDepth 20000 in
set_option maxHeartbeats 4000000 in
theorem hL_law_X11_lose : GoodIn lw_tbl (wsV RL 156 RX11 yX11_lose wsX11_lose) := goodIn_app (goodIn_r _ [1795, 1796, 1797] (by decide +kernel) (by decide +kernel)) (goodIn_ca (goodIn_r _ [1798, 1680, 1682, 26, 93, 1683, 1619, 1596, 1597, 1604, 1605, 1684, 1685, 1686, 1799, 1801, 48, 1802, 1691, 1693, 28, 1694, 1614, 1615, 1616, 1703, 1705, 31, 1706, 1603, 1803, 1805, 49, 1806, 1727, 1729, 37, 1730, 1618, 1731, 1733, 38, 1734, 1735, 1737, 39, 1738, 1600, 1739, 1599, 1740, 1742, 40, 1743, 1744, 1746, 41, 1747, 1621, 1623, 1625, 1627, 1629, 1631, 1633, 1635, 1637, 1639, 1641, 1643, 1645, 1647, 1649, 1651, 1653, 1655, 1657, 1659, 1661, 1663, 1665, 1667, 1669] (by decide +kernel) (by decide +kernel)) wsL_law_x0_g)
set_option maxRecDepth 20000 in
set_option maxHeartbeats 4000000 in
theorem hL_law_L_pass : GoodIn lw_tbl (va_wsS RL 157 yL_pass wsL_pass) := goodIn_app (goodIn_r _ [784, 785, 71] (by decide +kernel) (by decide +kernel)) (goodIn_ca (goodIn_ca (goodIn_r _ [786, 460, 787, 788, 789, 72, 790, 791, 466, 468, 3, 469, 408, 411, 470, 471, 472, 90, 473, 474, 357, 355, 476, 477, 479, 480, 75, 481, 2065, 482, 483, 484, 485, 486, 95, 487, 488, 489, 490, 118, 119, 491, 493, 495, 504, 506, 4, 507, 508, 510, 5, 511, 512, 513, 514, 515, 516, 517, 518, 519, 353, 520, 521, 522, 523, 525, 6, 526, 527, 529, 7, 530, 352, 531, 533, 8, 534, 535, 99, 417, 607, 608, 609, 92, 610, 398, 397, 399, 612, 312, 87, 313, 611, 448, 449, 450, 451, 316, 315, 89, 354, 359, 361, 363, 365, 452, 453, 454, 91, 455, 338, 339, 133, 456, 342, 613, 614, 615, 616, 617, 619, 10, 620, 621, 623, 11, 624, 351, 655, 227, 85, 625, 626, 627, 628, 629, 630, 631, 632, 633, 634, 635, 81, 636, 319, 226, 320, 637, 638, 639, 84, 640, 215, 641, 642, 643, 644, 645, 646, 100, 647, 648, 649, 101, 650, 651, 652, 653, 654, 214, 656, 229, 230, 231, 232, 235, 238, 240, 657, 658, 659, 660, 661, 250, 251, 252, 253, 217, 218, 254, 256, 0, 257, 258, 260, 1, 261, 262, 264, 2, 265, 212, 317, 270, 271, 318, 266, 267, 86, 268, 269, 272, 273, 274, 275, 276, 277, 88, 278, 279, 2055, 280, 304, 305, 306, 307, 308, 310, 311, 314, 662, 664, 12, 665, 666, 667, 668, 669, 670, 671, 672, 673, 674, 675, 676, 677, 678, 680, 681, 683, 13, 684, 689, 690, 685, 686, 687, 688, 691, 693, 14, 694, 695, 696, 697, 698, 699, 700, 701, 702, 703, 704, 705, 706, 707, 708, 87, 709, 710, 711, 712, 713, 714, 716, 15, 717, 718, 719, 720, 721, 722, 724, 16, 725, 726, 727, 728, 729, 730, 731, 732, 733, 734, 735, 736, 737, 738, 739, 740, 741, 742, 744, 17, 745, 746, 747, 418, 420, 422, 424, 426, 428, 430, 432, 434, 436, 367, 369, 371, 373, 375, 377, 379, 381, 383, 385, 344, 346, 348, 497, 499, 501, 401, 403, 405, 241, 243, 245, 247, 321, 323, 223, 219, 221] (by decide +kernel) (by decide +kernel)) wsL_law_x0_g) wsL_law_x1_g)
set_option maxRecDepth 20000 in
set_option maxHeartbeats 4000000 in
theorem hL_law_X11_pass : GoodIn lw_tbl (wsV RL 160 RX11 yX11_pass wsX11_pass) := goodIn_app (goodIn_r _ [1807, 1808, 1809] (by decide +kernel) (by decide +kernel)) (goodIn_ca (goodIn_r _ [1810, 1680, 1682, 26, 93, 1683, 1619, 1596, 1597, 1604, 1605, 1684, 1685, 1686, 1811, 1813, 50, 1814, 1764, 1765, 1766, 1691, 1693, 28, 1694, 1614, 1615, 1616, 1815, 1817, 51, 1818, 1699, 1701, 30, 1702, 1819, 1821, 52, 1822, 1703, 1705, 31, 1706, 1603, 1695, 1697, 29, 1698, 1707, 1709, 32, 1710, 1711, 1713, 33, 1714, 1715, 1717, 34, 1718, 1719, 1721, 35, 1722, 1723, 1725, 36, 1726, 1823, 1825, 53, 1826, 1789, 1790, 1791, 1792, 1793, 1794, 1803, 1805, 49, 1806, 1727, 1729, 37, 1730, 1618, 1731, 1733, 38, 1734, 1735, 1737, 39, 1738, 1600, 1739, 1599, 1740, 1742, 40, 1743, 1744, 1746, 41, 1747, 1621, 1623, 1625, 1627, 1629, 1631, 1633, 1635, 1637, 1639, 1641, 1643, 1645, 1647, 1649, 1651, 1653, 1655, 1657, 1659, 1661, 1663, 1665, 1667, 1669] (by decide +kernel) (by decide +kernel)) wsL_law_x0_g)
set_option maxRecDepth 20000 in
set_option maxHeartbeats 4000000 in
theorem hL_law_L_surveyorOf : GoodIn lw_tbl (va_wsS RL 161 yL_surveyorOf wsL_surveyorOf) := goodIn_app (goodIn_r _ [793, 794, 71] (by decide +kernel) (by decide +kernel)) (goodIn_ca (goodIn_ca (goodIn_ca (goodIn_r _ [795, 796, 821, 822, 823, 72, 824, 865, 104, 408, 825, 827, 18, 828, 830, 102, 829, 513, 514, 90, 515, 357, 843, 686, 687, 688, 352, 512, 844, 630, 631, 632, 351, 354, 520, 521, 522, 633, 634, 635, 81, 636, 319, 226, 320, 637, 638, 639, 84, 640, 215, 641, 642, 643, 644, 645, 646, 100, 647, 648, 649, 101, 650, 651, 652, 653, 654, 214, 845, 846, 847, 848, 625, 626, 627, 628, 353, 849, 850, 851, 852, 516, 517, 518, 519, 853, 854, 855, 856, 629, 857, 858, 859, 85, 860, 235, 861, 862, 863, 91, 864, 339, 710, 711, 712, 713, 338, 703, 704, 705, 706, 707, 708, 87, 709, 418, 420, 422, 424, 426, 428, 430, 432, 434, 436, 241, 243, 245, 247, 367, 369, 371, 373, 375, 377, 379, 381, 383, 385, 321, 323, 223, 219, 221, 344, 346, 348] (by decide +kernel) (by decide +kernel)) wsL_law_x0_g) wsL_law_x2_g) wsL_law_x3_g)
set_option maxRecDepth 20000 in
set_option maxHeartbeats 4000000 in
theorem hL_law_X11_surveyorOf : GoodIn lw_tbl (wsV RL 163 RX11 yX11_surveyorOf wsX11_surveyorOf) := goodIn_app (goodIn_r _ [1827, 1828, 1829] (by decide +kernel) (by decide +kernel)) (goodIn_ca (goodIn_r _ [1830, 1619, 1596, 1760, 1762, 44, 93, 1763, 1764, 1765, 1766, 1744, 1746, 41, 1747, 1715, 1717, 34, 1718, 1831, 1833, 54, 1834, 1699, 1701, 30, 1702, 1703, 1705, 31, 1706, 1603, 1835, 1837, 55, 1838, 1707, 1709, 32, 1710, 1711, 1713, 33, 1714, 1839, 1841, 56, 1842, 1792, 1793, 1794, 1621, 1623, 1625, 1627, 1629, 1631, 1633, 1635, 1637, 1639, 1641, 1643, 1645, 1647, 1649, 1651, 1653, 1655, 1657, 1659, 1661, 1663, 1665, 1667, 1669] (by decide +kernel) (by decide +kernel)) wsL_law_x0_g)
set_option maxRecDepth 20000 in
set_option maxHeartbeats 4000000 in
theorem hL_law_L_cost : GoodIn lw_tbl (va_wsS RL 164 yL_cost wsL_cost) := goodIn_app (goodIn_r _ [881, 882, 71] (by decide +kernel) (by decide +kernel)) (goodIn_ca (goodIn_ca (goodIn_ca (goodIn_r _ [883, 796, 885, 886, 887, 72, 888, 890, 105, 408, 825, 827, 18, 828, 830, 102, 829, 513, 514, 90, 515, 357, 889, 517, 518, 519, 353, 520, 521, 522, 418, 420, 422, 424, 426, 428, 430, 432, 434, 436, 367, 369, 371, 373, 375, 377, 379, 381, 383, 385] (by decide +kernel) (by decide +kernel)) wsL_law_x0_g) wsL_law_x4_g) wsL_law_x3_g)
set_option maxRecDepth 20000 in
set_option maxHeartbeats 4000000 in
theorem hL_law_X11_cost : GoodIn lw_tbl (wsV RL 166 RX11 yX11_cost wsX11_cost) := goodIn_app (goodIn_r _ [1843, 1844, 1845] (by decide +kernel) (by decide +kernel)) (goodIn_ca (goodIn_r _ [1846, 1619, 1760, 1762, 44, 93, 1763, 1596, 1764, 1765, 1766, 1744, 1746, 41, 1747, 1711, 1713, 33, 1714, 1621, 1623, 1625, 1627, 1629, 1631, 1633, 1635, 1637, 1639, 1641, 1643, 1645, 1647, 1649, 1651, 1653, 1655, 1657, 1659, 1661, 1663, 1665, 1667, 1669] (by decide +kernel) (by decide +kernel)) wsL_law_x0_g)
set_option maxRecDepth 20000 in
set_option maxHeartbeats 4000000 in
theorem hL_law_L_page : GoodIn lw_tbl (va_wsS RL 167 yL_page wsL_page) := goodIn_app (goodIn_r _ [906, 907, 71] (by decide +kernel) (by decide +kernel)) (goodIn_ca (goodIn_ca (goodIn_ca (goodIn_ca (goodIn_r _ [908, 796, 909, 910, 911, 72, 912, 865, 104, 890, 105, 408, 825, 827, 18, 828, 830, 102, 829, 513, 514, 90, 515, 357, 844, 630, 631, 632, 351, 354, 520, 521, 522, 633, 634, 635, 81, 636, 319, 226, 320, 637, 638, 639, 84, 640, 215, 641, 642, 643, 644, 645, 646, 100, 647, 648, 649, 101, 650, 651, 652, 653, 654, 214, 914, 858, 859, 85, 860, 235, 916, 719, 720, 721, 359, 917, 918, 919, 920, 240, 418, 420, 422, 424, 426, 428, 430, 432, 434, 436, 241, 243, 245, 247, 367, 369, 371, 373, 375, 377, 379, 381, 383, 385, 321, 323, 223, 219, 221] (by decide +kernel) (by decide +kernel)) wsL_law_x0_g) wsL_law_x2_g) wsL_law_x4_g) wsL_law_x3_g)
set_option maxRecDepth 20000 in
set_option maxHeartbeats 4000000 in
theorem hL_law_X11_page : GoodIn lw_tbl (wsV RL 169 RX11 yX11_page wsX11_page) := goodIn_app (goodIn_r _ [1847, 1848, 1849] (by decide +kernel) (by decide +kernel)) (goodIn_ca (goodIn_r _ [1850, 1619, 1760, 1762, 44, 93, 1763, 1596, 1764, 1765, 1766, 1744, 1746, 41, 1747, 1699, 1701, 30, 1702, 1703, 1705, 31, 1706, 1603, 1819, 1821, 52, 1822, 1851, 1853, 57, 1854, 1855, 1857, 58, 1858, 1621, 1623, 1625, 1627, 1629, 1631, 1633, 1635, 1637, 1639, 1641, 1643, 1645, 1647, 1649, 1651, 1653, 1655, 1657, 1659, 1661, 1663, 1665, 1667, 1669] (by decide +kernel) (by decide +kernel)) wsL_law_x0_g)
set_option maxRecDepth 20000 in
set_option maxHeartbeats 4000000 in
theorem hL_law_L_told : GoodIn lw_tbl (va_wsS RL 170 yL_told wsL_told) := goodIn_app (goodIn_r _ [921, 922, 71] (by decide +kernel) (by decide +kernel)) (goodIn_ca (goodIn_ca (goodIn_ca (goodIn_r _ [923, 796, 924, 925, 926, 72, 927, 890, 105, 408, 825, 827, 18, 828, 830, 102, 829, 513, 514, 90, 515, 357, 844, 630, 631, 632, 351, 354, 520, 521, 522, 633, 634, 635, 81, 636, 319, 226, 320, 637, 638, 639, 84, 640, 215, 641, 642, 643, 644, 645, 646, 100, 647, 648, 649, 101, 650, 651, 652, 653, 654, 214, 928, 929, 930, 85, 931, 240, 418, 420, 422, 424, 426, 428, 430, 432, 434, 436, 367, 369, 371, 373, 375, 377, 379, 381, 383, 385, 321, 323, 223, 219, 221, 241, 243, 245, 247] (by decide +kernel) (by decide +kernel)) wsL_law_x0_g) wsL_law_x4_g) wsL_law_x3_g)
set_option maxRecDepth 20000 in
set_option maxHeartbeats 4000000 in
theorem hL_law_X11_told : GoodIn lw_tbl (wsV RL 172 RX11 yX11_told wsX11_told) := goodIn_app (goodIn_r _ [1859, 1860, 1861] (by decide +kernel) (by decide +kernel)) (goodIn_ca (goodIn_r _ [1862, 1619, 1760, 1762, 44, 93, 1763, 1596, 1764, 1765, 1766, 1744, 1746, 41, 1747, 1699, 1701, 30, 1702, 1855, 1857, 58, 1858, 1703, 1705, 31, 1706, 1603, 1621, 1623, 1625, 1627, 1629, 1631, 1633, 1635, 1637, 1639, 1641, 1643, 1645, 1647, 1649, 1651, 1653, 1655, 1657, 1659, 1661, 1663, 1665, 1667, 1669] (by decide +kernel) (by decide +kernel)) wsL_law_x0_g)
set_option maxRecDepth 20000 in
set_option maxHeartbeats 4000000 in
theorem hL_law_L_letter : GoodIn lw_tbl (va_wsS RL 173 yL_letter wsL_letter) := goodIn_app (goodIn_r _ [933, 934, 71] (by decide +kernel) (by decide +kernel)) (goodIn_ca (goodIn_ca (goodIn_ca (goodIn_r _ [935, 820, 936, 937, 938, 72, 939, 865, 104, 890, 105, 408, 941, 704, 705, 91, 706, 339, 943, 700, 701, 702, 338, 703, 707, 708, 87, 709, 944, 711, 712, 713, 945, 727, 728, 90, 729, 351, 355, 730, 731, 732, 733, 633, 634, 635, 81, 636, 319, 226, 320, 637, 638, 639, 84, 640, 215, 641, 642, 643, 644, 645, 646, 100, 647, 648, 649, 101, 650, 651, 652, 653, 654, 214, 418, 420, 422, 424, 426, 428, 430, 432, 434, 436, 367, 369, 371, 373, 375, 377, 379, 381, 383, 385, 241, 243, 245, 247, 344, 346, 348, 321, 323, 223, 219, 221] (by decide +kernel) (by decide +kernel)) wsL_law_x0_g) wsL_law_x2_g) wsL_law_x4_g)
set_option maxRecDepth 20000 in
set_option maxHeartbeats 4000000 in
theorem hL_law_X11_letter : GoodIn lw_tbl (wsV RL 175 RX11 yX11_letter wsX11_letter) := goodIn_app (goodIn_r _ [1863, 1864, 1865] (by decide +kernel) (by decide +kernel)) (goodIn_ca (goodIn_r _ [1866, 1619, 1596, 1764, 1765, 93, 1766, 1744, 1746, 41, 1747, 1789, 1790, 1791, 1792, 1793, 1794, 1703, 1705, 31, 1706, 1603, 1621, 1623, 1625, 1627, 1629, 1631, 1633, 1635, 1637, 1639, 1641, 1643, 1645, 1647, 1649, 1651, 1653, 1655, 1657, 1659, 1661, 1663, 1665, 1667, 1669] (by decide +kernel) (by decide +kernel)) wsL_law_x0_g)
set_option maxRecDepth 20000 in
set_option maxHeartbeats 4000000 in
theorem hL_law_L_distance : GoodIn lw_tbl (va_wsS RL 176 yL_distance wsL_distance) := goodIn_app (goodIn_r _ [946, 947, 71] (by decide +kernel) (by decide +kernel)) (goodIn_ca (goodIn_ca (goodIn_ca (goodIn_r _ [948, 796, 949, 950, 951, 72, 952, 412, 408, 825, 827, 18, 828, 830, 102, 829, 513, 514, 90, 515, 357, 953, 954, 955, 73, 956, 126, 957, 630, 631, 632, 351, 354, 520, 521, 522, 633, 634, 635, 81, 636, 319, 226, 320, 637, 638, 639, 84, 640, 215, 641, 642, 643, 644, 645, 646, 100, 647, 648, 649, 101, 650, 651, 652, 653, 654, 214, 958, 929, 930, 85, 931, 240, 959, 960, 961, 962, 963, 965, 19, 966, 127, 967, 968, 969, 88, 970, 971, 973, 20, 974, 975, 977, 21, 978, 979, 980, 981, 982, 983, 984, 985, 890, 105, 986, 418, 420, 422, 424, 426, 428, 430, 432, 434, 436, 367, 369, 371, 373, 375, 377, 379, 381, 383, 385, 128, 130, 321, 323, 223, 219, 221, 241, 243, 245, 247] (by decide +kernel) (by decide +kernel)) wsL_law_x0_g) wsL_law_x3_g) wsL_law_x4_g)
set_option maxRecDepth 20000 in
set_option maxHeartbeats 4000000 in
theorem hL_law_X11_distance : GoodIn lw_tbl (wsV RL 178 RX11 yX11_distance wsX11_distance) := goodIn_app (goodIn_r _ [1867, 1868, 1869] (by decide +kernel) (by decide +kernel)) (goodIn_ca (goodIn_r _ [1870, 1871, 1873, 59, 93, 1874, 1619, 1620, 1879, 1760, 1762, 44, 1763, 1596, 1764, 1765, 1766, 1744, 1746, 41, 1747, 1875, 1877, 60, 1878, 1771, 312, 87, 313, 1880, 1882, 61, 1883, 1707, 1709, 32, 1710, 1711, 1713, 33, 1714, 1715, 1717, 34, 1718, 1699, 1701, 30, 1702, 1855, 1857, 58, 1858, 1703, 1705, 31, 1706, 1603, 1621, 1623, 1625, 1627, 1629, 1631, 1633, 1635, 1637, 1639, 1641, 1643, 1645, 1647, 1649, 1651, 1653, 1655, 1657, 1659, 1661, 1663, 1665, 1667, 1669] (by decide +kernel) (by decide +kernel)) wsL_law_x0_g)
set_option maxRecDepth 20000 in
set_option maxHeartbeats 4000000 in
theorem hL_law_L_distanceAgain : GoodIn lw_tbl (va_wsS RL 179 yL_distanceAgain wsL_distanceAgain) := goodIn_app (goodIn_r _ [988, 989, 71] (by decide +kernel) (by decide +kernel)) (goodIn_ca (goodIn_ca (goodIn_ca (goodIn_r _ [990, 796, 991, 992, 993, 72, 994, 412, 408, 825, 827, 18, 828, 830, 102, 829, 513, 514, 90, 515, 357, 953, 954, 955, 73, 956, 126, 957, 630, 631, 632, 351, 354, 520, 521, 522, 633, 634, 635, 81, 636, 319, 226, 320, 637, 638, 639, 84, 640, 215, 641, 642, 643, 644, 645, 646, 100, 647, 648, 649, 101, 650, 651, 652, 653, 654, 214, 958, 929, 930, 85, 931, 240, 995, 996, 997, 998, 963, 965, 19, 966, 127, 967, 968, 969, 88, 970, 975, 977, 21, 978, 979, 980, 981, 982, 983, 984, 985, 890, 105, 986, 418, 420, 422, 424, 426, 428, 430, 432, 434, 436, 367, 369, 371, 373, 375, 377, 379, 381, 383, 385, 128, 130, 321, 323, 223, 219, 221, 241, 243, 245, 247] (by decide +kernel) (by decide +kernel)) wsL_law_x0_g) wsL_law_x3_g) wsL_law_x4_g)
set_option maxRecDepth 20000 in
set_option maxHeartbeats 4000000 in
theorem hL_law_X11_distanceAgain : GoodIn lw_tbl (wsV RL 181 RX11 yX11_distanceAgain wsX11_distanceAgain) := goodIn_app (goodIn_r _ [1884, 1885, 1886] (by decide +kernel) (by decide +kernel)) (goodIn_ca (goodIn_r _ [1887, 1888, 1868, 1869, 93, 1870, 1871, 1873, 59, 1874, 1619, 1620, 1879, 1760, 1762, 44, 1763, 1596, 1764, 1765, 1766, 1744, 1746, 41, 1747, 1875, 1877, 60, 1878, 1771, 312, 87, 313, 1880, 1882, 61, 1883, 1707, 1709, 32, 1710, 1711, 1713, 33, 1714, 1715, 1717, 34, 1718, 1699, 1701, 30, 1702, 1855, 1857, 58, 1858, 1703, 1705, 31, 1706, 1603, 1621, 1623, 1625, 1627, 1629, 1631, 1633, 1635, 1637, 1639, 1641, 1643, 1645, 1647, 1649, 1651, 1653, 1655, 1657, 1659, 1661, 1663, 1665, 1667, 1669] (by decide +kernel) (by decide +kernel)) wsL_law_x0_g)
set_option maxRecDepth 20000 in
set_option maxHeartbeats 4000000 in
theorem hL_law_L_next : GoodIn lw_tbl (va_wsS RL 182 yL_next wsL_next) := goodIn_app (goodIn_r _ [999, 1000, 71] (by decide +kernel) (by decide +kernel)) (goodIn_ca (goodIn_ca (goodIn_ca (goodIn_r _ [1001, 796, 1002, 1003, 1004, 72, 1005, 890, 105, 825, 827, 18, 828, 830, 102, 408, 829, 513, 514, 90, 515, 357, 1006, 1008, 22, 1009, 412, 953, 954, 955, 73, 956, 126, 957, 630, 631, 632, 351, 354, 520, 521, 522, 633, 634, 635, 81, 636, 319, 226, 320, 637, 638, 639, 84, 640, 215, 641, 642, 643, 644, 645, 646, 100, 647, 648, 649, 101, 650, 651, 652, 653, 654, 214, 958, 929, 930, 85, 931, 240, 1010, 1011, 1012, 1013, 967, 1014, 960, 961, 962, 963, 965, 19, 966, 127, 968, 969, 88, 970, 971, 973, 20, 974, 975, 977, 21, 978, 1015, 980, 981, 982, 418, 420, 422, 424, 426, 428, 430, 432, 434, 436, 367, 369, 371, 373, 375, 377, 379, 381, 383, 385, 128, 130, 321, 323, 223, 219, 221, 241, 243, 245, 247] (by decide +kernel) (by decide +kernel)) wsL_law_x0_g) wsL_law_x4_g) wsL_law_x3_g)
set_option maxRecDepth 20000 in
set_option maxHeartbeats 4000000 in
theorem hL_law_X11_next : GoodIn lw_tbl (wsV RL 184 RX11 yX11_next wsX11_next) := goodIn_app (goodIn_r _ [1889, 1890, 1891] (by decide +kernel) (by decide +kernel)) (goodIn_ca (goodIn_r _ [1892, 1619, 1760, 1762, 44, 93, 1763, 1596, 1764, 1765, 1766, 1744, 1746, 41, 1747, 1893, 1895, 62, 1896, 1620, 1879, 1875, 1877, 60, 1878, 1771, 312, 87, 313, 1880, 1882, 61, 1883, 1707, 1709, 32, 1710, 1711, 1713, 33, 1714, 1715, 1717, 34, 1718, 1699, 1701, 30, 1702, 1855, 1857, 58, 1858, 1703, 1705, 31, 1706, 1603, 1621, 1623, 1625, 1627, 1629, 1631, 1633, 1635, 1637, 1639, 1641, 1643, 1645, 1647, 1649, 1651, 1653, 1655, 1657, 1659, 1661, 1663, 1665, 1667, 1669] (by decide +kernel) (by decide +kernel)) wsL_law_x0_g)
set_option maxRecDepth 20000 in
set_option maxHeartbeats 4000000 in
theorem hL_law_L_reached : GoodIn lw_tbl (va_wsS RL 185 yL_reached wsL_reached) := goodIn_app (goodIn_r _ [1017, 1018, 71] (by decide +kernel) (by decide +kernel)) (goodIn_ca (goodIn_ca (goodIn_r _ [1019, 796, 1020, 1021, 1022, 72, 1023, 412, 408, 986, 825, 827, 18, 828, 830, 102, 829, 513, 514, 90, 515, 357, 953, 954, 955, 73, 956, 126, 957, 630, 631, 632, 351, 354, 520, 521, 522, 633, 634, 635, 81, 636, 319, 226, 320, 637, 638, 639, 84, 640, 215, 641, 642, 643, 644, 645, 646, 100, 647, 648, 649, 101, 650, 651, 652, 653, 654, 214, 958, 929, 930, 85, 931, 240, 959, 960, 961, 962, 963, 965, 19, 966, 127, 967, 968, 969, 88, 970, 971, 973, 20, 974, 975, 977, 21, 978, 979, 980, 981, 982, 418, 420, 422, 424, 426, 428, 430, 432, 434, 436, 367, 369, 371, 373, 375, 377, 379, 381, 383, 385, 128, 130, 321, 323, 223, 219, 221, 241, 243, 245, 247] (by decide +kernel) (by decide +kernel)) wsL_law_x0_g) wsL_law_x3_g)
set_option maxRecDepth 20000 in
set_option maxHeartbeats 4000000 in
theorem hL_law_X11_reached : GoodIn lw_tbl (wsV RL 187 RX11 yX11_reached wsX11_reached) := goodIn_app (goodIn_r _ [1897, 1898, 1899] (by decide +kernel) (by decide +kernel)) (goodIn_ca (goodIn_r _ [1900, 1619, 1596, 1620, 1879, 1760, 1762, 44, 93, 1763, 1764, 1765, 1766, 1744, 1746, 41, 1747, 1875, 1877, 60, 1878, 1771, 312, 87, 313, 1880, 1882, 61, 1883, 1707, 1709, 32, 1710, 1711, 1713, 33, 1714, 1715, 1717, 34, 1718, 1699, 1701, 30, 1702, 1855, 1857, 58, 1858, 1703, 1705, 31, 1706, 1603, 1621, 1623, 1625, 1627, 1629, 1631, 1633, 1635, 1637, 1639, 1641, 1643, 1645, 1647, 1649, 1651, 1653, 1655, 1657, 1659, 1661, 1663, 1665, 1667, 1669] (by decide +kernel) (by decide +kernel)) wsL_law_x0_g)
set_option maxRecDepth 20000 in
set_option maxHeartbeats 4000000 in
theorem hL_law_L_follow : GoodIn lw_tbl (va_wsS RL 188 yL_follow wsL_follow) := goodIn_app (goodIn_r _ [1024, 1025, 71] (by decide +kernel) (by decide +kernel)) (goodIn_ca (goodIn_ca (goodIn_ca (goodIn_r _ [1026, 796, 1027, 1028, 1029, 72, 1030, 890, 105, 408, 825, 827, 18, 828, 830, 102, 829, 513, 514, 90, 515, 357, 1006, 1008, 22, 1009, 412, 953, 954, 955, 73, 956, 126, 957, 630, 631, 632, 351, 354, 520, 521, 522, 633, 634, 635, 81, 636, 319, 226, 320, 637, 638, 639, 84, 640, 215, 641, 642, 643, 644, 645, 646, 100, 647, 648, 649, 101, 650, 651, 652, 653, 654, 214, 958, 929, 930, 85, 931, 240, 1010, 1011, 1012, 1013, 967, 1014, 960, 961, 962, 963, 965, 19, 966, 127, 968, 969, 88, 970, 971, 973, 20, 974, 975, 977, 21, 978, 1015, 980, 981, 982, 889, 517, 518, 519, 353, 418, 420, 422, 424, 426, 428, 430, 432, 434, 436, 367, 369, 371, 373, 375, 377, 379, 381, 383, 385, 128, 130, 321, 323, 223, 219, 221, 241, 243, 245, 247] (by decide +kernel) (by decide +kernel)) wsL_law_x0_g) wsL_law_x4_g) wsL_law_x3_g)
set_option maxRecDepth 20000 in
set_option maxHeartbeats 4000000 in
theorem hL_law_X11_follow : GoodIn lw_tbl (wsV RL 190 RX11 yX11_follow wsX11_follow) := goodIn_app (goodIn_r _ [1901, 1902, 1903] (by decide +kernel) (by decide +kernel)) (goodIn_ca (goodIn_r _ [1904, 1619, 1760, 1762, 44, 93, 1763, 1596, 1764, 1765, 1766, 1744, 1746, 41, 1747, 1893, 1895, 62, 1896, 1620, 1879, 1875, 1877, 60, 1878, 1771, 312, 87, 313, 1880, 1882, 61, 1883, 1707, 1709, 32, 1710, 1711, 1713, 33, 1714, 1715, 1717, 34, 1718, 1699, 1701, 30, 1702, 1855, 1857, 58, 1858, 1703, 1705, 31, 1706, 1603, 1621, 1623, 1625, 1627, 1629, 1631, 1633, 1635, 1637, 1639, 1641, 1643, 1645, 1647, 1649, 1651, 1653, 1655, 1657, 1659, 1661, 1663, 1665, 1667, 1669] (by decide +kernel) (by decide +kernel)) wsL_law_x0_g)
set_option maxRecDepth 20000 in
set_option maxHeartbeats 4000000 in
theorem hL_law_L_real : GoodIn lw_tbl (va_wsS RL 191 yL_real wsL_real) := goodIn_app (goodIn_r _ [1032, 1033, 71] (by decide +kernel) (by decide +kernel)) (goodIn_ca (goodIn_ca (goodIn_ca (goodIn_r _ [1034, 796, 1035, 1036, 1037, 72, 1038, 412, 408, 825, 827, 18, 828, 830, 102, 829, 513, 514, 90, 515, 357, 1039, 1040, 1041, 73, 1042, 126, 1043, 626, 627, 628, 353, 352, 512, 520, 521, 522, 1044, 517, 518, 519, 959, 960, 961, 962, 963, 965, 19, 966, 127, 967, 968, 969, 88, 970, 971, 973, 20, 974, 975, 977, 21, 978, 979, 980, 981, 982, 983, 984, 985, 890, 105, 986, 418, 420, 422, 424, 426, 428, 430, 432, 434, 436, 367, 369, 371, 373, 375, 377, 379, 381, 383, 385, 128, 130] (by decide +kernel) (by decide +kernel)) wsL_law_x0_g) wsL_law_x3_g) wsL_law_x4_g)
set_option maxRecDepth 20000 in
set_option maxHeartbeats 4000000 in
theorem hL_law_X11_real : GoodIn lw_tbl (wsV RL 193 RX11 yX11_real wsX11_real) := goodIn_app (goodIn_r _ [1905, 1906, 1907] (by decide +kernel) (by decide +kernel)) (goodIn_ca (goodIn_r _ [1908, 1871, 1873, 59, 93, 1874, 1619, 1620, 1879, 1760, 1762, 44, 1763, 1596, 1764, 1765, 1766, 1744, 1746, 41, 1747, 1875, 1877, 60, 1878, 1771, 312, 87, 313, 1880, 1882, 61, 1883, 1707, 1709, 32, 1710, 1711, 1713, 33, 1714, 1715, 1717, 34, 1718, 1699, 1701, 30, 1702, 1855, 1857, 58, 1858, 1703, 1705, 31, 1706, 1603, 1621, 1623, 1625, 1627, 1629, 1631, 1633, 1635, 1637, 1639, 1641, 1643, 1645, 1647, 1649, 1651, 1653, 1655, 1657, 1659, 1661, 1663, 1665, 1667, 1669] (by decide +kernel) (by decide +kernel)) wsL_law_x0_g)
set_option maxRecDepth 20000 in
set_option maxHeartbeats 4000000 in
theorem hL_law_L_isRight : GoodIn lw_tbl (va_wsS RL 194 yL_isRight wsL_isRight) := goodIn_app (goodIn_r _ [1045, 1046, 71] (by decide +kernel) (by decide +kernel)) (goodIn_ca (goodIn_ca (goodIn_r _ [1047, 796, 1048, 1049, 1050, 72, 1051, 133, 412, 408, 825, 827, 18, 828, 830, 102, 829, 513, 514, 90, 515, 357, 953, 954, 955, 73, 956, 126, 957, 630, 631, 632, 351, 354, 520, 521, 522, 633, 634, 635, 81, 636, 319, 226, 320, 637, 638, 639, 84, 640, 215, 641, 642, 643, 644, 645, 646, 100, 647, 648, 649, 101, 650, 651, 652, 653, 654, 214, 958, 929, 930, 85, 931, 240, 959, 960, 961, 962, 963, 965, 19, 966, 127, 967, 968, 969, 88, 970, 971, 973, 20, 974, 975, 977, 21, 978, 979, 980, 981, 982, 1039, 1040, 1041, 1042, 1043, 626, 627, 628, 353, 352, 512, 1044, 517, 518, 519, 418, 420, 422, 424, 426, 428, 430, 432, 434, 436, 367, 369, 371, 373, 375, 377, 379, 381, 383, 385, 128, 130, 321, 323, 223, 219, 221, 241, 243, 245, 247] (by decide +kernel) (by decide +kernel)) wsL_law_x0_g) wsL_law_x3_g)
set_option maxRecDepth 20000 in
set_option maxHeartbeats 4000000 in
theorem hL_law_X11_isRight : GoodIn lw_tbl (wsV RL 196 RX11 yX11_isRight wsX11_isRight) := goodIn_app (goodIn_r _ [1909, 1910, 1911] (by decide +kernel) (by decide +kernel)) (goodIn_ca (goodIn_r _ [1912, 1619, 1596, 1620, 1760, 1762, 44, 93, 1763, 1764, 1765, 1766, 1875, 1877, 60, 1878, 1879, 1771, 312, 87, 313, 1880, 1882, 61, 1883, 1707, 1709, 32, 1710, 1711, 1713, 33, 1714, 1715, 1717, 34, 1718, 1699, 1701, 30, 1702, 1855, 1857, 58, 1858, 1703, 1705, 31, 1706, 1603, 1621, 1623, 1625, 1627, 1629, 1631, 1633, 1635, 1637, 1639, 1641, 1643, 1645, 1647, 1649, 1651, 1653, 1655, 1657, 1659, 1661, 1663, 1665, 1667, 1669] (by decide +kernel) (by decide +kernel)) wsL_law_x0_g)
set_option maxRecDepth 20000 in
set_option maxHeartbeats 4000000 in
theorem hL_law_L_agree : GoodIn lw_tbl (va_wsS RL 197 yL_agree wsL_agree) := goodIn_app (goodIn_r _ [1052, 1053, 71] (by decide +kernel) (by decide +kernel)) (goodIn_ca (goodIn_ca (goodIn_r _ [1054, 820, 1055, 1056, 1057, 72, 1058, 408, 1059, 1060, 1061, 865, 104, 843, 686, 687, 90, 688, 352, 512, 513, 514, 515, 357, 1063, 1064, 1065, 1066, 629, 630, 631, 632, 351, 354, 520, 521, 522, 633, 634, 635, 81, 636, 319, 226, 320, 637, 638, 639, 84, 640, 215, 641, 642, 643, 644, 645, 646, 100, 647, 648, 649, 101, 650, 651, 652, 653, 654, 214, 418, 420, 422, 424, 426, 428, 430, 432, 434, 436, 367, 369, 371, 373, 375, 377, 379, 381, 383, 385, 241, 243, 245, 247, 321, 323, 223, 219, 221] (by decide +kernel) (by decide +kernel)) wsL_law_x0_g) wsL_law_x2_g)
set_option maxRecDepth 20000 in
set_option maxHeartbeats 4000000 in
theorem hL_law_X11_agree : GoodIn lw_tbl (wsV RL 199 RX11 yX11_agree wsX11_agree) := goodIn_app (goodIn_r _ [1913, 1914, 1915] (by decide +kernel) (by decide +kernel)) (goodIn_ca (goodIn_r _ [1916, 1619, 1596, 1764, 1765, 93, 1766, 1715, 1717, 34, 1718, 1917, 1919, 63, 1920, 1699, 1701, 30, 1702, 1703, 1705, 31, 1706, 1603, 1621, 1623, 1625, 1627, 1629, 1631, 1633, 1635, 1637, 1639, 1641, 1643, 1645, 1647, 1649, 1651, 1653, 1655, 1657, 1659, 1661, 1663, 1665, 1667, 1669] (by decide +kernel) (by decide +kernel)) wsL_law_x0_g)
set_option maxRecDepth 20000 in
set_option maxHeartbeats 4000000 in
theorem hL_law_L_agreeAgain : GoodIn lw_tbl (va_wsS RL 200 yL_agreeAgain wsL_agreeAgain) := goodIn_app (goodIn_r _ [1067, 1068, 71] (by decide +kernel) (by decide +kernel)) (goodIn_ca (goodIn_ca (goodIn_r _ [1069, 820, 1070, 1071, 1072, 72, 1073, 408, 1059, 1060, 1061, 865, 104, 843, 686, 687, 90, 688, 352, 512, 513, 514, 515, 357, 1074, 1075, 1076, 1077, 690, 270, 87, 271, 629, 630, 631, 632, 351, 354, 520, 521, 522, 633, 634, 635, 81, 636, 319, 226, 320, 637, 638, 639, 84, 640, 215, 641, 642, 643, 644, 645, 646, 100, 647, 648, 649, 101, 650, 651, 652, 653, 654, 214, 418, 420, 422, 424, 426, 428, 430, 432, 434, 436, 367, 369, 371, 373, 375, 377, 379, 381, 383, 385, 241, 243, 245, 247, 321, 323, 223, 219, 221] (by decide +kernel) (by decide +kernel)) wsL_law_x0_g) wsL_law_x2_g)
set_option maxRecDepth 20000 in
set_option maxHeartbeats 4000000 in
theorem hL_law_X11_agreeAgain : GoodIn lw_tbl (wsV RL 202 RX11 yX11_agreeAgain wsX11_agreeAgain) := goodIn_app (goodIn_r _ [1921, 1922, 1923] (by decide +kernel) (by decide +kernel)) (goodIn_ca (goodIn_r _ [1924, 1925, 1914, 1915, 93, 1916, 1619, 1596, 1764, 1765, 1766, 1715, 1717, 34, 1718, 1917, 1919, 63, 1920, 1699, 1701, 30, 1702, 1703, 1705, 31, 1706, 1603, 1621, 1623, 1625, 1627, 1629, 1631, 1633, 1635, 1637, 1639, 1641, 1643, 1645, 1647, 1649, 1651, 1653, 1655, 1657, 1659, 1661, 1663, 1665, 1667, 1669] (by decide +kernel) (by decide +kernel)) wsL_law_x0_g)
set_option maxRecDepth 20000 in
set_option maxHeartbeats 4000000 in
theorem hL_law_L_settledIn : GoodIn lw_tbl (va_wsS RL 203 yL_settledIn wsL_settledIn) := goodIn_app (goodIn_r _ [1078, 1079, 71] (by decide +kernel) (by decide +kernel)) (goodIn_ca (goodIn_ca (goodIn_r _ [1080, 884, 1081, 1082, 1083, 72, 1084, 890, 105, 408, 409, 447, 448, 449, 90, 450, 352, 451, 316, 315, 89, 353, 354, 355, 357, 359, 361, 363, 365, 452, 453, 454, 91, 455, 338, 339, 133, 456, 342, 1085, 739, 740, 741, 714, 716, 15, 717, 629, 630, 631, 632, 351, 520, 521, 522, 633, 634, 635, 81, 636, 319, 226, 320, 637, 638, 639, 84, 640, 215, 641, 642, 643, 644, 645, 646, 100, 647, 648, 649, 101, 650, 651, 652, 653, 654, 214, 718, 719, 720, 721, 621, 623, 11, 624, 655, 227, 85, 625, 626, 627, 628, 512, 513, 514, 515, 516, 517, 518, 519, 656, 229, 230, 231, 118, 119, 232, 235, 238, 240, 657, 658, 659, 660, 661, 250, 251, 252, 253, 217, 218, 254, 256, 0, 257, 258, 260, 1, 261, 262, 264, 2, 265, 212, 317, 270, 87, 271, 318, 266, 267, 86, 268, 269, 272, 273, 274, 275, 276, 277, 88, 278, 279, 2055, 280, 304, 305, 306, 307, 308, 310, 311, 312, 313, 314, 662, 664, 12, 665, 666, 667, 668, 669, 670, 671, 672, 673, 674, 675, 676, 677, 678, 680, 742, 744, 17, 745, 746, 700, 701, 702, 703, 704, 705, 706, 707, 708, 87, 709, 747, 711, 712, 713, 726, 727, 728, 729, 730, 731, 732, 733, 734, 735, 736, 737, 418, 420, 422, 424, 426, 428, 430, 432, 434, 436, 367, 369, 371, 373, 375, 377, 379, 381, 383, 385, 344, 346, 348, 321, 323, 223, 219, 221, 241, 243, 245, 247] (by decide +kernel) (by decide +kernel)) wsL_law_x0_g) wsL_law_x4_g)
set_option maxRecDepth 20000 in
set_option maxHeartbeats 4000000 in
theorem hL_law_X11_settledIn : GoodIn lw_tbl (wsV RL 205 RX11 yX11_settledIn wsX11_settledIn) := goodIn_app (goodIn_r _ [1926, 1927, 1928] (by decide +kernel) (by decide +kernel)) (goodIn_ca (goodIn_r _ [1929, 1619, 1596, 1598, 1604, 1684, 1685, 93, 1686, 1815, 1817, 51, 1818, 1699, 1701, 30, 1702, 1819, 1821, 52, 1822, 1703, 1705, 31, 1706, 1603, 1695, 1697, 29, 1698, 1707, 1709, 32, 1710, 1711, 1713, 33, 1714, 1715, 1717, 34, 1718, 1719, 1721, 35, 1722, 1723, 1725, 36, 1726, 1823, 1825, 53, 1826, 1789, 1790, 1791, 1792, 1793, 1794, 1803, 1805, 49, 1806, 1744, 1746, 41, 1747, 1621, 1623, 1625, 1627, 1629, 1631, 1633, 1635, 1637, 1639, 1641, 1643, 1645, 1647, 1649, 1651, 1653, 1655, 1657, 1659, 1661, 1663, 1665, 1667, 1669] (by decide +kernel) (by decide +kernel)) wsL_law_x0_g)
set_option maxRecDepth 20000 in
set_option maxHeartbeats 4000000 in
theorem hL_law_L_members : GoodIn lw_tbl (va_wsS RL 206 yL_members wsL_members) := goodIn_app (goodIn_r _ [1087, 1088, 71] (by decide +kernel) (by decide +kernel)) (goodIn_ca (goodIn_ca (goodIn_r _ [1089, 820, 1090, 1091, 1092, 72, 1093, 408, 1059, 1060, 1061, 865, 104, 843, 686, 687, 90, 688, 352, 512, 513, 514, 515, 357, 418, 420, 422, 424, 426, 428, 430, 432, 434, 436, 367, 369, 371, 373, 375, 377, 379, 381, 383, 385] (by decide +kernel) (by decide +kernel)) wsL_law_x0_g) wsL_law_x2_g)
set_option maxRecDepth 20000 in
set_option maxHeartbeats 4000000 in
theorem hL_law_X11_members : GoodIn lw_tbl (wsV RL 208 RX11 yX11_members wsX11_members) := goodIn_app (goodIn_r _ [1930, 1931, 1932] (by decide +kernel) (by decide +kernel)) (goodIn_ca (goodIn_r _ [1933, 1619, 1596, 1764, 1765, 93, 1766, 1744, 1746, 41, 1747, 1715, 1717, 34, 1718, 1621, 1623, 1625, 1627, 1629, 1631, 1633, 1635, 1637, 1639, 1641, 1643, 1645, 1647, 1649, 1651, 1653, 1655, 1657, 1659, 1661, 1663, 1665, 1667, 1669] (by decide +kernel) (by decide +kernel)) wsL_law_x0_g)
set_option maxRecDepth 20000 in
set_option maxHeartbeats 4000000 in
theorem hL_law_L_busiest : GoodIn lw_tbl (va_wsS RL 209 yL_busiest wsL_busiest) := goodIn_app (goodIn_r _ [1094, 1095, 71] (by decide +kernel) (by decide +kernel)) (goodIn_ca (goodIn_ca (goodIn_r _ [1096, 884, 1097, 1098, 1099, 72, 1100, 890, 105, 408, 1101, 1102, 1103, 90, 1104, 357, 1105, 846, 847, 848, 625, 626, 627, 628, 353, 352, 512, 513, 514, 515, 520, 521, 522, 629, 630, 631, 632, 351, 354, 633, 634, 635, 81, 636, 319, 226, 320, 637, 638, 639, 84, 640, 215, 641, 642, 643, 644, 645, 646, 100, 647, 648, 649, 101, 650, 651, 652, 653, 654, 214, 418, 420, 422, 424, 426, 428, 430, 432, 434, 436, 367, 369, 371, 373, 375, 377, 379, 381, 383, 385, 241, 243, 245, 247, 321, 323, 223, 219, 221] (by decide +kernel) (by decide +kernel)) wsL_law_x0_g) wsL_law_x4_g)
set_option maxRecDepth 20000 in
set_option maxHeartbeats 4000000 in
theorem hL_law_X11_busiest : GoodIn lw_tbl (wsV RL 211 RX11 yX11_busiest wsX11_busiest) := goodIn_app (goodIn_r _ [1934, 1935, 1936] (by decide +kernel) (by decide +kernel)) (goodIn_ca (goodIn_r _ [1937, 1619, 1596, 1938, 1940, 64, 93, 1941, 1835, 1837, 55, 1838, 1707, 1709, 32, 1710, 1711, 1713, 33, 1714, 1715, 1717, 34, 1718, 1831, 1833, 54, 1834, 1699, 1701, 30, 1702, 1703, 1705, 31, 1706, 1603, 1744, 1746, 41, 1747, 1621, 1623, 1625, 1627, 1629, 1631, 1633, 1635, 1637, 1639, 1641, 1643, 1645, 1647, 1649, 1651, 1653, 1655, 1657, 1659, 1661, 1663, 1665, 1667, 1669] (by decide +kernel) (by decide +kernel)) wsL_law_x0_g)
set_option maxRecDepth 20000 in
set_option maxHeartbeats 4000000 in
theorem hL_law_L_append : GoodIn lw_tbl (va_wsS RL 212 yL_append wsL_append) := goodIn_app (goodIn_r _ [1107, 1108, 71] (by decide +kernel) (by decide +kernel)) (goodIn_ca (goodIn_ca (goodIn_r _ [1109, 1110, 1111, 1112, 1113, 72, 1114, 1119, 106, 413, 1115, 1116, 1117, 74, 1118, 143, 1135, 1136, 1137, 1138, 142, 1139, 418, 420, 422, 424, 426, 428, 430, 432, 434, 436, 149, 151, 153, 155, 157] (by decide +kernel) (by decide +kernel)) wsL_law_x0_g) wsL_law_x5_g)
set_option maxRecDepth 20000 in
set_option maxHeartbeats 4000000 in
theorem hL_law_X11_append : GoodIn lw_tbl (wsV RL 215 RX11 yX11_append wsX11_append) := goodIn_app (goodIn_r _ [1942, 1943, 1944] (by decide +kernel) (by decide +kernel)) (goodIn_ca (goodIn_r _ [1945, 1619, 1609, 1608, 1744, 1746, 41, 93, 1747, 1621, 1623, 1625, 1627, 1629, 1631, 1633, 1635, 1637, 1639, 1641, 1643, 1645, 1647, 1649, 1651, 1653, 1655, 1657, 1659, 1661, 1663, 1665, 1667, 1669] (by decide +kernel) (by decide +kernel)) wsL_law_x0_g)
set_option maxRecDepth 20000 in
set_option maxHeartbeats 4000000 in
theorem hL_law_L_commands : GoodIn lw_tbl (va_wsS RL 216 yL_commands wsL_commands) := goodIn_app (goodIn_r _ [1140, 1141, 71] (by decide +kernel) (by decide +kernel)) (goodIn_ca (goodIn_ca (goodIn_ca (goodIn_r _ [1142, 820, 1143, 1144, 1145, 72, 1146, 865, 104, 413, 416, 409, 408, 411, 1147, 1148, 1149, 74, 1150, 145, 143, 1151, 1152, 1153, 1154, 1155, 1156, 1157, 1158, 142, 146, 148, 1159, 1160, 76, 1161, 1162, 2066, 1164, 969, 88, 970, 1165, 1166, 1167, 79, 1168, 1432, 1169, 1170, 1171, 1172, 1173, 1433, 1174, 1175, 1176, 1177, 1178, 1179, 1180, 1181, 1182, 1183, 107, 1184, 1185, 1186, 1187, 1188, 1190, 649, 101, 650, 1191, 1192, 80, 1193, 1194, 1195, 1196, 1197, 1198, 1199, 1200, 1201, 1202, 1203, 1204, 1206, 1208, 1210, 1212, 23, 1213, 1214, 1215, 1216, 1217, 1218, 1219, 1220, 1221, 1223, 1224, 1225, 1226, 447, 448, 449, 90, 450, 352, 451, 316, 315, 89, 353, 354, 355, 357, 359, 361, 363, 365, 452, 453, 454, 91, 455, 338, 339, 133, 456, 342, 1227, 1229, 24, 1230, 1237, 486, 95, 1231, 1232, 1233, 1234, 1235, 1236, 470, 471, 472, 473, 474, 476, 477, 479, 480, 75, 481, 2065, 482, 483, 484, 485, 487, 488, 489, 490, 118, 119, 491, 493, 495, 504, 506, 4, 507, 508, 510, 5, 511, 512, 513, 514, 515, 516, 517, 518, 519, 520, 521, 522, 523, 525, 6, 526, 527, 529, 7, 530, 1238, 613, 614, 615, 616, 617, 619, 10, 620, 621, 623, 11, 624, 351, 655, 227, 85, 625, 626, 627, 628, 629, 630, 631, 632, 633, 634, 635, 81, 636, 319, 226, 320, 637, 638, 639, 84, 640, 215, 641, 642, 643, 644, 645, 646, 100, 647, 648, 651, 652, 653, 654, 214, 656, 229, 230, 231, 232, 235, 238, 240, 657, 658, 659, 660, 661, 250, 251, 252, 253, 217, 218, 254, 256, 0, 257, 258, 260, 1, 261, 262, 264, 2, 265, 212, 317, 270, 87, 271, 318, 266, 267, 86, 268, 269, 272, 273, 274, 275, 276, 277, 278, 279, 2055, 280, 304, 305, 306, 307, 308, 310, 311, 312, 313, 314, 662, 664, 12, 665, 666, 667, 668, 669, 670, 671, 672, 673, 674, 675, 676, 677, 678, 680, 681, 683, 13, 684, 689, 690, 685, 686, 687, 688, 691, 693, 14, 694, 695, 696, 697, 698, 699, 700, 701, 702, 703, 704, 705, 706, 707, 708, 87, 709, 710, 711, 712, 713, 714, 716, 15, 717, 718, 719, 720, 721, 722, 724, 16, 725, 726, 727, 728, 729, 730, 731, 732, 733, 734, 735, 736, 737, 738, 739, 740, 741, 742, 744, 17, 745, 746, 747, 1239, 531, 533, 8, 534, 535, 99, 417, 607, 608, 609, 92, 610, 398, 397, 399, 612, 611, 418, 420, 422, 424, 426, 428, 430, 432, 434, 436, 149, 151, 153, 155, 157, 816, 818, 1434, 1436, 367, 369, 371, 373, 375, 377, 379, 381, 383, 385, 344, 346, 348, 497, 499, 501, 241, 243, 245, 247, 321, 323, 223, 219, 221, 401, 403, 405] (by decide +kernel) (by decide +kernel)) wsL_law_x0_g) wsL_law_x2_g) wsL_law_x1_g)
set_option maxRecDepth 20000 in
set_option maxHeartbeats 4000000 in
theorem hL_law_X11_commands : GoodIn lw_tbl (wsV RL 218 RX11 yX11_commands wsX11_commands) := goodIn_app (goodIn_r _ [1946, 1947, 1948] (by decide +kernel) (by decide +kernel)) (goodIn_ca (goodIn_r _ [1949, 1610, 1613, 1609, 1614, 1615, 1616, 1617, 1680, 1682, 26, 93, 1683, 1619, 1596, 1597, 1604, 1605, 1684, 1685, 1686, 1950, 1952, 65, 1953, 1608, 1611, 1954, 1956, 66, 1957, 1612, 1764, 1765, 1766, 1958, 1960, 67, 1961, 1744, 1746, 41, 1747, 1962, 1964, 68, 1965, 1687, 1689, 27, 1690, 1691, 1693, 28, 1694, 1695, 1697, 29, 1698, 1603, 1699, 1701, 30, 1702, 1703, 1705, 31, 1706, 1707, 1709, 32, 1710, 1711, 1713, 33, 1714, 1715, 1717, 34, 1718, 1719, 1721, 35, 1722, 1723, 1725, 36, 1726, 1727, 1729, 37, 1730, 1618, 1799, 1801, 48, 1802, 1803, 1805, 49, 1806, 1752, 1754, 42, 1755, 1756, 1758, 43, 1759, 1760, 1762, 44, 1763, 1767, 1769, 45, 1770, 1771, 312, 87, 313, 1772, 270, 271, 1777, 1779, 46, 1780, 1785, 1787, 47, 1788, 1789, 1790, 1791, 1792, 1793, 1794, 1811, 1813, 50, 1814, 1815, 1817, 51, 1818, 1819, 1821, 52, 1822, 1823, 1825, 53, 1826, 1735, 1737, 39, 1738, 1600, 1739, 1599, 1740, 1742, 40, 1743, 1621, 1623, 1625, 1627, 1629, 1631, 1633, 1635, 1637, 1639, 1641, 1643, 1645, 1647, 1649, 1651, 1653, 1655, 1657, 1659, 1661, 1663, 1665, 1667, 1669] (by decide +kernel) (by decide +kernel)) wsL_law_x0_g)
set_option maxRecDepth 20000 in
set_option maxHeartbeats 4000000 in
theorem hL_law_X10_faultPosition : GoodIn lw_tbl (wsV RL 219 RX10 yX10_faultPosition wsX10_faultPosition) := goodIn_app (goodIn_r _ [439, 440, 441] (by decide +kernel) (by decide +kernel)) (goodIn_r _ [442, 416, 418, 420, 422, 424, 426, 428, 430, 432, 434, 436] (by decide +kernel) (by decide +kernel))
set_option maxRecDepth 20000 in
set_option maxHeartbeats 4000000 in
theorem hL_law_X11_faultPosition : GoodIn lw_tbl (wsV RL 222 RX11 yX11_faultPosition wsX11_faultPosition) := goodIn_app (goodIn_r _ [1966, 1967, 1968] (by decide +kernel) (by decide +kernel)) (goodIn_r _ [1969, 1619, 1613, 1621, 1623, 1625, 1627, 1629, 1631, 1633, 1635, 1637, 1639, 1641, 1643, 1645, 1647, 1649, 1651, 1653, 1655, 1657, 1659, 1661, 1663, 1665, 1667, 1669] (by decide +kernel) (by decide +kernel))
set_option maxRecDepth 20000 in
set_option maxHeartbeats 4000000 in
theorem hL_law_L_reason : GoodIn lw_tbl (va_wsS RL 223 yL_reason wsL_reason) := goodIn_app (goodIn_r _ [1240, 1241, 71] (by decide +kernel) (by decide +kernel)) (goodIn_ca (goodIn_ca (goodIn_r _ [1242, 884, 1243, 1244, 1245, 72, 1246, 890, 105, 417, 418, 420, 422, 424, 426, 428, 430, 432, 434, 436, 497, 499, 501] (by decide +kernel) (by decide +kernel)) wsL_law_x0_g) wsL_law_x4_g)
set_option maxRecDepth 20000 in
set_option maxHeartbeats 4000000 in
theorem hL_law_X11_reason : GoodIn lw_tbl (wsV RL 226 RX11 yX11_reason wsX11_reason) := goodIn_app (goodIn_r _ [1970, 1971, 1972] (by decide +kernel) (by decide +kernel)) (goodIn_r _ [1973, 1619, 1616, 1614, 1617, 1615, 1744, 1746, 41, 93, 1747, 1621, 1623, 1625, 1627, 1629, 1631, 1633, 1635, 1637, 1639, 1641, 1643, 1645, 1647, 1649, 1651, 1653, 1655, 1657, 1659, 1661, 1663, 1665, 1667, 1669] (by decide +kernel) (by decide +kernel))
set_option maxRecDepth 20000 in
set_option maxHeartbeats 4000000 in
theorem hL_law_L_line : GoodIn lw_tbl (va_wsS RL 227 yL_line wsQ_L_line) := goodIn_app (goodIn_r _ [1248, 1249, 71] (by decide +kernel) (by decide +kernel)) (goodIn_cons (goodIn_r _ [1250] (by decide +kernel) (by decide +kernel)) (goodIn_app (goodIn_r _ [1251, 1252, 1253] (by decide +kernel) (by decide +kernel)) (goodIn_cons (goodIn_r _ [1254] (by decide +kernel) (by decide +kernel)) (goodIn_app (goodIn_r _ [825, 827, 18] (by decide +kernel) (by decide +kernel)) (goodIn_ca (goodIn_r _ [828, 830, 102, 408, 829, 513, 514, 90, 515, 357, 418, 420, 422, 424, 426, 428, 430, 432, 434, 436, 367, 369, 371, 373, 375, 377, 379, 381, 383, 385] (by decide +kernel) (by decide +kernel)) wsL_law_x3_g)))))
set_option maxRecDepth 20000 in
set_option maxHeartbeats 4000000 in
theorem hL_law_X11_line : GoodIn lw_tbl (wsV RL 229 RX11 yX11_line wsX11_line) := goodIn_app (goodIn_r _ [1974, 1975, 1976] (by decide +kernel) (by decide +kernel)) (goodIn_ca (goodIn_r _ [1977, 1619, 1607, 1596, 1606, 1760, 1762, 44, 93, 1763, 1764, 1765, 1766, 1744, 1746, 41, 1747, 1699, 1701, 30, 1702, 1978, 1980, 69, 1981, 1703, 1705, 31, 1706, 1603, 1855, 1857, 58, 1858, 1621, 1623, 1625, 1627, 1629, 1631, 1633, 1635, 1637, 1639, 1641, 1643, 1645, 1647, 1649, 1651, 1653, 1655, 1657, 1659, 1661, 1663, 1665, 1667, 1669] (by decide +kernel) (by decide +kernel)) wsL_law_x0_g)
set_option maxRecDepth 20000 in
set_option maxHeartbeats 4000000 in
theorem hL_law_L_character : GoodIn lw_tbl (va_wsS RL 230 yL_character wsL_character) := goodIn_app (goodIn_r _ [1492, 1493, 71] (by decide +kernel) (by decide +kernel)) (goodIn_ca (goodIn_ca (goodIn_r _ [1494, 796, 1495, 1496, 1497, 72, 1498, 830, 102, 414, 1477, 1400, 2026, 78, 1401, 1402, 1398, 192, 1397, 77, 1403, 183, 1500, 1501, 1502, 1503, 1504, 2028, 1505, 1506, 180, 179, 1507, 312, 87, 313, 1508, 1186, 79, 1187, 1188, 1190, 649, 101, 650, 1509, 1202, 80, 1203, 1204, 1206, 1208, 1197, 1198, 1199, 418, 420, 422, 424, 426, 428, 430, 432, 434, 436, 184, 186, 188, 190] (by decide +kernel) (by decide +kernel)) wsL_law_x0_g) wsL_law_x3_g)
set_option maxRecDepth 20000 in
set_option maxHeartbeats 4000000 in
theorem hL_law_X11_character : GoodIn lw_tbl (wsV RL 232 RX11 yX11_character wsX11_character) := goodIn_app (goodIn_r _ [1982, 1983, 1984] (by decide +kernel) (by decide +kernel)) (goodIn_ca (goodIn_r _ [1985, 1607, 1619, 1606, 1764, 1765, 93, 1766, 1621, 1623, 1625, 1627, 1629, 1631, 1633, 1635, 1637, 1639, 1641, 1643, 1645, 1647, 1649, 1651, 1653, 1655, 1657, 1659, 1661, 1663, 1665, 1667, 1669] (by decide +kernel) (by decide +kernel)) wsL_law_x0_g)
set_option maxRecDepth 20000 in
set_option maxHeartbeats 4000000 in
theorem hL_law_L_meanCost : GoodIn lw_tbl (va_wsS RL 233 yL_meanCost wsL_meanCost) := goodIn_app (goodIn_r _ [1510, 1511, 71] (by decide +kernel) (by decide +kernel)) (goodIn_ca (goodIn_ca (goodIn_r _ [1512, 1513, 1527, 1528, 1529, 72, 1530, 1536, 111, 408, 1531, 1532, 1533, 90, 1534, 357, 1535, 850, 851, 852, 516, 517, 518, 519, 353, 520, 521, 522, 1539, 1540, 1541, 1542, 418, 420, 422, 424, 426, 428, 430, 432, 434, 436, 367, 369, 371, 373, 375, 377, 379, 381, 383, 385] (by decide +kernel) (by decide +kernel)) wsL_law_x0_g) wsL_law_x6_g)
set_option maxRecDepth 20000 in
set_option maxHeartbeats 4000000 in
theorem hL_law_X11_meanCost : GoodIn lw_tbl (wsV RL 236 RX11 yX11_meanCost wsX11_meanCost) := goodIn_app (goodIn_r _ [1986, 1987, 1988] (by decide +kernel) (by decide +kernel)) (goodIn_ca (goodIn_r _ [1989, 1619, 1990, 1992, 70, 93, 1993, 1596, 1711, 1713, 33, 1714, 1744, 1746, 41, 1747, 1621, 1623, 1625, 1627, 1629, 1631, 1633, 1635, 1637, 1639, 1641, 1643, 1645, 1647, 1649, 1651, 1653, 1655, 1657, 1659, 1661, 1663, 1665, 1667, 1669] (by decide +kernel) (by decide +kernel)) wsL_law_x0_g)
set_option maxRecDepth 20000 in
set_option maxHeartbeats 4000000 in
theorem hL_law_L_lostShare : GoodIn lw_tbl (va_wsS RL 237 yL_lostShare wsL_lostShare) := goodIn_app (goodIn_r _ [1543, 1544, 71] (by decide +kernel) (by decide +kernel)) (goodIn_ca (goodIn_ca (goodIn_r _ [1545, 1513, 1546, 1547, 1548, 72, 1549, 1536, 111, 408, 418, 420, 422, 424, 426, 428, 430, 432, 434, 436, 367, 369, 371, 373, 375, 377, 379, 381, 383, 385, 344, 346, 348] (by decide +kernel) (by decide +kernel)) wsL_law_x0_g) wsL_law_x6_g)
set_option maxRecDepth 20000 in
set_option maxHeartbeats 4000000 in
theorem hL_law_X11_lostShare : GoodIn lw_tbl (wsV RL 239 RX11 yX11_lostShare wsX11_lostShare) := goodIn_app (goodIn_r _ [1994, 1995, 1996] (by decide +kernel) (by decide +kernel)) (goodIn_ca (goodIn_r _ [1997, 1619, 1596, 1744, 1746, 41, 93, 1747, 1621, 1623, 1625, 1627, 1629, 1631, 1633, 1635, 1637, 1639, 1641, 1643, 1645, 1647, 1649, 1651, 1653, 1655, 1657, 1659, 1661, 1663, 1665, 1667, 1669] (by decide +kernel) (by decide +kernel)) wsL_law_x0_g)
set_option maxRecDepth 20000 in
set_option maxHeartbeats 4000000 in
theorem hL_law_L_account : GoodIn lw_tbl (va_wsS RL 240 yL_account wsL_account) := goodIn_app (goodIn_r _ [1551, 1552, 71] (by decide +kernel) (by decide +kernel)) (goodIn_ca (goodIn_ca (goodIn_r _ [1553, 820, 1554, 1555, 1556, 72, 1557, 865, 104, 408, 411, 413, 1531, 1532, 1533, 90, 1534, 357, 1535, 850, 851, 852, 516, 517, 518, 519, 353, 520, 521, 522, 1558, 1559, 1560, 1561, 1562, 854, 855, 856, 629, 630, 631, 632, 351, 354, 633, 634, 635, 81, 636, 319, 226, 320, 637, 638, 639, 84, 640, 215, 641, 642, 643, 644, 645, 646, 100, 647, 648, 649, 101, 650, 651, 652, 653, 654, 214, 857, 858, 859, 85, 860, 235, 418, 420, 422, 424, 426, 428, 430, 432, 434, 436, 367, 369, 371, 373, 375, 377, 379, 381, 383, 385, 344, 346, 348, 401, 403, 405, 149, 151, 153, 155, 157, 321, 323, 223, 219, 221, 241, 243, 245, 247] (by decide +kernel) (by decide +kernel)) wsL_law_x0_g) wsL_law_x2_g)
set_option maxRecDepth 20000 in
set_option maxHeartbeats 4000000 in
theorem hL_law_X11_account : GoodIn lw_tbl (wsV RL 242 RX11 yX11_account wsX11_account) := goodIn_app (goodIn_r _ [1998, 1999, 2000] (by decide +kernel) (by decide +kernel)) (goodIn_ca (goodIn_r _ [2001, 1619, 1596, 1600, 1609, 1990, 1992, 70, 93, 1993, 1711, 1713, 33, 1714, 1839, 1841, 56, 1842, 1699, 1701, 30, 1702, 1744, 1746, 41, 1747, 1621, 1623, 1625, 1627, 1629, 1631, 1633, 1635, 1637, 1639, 1641, 1643, 1645, 1647, 1649, 1651, 1653, 1655, 1657, 1659, 1661, 1663, 1665, 1667, 1669] (by decide +kernel) (by decide +kernel)) wsL_law_x0_g)
set_option maxRecDepth 20000 in
set_option maxHeartbeats 4000000 in
theorem hL_law_L_undo : GoodIn lw_tbl (va_wsS RL 243 yL_undo wsL_undo) := goodIn_app (goodIn_r _ [1564, 1565, 71] (by decide +kernel) (by decide +kernel)) (goodIn_ca (goodIn_ca (goodIn_r _ [1566, 1110, 1567, 1568, 1569, 72, 1570, 1119, 106, 411, 408, 1572, 1573, 1574, 92, 1575, 399, 397, 398, 611, 448, 449, 90, 450, 352, 451, 316, 315, 89, 353, 354, 355, 357, 359, 361, 363, 365, 452, 453, 454, 91, 455, 338, 339, 133, 456, 342, 418, 420, 422, 424, 426, 428, 430, 432, 434, 436, 401, 403, 405, 367, 369, 371, 373, 375, 377, 379, 381, 383, 385, 344, 346, 348] (by decide +kernel) (by decide +kernel)) wsL_law_x0_g) wsL_law_x5_g)
set_option maxRecDepth 20000 in
set_option maxHeartbeats 4000000 in
theorem hL_law_X11_undo : GoodIn lw_tbl (wsV RL 245 RX11 yX11_undo wsX11_undo) := goodIn_app (goodIn_r _ [2002, 2003, 2004] (by decide +kernel) (by decide +kernel)) (goodIn_ca (goodIn_r _ [2005, 1619, 1600, 1599, 1596, 1744, 1746, 41, 93, 1747, 1621, 1623, 1625, 1627, 1629, 1631, 1633, 1635, 1637, 1639, 1641, 1643, 1645, 1647, 1649, 1651, 1653, 1655, 1657, 1659, 1661, 1663, 1665, 1667, 1669] (by decide +kernel) (by decide +kernel)) wsL_law_x0_g)
set_option maxRecDepth 20000 in
set_option maxHeartbeats 4000000 in
theorem hL_law_X10_save : GoodIn lw_tbl (wsV RL 246 RX10 yX10_save wsX10_save) := goodIn_app (goodIn_r _ [443, 444, 445] (by decide +kernel) (by decide +kernel)) (goodIn_r _ [446, 410, 408, 415, 447, 448, 449, 90, 450, 352, 451, 316, 315, 89, 353, 354, 355, 357, 359, 361, 363, 365, 452, 453, 454, 91, 455, 338, 339, 133, 456, 342, 418, 420, 422, 424, 426, 428, 430, 432, 434, 436, 367, 369, 371, 373, 375, 377, 379, 381, 383, 385, 344, 346, 348] (by decide +kernel) (by decide +kernel))
set_option maxRecDepth 20000 in
set_option maxHeartbeats 4000000 in
theorem hL_law_X11_save : GoodIn lw_tbl (wsV RL 249 RX11 yX11_save wsX11_save) := goodIn_app (goodIn_r _ [2006, 2007, 2008] (by decide +kernel) (by decide +kernel)) (goodIn_ca (goodIn_r _ [2009, 1619, 1602, 1596, 1601, 1684, 1685, 93, 1686, 1621, 1623, 1625, 1627, 1629, 1631, 1633, 1635, 1637, 1639, 1641, 1643, 1645, 1647, 1649, 1651, 1653, 1655, 1657, 1659, 1661, 1663, 1665, 1667, 1669] (by decide +kernel) (by decide +kernel)) wsL_law_x0_g)
set_option maxRecDepth 20000 in
set_option maxHeartbeats 4000000 in
theorem hL_law_L_restore : GoodIn lw_tbl (va_wsS RL 250 yL_restore wsL_restore) := goodIn_app (goodIn_r _ [1576, 1577, 71] (by decide +kernel) (by decide +kernel)) (goodIn_ca (goodIn_ca (goodIn_r _ [1578, 1110, 1579, 1580, 1581, 72, 1582, 1119, 106, 415, 408, 410, 411, 447, 448, 449, 90, 450, 352, 451, 316, 315, 89, 353, 354, 355, 357, 359, 361, 363, 365, 452, 453, 454, 91, 455, 338, 339, 133, 456, 342, 1584, 1585, 1586, 92, 1587, 399, 418, 420, 422, 424, 426, 428, 430, 432, 434, 436, 367, 369, 371, 373, 375, 377, 379, 381, 383, 385, 344, 346, 348, 401, 403, 405] (by decide +kernel) (by decide +kernel)) wsL_law_x0_g) wsL_law_x5_g)
set_option maxRecDepth 20000 in
set_option maxHeartbeats 4000000 in
theorem hL_law_X11_restore : GoodIn lw_tbl (wsV RL 252 RX11 yX11_restore wsX11_restore) := goodIn_app (goodIn_r _ [2010, 2011, 2012] (by decide +kernel) (by decide +kernel)) (goodIn_ca (goodIn_r _ [2013, 1619, 1602, 1601, 1596, 1600, 1744, 1746, 41, 93, 1747, 1684, 1685, 1686, 1621, 1623, 1625, 1627, 1629, 1631, 1633, 1635, 1637, 1639, 1641, 1643, 1645, 1647, 1649, 1651, 1653, 1655, 1657, 1659, 1661, 1663, 1665, 1667, 1669] (by decide +kernel) (by decide +kernel)) wsL_law_x0_g)
theorem dL_law_0 : decode cL_law 0 = .ok (.new 8, 3) := by decide +kernel
theorem dL_law_3 : decode cL_law 3 = .ok (.dup, 1) := by decide +kernel
theorem dL_law_4 : decode cL_law 4 = .ok (.invokespecial 130, 3) := by decide +kernel
theorem dL_law_7 : decode cL_law 7 = .ok (.astore_n 1, 1) := by decide +kernel
theorem dL_law_8 : decode cL_law 8 = .ok (.new 131, 3) := by decide +kernel
theorem dL_law_11 : decode cL_law 11 = .ok (.dup, 1) := by decide +kernel
theorem dL_law_12 : decode cL_law 12 = .ok (.invokespecial 133, 3) := by decide +kernel
theorem dL_law_15 : decode cL_law 15 = .ok (.astore_n 2, 1) := by decide +kernel
theorem dL_law_16 : decode cL_law 16 = .ok (.iconst 1, 1) := by decide +kernel
theorem dL_law_17 : decode cL_law 17 = .ok (.newarray .long, 2) := by decide +kernel
theorem dL_law_19 : decode cL_law 19 = .ok (.astore_n 3, 1) := by decide +kernel
theorem dL_law_20 : decode cL_law 20 = .ok (.iconst 1, 1) := by decide +kernel
theorem dL_law_21 : decode cL_law 21 = .ok (.newarray .double, 2) := by decide +kernel
theorem dL_law_23 : decode cL_law 23 = .ok (.astore 4, 2) := by decide +kernel
theorem dL_law_25 : decode cL_law 25 = .ok (.iconst 0, 1) := by decide +kernel
theorem dL_law_26 : decode cL_law 26 = .ok (.istore 5, 2) := by decide +kernel
theorem dL_law_28 : decode cL_law 28 = .ok (.iload 5, 2) := by decide +kernel
theorem dL_law_30 : decode cL_law 30 = .ok (.aload_n 0, 1) := by decide +kernel
theorem dL_law_31 : decode cL_law 31 = .ok (.arraylength, 1) := by decide +kernel
theorem dL_law_32 : decode cL_law 32 = .ok (.iconst 4, 1) := by decide +kernel
theorem dL_law_33 : decode cL_law 33 = .ok (.isub, 1) := by decide +kernel
theorem dL_law_34 : decode cL_law 34 = .ok (.if_icmp .gt 2252, 3) := by decide +kernel
theorem dL_law_37 : decode cL_law 37 = .ok (.aload_n 0, 1) := by decide +kernel
theorem dL_law_38 : decode cL_law 38 = .ok (.iload 5, 2) := by decide +kernel
theorem dL_law_40 : decode cL_law 40 = .ok (.iaload, 1) := by decide +kernel
theorem dL_law_41 : decode cL_law 41 = .ok (.bipush 63, 2) := by decide +kernel
theorem dL_law_43 : decode cL_law 43 = .ok (.iand, 1) := by decide +kernel
theorem dL_law_44 : decode cL_law 44 = .ok (.tableswitch 2236 0 34 #[156, 200, 280, 348, 416, 460, 516, 584, 652, 732, 812, 880, 948, 1016, 1084, 1140, 1208, 1276, 1339, 1402, 1465, 1509, 1565, 1621, 1679, 1723, 1736, 1836, 1892, 1948, 2013, 2079, 2135, 2179, 2192], 156) := by decide +kernel
theorem dL_law_200 : decode cL_law 200 = .ok (.aload_n 1, 1) := by decide +kernel
theorem dL_law_201 : decode cL_law 201 = .ok (.aload_n 3, 1) := by decide +kernel
theorem dL_law_202 : decode cL_law 202 = .ok (.invokestatic 134, 3) := by decide +kernel
theorem dL_law_205 : decode cL_law 205 = .ok (.istore 6, 2) := by decide +kernel
theorem dL_law_207 : decode cL_law 207 = .ok (.aload_n 2, 1) := by decide +kernel
theorem dL_law_208 : decode cL_law 208 = .ok (.invokevirtual 139, 3) := by decide +kernel
theorem dL_law_211 : decode cL_law 211 = .ok (.istore 7, 2) := by decide +kernel
theorem dL_law_213 : decode cL_law 213 = .ok (.aload_n 2, 1) := by decide +kernel
theorem dL_law_214 : decode cL_law 214 = .ok (.invokevirtual 140, 3) := by decide +kernel
theorem dL_law_217 : decode cL_law 217 = .ok (.iload 6, 2) := by decide +kernel
theorem dL_law_219 : decode cL_law 219 = .ok (.if_icmp .eq 5, 3) := by decide +kernel
theorem dL_law_224 : decode cL_law 224 = .ok (.iload 6, 2) := by decide +kernel
theorem dL_law_226 : decode cL_law 226 = .ok (.ifCond .ne 15, 3) := by decide +kernel
theorem dL_law_229 : decode cL_law 229 = .ok (.aload_n 3, 1) := by decide +kernel
theorem dL_law_230 : decode cL_law 230 = .ok (.iconst 0, 1) := by decide +kernel
theorem dL_law_231 : decode cL_law 231 = .ok (.laload, 1) := by decide +kernel
theorem dL_law_232 : decode cL_law 232 = .ok (.iload 7, 2) := by decide +kernel
theorem dL_law_234 : decode cL_law 234 = .ok (.i2l, 1) := by decide +kernel
theorem dL_law_235 : decode cL_law 235 = .ok (.lcmp, 1) := by decide +kernel
theorem dL_law_236 : decode cL_law 236 = .ok (.ifCond .eq 5, 3) := by decide +kernel
theorem dL_law_241 : decode cL_law 241 = .ok (.goto 2039, 3) := by decide +kernel
theorem dL_law_244 : decode cL_law 244 = .ok (.aload_n 1, 1) := by decide +kernel
theorem dL_law_245 : decode cL_law 245 = .ok (.aload_n 0, 1) := by decide +kernel
theorem dL_law_246 : decode cL_law 246 = .ok (.iload 5, 2) := by decide +kernel
theorem dL_law_248 : decode cL_law 248 = .ok (.iconst 1, 1) := by decide +kernel
theorem dL_law_249 : decode cL_law 249 = .ok (.iadd, 1) := by decide +kernel
theorem dL_law_250 : decode cL_law 250 = .ok (.iaload, 1) := by decide +kernel
theorem dL_law_251 : decode cL_law 251 = .ok (.aload_n 0, 1) := by decide +kernel
theorem dL_law_252 : decode cL_law 252 = .ok (.iload 5, 2) := by decide +kernel
theorem dL_law_254 : decode cL_law 254 = .ok (.iconst 2, 1) := by decide +kernel
theorem dL_law_255 : decode cL_law 255 = .ok (.iadd, 1) := by decide +kernel
theorem dL_law_256 : decode cL_law 256 = .ok (.iaload, 1) := by decide +kernel
theorem dL_law_257 : decode cL_law 257 = .ok (.aload_n 0, 1) := by decide +kernel
theorem dL_law_258 : decode cL_law 258 = .ok (.iload 5, 2) := by decide +kernel
theorem dL_law_260 : decode cL_law 260 = .ok (.iconst 3, 1) := by decide +kernel
theorem dL_law_261 : decode cL_law 261 = .ok (.iadd, 1) := by decide +kernel
theorem dL_law_262 : decode cL_law 262 = .ok (.iaload, 1) := by decide +kernel
theorem dL_law_263 : decode cL_law 263 = .ok (.aload_n 3, 1) := by decide +kernel
theorem dL_law_264 : decode cL_law 264 = .ok (.invokestatic 143, 3) := by decide +kernel
theorem dL_law_267 : decode cL_law 267 = .ok (.istore 6, 2) := by decide +kernel
theorem dL_law_269 : decode cL_law 269 = .ok (.aload_n 2, 1) := by decide +kernel
theorem dL_law_270 : decode cL_law 270 = .ok (.aload_n 0, 1) := by decide +kernel
theorem dL_law_271 : decode cL_law 271 = .ok (.iload 5, 2) := by decide +kernel
theorem dL_law_273 : decode cL_law 273 = .ok (.iconst 1, 1) := by decide +kernel
theorem dL_law_274 : decode cL_law 274 = .ok (.iadd, 1) := by decide +kernel
theorem dL_law_275 : decode cL_law 275 = .ok (.iaload, 1) := by decide +kernel
theorem dL_law_276 : decode cL_law 276 = .ok (.aload_n 0, 1) := by decide +kernel
theorem dL_law_277 : decode cL_law 277 = .ok (.iload 5, 2) := by decide +kernel
theorem dL_law_279 : decode cL_law 279 = .ok (.iconst 2, 1) := by decide +kernel
theorem dL_law_280 : decode cL_law 280 = .ok (.iadd, 1) := by decide +kernel
theorem dL_law_281 : decode cL_law 281 = .ok (.iaload, 1) := by decide +kernel
theorem dL_law_282 : decode cL_law 282 = .ok (.aload_n 0, 1) := by decide +kernel
theorem dL_law_283 : decode cL_law 283 = .ok (.iload 5, 2) := by decide +kernel
theorem dL_law_285 : decode cL_law 285 = .ok (.iconst 3, 1) := by decide +kernel
theorem dL_law_286 : decode cL_law 286 = .ok (.iadd, 1) := by decide +kernel
theorem dL_law_287 : decode cL_law 287 = .ok (.iaload, 1) := by decide +kernel
theorem dL_law_288 : decode cL_law 288 = .ok (.invokevirtual 146, 3) := by decide +kernel
theorem dL_law_291 : decode cL_law 291 = .ok (.istore 7, 2) := by decide +kernel
theorem dL_law_293 : decode cL_law 293 = .ok (.aload_n 2, 1) := by decide +kernel
theorem dL_law_294 : decode cL_law 294 = .ok (.invokevirtual 140, 3) := by decide +kernel
theorem dL_law_297 : decode cL_law 297 = .ok (.iload 6, 2) := by decide +kernel
theorem dL_law_299 : decode cL_law 299 = .ok (.if_icmp .eq 5, 3) := by decide +kernel
theorem dL_law_304 : decode cL_law 304 = .ok (.iload 6, 2) := by decide +kernel
theorem dL_law_306 : decode cL_law 306 = .ok (.ifCond .ne 15, 3) := by decide +kernel
theorem dL_law_321 : decode cL_law 321 = .ok (.goto 1959, 3) := by decide +kernel
theorem dL_law_324 : decode cL_law 324 = .ok (.aload_n 1, 1) := by decide +kernel
theorem dL_law_325 : decode cL_law 325 = .ok (.aload_n 0, 1) := by decide +kernel
theorem dL_law_326 : decode cL_law 326 = .ok (.iload 5, 2) := by decide +kernel
theorem dL_law_328 : decode cL_law 328 = .ok (.iconst 1, 1) := by decide +kernel
theorem dL_law_329 : decode cL_law 329 = .ok (.iadd, 1) := by decide +kernel
theorem dL_law_330 : decode cL_law 330 = .ok (.iaload, 1) := by decide +kernel
theorem dL_law_331 : decode cL_law 331 = .ok (.aload_n 0, 1) := by decide +kernel
theorem dL_law_332 : decode cL_law 332 = .ok (.iload 5, 2) := by decide +kernel
theorem dL_law_334 : decode cL_law 334 = .ok (.iconst 2, 1) := by decide +kernel
theorem dL_law_335 : decode cL_law 335 = .ok (.iadd, 1) := by decide +kernel
theorem dL_law_336 : decode cL_law 336 = .ok (.iaload, 1) := by decide +kernel
theorem dL_law_337 : decode cL_law 337 = .ok (.aload_n 3, 1) := by decide +kernel
theorem dL_law_338 : decode cL_law 338 = .ok (.invokestatic 147, 3) := by decide +kernel
theorem dL_law_341 : decode cL_law 341 = .ok (.istore 6, 2) := by decide +kernel
theorem dL_law_343 : decode cL_law 343 = .ok (.aload_n 2, 1) := by decide +kernel
theorem dL_law_344 : decode cL_law 344 = .ok (.aload_n 0, 1) := by decide +kernel
theorem dL_law_345 : decode cL_law 345 = .ok (.iload 5, 2) := by decide +kernel
theorem dL_law_347 : decode cL_law 347 = .ok (.iconst 1, 1) := by decide +kernel
theorem dL_law_348 : decode cL_law 348 = .ok (.iadd, 1) := by decide +kernel
theorem dL_law_349 : decode cL_law 349 = .ok (.iaload, 1) := by decide +kernel
theorem dL_law_350 : decode cL_law 350 = .ok (.aload_n 0, 1) := by decide +kernel
theorem dL_law_351 : decode cL_law 351 = .ok (.iload 5, 2) := by decide +kernel
theorem dL_law_353 : decode cL_law 353 = .ok (.iconst 2, 1) := by decide +kernel
theorem dL_law_354 : decode cL_law 354 = .ok (.iadd, 1) := by decide +kernel
theorem dL_law_355 : decode cL_law 355 = .ok (.iaload, 1) := by decide +kernel
theorem dL_law_356 : decode cL_law 356 = .ok (.invokevirtual 150, 3) := by decide +kernel
theorem dL_law_359 : decode cL_law 359 = .ok (.istore 7, 2) := by decide +kernel
theorem dL_law_361 : decode cL_law 361 = .ok (.aload_n 2, 1) := by decide +kernel
theorem dL_law_362 : decode cL_law 362 = .ok (.invokevirtual 140, 3) := by decide +kernel
theorem dL_law_365 : decode cL_law 365 = .ok (.iload 6, 2) := by decide +kernel
theorem dL_law_367 : decode cL_law 367 = .ok (.if_icmp .eq 5, 3) := by decide +kernel
theorem dL_law_372 : decode cL_law 372 = .ok (.iload 6, 2) := by decide +kernel
theorem dL_law_374 : decode cL_law 374 = .ok (.ifCond .ne 15, 3) := by decide +kernel
theorem dL_law_389 : decode cL_law 389 = .ok (.goto 1891, 3) := by decide +kernel
theorem dL_law_392 : decode cL_law 392 = .ok (.aload_n 1, 1) := by decide +kernel
theorem dL_law_393 : decode cL_law 393 = .ok (.aload_n 0, 1) := by decide +kernel
theorem dL_law_394 : decode cL_law 394 = .ok (.iload 5, 2) := by decide +kernel
theorem dL_law_396 : decode cL_law 396 = .ok (.iconst 1, 1) := by decide +kernel
theorem dL_law_397 : decode cL_law 397 = .ok (.iadd, 1) := by decide +kernel
theorem dL_law_398 : decode cL_law 398 = .ok (.iaload, 1) := by decide +kernel
theorem dL_law_399 : decode cL_law 399 = .ok (.aload_n 0, 1) := by decide +kernel
theorem dL_law_400 : decode cL_law 400 = .ok (.iload 5, 2) := by decide +kernel
theorem dL_law_402 : decode cL_law 402 = .ok (.iconst 2, 1) := by decide +kernel
theorem dL_law_403 : decode cL_law 403 = .ok (.iadd, 1) := by decide +kernel
theorem dL_law_404 : decode cL_law 404 = .ok (.iaload, 1) := by decide +kernel
theorem dL_law_405 : decode cL_law 405 = .ok (.aload_n 3, 1) := by decide +kernel
theorem dL_law_406 : decode cL_law 406 = .ok (.invokestatic 151, 3) := by decide +kernel
theorem dL_law_409 : decode cL_law 409 = .ok (.istore 6, 2) := by decide +kernel
theorem dL_law_411 : decode cL_law 411 = .ok (.aload_n 2, 1) := by decide +kernel
theorem dL_law_412 : decode cL_law 412 = .ok (.aload_n 0, 1) := by decide +kernel
theorem dL_law_413 : decode cL_law 413 = .ok (.iload 5, 2) := by decide +kernel
theorem dL_law_415 : decode cL_law 415 = .ok (.iconst 1, 1) := by decide +kernel
theorem dL_law_416 : decode cL_law 416 = .ok (.iadd, 1) := by decide +kernel
theorem dL_law_417 : decode cL_law 417 = .ok (.iaload, 1) := by decide +kernel
theorem dL_law_418 : decode cL_law 418 = .ok (.aload_n 0, 1) := by decide +kernel
theorem dL_law_419 : decode cL_law 419 = .ok (.iload 5, 2) := by decide +kernel
theorem dL_law_421 : decode cL_law 421 = .ok (.iconst 2, 1) := by decide +kernel
theorem dL_law_422 : decode cL_law 422 = .ok (.iadd, 1) := by decide +kernel
theorem dL_law_423 : decode cL_law 423 = .ok (.iaload, 1) := by decide +kernel
theorem dL_law_424 : decode cL_law 424 = .ok (.invokevirtual 153, 3) := by decide +kernel
theorem dL_law_427 : decode cL_law 427 = .ok (.istore 7, 2) := by decide +kernel
theorem dL_law_429 : decode cL_law 429 = .ok (.aload_n 2, 1) := by decide +kernel
theorem dL_law_430 : decode cL_law 430 = .ok (.invokevirtual 140, 3) := by decide +kernel
theorem dL_law_433 : decode cL_law 433 = .ok (.iload 6, 2) := by decide +kernel
theorem dL_law_435 : decode cL_law 435 = .ok (.if_icmp .eq 5, 3) := by decide +kernel
theorem dL_law_440 : decode cL_law 440 = .ok (.iload 6, 2) := by decide +kernel
theorem dL_law_442 : decode cL_law 442 = .ok (.ifCond .ne 15, 3) := by decide +kernel
theorem dL_law_457 : decode cL_law 457 = .ok (.goto 1823, 3) := by decide +kernel
theorem dL_law_460 : decode cL_law 460 = .ok (.aload_n 1, 1) := by decide +kernel
theorem dL_law_461 : decode cL_law 461 = .ok (.aload_n 3, 1) := by decide +kernel
theorem dL_law_462 : decode cL_law 462 = .ok (.invokestatic 154, 3) := by decide +kernel
theorem dL_law_465 : decode cL_law 465 = .ok (.istore 6, 2) := by decide +kernel
theorem dL_law_467 : decode cL_law 467 = .ok (.aload_n 2, 1) := by decide +kernel
theorem dL_law_468 : decode cL_law 468 = .ok (.invokevirtual 156, 3) := by decide +kernel
theorem dL_law_471 : decode cL_law 471 = .ok (.istore 7, 2) := by decide +kernel
theorem dL_law_473 : decode cL_law 473 = .ok (.aload_n 2, 1) := by decide +kernel
theorem dL_law_474 : decode cL_law 474 = .ok (.invokevirtual 140, 3) := by decide +kernel
theorem dL_law_477 : decode cL_law 477 = .ok (.iload 6, 2) := by decide +kernel
theorem dL_law_479 : decode cL_law 479 = .ok (.if_icmp .eq 5, 3) := by decide +kernel
theorem dL_law_484 : decode cL_law 484 = .ok (.iload 6, 2) := by decide +kernel
theorem dL_law_486 : decode cL_law 486 = .ok (.ifCond .ne 15, 3) := by decide +kernel
theorem dL_law_501 : decode cL_law 501 = .ok (.goto 1779, 3) := by decide +kernel
theorem dL_law_504 : decode cL_law 504 = .ok (.aload_n 1, 1) := by decide +kernel
theorem dL_law_505 : decode cL_law 505 = .ok (.aload_n 0, 1) := by decide +kernel
theorem dL_law_506 : decode cL_law 506 = .ok (.iload 5, 2) := by decide +kernel
theorem dL_law_508 : decode cL_law 508 = .ok (.iconst 1, 1) := by decide +kernel
theorem dL_law_509 : decode cL_law 509 = .ok (.iadd, 1) := by decide +kernel
theorem dL_law_510 : decode cL_law 510 = .ok (.iaload, 1) := by decide +kernel
theorem dL_law_511 : decode cL_law 511 = .ok (.aload_n 3, 1) := by decide +kernel
theorem dL_law_512 : decode cL_law 512 = .ok (.invokestatic 157, 3) := by decide +kernel
theorem dL_law_515 : decode cL_law 515 = .ok (.istore 6, 2) := by decide +kernel
theorem dL_law_517 : decode cL_law 517 = .ok (.aload_n 2, 1) := by decide +kernel
theorem dL_law_518 : decode cL_law 518 = .ok (.aload_n 0, 1) := by decide +kernel
theorem dL_law_519 : decode cL_law 519 = .ok (.iload 5, 2) := by decide +kernel
theorem dL_law_521 : decode cL_law 521 = .ok (.iconst 1, 1) := by decide +kernel
theorem dL_law_522 : decode cL_law 522 = .ok (.iadd, 1) := by decide +kernel
theorem dL_law_523 : decode cL_law 523 = .ok (.iaload, 1) := by decide +kernel
theorem dL_law_524 : decode cL_law 524 = .ok (.invokevirtual 160, 3) := by decide +kernel
theorem dL_law_527 : decode cL_law 527 = .ok (.istore 7, 2) := by decide +kernel
theorem dL_law_529 : decode cL_law 529 = .ok (.aload_n 2, 1) := by decide +kernel
theorem dL_law_530 : decode cL_law 530 = .ok (.invokevirtual 140, 3) := by decide +kernel
theorem dL_law_533 : decode cL_law 533 = .ok (.iload 6, 2) := by decide +kernel
theorem dL_law_535 : decode cL_law 535 = .ok (.if_icmp .eq 5, 3) := by decide +kernel
theorem dL_law_540 : decode cL_law 540 = .ok (.iload 6, 2) := by decide +kernel
theorem dL_law_542 : decode cL_law 542 = .ok (.ifCond .ne 15, 3) := by decide +kernel
theorem dL_law_545 : decode cL_law 545 = .ok (.aload_n 3, 1) := by decide +kernel
theorem dL_law_546 : decode cL_law 546 = .ok (.iconst 0, 1) := by decide +kernel
theorem dL_law_547 : decode cL_law 547 = .ok (.laload, 1) := by decide +kernel
theorem dL_law_548 : decode cL_law 548 = .ok (.iload 7, 2) := by decide +kernel
theorem dL_law_550 : decode cL_law 550 = .ok (.i2l, 1) := by decide +kernel
theorem dL_law_551 : decode cL_law 551 = .ok (.lcmp, 1) := by decide +kernel
theorem dL_law_552 : decode cL_law 552 = .ok (.ifCond .eq 5, 3) := by decide +kernel
theorem dL_law_557 : decode cL_law 557 = .ok (.goto 1723, 3) := by decide +kernel
theorem dL_law_560 : decode cL_law 560 = .ok (.aload_n 1, 1) := by decide +kernel
theorem dL_law_561 : decode cL_law 561 = .ok (.aload_n 0, 1) := by decide +kernel
theorem dL_law_562 : decode cL_law 562 = .ok (.iload 5, 2) := by decide +kernel
theorem dL_law_564 : decode cL_law 564 = .ok (.iconst 1, 1) := by decide +kernel
theorem dL_law_565 : decode cL_law 565 = .ok (.iadd, 1) := by decide +kernel
theorem dL_law_566 : decode cL_law 566 = .ok (.iaload, 1) := by decide +kernel
theorem dL_law_567 : decode cL_law 567 = .ok (.aload_n 0, 1) := by decide +kernel
theorem dL_law_568 : decode cL_law 568 = .ok (.iload 5, 2) := by decide +kernel
theorem dL_law_570 : decode cL_law 570 = .ok (.iconst 2, 1) := by decide +kernel
theorem dL_law_571 : decode cL_law 571 = .ok (.iadd, 1) := by decide +kernel
theorem dL_law_572 : decode cL_law 572 = .ok (.iaload, 1) := by decide +kernel
theorem dL_law_573 : decode cL_law 573 = .ok (.aload_n 3, 1) := by decide +kernel
theorem dL_law_574 : decode cL_law 574 = .ok (.invokestatic 161, 3) := by decide +kernel
theorem dL_law_577 : decode cL_law 577 = .ok (.istore 6, 2) := by decide +kernel
theorem dL_law_579 : decode cL_law 579 = .ok (.aload_n 2, 1) := by decide +kernel
theorem dL_law_580 : decode cL_law 580 = .ok (.aload_n 0, 1) := by decide +kernel
theorem dL_law_581 : decode cL_law 581 = .ok (.iload 5, 2) := by decide +kernel
theorem dL_law_583 : decode cL_law 583 = .ok (.iconst 1, 1) := by decide +kernel
theorem dL_law_584 : decode cL_law 584 = .ok (.iadd, 1) := by decide +kernel
theorem dL_law_585 : decode cL_law 585 = .ok (.iaload, 1) := by decide +kernel
theorem dL_law_586 : decode cL_law 586 = .ok (.aload_n 0, 1) := by decide +kernel
theorem dL_law_587 : decode cL_law 587 = .ok (.iload 5, 2) := by decide +kernel
theorem dL_law_589 : decode cL_law 589 = .ok (.iconst 2, 1) := by decide +kernel
theorem dL_law_590 : decode cL_law 590 = .ok (.iadd, 1) := by decide +kernel
theorem dL_law_591 : decode cL_law 591 = .ok (.iaload, 1) := by decide +kernel
theorem dL_law_592 : decode cL_law 592 = .ok (.invokevirtual 163, 3) := by decide +kernel
theorem dL_law_595 : decode cL_law 595 = .ok (.istore 7, 2) := by decide +kernel
theorem dL_law_597 : decode cL_law 597 = .ok (.aload_n 2, 1) := by decide +kernel
theorem dL_law_598 : decode cL_law 598 = .ok (.invokevirtual 140, 3) := by decide +kernel
theorem dL_law_601 : decode cL_law 601 = .ok (.iload 6, 2) := by decide +kernel
theorem dL_law_603 : decode cL_law 603 = .ok (.if_icmp .eq 5, 3) := by decide +kernel
theorem dL_law_608 : decode cL_law 608 = .ok (.iload 6, 2) := by decide +kernel
theorem dL_law_610 : decode cL_law 610 = .ok (.ifCond .ne 15, 3) := by decide +kernel
theorem dL_law_625 : decode cL_law 625 = .ok (.goto 1655, 3) := by decide +kernel
theorem dL_law_628 : decode cL_law 628 = .ok (.aload_n 1, 1) := by decide +kernel
theorem dL_law_629 : decode cL_law 629 = .ok (.aload_n 0, 1) := by decide +kernel
theorem dL_law_630 : decode cL_law 630 = .ok (.iload 5, 2) := by decide +kernel
theorem dL_law_632 : decode cL_law 632 = .ok (.iconst 1, 1) := by decide +kernel
theorem dL_law_633 : decode cL_law 633 = .ok (.iadd, 1) := by decide +kernel
theorem dL_law_634 : decode cL_law 634 = .ok (.iaload, 1) := by decide +kernel
theorem dL_law_635 : decode cL_law 635 = .ok (.aload_n 0, 1) := by decide +kernel
theorem dL_law_636 : decode cL_law 636 = .ok (.iload 5, 2) := by decide +kernel
theorem dL_law_638 : decode cL_law 638 = .ok (.iconst 2, 1) := by decide +kernel
theorem dL_law_639 : decode cL_law 639 = .ok (.iadd, 1) := by decide +kernel
theorem dL_law_640 : decode cL_law 640 = .ok (.iaload, 1) := by decide +kernel
theorem dL_law_641 : decode cL_law 641 = .ok (.aload_n 3, 1) := by decide +kernel
theorem dL_law_642 : decode cL_law 642 = .ok (.invokestatic 164, 3) := by decide +kernel
theorem dL_law_645 : decode cL_law 645 = .ok (.istore 6, 2) := by decide +kernel
theorem dL_law_647 : decode cL_law 647 = .ok (.aload_n 2, 1) := by decide +kernel
theorem dL_law_648 : decode cL_law 648 = .ok (.aload_n 0, 1) := by decide +kernel
theorem dL_law_649 : decode cL_law 649 = .ok (.iload 5, 2) := by decide +kernel
theorem dL_law_651 : decode cL_law 651 = .ok (.iconst 1, 1) := by decide +kernel
theorem dL_law_652 : decode cL_law 652 = .ok (.iadd, 1) := by decide +kernel
theorem dL_law_653 : decode cL_law 653 = .ok (.iaload, 1) := by decide +kernel
theorem dL_law_654 : decode cL_law 654 = .ok (.aload_n 0, 1) := by decide +kernel
theorem dL_law_655 : decode cL_law 655 = .ok (.iload 5, 2) := by decide +kernel
theorem dL_law_657 : decode cL_law 657 = .ok (.iconst 2, 1) := by decide +kernel
theorem dL_law_658 : decode cL_law 658 = .ok (.iadd, 1) := by decide +kernel
theorem dL_law_659 : decode cL_law 659 = .ok (.iaload, 1) := by decide +kernel
theorem dL_law_660 : decode cL_law 660 = .ok (.invokevirtual 166, 3) := by decide +kernel
theorem dL_law_663 : decode cL_law 663 = .ok (.istore 7, 2) := by decide +kernel
theorem dL_law_665 : decode cL_law 665 = .ok (.aload_n 2, 1) := by decide +kernel
theorem dL_law_666 : decode cL_law 666 = .ok (.invokevirtual 140, 3) := by decide +kernel
theorem dL_law_669 : decode cL_law 669 = .ok (.iload 6, 2) := by decide +kernel
theorem dL_law_671 : decode cL_law 671 = .ok (.if_icmp .eq 5, 3) := by decide +kernel
theorem dL_law_676 : decode cL_law 676 = .ok (.iload 6, 2) := by decide +kernel
theorem dL_law_678 : decode cL_law 678 = .ok (.ifCond .ne 15, 3) := by decide +kernel
theorem dL_law_693 : decode cL_law 693 = .ok (.goto 1587, 3) := by decide +kernel
theorem dL_law_696 : decode cL_law 696 = .ok (.aload_n 1, 1) := by decide +kernel
theorem dL_law_697 : decode cL_law 697 = .ok (.aload_n 0, 1) := by decide +kernel
theorem dL_law_698 : decode cL_law 698 = .ok (.iload 5, 2) := by decide +kernel
theorem dL_law_700 : decode cL_law 700 = .ok (.iconst 1, 1) := by decide +kernel
theorem dL_law_701 : decode cL_law 701 = .ok (.iadd, 1) := by decide +kernel
theorem dL_law_702 : decode cL_law 702 = .ok (.iaload, 1) := by decide +kernel
theorem dL_law_703 : decode cL_law 703 = .ok (.aload_n 0, 1) := by decide +kernel
theorem dL_law_704 : decode cL_law 704 = .ok (.iload 5, 2) := by decide +kernel
theorem dL_law_706 : decode cL_law 706 = .ok (.iconst 2, 1) := by decide +kernel
theorem dL_law_707 : decode cL_law 707 = .ok (.iadd, 1) := by decide +kernel
theorem dL_law_708 : decode cL_law 708 = .ok (.iaload, 1) := by decide +kernel
theorem dL_law_709 : decode cL_law 709 = .ok (.aload_n 0, 1) := by decide +kernel
theorem dL_law_710 : decode cL_law 710 = .ok (.iload 5, 2) := by decide +kernel
theorem dL_law_712 : decode cL_law 712 = .ok (.iconst 3, 1) := by decide +kernel
theorem dL_law_713 : decode cL_law 713 = .ok (.iadd, 1) := by decide +kernel
theorem dL_law_714 : decode cL_law 714 = .ok (.iaload, 1) := by decide +kernel
theorem dL_law_715 : decode cL_law 715 = .ok (.aload_n 3, 1) := by decide +kernel
theorem dL_law_716 : decode cL_law 716 = .ok (.invokestatic 167, 3) := by decide +kernel
theorem dL_law_719 : decode cL_law 719 = .ok (.istore 6, 2) := by decide +kernel
theorem dL_law_721 : decode cL_law 721 = .ok (.aload_n 2, 1) := by decide +kernel
theorem dL_law_722 : decode cL_law 722 = .ok (.aload_n 0, 1) := by decide +kernel
theorem dL_law_723 : decode cL_law 723 = .ok (.iload 5, 2) := by decide +kernel
theorem dL_law_725 : decode cL_law 725 = .ok (.iconst 1, 1) := by decide +kernel
theorem dL_law_726 : decode cL_law 726 = .ok (.iadd, 1) := by decide +kernel
theorem dL_law_727 : decode cL_law 727 = .ok (.iaload, 1) := by decide +kernel
theorem dL_law_728 : decode cL_law 728 = .ok (.aload_n 0, 1) := by decide +kernel
theorem dL_law_729 : decode cL_law 729 = .ok (.iload 5, 2) := by decide +kernel
theorem dL_law_731 : decode cL_law 731 = .ok (.iconst 2, 1) := by decide +kernel
theorem dL_law_732 : decode cL_law 732 = .ok (.iadd, 1) := by decide +kernel
theorem dL_law_733 : decode cL_law 733 = .ok (.iaload, 1) := by decide +kernel
theorem dL_law_734 : decode cL_law 734 = .ok (.aload_n 0, 1) := by decide +kernel
theorem dL_law_735 : decode cL_law 735 = .ok (.iload 5, 2) := by decide +kernel
theorem dL_law_737 : decode cL_law 737 = .ok (.iconst 3, 1) := by decide +kernel
theorem dL_law_738 : decode cL_law 738 = .ok (.iadd, 1) := by decide +kernel
theorem dL_law_739 : decode cL_law 739 = .ok (.iaload, 1) := by decide +kernel
theorem dL_law_740 : decode cL_law 740 = .ok (.invokevirtual 169, 3) := by decide +kernel
theorem dL_law_743 : decode cL_law 743 = .ok (.istore 7, 2) := by decide +kernel
theorem dL_law_745 : decode cL_law 745 = .ok (.aload_n 2, 1) := by decide +kernel
theorem dL_law_746 : decode cL_law 746 = .ok (.invokevirtual 140, 3) := by decide +kernel
theorem dL_law_749 : decode cL_law 749 = .ok (.iload 6, 2) := by decide +kernel
theorem dL_law_751 : decode cL_law 751 = .ok (.if_icmp .eq 5, 3) := by decide +kernel
theorem dL_law_756 : decode cL_law 756 = .ok (.iload 6, 2) := by decide +kernel
theorem dL_law_758 : decode cL_law 758 = .ok (.ifCond .ne 15, 3) := by decide +kernel
theorem dL_law_773 : decode cL_law 773 = .ok (.goto 1507, 3) := by decide +kernel
theorem dL_law_776 : decode cL_law 776 = .ok (.aload_n 1, 1) := by decide +kernel
theorem dL_law_777 : decode cL_law 777 = .ok (.aload_n 0, 1) := by decide +kernel
theorem dL_law_778 : decode cL_law 778 = .ok (.iload 5, 2) := by decide +kernel
theorem dL_law_780 : decode cL_law 780 = .ok (.iconst 1, 1) := by decide +kernel
theorem dL_law_781 : decode cL_law 781 = .ok (.iadd, 1) := by decide +kernel
theorem dL_law_782 : decode cL_law 782 = .ok (.iaload, 1) := by decide +kernel
theorem dL_law_783 : decode cL_law 783 = .ok (.aload_n 0, 1) := by decide +kernel
theorem dL_law_784 : decode cL_law 784 = .ok (.iload 5, 2) := by decide +kernel
theorem dL_law_786 : decode cL_law 786 = .ok (.iconst 2, 1) := by decide +kernel
theorem dL_law_787 : decode cL_law 787 = .ok (.iadd, 1) := by decide +kernel
theorem dL_law_788 : decode cL_law 788 = .ok (.iaload, 1) := by decide +kernel
theorem dL_law_789 : decode cL_law 789 = .ok (.aload_n 0, 1) := by decide +kernel
theorem dL_law_790 : decode cL_law 790 = .ok (.iload 5, 2) := by decide +kernel
theorem dL_law_792 : decode cL_law 792 = .ok (.iconst 3, 1) := by decide +kernel
theorem dL_law_793 : decode cL_law 793 = .ok (.iadd, 1) := by decide +kernel
theorem dL_law_794 : decode cL_law 794 = .ok (.iaload, 1) := by decide +kernel
theorem dL_law_795 : decode cL_law 795 = .ok (.aload_n 3, 1) := by decide +kernel
theorem dL_law_796 : decode cL_law 796 = .ok (.invokestatic 170, 3) := by decide +kernel
theorem dL_law_799 : decode cL_law 799 = .ok (.istore 6, 2) := by decide +kernel
theorem dL_law_801 : decode cL_law 801 = .ok (.aload_n 2, 1) := by decide +kernel
theorem dL_law_802 : decode cL_law 802 = .ok (.aload_n 0, 1) := by decide +kernel
theorem dL_law_803 : decode cL_law 803 = .ok (.iload 5, 2) := by decide +kernel
theorem dL_law_805 : decode cL_law 805 = .ok (.iconst 1, 1) := by decide +kernel
theorem dL_law_806 : decode cL_law 806 = .ok (.iadd, 1) := by decide +kernel
theorem dL_law_807 : decode cL_law 807 = .ok (.iaload, 1) := by decide +kernel
theorem dL_law_808 : decode cL_law 808 = .ok (.aload_n 0, 1) := by decide +kernel
theorem dL_law_809 : decode cL_law 809 = .ok (.iload 5, 2) := by decide +kernel
theorem dL_law_811 : decode cL_law 811 = .ok (.iconst 2, 1) := by decide +kernel
theorem dL_law_812 : decode cL_law 812 = .ok (.iadd, 1) := by decide +kernel
theorem dL_law_813 : decode cL_law 813 = .ok (.iaload, 1) := by decide +kernel
theorem dL_law_814 : decode cL_law 814 = .ok (.aload_n 0, 1) := by decide +kernel
theorem dL_law_815 : decode cL_law 815 = .ok (.iload 5, 2) := by decide +kernel
theorem dL_law_817 : decode cL_law 817 = .ok (.iconst 3, 1) := by decide +kernel
theorem dL_law_818 : decode cL_law 818 = .ok (.iadd, 1) := by decide +kernel
theorem dL_law_819 : decode cL_law 819 = .ok (.iaload, 1) := by decide +kernel
theorem dL_law_820 : decode cL_law 820 = .ok (.invokevirtual 172, 3) := by decide +kernel
theorem dL_law_823 : decode cL_law 823 = .ok (.istore 7, 2) := by decide +kernel
theorem dL_law_825 : decode cL_law 825 = .ok (.aload_n 2, 1) := by decide +kernel
theorem dL_law_826 : decode cL_law 826 = .ok (.invokevirtual 140, 3) := by decide +kernel
theorem dL_law_829 : decode cL_law 829 = .ok (.iload 6, 2) := by decide +kernel
theorem dL_law_831 : decode cL_law 831 = .ok (.if_icmp .eq 5, 3) := by decide +kernel
theorem dL_law_836 : decode cL_law 836 = .ok (.iload 6, 2) := by decide +kernel
theorem dL_law_838 : decode cL_law 838 = .ok (.ifCond .ne 15, 3) := by decide +kernel
theorem dL_law_853 : decode cL_law 853 = .ok (.goto 1427, 3) := by decide +kernel
theorem dL_law_856 : decode cL_law 856 = .ok (.aload_n 1, 1) := by decide +kernel
theorem dL_law_857 : decode cL_law 857 = .ok (.aload_n 0, 1) := by decide +kernel
theorem dL_law_858 : decode cL_law 858 = .ok (.iload 5, 2) := by decide +kernel
theorem dL_law_860 : decode cL_law 860 = .ok (.iconst 1, 1) := by decide +kernel
theorem dL_law_861 : decode cL_law 861 = .ok (.iadd, 1) := by decide +kernel
theorem dL_law_862 : decode cL_law 862 = .ok (.iaload, 1) := by decide +kernel
theorem dL_law_863 : decode cL_law 863 = .ok (.aload_n 0, 1) := by decide +kernel
theorem dL_law_864 : decode cL_law 864 = .ok (.iload 5, 2) := by decide +kernel
theorem dL_law_866 : decode cL_law 866 = .ok (.iconst 2, 1) := by decide +kernel
theorem dL_law_867 : decode cL_law 867 = .ok (.iadd, 1) := by decide +kernel
theorem dL_law_868 : decode cL_law 868 = .ok (.iaload, 1) := by decide +kernel
theorem dL_law_869 : decode cL_law 869 = .ok (.aload_n 3, 1) := by decide +kernel
theorem dL_law_870 : decode cL_law 870 = .ok (.invokestatic 173, 3) := by decide +kernel
theorem dL_law_873 : decode cL_law 873 = .ok (.istore 6, 2) := by decide +kernel
theorem dL_law_875 : decode cL_law 875 = .ok (.aload_n 2, 1) := by decide +kernel
theorem dL_law_876 : decode cL_law 876 = .ok (.aload_n 0, 1) := by decide +kernel
theorem dL_law_877 : decode cL_law 877 = .ok (.iload 5, 2) := by decide +kernel
theorem dL_law_879 : decode cL_law 879 = .ok (.iconst 1, 1) := by decide +kernel
theorem dL_law_880 : decode cL_law 880 = .ok (.iadd, 1) := by decide +kernel
theorem dL_law_881 : decode cL_law 881 = .ok (.iaload, 1) := by decide +kernel
theorem dL_law_882 : decode cL_law 882 = .ok (.aload_n 0, 1) := by decide +kernel
theorem dL_law_883 : decode cL_law 883 = .ok (.iload 5, 2) := by decide +kernel
theorem dL_law_885 : decode cL_law 885 = .ok (.iconst 2, 1) := by decide +kernel
theorem dL_law_886 : decode cL_law 886 = .ok (.iadd, 1) := by decide +kernel
theorem dL_law_887 : decode cL_law 887 = .ok (.iaload, 1) := by decide +kernel
theorem dL_law_888 : decode cL_law 888 = .ok (.invokevirtual 175, 3) := by decide +kernel
theorem dL_law_891 : decode cL_law 891 = .ok (.istore 7, 2) := by decide +kernel
theorem dL_law_893 : decode cL_law 893 = .ok (.aload_n 2, 1) := by decide +kernel
theorem dL_law_894 : decode cL_law 894 = .ok (.invokevirtual 140, 3) := by decide +kernel
theorem dL_law_897 : decode cL_law 897 = .ok (.iload 6, 2) := by decide +kernel
theorem dL_law_899 : decode cL_law 899 = .ok (.if_icmp .eq 5, 3) := by decide +kernel
theorem dL_law_904 : decode cL_law 904 = .ok (.iload 6, 2) := by decide +kernel
theorem dL_law_906 : decode cL_law 906 = .ok (.ifCond .ne 15, 3) := by decide +kernel
theorem dL_law_921 : decode cL_law 921 = .ok (.goto 1359, 3) := by decide +kernel
theorem dL_law_924 : decode cL_law 924 = .ok (.aload_n 1, 1) := by decide +kernel
theorem dL_law_925 : decode cL_law 925 = .ok (.aload_n 0, 1) := by decide +kernel
theorem dL_law_926 : decode cL_law 926 = .ok (.iload 5, 2) := by decide +kernel
theorem dL_law_928 : decode cL_law 928 = .ok (.iconst 1, 1) := by decide +kernel
theorem dL_law_929 : decode cL_law 929 = .ok (.iadd, 1) := by decide +kernel
theorem dL_law_930 : decode cL_law 930 = .ok (.iaload, 1) := by decide +kernel
theorem dL_law_931 : decode cL_law 931 = .ok (.aload_n 0, 1) := by decide +kernel
theorem dL_law_932 : decode cL_law 932 = .ok (.iload 5, 2) := by decide +kernel
theorem dL_law_934 : decode cL_law 934 = .ok (.iconst 2, 1) := by decide +kernel
theorem dL_law_935 : decode cL_law 935 = .ok (.iadd, 1) := by decide +kernel
theorem dL_law_936 : decode cL_law 936 = .ok (.iaload, 1) := by decide +kernel
theorem dL_law_937 : decode cL_law 937 = .ok (.aload_n 3, 1) := by decide +kernel
theorem dL_law_938 : decode cL_law 938 = .ok (.invokestatic 176, 3) := by decide +kernel
theorem dL_law_941 : decode cL_law 941 = .ok (.istore 6, 2) := by decide +kernel
theorem dL_law_943 : decode cL_law 943 = .ok (.aload_n 2, 1) := by decide +kernel
theorem dL_law_944 : decode cL_law 944 = .ok (.aload_n 0, 1) := by decide +kernel
theorem dL_law_945 : decode cL_law 945 = .ok (.iload 5, 2) := by decide +kernel
theorem dL_law_947 : decode cL_law 947 = .ok (.iconst 1, 1) := by decide +kernel
theorem dL_law_948 : decode cL_law 948 = .ok (.iadd, 1) := by decide +kernel
theorem dL_law_949 : decode cL_law 949 = .ok (.iaload, 1) := by decide +kernel
theorem dL_law_950 : decode cL_law 950 = .ok (.aload_n 0, 1) := by decide +kernel
theorem dL_law_951 : decode cL_law 951 = .ok (.iload 5, 2) := by decide +kernel
theorem dL_law_953 : decode cL_law 953 = .ok (.iconst 2, 1) := by decide +kernel
theorem dL_law_954 : decode cL_law 954 = .ok (.iadd, 1) := by decide +kernel
theorem dL_law_955 : decode cL_law 955 = .ok (.iaload, 1) := by decide +kernel
theorem dL_law_956 : decode cL_law 956 = .ok (.invokevirtual 178, 3) := by decide +kernel
theorem dL_law_959 : decode cL_law 959 = .ok (.istore 7, 2) := by decide +kernel
theorem dL_law_961 : decode cL_law 961 = .ok (.aload_n 2, 1) := by decide +kernel
theorem dL_law_962 : decode cL_law 962 = .ok (.invokevirtual 140, 3) := by decide +kernel
theorem dL_law_965 : decode cL_law 965 = .ok (.iload 6, 2) := by decide +kernel
theorem dL_law_967 : decode cL_law 967 = .ok (.if_icmp .eq 5, 3) := by decide +kernel
theorem dL_law_972 : decode cL_law 972 = .ok (.iload 6, 2) := by decide +kernel
theorem dL_law_974 : decode cL_law 974 = .ok (.ifCond .ne 15, 3) := by decide +kernel
theorem dL_law_989 : decode cL_law 989 = .ok (.goto 1291, 3) := by decide +kernel
theorem dL_law_992 : decode cL_law 992 = .ok (.aload_n 1, 1) := by decide +kernel
theorem dL_law_993 : decode cL_law 993 = .ok (.aload_n 0, 1) := by decide +kernel
theorem dL_law_994 : decode cL_law 994 = .ok (.iload 5, 2) := by decide +kernel
theorem dL_law_996 : decode cL_law 996 = .ok (.iconst 1, 1) := by decide +kernel
theorem dL_law_997 : decode cL_law 997 = .ok (.iadd, 1) := by decide +kernel
theorem dL_law_998 : decode cL_law 998 = .ok (.iaload, 1) := by decide +kernel
theorem dL_law_999 : decode cL_law 999 = .ok (.aload_n 0, 1) := by decide +kernel
theorem dL_law_1000 : decode cL_law 1000 = .ok (.iload 5, 2) := by decide +kernel
theorem dL_law_1002 : decode cL_law 1002 = .ok (.iconst 2, 1) := by decide +kernel
theorem dL_law_1003 : decode cL_law 1003 = .ok (.iadd, 1) := by decide +kernel
theorem dL_law_1004 : decode cL_law 1004 = .ok (.iaload, 1) := by decide +kernel
theorem dL_law_1005 : decode cL_law 1005 = .ok (.aload_n 3, 1) := by decide +kernel
theorem dL_law_1006 : decode cL_law 1006 = .ok (.invokestatic 179, 3) := by decide +kernel
theorem dL_law_1009 : decode cL_law 1009 = .ok (.istore 6, 2) := by decide +kernel
theorem dL_law_1011 : decode cL_law 1011 = .ok (.aload_n 2, 1) := by decide +kernel
theorem dL_law_1012 : decode cL_law 1012 = .ok (.aload_n 0, 1) := by decide +kernel
theorem dL_law_1013 : decode cL_law 1013 = .ok (.iload 5, 2) := by decide +kernel
theorem dL_law_1015 : decode cL_law 1015 = .ok (.iconst 1, 1) := by decide +kernel
theorem dL_law_1016 : decode cL_law 1016 = .ok (.iadd, 1) := by decide +kernel
theorem dL_law_1017 : decode cL_law 1017 = .ok (.iaload, 1) := by decide +kernel
theorem dL_law_1018 : decode cL_law 1018 = .ok (.aload_n 0, 1) := by decide +kernel
theorem dL_law_1019 : decode cL_law 1019 = .ok (.iload 5, 2) := by decide +kernel
theorem dL_law_1021 : decode cL_law 1021 = .ok (.iconst 2, 1) := by decide +kernel
theorem dL_law_1022 : decode cL_law 1022 = .ok (.iadd, 1) := by decide +kernel
theorem dL_law_1023 : decode cL_law 1023 = .ok (.iaload, 1) := by decide +kernel
theorem dL_law_1024 : decode cL_law 1024 = .ok (.invokevirtual 181, 3) := by decide +kernel
theorem dL_law_1027 : decode cL_law 1027 = .ok (.istore 7, 2) := by decide +kernel
theorem dL_law_1029 : decode cL_law 1029 = .ok (.aload_n 2, 1) := by decide +kernel
theorem dL_law_1030 : decode cL_law 1030 = .ok (.invokevirtual 140, 3) := by decide +kernel
theorem dL_law_1033 : decode cL_law 1033 = .ok (.iload 6, 2) := by decide +kernel
theorem dL_law_1035 : decode cL_law 1035 = .ok (.if_icmp .eq 5, 3) := by decide +kernel
theorem dL_law_1040 : decode cL_law 1040 = .ok (.iload 6, 2) := by decide +kernel
theorem dL_law_1042 : decode cL_law 1042 = .ok (.ifCond .ne 15, 3) := by decide +kernel
theorem dL_law_1057 : decode cL_law 1057 = .ok (.goto 1223, 3) := by decide +kernel
theorem dL_law_1060 : decode cL_law 1060 = .ok (.aload_n 1, 1) := by decide +kernel
theorem dL_law_1061 : decode cL_law 1061 = .ok (.aload_n 0, 1) := by decide +kernel
theorem dL_law_1062 : decode cL_law 1062 = .ok (.iload 5, 2) := by decide +kernel
theorem dL_law_1064 : decode cL_law 1064 = .ok (.iconst 1, 1) := by decide +kernel
theorem dL_law_1065 : decode cL_law 1065 = .ok (.iadd, 1) := by decide +kernel
theorem dL_law_1066 : decode cL_law 1066 = .ok (.iaload, 1) := by decide +kernel
theorem dL_law_1067 : decode cL_law 1067 = .ok (.aload_n 0, 1) := by decide +kernel
theorem dL_law_1068 : decode cL_law 1068 = .ok (.iload 5, 2) := by decide +kernel
theorem dL_law_1070 : decode cL_law 1070 = .ok (.iconst 2, 1) := by decide +kernel
theorem dL_law_1071 : decode cL_law 1071 = .ok (.iadd, 1) := by decide +kernel
theorem dL_law_1072 : decode cL_law 1072 = .ok (.iaload, 1) := by decide +kernel
theorem dL_law_1073 : decode cL_law 1073 = .ok (.aload_n 3, 1) := by decide +kernel
theorem dL_law_1074 : decode cL_law 1074 = .ok (.invokestatic 182, 3) := by decide +kernel
theorem dL_law_1077 : decode cL_law 1077 = .ok (.istore 6, 2) := by decide +kernel
theorem dL_law_1079 : decode cL_law 1079 = .ok (.aload_n 2, 1) := by decide +kernel
theorem dL_law_1080 : decode cL_law 1080 = .ok (.aload_n 0, 1) := by decide +kernel
theorem dL_law_1081 : decode cL_law 1081 = .ok (.iload 5, 2) := by decide +kernel
theorem dL_law_1083 : decode cL_law 1083 = .ok (.iconst 1, 1) := by decide +kernel
theorem dL_law_1084 : decode cL_law 1084 = .ok (.iadd, 1) := by decide +kernel
theorem dL_law_1085 : decode cL_law 1085 = .ok (.iaload, 1) := by decide +kernel
theorem dL_law_1086 : decode cL_law 1086 = .ok (.aload_n 0, 1) := by decide +kernel
theorem dL_law_1087 : decode cL_law 1087 = .ok (.iload 5, 2) := by decide +kernel
theorem dL_law_1089 : decode cL_law 1089 = .ok (.iconst 2, 1) := by decide +kernel
theorem dL_law_1090 : decode cL_law 1090 = .ok (.iadd, 1) := by decide +kernel
theorem dL_law_1091 : decode cL_law 1091 = .ok (.iaload, 1) := by decide +kernel
theorem dL_law_1092 : decode cL_law 1092 = .ok (.invokevirtual 184, 3) := by decide +kernel
theorem dL_law_1095 : decode cL_law 1095 = .ok (.istore 7, 2) := by decide +kernel
theorem dL_law_1097 : decode cL_law 1097 = .ok (.aload_n 2, 1) := by decide +kernel
theorem dL_law_1098 : decode cL_law 1098 = .ok (.invokevirtual 140, 3) := by decide +kernel
theorem dL_law_1101 : decode cL_law 1101 = .ok (.iload 6, 2) := by decide +kernel
theorem dL_law_1103 : decode cL_law 1103 = .ok (.if_icmp .eq 5, 3) := by decide +kernel
theorem dL_law_1108 : decode cL_law 1108 = .ok (.iload 6, 2) := by decide +kernel
theorem dL_law_1110 : decode cL_law 1110 = .ok (.ifCond .ne 15, 3) := by decide +kernel
theorem dL_law_1125 : decode cL_law 1125 = .ok (.goto 1155, 3) := by decide +kernel
theorem dL_law_1128 : decode cL_law 1128 = .ok (.aload_n 1, 1) := by decide +kernel
theorem dL_law_1129 : decode cL_law 1129 = .ok (.aload_n 0, 1) := by decide +kernel
theorem dL_law_1130 : decode cL_law 1130 = .ok (.iload 5, 2) := by decide +kernel
theorem dL_law_1132 : decode cL_law 1132 = .ok (.iconst 1, 1) := by decide +kernel
theorem dL_law_1133 : decode cL_law 1133 = .ok (.iadd, 1) := by decide +kernel
theorem dL_law_1134 : decode cL_law 1134 = .ok (.iaload, 1) := by decide +kernel
theorem dL_law_1135 : decode cL_law 1135 = .ok (.aload_n 3, 1) := by decide +kernel
theorem dL_law_1136 : decode cL_law 1136 = .ok (.invokestatic 185, 3) := by decide +kernel
theorem dL_law_1139 : decode cL_law 1139 = .ok (.istore 6, 2) := by decide +kernel
theorem dL_law_1141 : decode cL_law 1141 = .ok (.aload_n 2, 1) := by decide +kernel
theorem dL_law_1142 : decode cL_law 1142 = .ok (.aload_n 0, 1) := by decide +kernel
theorem dL_law_1143 : decode cL_law 1143 = .ok (.iload 5, 2) := by decide +kernel
theorem dL_law_1145 : decode cL_law 1145 = .ok (.iconst 1, 1) := by decide +kernel
theorem dL_law_1146 : decode cL_law 1146 = .ok (.iadd, 1) := by decide +kernel
theorem dL_law_1147 : decode cL_law 1147 = .ok (.iaload, 1) := by decide +kernel
theorem dL_law_1148 : decode cL_law 1148 = .ok (.invokevirtual 187, 3) := by decide +kernel
theorem dL_law_1151 : decode cL_law 1151 = .ok (.istore 7, 2) := by decide +kernel
theorem dL_law_1153 : decode cL_law 1153 = .ok (.aload_n 2, 1) := by decide +kernel
theorem dL_law_1154 : decode cL_law 1154 = .ok (.invokevirtual 140, 3) := by decide +kernel
theorem dL_law_1157 : decode cL_law 1157 = .ok (.iload 6, 2) := by decide +kernel
theorem dL_law_1159 : decode cL_law 1159 = .ok (.if_icmp .eq 5, 3) := by decide +kernel
theorem dL_law_1164 : decode cL_law 1164 = .ok (.iload 6, 2) := by decide +kernel
theorem dL_law_1166 : decode cL_law 1166 = .ok (.ifCond .ne 15, 3) := by decide +kernel
theorem dL_law_1181 : decode cL_law 1181 = .ok (.goto 1099, 3) := by decide +kernel
theorem dL_law_1184 : decode cL_law 1184 = .ok (.aload_n 1, 1) := by decide +kernel
theorem dL_law_1185 : decode cL_law 1185 = .ok (.aload_n 0, 1) := by decide +kernel
theorem dL_law_1186 : decode cL_law 1186 = .ok (.iload 5, 2) := by decide +kernel
theorem dL_law_1188 : decode cL_law 1188 = .ok (.iconst 1, 1) := by decide +kernel
theorem dL_law_1189 : decode cL_law 1189 = .ok (.iadd, 1) := by decide +kernel
theorem dL_law_1190 : decode cL_law 1190 = .ok (.iaload, 1) := by decide +kernel
theorem dL_law_1191 : decode cL_law 1191 = .ok (.aload_n 0, 1) := by decide +kernel
theorem dL_law_1192 : decode cL_law 1192 = .ok (.iload 5, 2) := by decide +kernel
theorem dL_law_1194 : decode cL_law 1194 = .ok (.iconst 2, 1) := by decide +kernel
theorem dL_law_1195 : decode cL_law 1195 = .ok (.iadd, 1) := by decide +kernel
theorem dL_law_1196 : decode cL_law 1196 = .ok (.iaload, 1) := by decide +kernel
theorem dL_law_1197 : decode cL_law 1197 = .ok (.aload_n 3, 1) := by decide +kernel
theorem dL_law_1198 : decode cL_law 1198 = .ok (.invokestatic 188, 3) := by decide +kernel
theorem dL_law_1201 : decode cL_law 1201 = .ok (.istore 6, 2) := by decide +kernel
theorem dL_law_1203 : decode cL_law 1203 = .ok (.aload_n 2, 1) := by decide +kernel
theorem dL_law_1204 : decode cL_law 1204 = .ok (.aload_n 0, 1) := by decide +kernel
theorem dL_law_1205 : decode cL_law 1205 = .ok (.iload 5, 2) := by decide +kernel
theorem dL_law_1207 : decode cL_law 1207 = .ok (.iconst 1, 1) := by decide +kernel
theorem dL_law_1208 : decode cL_law 1208 = .ok (.iadd, 1) := by decide +kernel
theorem dL_law_1209 : decode cL_law 1209 = .ok (.iaload, 1) := by decide +kernel
theorem dL_law_1210 : decode cL_law 1210 = .ok (.aload_n 0, 1) := by decide +kernel
theorem dL_law_1211 : decode cL_law 1211 = .ok (.iload 5, 2) := by decide +kernel
theorem dL_law_1213 : decode cL_law 1213 = .ok (.iconst 2, 1) := by decide +kernel
theorem dL_law_1214 : decode cL_law 1214 = .ok (.iadd, 1) := by decide +kernel
theorem dL_law_1215 : decode cL_law 1215 = .ok (.iaload, 1) := by decide +kernel
theorem dL_law_1216 : decode cL_law 1216 = .ok (.invokevirtual 190, 3) := by decide +kernel
theorem dL_law_1219 : decode cL_law 1219 = .ok (.istore 7, 2) := by decide +kernel
theorem dL_law_1221 : decode cL_law 1221 = .ok (.aload_n 2, 1) := by decide +kernel
theorem dL_law_1222 : decode cL_law 1222 = .ok (.invokevirtual 140, 3) := by decide +kernel
theorem dL_law_1225 : decode cL_law 1225 = .ok (.iload 6, 2) := by decide +kernel
theorem dL_law_1227 : decode cL_law 1227 = .ok (.if_icmp .eq 5, 3) := by decide +kernel
theorem dL_law_1232 : decode cL_law 1232 = .ok (.iload 6, 2) := by decide +kernel
theorem dL_law_1234 : decode cL_law 1234 = .ok (.ifCond .ne 15, 3) := by decide +kernel
theorem dL_law_1249 : decode cL_law 1249 = .ok (.goto 1031, 3) := by decide +kernel
theorem dL_law_1252 : decode cL_law 1252 = .ok (.aload_n 1, 1) := by decide +kernel
theorem dL_law_1253 : decode cL_law 1253 = .ok (.aload_n 0, 1) := by decide +kernel
theorem dL_law_1254 : decode cL_law 1254 = .ok (.iload 5, 2) := by decide +kernel
theorem dL_law_1256 : decode cL_law 1256 = .ok (.iconst 1, 1) := by decide +kernel
theorem dL_law_1257 : decode cL_law 1257 = .ok (.iadd, 1) := by decide +kernel
theorem dL_law_1258 : decode cL_law 1258 = .ok (.iaload, 1) := by decide +kernel
theorem dL_law_1259 : decode cL_law 1259 = .ok (.aload_n 0, 1) := by decide +kernel
theorem dL_law_1260 : decode cL_law 1260 = .ok (.iload 5, 2) := by decide +kernel
theorem dL_law_1262 : decode cL_law 1262 = .ok (.iconst 2, 1) := by decide +kernel
theorem dL_law_1263 : decode cL_law 1263 = .ok (.iadd, 1) := by decide +kernel
theorem dL_law_1264 : decode cL_law 1264 = .ok (.iaload, 1) := by decide +kernel
theorem dL_law_1265 : decode cL_law 1265 = .ok (.aload_n 3, 1) := by decide +kernel
theorem dL_law_1266 : decode cL_law 1266 = .ok (.invokestatic 191, 3) := by decide +kernel
theorem dL_law_1269 : decode cL_law 1269 = .ok (.istore 6, 2) := by decide +kernel
theorem dL_law_1271 : decode cL_law 1271 = .ok (.aload_n 2, 1) := by decide +kernel
theorem dL_law_1272 : decode cL_law 1272 = .ok (.aload_n 0, 1) := by decide +kernel
theorem dL_law_1273 : decode cL_law 1273 = .ok (.iload 5, 2) := by decide +kernel
theorem dL_law_1275 : decode cL_law 1275 = .ok (.iconst 1, 1) := by decide +kernel
theorem dL_law_1276 : decode cL_law 1276 = .ok (.iadd, 1) := by decide +kernel
theorem dL_law_1277 : decode cL_law 1277 = .ok (.iaload, 1) := by decide +kernel
theorem dL_law_1278 : decode cL_law 1278 = .ok (.aload_n 0, 1) := by decide +kernel
theorem dL_law_1279 : decode cL_law 1279 = .ok (.iload 5, 2) := by decide +kernel
theorem dL_law_1281 : decode cL_law 1281 = .ok (.iconst 2, 1) := by decide +kernel
theorem dL_law_1282 : decode cL_law 1282 = .ok (.iadd, 1) := by decide +kernel
theorem dL_law_1283 : decode cL_law 1283 = .ok (.iaload, 1) := by decide +kernel
theorem dL_law_1284 : decode cL_law 1284 = .ok (.invokevirtual 193, 3) := by decide +kernel
theorem dL_law_1287 : decode cL_law 1287 = .ok (.istore 7, 2) := by decide +kernel
theorem dL_law_1289 : decode cL_law 1289 = .ok (.aload_n 2, 1) := by decide +kernel
theorem dL_law_1290 : decode cL_law 1290 = .ok (.invokevirtual 140, 3) := by decide +kernel
theorem dL_law_1293 : decode cL_law 1293 = .ok (.iload 6, 2) := by decide +kernel
theorem dL_law_1295 : decode cL_law 1295 = .ok (.if_icmp .eq 5, 3) := by decide +kernel
theorem dL_law_1300 : decode cL_law 1300 = .ok (.iload 6, 2) := by decide +kernel
theorem dL_law_1302 : decode cL_law 1302 = .ok (.ifCond .ne 15, 3) := by decide +kernel
theorem dL_law_1317 : decode cL_law 1317 = .ok (.goto 963, 3) := by decide +kernel
theorem dL_law_1320 : decode cL_law 1320 = .ok (.aload_n 1, 1) := by decide +kernel
theorem dL_law_1321 : decode cL_law 1321 = .ok (.aload_n 0, 1) := by decide +kernel
theorem dL_law_1322 : decode cL_law 1322 = .ok (.iload 5, 2) := by decide +kernel
theorem dL_law_1324 : decode cL_law 1324 = .ok (.iconst 1, 1) := by decide +kernel
theorem dL_law_1325 : decode cL_law 1325 = .ok (.iadd, 1) := by decide +kernel
theorem dL_law_1326 : decode cL_law 1326 = .ok (.iaload, 1) := by decide +kernel
theorem dL_law_1327 : decode cL_law 1327 = .ok (.aload_n 3, 1) := by decide +kernel
theorem dL_law_1328 : decode cL_law 1328 = .ok (.invokestatic 194, 3) := by decide +kernel
theorem dL_law_1331 : decode cL_law 1331 = .ok (.istore 6, 2) := by decide +kernel
theorem dL_law_1333 : decode cL_law 1333 = .ok (.aload_n 2, 1) := by decide +kernel
theorem dL_law_1334 : decode cL_law 1334 = .ok (.aload_n 0, 1) := by decide +kernel
theorem dL_law_1335 : decode cL_law 1335 = .ok (.iload 5, 2) := by decide +kernel
theorem dL_law_1337 : decode cL_law 1337 = .ok (.iconst 1, 1) := by decide +kernel
theorem dL_law_1338 : decode cL_law 1338 = .ok (.iadd, 1) := by decide +kernel
theorem dL_law_1339 : decode cL_law 1339 = .ok (.iaload, 1) := by decide +kernel
theorem dL_law_1340 : decode cL_law 1340 = .ok (.invokevirtual 196, 3) := by decide +kernel
theorem dL_law_1343 : decode cL_law 1343 = .ok (.istore 7, 2) := by decide +kernel
theorem dL_law_1345 : decode cL_law 1345 = .ok (.aload_n 2, 1) := by decide +kernel
theorem dL_law_1346 : decode cL_law 1346 = .ok (.invokevirtual 140, 3) := by decide +kernel
theorem dL_law_1349 : decode cL_law 1349 = .ok (.iload 6, 2) := by decide +kernel
theorem dL_law_1351 : decode cL_law 1351 = .ok (.if_icmp .eq 5, 3) := by decide +kernel
theorem dL_law_1356 : decode cL_law 1356 = .ok (.iload 6, 2) := by decide +kernel
theorem dL_law_1358 : decode cL_law 1358 = .ok (.ifCond .ne 22, 3) := by decide +kernel
theorem dL_law_1380 : decode cL_law 1380 = .ok (.goto 900, 3) := by decide +kernel
theorem dL_law_1383 : decode cL_law 1383 = .ok (.aload_n 1, 1) := by decide +kernel
theorem dL_law_1384 : decode cL_law 1384 = .ok (.aload_n 0, 1) := by decide +kernel
theorem dL_law_1385 : decode cL_law 1385 = .ok (.iload 5, 2) := by decide +kernel
theorem dL_law_1387 : decode cL_law 1387 = .ok (.iconst 1, 1) := by decide +kernel
theorem dL_law_1388 : decode cL_law 1388 = .ok (.iadd, 1) := by decide +kernel
theorem dL_law_1389 : decode cL_law 1389 = .ok (.iaload, 1) := by decide +kernel
theorem dL_law_1390 : decode cL_law 1390 = .ok (.aload_n 3, 1) := by decide +kernel
theorem dL_law_1391 : decode cL_law 1391 = .ok (.invokestatic 197, 3) := by decide +kernel
theorem dL_law_1394 : decode cL_law 1394 = .ok (.istore 6, 2) := by decide +kernel
theorem dL_law_1396 : decode cL_law 1396 = .ok (.aload_n 2, 1) := by decide +kernel
theorem dL_law_1397 : decode cL_law 1397 = .ok (.aload_n 0, 1) := by decide +kernel
theorem dL_law_1398 : decode cL_law 1398 = .ok (.iload 5, 2) := by decide +kernel
theorem dL_law_1400 : decode cL_law 1400 = .ok (.iconst 1, 1) := by decide +kernel
theorem dL_law_1401 : decode cL_law 1401 = .ok (.iadd, 1) := by decide +kernel
theorem dL_law_1402 : decode cL_law 1402 = .ok (.iaload, 1) := by decide +kernel
theorem dL_law_1403 : decode cL_law 1403 = .ok (.invokevirtual 199, 3) := by decide +kernel
theorem dL_law_1406 : decode cL_law 1406 = .ok (.istore 7, 2) := by decide +kernel
theorem dL_law_1408 : decode cL_law 1408 = .ok (.aload_n 2, 1) := by decide +kernel
theorem dL_law_1409 : decode cL_law 1409 = .ok (.invokevirtual 140, 3) := by decide +kernel
theorem dL_law_1412 : decode cL_law 1412 = .ok (.iload 6, 2) := by decide +kernel
theorem dL_law_1414 : decode cL_law 1414 = .ok (.if_icmp .eq 5, 3) := by decide +kernel
theorem dL_law_1419 : decode cL_law 1419 = .ok (.iload 6, 2) := by decide +kernel
theorem dL_law_1421 : decode cL_law 1421 = .ok (.ifCond .ne 22, 3) := by decide +kernel
theorem dL_law_1424 : decode cL_law 1424 = .ok (.aload_n 3, 1) := by decide +kernel
theorem dL_law_1425 : decode cL_law 1425 = .ok (.iconst 0, 1) := by decide +kernel
theorem dL_law_1426 : decode cL_law 1426 = .ok (.laload, 1) := by decide +kernel
theorem dL_law_1427 : decode cL_law 1427 = .ok (.iload 7, 2) := by decide +kernel
theorem dL_law_1429 : decode cL_law 1429 = .ok (.ifCond .eq 7, 3) := by decide +kernel
theorem dL_law_1432 : decode cL_law 1432 = .ok (.lconst 1, 1) := by decide +kernel
theorem dL_law_1433 : decode cL_law 1433 = .ok (.goto 4, 3) := by decide +kernel
theorem dL_law_1437 : decode cL_law 1437 = .ok (.lcmp, 1) := by decide +kernel
theorem dL_law_1438 : decode cL_law 1438 = .ok (.ifCond .eq 5, 3) := by decide +kernel
theorem dL_law_1443 : decode cL_law 1443 = .ok (.goto 837, 3) := by decide +kernel
theorem dL_law_1446 : decode cL_law 1446 = .ok (.aload_n 1, 1) := by decide +kernel
theorem dL_law_1447 : decode cL_law 1447 = .ok (.aload_n 0, 1) := by decide +kernel
theorem dL_law_1448 : decode cL_law 1448 = .ok (.iload 5, 2) := by decide +kernel
theorem dL_law_1450 : decode cL_law 1450 = .ok (.iconst 1, 1) := by decide +kernel
theorem dL_law_1451 : decode cL_law 1451 = .ok (.iadd, 1) := by decide +kernel
theorem dL_law_1452 : decode cL_law 1452 = .ok (.iaload, 1) := by decide +kernel
theorem dL_law_1453 : decode cL_law 1453 = .ok (.aload_n 3, 1) := by decide +kernel
theorem dL_law_1454 : decode cL_law 1454 = .ok (.invokestatic 200, 3) := by decide +kernel
theorem dL_law_1457 : decode cL_law 1457 = .ok (.istore 6, 2) := by decide +kernel
theorem dL_law_1459 : decode cL_law 1459 = .ok (.aload_n 2, 1) := by decide +kernel
theorem dL_law_1460 : decode cL_law 1460 = .ok (.aload_n 0, 1) := by decide +kernel
theorem dL_law_1461 : decode cL_law 1461 = .ok (.iload 5, 2) := by decide +kernel
theorem dL_law_1463 : decode cL_law 1463 = .ok (.iconst 1, 1) := by decide +kernel
theorem dL_law_1464 : decode cL_law 1464 = .ok (.iadd, 1) := by decide +kernel
theorem dL_law_1465 : decode cL_law 1465 = .ok (.iaload, 1) := by decide +kernel
theorem dL_law_1466 : decode cL_law 1466 = .ok (.invokevirtual 202, 3) := by decide +kernel
theorem dL_law_1469 : decode cL_law 1469 = .ok (.istore 7, 2) := by decide +kernel
theorem dL_law_1471 : decode cL_law 1471 = .ok (.aload_n 2, 1) := by decide +kernel
theorem dL_law_1472 : decode cL_law 1472 = .ok (.invokevirtual 140, 3) := by decide +kernel
theorem dL_law_1475 : decode cL_law 1475 = .ok (.iload 6, 2) := by decide +kernel
theorem dL_law_1477 : decode cL_law 1477 = .ok (.if_icmp .eq 5, 3) := by decide +kernel
theorem dL_law_1482 : decode cL_law 1482 = .ok (.iload 6, 2) := by decide +kernel
theorem dL_law_1484 : decode cL_law 1484 = .ok (.ifCond .ne 22, 3) := by decide +kernel
theorem dL_law_1487 : decode cL_law 1487 = .ok (.aload_n 3, 1) := by decide +kernel
theorem dL_law_1488 : decode cL_law 1488 = .ok (.iconst 0, 1) := by decide +kernel
theorem dL_law_1489 : decode cL_law 1489 = .ok (.laload, 1) := by decide +kernel
theorem dL_law_1490 : decode cL_law 1490 = .ok (.iload 7, 2) := by decide +kernel
theorem dL_law_1492 : decode cL_law 1492 = .ok (.ifCond .eq 7, 3) := by decide +kernel
theorem dL_law_1495 : decode cL_law 1495 = .ok (.lconst 1, 1) := by decide +kernel
theorem dL_law_1496 : decode cL_law 1496 = .ok (.goto 4, 3) := by decide +kernel
theorem dL_law_1500 : decode cL_law 1500 = .ok (.lcmp, 1) := by decide +kernel
theorem dL_law_1501 : decode cL_law 1501 = .ok (.ifCond .eq 5, 3) := by decide +kernel
theorem dL_law_1506 : decode cL_law 1506 = .ok (.goto 774, 3) := by decide +kernel
theorem dL_law_1509 : decode cL_law 1509 = .ok (.aload_n 1, 1) := by decide +kernel
theorem dL_law_1510 : decode cL_law 1510 = .ok (.aload_n 3, 1) := by decide +kernel
theorem dL_law_1511 : decode cL_law 1511 = .ok (.invokestatic 203, 3) := by decide +kernel
theorem dL_law_1514 : decode cL_law 1514 = .ok (.istore 6, 2) := by decide +kernel
theorem dL_law_1516 : decode cL_law 1516 = .ok (.aload_n 2, 1) := by decide +kernel
theorem dL_law_1517 : decode cL_law 1517 = .ok (.invokevirtual 205, 3) := by decide +kernel
theorem dL_law_1520 : decode cL_law 1520 = .ok (.istore 7, 2) := by decide +kernel
theorem dL_law_1522 : decode cL_law 1522 = .ok (.aload_n 2, 1) := by decide +kernel
theorem dL_law_1523 : decode cL_law 1523 = .ok (.invokevirtual 140, 3) := by decide +kernel
theorem dL_law_1526 : decode cL_law 1526 = .ok (.iload 6, 2) := by decide +kernel
theorem dL_law_1528 : decode cL_law 1528 = .ok (.if_icmp .eq 5, 3) := by decide +kernel
theorem dL_law_1533 : decode cL_law 1533 = .ok (.iload 6, 2) := by decide +kernel
theorem dL_law_1535 : decode cL_law 1535 = .ok (.ifCond .ne 15, 3) := by decide +kernel
theorem dL_law_1538 : decode cL_law 1538 = .ok (.aload_n 3, 1) := by decide +kernel
theorem dL_law_1539 : decode cL_law 1539 = .ok (.iconst 0, 1) := by decide +kernel
theorem dL_law_1540 : decode cL_law 1540 = .ok (.laload, 1) := by decide +kernel
theorem dL_law_1541 : decode cL_law 1541 = .ok (.iload 7, 2) := by decide +kernel
theorem dL_law_1543 : decode cL_law 1543 = .ok (.i2l, 1) := by decide +kernel
theorem dL_law_1544 : decode cL_law 1544 = .ok (.lcmp, 1) := by decide +kernel
theorem dL_law_1545 : decode cL_law 1545 = .ok (.ifCond .eq 5, 3) := by decide +kernel
theorem dL_law_1550 : decode cL_law 1550 = .ok (.goto 730, 3) := by decide +kernel
theorem dL_law_1553 : decode cL_law 1553 = .ok (.aload_n 1, 1) := by decide +kernel
theorem dL_law_1554 : decode cL_law 1554 = .ok (.aload_n 0, 1) := by decide +kernel
theorem dL_law_1555 : decode cL_law 1555 = .ok (.iload 5, 2) := by decide +kernel
theorem dL_law_1557 : decode cL_law 1557 = .ok (.iconst 1, 1) := by decide +kernel
theorem dL_law_1558 : decode cL_law 1558 = .ok (.iadd, 1) := by decide +kernel
theorem dL_law_1559 : decode cL_law 1559 = .ok (.iaload, 1) := by decide +kernel
theorem dL_law_1560 : decode cL_law 1560 = .ok (.aload_n 3, 1) := by decide +kernel
theorem dL_law_1561 : decode cL_law 1561 = .ok (.invokestatic 206, 3) := by decide +kernel
theorem dL_law_1564 : decode cL_law 1564 = .ok (.istore 6, 2) := by decide +kernel
theorem dL_law_1566 : decode cL_law 1566 = .ok (.aload_n 2, 1) := by decide +kernel
theorem dL_law_1567 : decode cL_law 1567 = .ok (.aload_n 0, 1) := by decide +kernel
theorem dL_law_1568 : decode cL_law 1568 = .ok (.iload 5, 2) := by decide +kernel
theorem dL_law_1570 : decode cL_law 1570 = .ok (.iconst 1, 1) := by decide +kernel
theorem dL_law_1571 : decode cL_law 1571 = .ok (.iadd, 1) := by decide +kernel
theorem dL_law_1572 : decode cL_law 1572 = .ok (.iaload, 1) := by decide +kernel
theorem dL_law_1573 : decode cL_law 1573 = .ok (.invokevirtual 208, 3) := by decide +kernel
theorem dL_law_1576 : decode cL_law 1576 = .ok (.istore 7, 2) := by decide +kernel
theorem dL_law_1578 : decode cL_law 1578 = .ok (.aload_n 2, 1) := by decide +kernel
theorem dL_law_1579 : decode cL_law 1579 = .ok (.invokevirtual 140, 3) := by decide +kernel
theorem dL_law_1582 : decode cL_law 1582 = .ok (.iload 6, 2) := by decide +kernel
theorem dL_law_1584 : decode cL_law 1584 = .ok (.if_icmp .eq 5, 3) := by decide +kernel
theorem dL_law_1589 : decode cL_law 1589 = .ok (.iload 6, 2) := by decide +kernel
theorem dL_law_1591 : decode cL_law 1591 = .ok (.ifCond .ne 15, 3) := by decide +kernel
theorem dL_law_1594 : decode cL_law 1594 = .ok (.aload_n 3, 1) := by decide +kernel
theorem dL_law_1595 : decode cL_law 1595 = .ok (.iconst 0, 1) := by decide +kernel
theorem dL_law_1596 : decode cL_law 1596 = .ok (.laload, 1) := by decide +kernel
theorem dL_law_1597 : decode cL_law 1597 = .ok (.iload 7, 2) := by decide +kernel
theorem dL_law_1599 : decode cL_law 1599 = .ok (.i2l, 1) := by decide +kernel
theorem dL_law_1600 : decode cL_law 1600 = .ok (.lcmp, 1) := by decide +kernel
theorem dL_law_1601 : decode cL_law 1601 = .ok (.ifCond .eq 5, 3) := by decide +kernel
theorem dL_law_1606 : decode cL_law 1606 = .ok (.goto 674, 3) := by decide +kernel
theorem dL_law_1609 : decode cL_law 1609 = .ok (.aload_n 1, 1) := by decide +kernel
theorem dL_law_1610 : decode cL_law 1610 = .ok (.aload_n 0, 1) := by decide +kernel
theorem dL_law_1611 : decode cL_law 1611 = .ok (.iload 5, 2) := by decide +kernel
theorem dL_law_1613 : decode cL_law 1613 = .ok (.iconst 1, 1) := by decide +kernel
theorem dL_law_1614 : decode cL_law 1614 = .ok (.iadd, 1) := by decide +kernel
theorem dL_law_1615 : decode cL_law 1615 = .ok (.iaload, 1) := by decide +kernel
theorem dL_law_1616 : decode cL_law 1616 = .ok (.aload_n 3, 1) := by decide +kernel
theorem dL_law_1617 : decode cL_law 1617 = .ok (.invokestatic 209, 3) := by decide +kernel
theorem dL_law_1620 : decode cL_law 1620 = .ok (.istore 6, 2) := by decide +kernel
theorem dL_law_1622 : decode cL_law 1622 = .ok (.aload_n 2, 1) := by decide +kernel
theorem dL_law_1623 : decode cL_law 1623 = .ok (.aload_n 0, 1) := by decide +kernel
theorem dL_law_1624 : decode cL_law 1624 = .ok (.iload 5, 2) := by decide +kernel
theorem dL_law_1626 : decode cL_law 1626 = .ok (.iconst 1, 1) := by decide +kernel
theorem dL_law_1627 : decode cL_law 1627 = .ok (.iadd, 1) := by decide +kernel
theorem dL_law_1628 : decode cL_law 1628 = .ok (.iaload, 1) := by decide +kernel
theorem dL_law_1629 : decode cL_law 1629 = .ok (.invokevirtual 211, 3) := by decide +kernel
theorem dL_law_1632 : decode cL_law 1632 = .ok (.istore 7, 2) := by decide +kernel
theorem dL_law_1634 : decode cL_law 1634 = .ok (.aload_n 2, 1) := by decide +kernel
theorem dL_law_1635 : decode cL_law 1635 = .ok (.invokevirtual 140, 3) := by decide +kernel
theorem dL_law_1638 : decode cL_law 1638 = .ok (.iload 6, 2) := by decide +kernel
theorem dL_law_1640 : decode cL_law 1640 = .ok (.if_icmp .eq 5, 3) := by decide +kernel
theorem dL_law_1645 : decode cL_law 1645 = .ok (.iload 6, 2) := by decide +kernel
theorem dL_law_1647 : decode cL_law 1647 = .ok (.ifCond .ne 15, 3) := by decide +kernel
theorem dL_law_1662 : decode cL_law 1662 = .ok (.goto 618, 3) := by decide +kernel
theorem dL_law_1665 : decode cL_law 1665 = .ok (.aload_n 1, 1) := by decide +kernel
theorem dL_law_1666 : decode cL_law 1666 = .ok (.aload_n 0, 1) := by decide +kernel
theorem dL_law_1667 : decode cL_law 1667 = .ok (.iload 5, 2) := by decide +kernel
theorem dL_law_1669 : decode cL_law 1669 = .ok (.iconst 1, 1) := by decide +kernel
theorem dL_law_1670 : decode cL_law 1670 = .ok (.iadd, 1) := by decide +kernel
theorem dL_law_1671 : decode cL_law 1671 = .ok (.iaload, 1) := by decide +kernel
theorem dL_law_1672 : decode cL_law 1672 = .ok (.i2c, 1) := by decide +kernel
theorem dL_law_1673 : decode cL_law 1673 = .ok (.aload_n 3, 1) := by decide +kernel
theorem dL_law_1674 : decode cL_law 1674 = .ok (.invokestatic 212, 3) := by decide +kernel
theorem dL_law_1677 : decode cL_law 1677 = .ok (.istore 6, 2) := by decide +kernel
theorem dL_law_1679 : decode cL_law 1679 = .ok (.aload_n 2, 1) := by decide +kernel
theorem dL_law_1680 : decode cL_law 1680 = .ok (.aload_n 0, 1) := by decide +kernel
theorem dL_law_1681 : decode cL_law 1681 = .ok (.iload 5, 2) := by decide +kernel
theorem dL_law_1683 : decode cL_law 1683 = .ok (.iconst 1, 1) := by decide +kernel
theorem dL_law_1684 : decode cL_law 1684 = .ok (.iadd, 1) := by decide +kernel
theorem dL_law_1685 : decode cL_law 1685 = .ok (.iaload, 1) := by decide +kernel
theorem dL_law_1686 : decode cL_law 1686 = .ok (.i2c, 1) := by decide +kernel
theorem dL_law_1687 : decode cL_law 1687 = .ok (.invokevirtual 215, 3) := by decide +kernel
theorem dL_law_1690 : decode cL_law 1690 = .ok (.istore 7, 2) := by decide +kernel
theorem dL_law_1692 : decode cL_law 1692 = .ok (.aload_n 2, 1) := by decide +kernel
theorem dL_law_1693 : decode cL_law 1693 = .ok (.invokevirtual 140, 3) := by decide +kernel
theorem dL_law_1696 : decode cL_law 1696 = .ok (.iload 6, 2) := by decide +kernel
theorem dL_law_1698 : decode cL_law 1698 = .ok (.if_icmp .eq 5, 3) := by decide +kernel
theorem dL_law_1703 : decode cL_law 1703 = .ok (.iload 6, 2) := by decide +kernel
theorem dL_law_1705 : decode cL_law 1705 = .ok (.ifCond .ne 15, 3) := by decide +kernel
theorem dL_law_1708 : decode cL_law 1708 = .ok (.aload_n 3, 1) := by decide +kernel
theorem dL_law_1709 : decode cL_law 1709 = .ok (.iconst 0, 1) := by decide +kernel
theorem dL_law_1710 : decode cL_law 1710 = .ok (.laload, 1) := by decide +kernel
theorem dL_law_1711 : decode cL_law 1711 = .ok (.iload 7, 2) := by decide +kernel
theorem dL_law_1713 : decode cL_law 1713 = .ok (.i2l, 1) := by decide +kernel
theorem dL_law_1714 : decode cL_law 1714 = .ok (.lcmp, 1) := by decide +kernel
theorem dL_law_1715 : decode cL_law 1715 = .ok (.ifCond .eq 5, 3) := by decide +kernel
theorem dL_law_1720 : decode cL_law 1720 = .ok (.goto 560, 3) := by decide +kernel
theorem dL_law_1723 : decode cL_law 1723 = .ok (.aload_n 1, 1) := by decide +kernel
theorem dL_law_1724 : decode cL_law 1724 = .ok (.aload_n 3, 1) := by decide +kernel
theorem dL_law_1725 : decode cL_law 1725 = .ok (.invokestatic 216, 3) := by decide +kernel
theorem dL_law_1728 : decode cL_law 1728 = .ok (.istore 6, 2) := by decide +kernel
theorem dL_law_1730 : decode cL_law 1730 = .ok (.aload_n 2, 1) := by decide +kernel
theorem dL_law_1731 : decode cL_law 1731 = .ok (.invokevirtual 218, 3) := by decide +kernel
theorem dL_law_1734 : decode cL_law 1734 = .ok (.istore 7, 2) := by decide +kernel
theorem dL_law_1736 : decode cL_law 1736 = .ok (.aload_n 2, 1) := by decide +kernel
theorem dL_law_1737 : decode cL_law 1737 = .ok (.invokevirtual 140, 3) := by decide +kernel
theorem dL_law_1740 : decode cL_law 1740 = .ok (.iload 6, 2) := by decide +kernel
theorem dL_law_1742 : decode cL_law 1742 = .ok (.if_icmp .eq 5, 3) := by decide +kernel
theorem dL_law_1747 : decode cL_law 1747 = .ok (.iload 6, 2) := by decide +kernel
theorem dL_law_1749 : decode cL_law 1749 = .ok (.ifCond .ne 15, 3) := by decide +kernel
theorem dL_law_1764 : decode cL_law 1764 = .ok (.goto 516, 3) := by decide +kernel
theorem dL_law_1767 : decode cL_law 1767 = .ok (.aload_n 1, 1) := by decide +kernel
theorem dL_law_1768 : decode cL_law 1768 = .ok (.invokevirtual 219, 3) := by decide +kernel
theorem dL_law_1771 : decode cL_law 1771 = .ok (.aload_n 2, 1) := by decide +kernel
theorem dL_law_1772 : decode cL_law 1772 = .ok (.invokevirtual 222, 3) := by decide +kernel
theorem dL_law_1775 : decode cL_law 1775 = .ok (.if_icmp .eq 505, 3) := by decide +kernel
theorem dL_law_1780 : decode cL_law 1780 = .ok (.aload_n 1, 1) := by decide +kernel
theorem dL_law_1781 : decode cL_law 1781 = .ok (.aload_n 0, 1) := by decide +kernel
theorem dL_law_1782 : decode cL_law 1782 = .ok (.iload 5, 2) := by decide +kernel
theorem dL_law_1784 : decode cL_law 1784 = .ok (.iconst 1, 1) := by decide +kernel
theorem dL_law_1785 : decode cL_law 1785 = .ok (.iadd, 1) := by decide +kernel
theorem dL_law_1786 : decode cL_law 1786 = .ok (.iaload, 1) := by decide +kernel
theorem dL_law_1787 : decode cL_law 1787 = .ok (.ifCond .eq 7, 3) := by decide +kernel
theorem dL_law_1790 : decode cL_law 1790 = .ok (.iconst 1, 1) := by decide +kernel
theorem dL_law_1791 : decode cL_law 1791 = .ok (.goto 4, 3) := by decide +kernel
theorem dL_law_1794 : decode cL_law 1794 = .ok (.iconst 0, 1) := by decide +kernel
theorem dL_law_1795 : decode cL_law 1795 = .ok (.aload_n 0, 1) := by decide +kernel
theorem dL_law_1796 : decode cL_law 1796 = .ok (.iload 5, 2) := by decide +kernel
theorem dL_law_1798 : decode cL_law 1798 = .ok (.iconst 2, 1) := by decide +kernel
theorem dL_law_1799 : decode cL_law 1799 = .ok (.iadd, 1) := by decide +kernel
theorem dL_law_1800 : decode cL_law 1800 = .ok (.iaload, 1) := by decide +kernel
theorem dL_law_1801 : decode cL_law 1801 = .ok (.ifCond .eq 7, 3) := by decide +kernel
theorem dL_law_1804 : decode cL_law 1804 = .ok (.iconst 1, 1) := by decide +kernel
theorem dL_law_1805 : decode cL_law 1805 = .ok (.goto 4, 3) := by decide +kernel
theorem dL_law_1808 : decode cL_law 1808 = .ok (.iconst 0, 1) := by decide +kernel
theorem dL_law_1809 : decode cL_law 1809 = .ok (.aload_n 3, 1) := by decide +kernel
theorem dL_law_1810 : decode cL_law 1810 = .ok (.invokestatic 223, 3) := by decide +kernel
theorem dL_law_1813 : decode cL_law 1813 = .ok (.istore 6, 2) := by decide +kernel
theorem dL_law_1815 : decode cL_law 1815 = .ok (.aload_n 2, 1) := by decide +kernel
theorem dL_law_1816 : decode cL_law 1816 = .ok (.aload_n 0, 1) := by decide +kernel
theorem dL_law_1817 : decode cL_law 1817 = .ok (.iload 5, 2) := by decide +kernel
theorem dL_law_1819 : decode cL_law 1819 = .ok (.iconst 1, 1) := by decide +kernel
theorem dL_law_1820 : decode cL_law 1820 = .ok (.iadd, 1) := by decide +kernel
theorem dL_law_1821 : decode cL_law 1821 = .ok (.iaload, 1) := by decide +kernel
theorem dL_law_1822 : decode cL_law 1822 = .ok (.ifCond .eq 7, 3) := by decide +kernel
theorem dL_law_1825 : decode cL_law 1825 = .ok (.iconst 1, 1) := by decide +kernel
theorem dL_law_1826 : decode cL_law 1826 = .ok (.goto 4, 3) := by decide +kernel
theorem dL_law_1829 : decode cL_law 1829 = .ok (.iconst 0, 1) := by decide +kernel
theorem dL_law_1830 : decode cL_law 1830 = .ok (.aload_n 0, 1) := by decide +kernel
theorem dL_law_1831 : decode cL_law 1831 = .ok (.iload 5, 2) := by decide +kernel
theorem dL_law_1833 : decode cL_law 1833 = .ok (.iconst 2, 1) := by decide +kernel
theorem dL_law_1834 : decode cL_law 1834 = .ok (.iadd, 1) := by decide +kernel
theorem dL_law_1835 : decode cL_law 1835 = .ok (.iaload, 1) := by decide +kernel
theorem dL_law_1836 : decode cL_law 1836 = .ok (.ifCond .eq 7, 3) := by decide +kernel
theorem dL_law_1839 : decode cL_law 1839 = .ok (.iconst 1, 1) := by decide +kernel
theorem dL_law_1840 : decode cL_law 1840 = .ok (.goto 4, 3) := by decide +kernel
theorem dL_law_1843 : decode cL_law 1843 = .ok (.iconst 0, 1) := by decide +kernel
theorem dL_law_1844 : decode cL_law 1844 = .ok (.invokevirtual 226, 3) := by decide +kernel
theorem dL_law_1847 : decode cL_law 1847 = .ok (.istore 7, 2) := by decide +kernel
theorem dL_law_1849 : decode cL_law 1849 = .ok (.aload_n 2, 1) := by decide +kernel
theorem dL_law_1850 : decode cL_law 1850 = .ok (.invokevirtual 140, 3) := by decide +kernel
theorem dL_law_1853 : decode cL_law 1853 = .ok (.iload 6, 2) := by decide +kernel
theorem dL_law_1855 : decode cL_law 1855 = .ok (.if_icmp .eq 5, 3) := by decide +kernel
theorem dL_law_1860 : decode cL_law 1860 = .ok (.iload 6, 2) := by decide +kernel
theorem dL_law_1862 : decode cL_law 1862 = .ok (.ifCond .ne 15, 3) := by decide +kernel
theorem dL_law_1877 : decode cL_law 1877 = .ok (.goto 403, 3) := by decide +kernel
theorem dL_law_1880 : decode cL_law 1880 = .ok (.aload_n 1, 1) := by decide +kernel
theorem dL_law_1881 : decode cL_law 1881 = .ok (.aload_n 0, 1) := by decide +kernel
theorem dL_law_1882 : decode cL_law 1882 = .ok (.iload 5, 2) := by decide +kernel
theorem dL_law_1884 : decode cL_law 1884 = .ok (.iconst 1, 1) := by decide +kernel
theorem dL_law_1885 : decode cL_law 1885 = .ok (.iadd, 1) := by decide +kernel
theorem dL_law_1886 : decode cL_law 1886 = .ok (.iaload, 1) := by decide +kernel
theorem dL_law_1887 : decode cL_law 1887 = .ok (.aload_n 3, 1) := by decide +kernel
theorem dL_law_1888 : decode cL_law 1888 = .ok (.invokestatic 227, 3) := by decide +kernel
theorem dL_law_1891 : decode cL_law 1891 = .ok (.istore 6, 2) := by decide +kernel
theorem dL_law_1893 : decode cL_law 1893 = .ok (.aload_n 2, 1) := by decide +kernel
theorem dL_law_1894 : decode cL_law 1894 = .ok (.aload_n 0, 1) := by decide +kernel
theorem dL_law_1895 : decode cL_law 1895 = .ok (.iload 5, 2) := by decide +kernel
theorem dL_law_1897 : decode cL_law 1897 = .ok (.iconst 1, 1) := by decide +kernel
theorem dL_law_1898 : decode cL_law 1898 = .ok (.iadd, 1) := by decide +kernel
theorem dL_law_1899 : decode cL_law 1899 = .ok (.iaload, 1) := by decide +kernel
theorem dL_law_1900 : decode cL_law 1900 = .ok (.invokevirtual 229, 3) := by decide +kernel
theorem dL_law_1903 : decode cL_law 1903 = .ok (.istore 7, 2) := by decide +kernel
theorem dL_law_1905 : decode cL_law 1905 = .ok (.aload_n 2, 1) := by decide +kernel
theorem dL_law_1906 : decode cL_law 1906 = .ok (.invokevirtual 140, 3) := by decide +kernel
theorem dL_law_1909 : decode cL_law 1909 = .ok (.iload 6, 2) := by decide +kernel
theorem dL_law_1911 : decode cL_law 1911 = .ok (.if_icmp .eq 5, 3) := by decide +kernel
theorem dL_law_1916 : decode cL_law 1916 = .ok (.iload 6, 2) := by decide +kernel
theorem dL_law_1918 : decode cL_law 1918 = .ok (.ifCond .ne 15, 3) := by decide +kernel
theorem dL_law_1933 : decode cL_law 1933 = .ok (.goto 347, 3) := by decide +kernel
theorem dL_law_1936 : decode cL_law 1936 = .ok (.aload_n 1, 1) := by decide +kernel
theorem dL_law_1937 : decode cL_law 1937 = .ok (.aload_n 0, 1) := by decide +kernel
theorem dL_law_1938 : decode cL_law 1938 = .ok (.iload 5, 2) := by decide +kernel
theorem dL_law_1940 : decode cL_law 1940 = .ok (.iconst 1, 1) := by decide +kernel
theorem dL_law_1941 : decode cL_law 1941 = .ok (.iadd, 1) := by decide +kernel
theorem dL_law_1942 : decode cL_law 1942 = .ok (.iaload, 1) := by decide +kernel
theorem dL_law_1943 : decode cL_law 1943 = .ok (.aload_n 3, 1) := by decide +kernel
theorem dL_law_1944 : decode cL_law 1944 = .ok (.invokestatic 230, 3) := by decide +kernel
theorem dL_law_1947 : decode cL_law 1947 = .ok (.istore 6, 2) := by decide +kernel
theorem dL_law_1949 : decode cL_law 1949 = .ok (.aload_n 2, 1) := by decide +kernel
theorem dL_law_1950 : decode cL_law 1950 = .ok (.aload_n 0, 1) := by decide +kernel
theorem dL_law_1951 : decode cL_law 1951 = .ok (.iload 5, 2) := by decide +kernel
theorem dL_law_1953 : decode cL_law 1953 = .ok (.iconst 1, 1) := by decide +kernel
theorem dL_law_1954 : decode cL_law 1954 = .ok (.iadd, 1) := by decide +kernel
theorem dL_law_1955 : decode cL_law 1955 = .ok (.iaload, 1) := by decide +kernel
theorem dL_law_1956 : decode cL_law 1956 = .ok (.invokevirtual 232, 3) := by decide +kernel
theorem dL_law_1959 : decode cL_law 1959 = .ok (.istore 7, 2) := by decide +kernel
theorem dL_law_1961 : decode cL_law 1961 = .ok (.aload_n 2, 1) := by decide +kernel
theorem dL_law_1962 : decode cL_law 1962 = .ok (.invokevirtual 140, 3) := by decide +kernel
theorem dL_law_1965 : decode cL_law 1965 = .ok (.iload 6, 2) := by decide +kernel
theorem dL_law_1967 : decode cL_law 1967 = .ok (.if_icmp .eq 5, 3) := by decide +kernel
theorem dL_law_1972 : decode cL_law 1972 = .ok (.iload 6, 2) := by decide +kernel
theorem dL_law_1974 : decode cL_law 1974 = .ok (.ifCond .ne 15, 3) := by decide +kernel
theorem dL_law_1989 : decode cL_law 1989 = .ok (.goto 291, 3) := by decide +kernel
theorem dL_law_1992 : decode cL_law 1992 = .ok (.aload_n 1, 1) := by decide +kernel
theorem dL_law_1993 : decode cL_law 1993 = .ok (.aload 4, 2) := by decide +kernel
theorem dL_law_1995 : decode cL_law 1995 = .ok (.invokestatic 233, 3) := by decide +kernel
theorem dL_law_1998 : decode cL_law 1998 = .ok (.istore 6, 2) := by decide +kernel
theorem dL_law_2000 : decode cL_law 2000 = .ok (.aload_n 2, 1) := by decide +kernel
theorem dL_law_2001 : decode cL_law 2001 = .ok (.invokevirtual 236, 3) := by decide +kernel
theorem dL_law_2004 : decode cL_law 2004 = .ok (.dstore 7, 2) := by decide +kernel
theorem dL_law_2006 : decode cL_law 2006 = .ok (.aload_n 2, 1) := by decide +kernel
theorem dL_law_2007 : decode cL_law 2007 = .ok (.invokevirtual 140, 3) := by decide +kernel
theorem dL_law_2010 : decode cL_law 2010 = .ok (.iload 6, 2) := by decide +kernel
theorem dL_law_2012 : decode cL_law 2012 = .ok (.if_icmp .eq 5, 3) := by decide +kernel
theorem dL_law_2017 : decode cL_law 2017 = .ok (.iload 6, 2) := by decide +kernel
theorem dL_law_2019 : decode cL_law 2019 = .ok (.ifCond .ne 35, 3) := by decide +kernel
theorem dL_law_2054 : decode cL_law 2054 = .ok (.goto 226, 3) := by decide +kernel
theorem dL_law_2057 : decode cL_law 2057 = .ok (.aload_n 1, 1) := by decide +kernel
theorem dL_law_2058 : decode cL_law 2058 = .ok (.aload 4, 2) := by decide +kernel
theorem dL_law_2060 : decode cL_law 2060 = .ok (.invokestatic 237, 3) := by decide +kernel
theorem dL_law_2063 : decode cL_law 2063 = .ok (.istore 6, 2) := by decide +kernel
theorem dL_law_2065 : decode cL_law 2065 = .ok (.aload_n 2, 1) := by decide +kernel
theorem dL_law_2066 : decode cL_law 2066 = .ok (.invokevirtual 239, 3) := by decide +kernel
theorem dL_law_2069 : decode cL_law 2069 = .ok (.fstore 7, 2) := by decide +kernel
theorem dL_law_2071 : decode cL_law 2071 = .ok (.aload_n 2, 1) := by decide +kernel
theorem dL_law_2072 : decode cL_law 2072 = .ok (.invokevirtual 140, 3) := by decide +kernel
theorem dL_law_2075 : decode cL_law 2075 = .ok (.iload 6, 2) := by decide +kernel
theorem dL_law_2077 : decode cL_law 2077 = .ok (.if_icmp .eq 5, 3) := by decide +kernel
theorem dL_law_2082 : decode cL_law 2082 = .ok (.iload 6, 2) := by decide +kernel
theorem dL_law_2084 : decode cL_law 2084 = .ok (.ifCond .ne 36, 3) := by decide +kernel
theorem dL_law_2120 : decode cL_law 2120 = .ok (.goto 160, 3) := by decide +kernel
theorem dL_law_2123 : decode cL_law 2123 = .ok (.aload_n 1, 1) := by decide +kernel
theorem dL_law_2124 : decode cL_law 2124 = .ok (.aload_n 0, 1) := by decide +kernel
theorem dL_law_2125 : decode cL_law 2125 = .ok (.iload 5, 2) := by decide +kernel
theorem dL_law_2127 : decode cL_law 2127 = .ok (.iconst 1, 1) := by decide +kernel
theorem dL_law_2128 : decode cL_law 2128 = .ok (.iadd, 1) := by decide +kernel
theorem dL_law_2129 : decode cL_law 2129 = .ok (.iaload, 1) := by decide +kernel
theorem dL_law_2130 : decode cL_law 2130 = .ok (.aload_n 3, 1) := by decide +kernel
theorem dL_law_2131 : decode cL_law 2131 = .ok (.invokestatic 240, 3) := by decide +kernel
theorem dL_law_2134 : decode cL_law 2134 = .ok (.istore 6, 2) := by decide +kernel
theorem dL_law_2136 : decode cL_law 2136 = .ok (.aload_n 2, 1) := by decide +kernel
theorem dL_law_2137 : decode cL_law 2137 = .ok (.aload_n 0, 1) := by decide +kernel
theorem dL_law_2138 : decode cL_law 2138 = .ok (.iload 5, 2) := by decide +kernel
theorem dL_law_2140 : decode cL_law 2140 = .ok (.iconst 1, 1) := by decide +kernel
theorem dL_law_2141 : decode cL_law 2141 = .ok (.iadd, 1) := by decide +kernel
theorem dL_law_2142 : decode cL_law 2142 = .ok (.iaload, 1) := by decide +kernel
theorem dL_law_2143 : decode cL_law 2143 = .ok (.invokevirtual 242, 3) := by decide +kernel
theorem dL_law_2146 : decode cL_law 2146 = .ok (.istore 7, 2) := by decide +kernel
theorem dL_law_2148 : decode cL_law 2148 = .ok (.aload_n 2, 1) := by decide +kernel
theorem dL_law_2149 : decode cL_law 2149 = .ok (.invokevirtual 140, 3) := by decide +kernel
theorem dL_law_2152 : decode cL_law 2152 = .ok (.iload 6, 2) := by decide +kernel
theorem dL_law_2154 : decode cL_law 2154 = .ok (.if_icmp .eq 5, 3) := by decide +kernel
theorem dL_law_2159 : decode cL_law 2159 = .ok (.iload 6, 2) := by decide +kernel
theorem dL_law_2161 : decode cL_law 2161 = .ok (.ifCond .ne 15, 3) := by decide +kernel
theorem dL_law_2164 : decode cL_law 2164 = .ok (.aload_n 3, 1) := by decide +kernel
theorem dL_law_2165 : decode cL_law 2165 = .ok (.iconst 0, 1) := by decide +kernel
theorem dL_law_2166 : decode cL_law 2166 = .ok (.laload, 1) := by decide +kernel
theorem dL_law_2167 : decode cL_law 2167 = .ok (.iload 7, 2) := by decide +kernel
theorem dL_law_2169 : decode cL_law 2169 = .ok (.i2l, 1) := by decide +kernel
theorem dL_law_2170 : decode cL_law 2170 = .ok (.lcmp, 1) := by decide +kernel
theorem dL_law_2171 : decode cL_law 2171 = .ok (.ifCond .eq 5, 3) := by decide +kernel
theorem dL_law_2176 : decode cL_law 2176 = .ok (.goto 104, 3) := by decide +kernel
theorem dL_law_2179 : decode cL_law 2179 = .ok (.aload_n 1, 1) := by decide +kernel
theorem dL_law_2180 : decode cL_law 2180 = .ok (.aload_n 3, 1) := by decide +kernel
theorem dL_law_2181 : decode cL_law 2181 = .ok (.invokestatic 243, 3) := by decide +kernel
theorem dL_law_2184 : decode cL_law 2184 = .ok (.istore 6, 2) := by decide +kernel
theorem dL_law_2186 : decode cL_law 2186 = .ok (.aload_n 2, 1) := by decide +kernel
theorem dL_law_2187 : decode cL_law 2187 = .ok (.invokevirtual 245, 3) := by decide +kernel
theorem dL_law_2190 : decode cL_law 2190 = .ok (.istore 7, 2) := by decide +kernel
theorem dL_law_2192 : decode cL_law 2192 = .ok (.aload_n 2, 1) := by decide +kernel
theorem dL_law_2193 : decode cL_law 2193 = .ok (.invokevirtual 140, 3) := by decide +kernel
theorem dL_law_2196 : decode cL_law 2196 = .ok (.iload 6, 2) := by decide +kernel
theorem dL_law_2198 : decode cL_law 2198 = .ok (.if_icmp .eq 5, 3) := by decide +kernel
theorem dL_law_2203 : decode cL_law 2203 = .ok (.iload 6, 2) := by decide +kernel
theorem dL_law_2205 : decode cL_law 2205 = .ok (.ifCond .ne 15, 3) := by decide +kernel
theorem dL_law_2220 : decode cL_law 2220 = .ok (.goto 60, 3) := by decide +kernel
theorem dL_law_2223 : decode cL_law 2223 = .ok (.aload_n 1, 1) := by decide +kernel
theorem dL_law_2224 : decode cL_law 2224 = .ok (.invokevirtual 246, 3) := by decide +kernel
theorem dL_law_2227 : decode cL_law 2227 = .ok (.aload_n 2, 1) := by decide +kernel
theorem dL_law_2228 : decode cL_law 2228 = .ok (.invokevirtual 249, 3) := by decide +kernel
theorem dL_law_2231 : decode cL_law 2231 = .ok (.if_icmp .eq 49, 3) := by decide +kernel
theorem dL_law_2236 : decode cL_law 2236 = .ok (.aload_n 1, 1) := by decide +kernel
theorem dL_law_2237 : decode cL_law 2237 = .ok (.aload_n 3, 1) := by decide +kernel
theorem dL_law_2238 : decode cL_law 2238 = .ok (.invokestatic 250, 3) := by decide +kernel
theorem dL_law_2241 : decode cL_law 2241 = .ok (.istore 6, 2) := by decide +kernel
theorem dL_law_2243 : decode cL_law 2243 = .ok (.aload_n 2, 1) := by decide +kernel
theorem dL_law_2244 : decode cL_law 2244 = .ok (.invokevirtual 252, 3) := by decide +kernel
theorem dL_law_2247 : decode cL_law 2247 = .ok (.istore 7, 2) := by decide +kernel
theorem dL_law_2249 : decode cL_law 2249 = .ok (.aload_n 2, 1) := by decide +kernel
theorem dL_law_2250 : decode cL_law 2250 = .ok (.invokevirtual 140, 3) := by decide +kernel
theorem dL_law_2253 : decode cL_law 2253 = .ok (.iload 6, 2) := by decide +kernel
theorem dL_law_2255 : decode cL_law 2255 = .ok (.if_icmp .eq 5, 3) := by decide +kernel
theorem dL_law_2260 : decode cL_law 2260 = .ok (.iload 6, 2) := by decide +kernel
theorem dL_law_2262 : decode cL_law 2262 = .ok (.ifCond .ne 15, 3) := by decide +kernel
theorem dL_law_2277 : decode cL_law 2277 = .ok (.goto 3, 3) := by decide +kernel
theorem dL_law_2280 : decode cL_law 2280 = .ok (.iinc 5 4, 3) := by decide +kernel
theorem dL_law_2283 : decode cL_law 2283 = .ok (.goto (-2255), 3) := by decide +kernel
theorem dL_law_2286 : decode cL_law 2286 = .ok (.iconst 1, 1) := by decide +kernel
theorem dL_law_2287 : decode cL_law 2287 = .ok (.ireturn, 1) := by decide +kernel
set_option maxRecDepth 100000 in
set_option maxHeartbeats 4000000 in
/-- what stands still, at the law's entry -/
theorem fx_start {s : State} {b : Nat} (hts : ∀ w ∈ lw_tbl, w.before #[Value.ref b] s = true) (hgv : (Jvm.Cond.and given_1 narrow_1).before #[Value.ref b] s = true) : ∃ ad : Nat → Nat, FX_ ad (fun q => s.heap.size ≤ q) s s.heap := by
  have hs := flat_of_before _ hgv
  have hA : ∀ a : Nat, a < s.heap.size → ¬ (fun q : Nat => s.heap.size ≤ q) a := fun a h => Nat.not_le.mpr h
  obtain ⟨a0, hE⟩ := va_Enof (args := #[Value.ref b]) (s := s) (E := "CanalMaps$Change") (d := "LCanalMaps$Change;") (nm := fx_nm) (F := fx_F) (A := fun q : Nat => s.heap.size ≤ q)
    (fun i hi => by
      rcases (show i = 0 ∨ i = 1 ∨ i = 2 ∨ i = 3 ∨ i = 4 ∨ i = 5 from by have h9 : i < 6 := hi; omega) with rfl | rfl | rfl | rfl | rfl | rfl <;> exact hts _ (by decide +kernel))
    (hts _ (by decide +kernel))
    (fun i hi => by
      rcases (show i = 0 ∨ i = 1 ∨ i = 2 ∨ i = 3 ∨ i = 4 ∨ i = 5 from by have h9 : i < 6 := hi; omega) with rfl | rfl | rfl | rfl | rfl | rfl <;> exact hs _ (by decide +kernel))
    (fun q hq i hi => by
      have hq : q = ("java/lang/Enum", "ordinal", "I", [0, 1, 2, 3, 4, 5]) := List.mem_singleton.mp hq
      subst hq
      rcases (show i = 0 ∨ i = 1 ∨ i = 2 ∨ i = 3 ∨ i = 4 ∨ i = 5 from by have h9 : i < 6 := hi; omega) with rfl | rfl | rfl | rfl | rfl | rfl <;> exact hs _ (by decide +kernel))
    (fun i j hi hj hij => by
      rcases (show i = 0 ∨ i = 1 ∨ i = 2 ∨ i = 3 ∨ i = 4 ∨ i = 5 from by have h9 : i < 6 := hi; omega) with rfl | rfl | rfl | rfl | rfl | rfl <;>
      rcases (show j = 0 ∨ j = 1 ∨ j = 2 ∨ j = 3 ∨ j = 4 ∨ j = 5 from by have h9 : j < 6 := hj; omega) with rfl | rfl | rfl | rfl | rfl | rfl <;>
      first | exact absurd rfl hij | exact Or.inl (hs _ (by decide +kernel)) | exact Or.inr (hs _ (by decide +kernel)))
    hA
  obtain ⟨t2, e2, hT2⟩ := va_Tof (args := #[Value.ref b]) (s := s) (tm := .static "CanalMaps$1" "$SwitchMap$CanalMaps$Change" "[I") (ty := .int) (N := 6) (f := fx_sw) (A := fun q : Nat => s.heap.size ≤ q) (by decide) (hs _ (by decide +kernel)) (va_eqt (hs _ (by decide +kernel)))
    (fun j hj => by
      rcases (show j = 0 ∨ j = 1 ∨ j = 2 ∨ j = 3 ∨ j = 4 ∨ j = 5 by omega) with rfl | rfl | rfl | rfl | rfl | rfl
      · exact va_eqt (z := 1) (hs _ (by decide +kernel))
      · exact va_eqt (z := 2) (hs _ (by decide +kernel))
      · exact va_eqt (z := 3) (hs _ (by decide +kernel))
      · exact va_eqt (z := 4) (hs _ (by decide +kernel))
      · exact va_eqt (z := 5) (hs _ (by decide +kernel))
      · exact va_eqt (z := 0) (hs _ (by decide +kernel)))
    hA
  obtain ⟨t3, e3, hT3⟩ := va_Tof (args := #[Value.ref b]) (s := s) (tm := .static "java/util/ArrayList" "DEFAULTCAPACITY_EMPTY_ELEMENTDATA" "[Ljava/lang/Object;") (ty := .object "java/lang/Object") (N := 0) (f := fun _ => .null) (A := fun q : Nat => s.heap.size ≤ q) (by decide) (hs _ (by decide +kernel)) (va_eqt (hs _ (by decide +kernel)))
    (fun j hj => absurd hj (Nat.not_lt_zero j)) hA
  obtain ⟨ad, h6, h7, hlt⟩ : ∃ ad : Nat → Nat, ad 6 = t2 ∧ ad 7 = t3 ∧ ∀ i, i < 6 → ad i = a0 i := ⟨fun n => if n = 6 then t2 else if n = 7 then t3 else a0 n, rfl, rfl, fun i hi => by
    have h1 : i ≠ 6 := by omega
    have h2 : i ≠ 7 := by omega
    simp [h1, h2]⟩
  refine ⟨ad, ⟨fun i hi => by rw [hlt i hi]; exact hE.1 i hi, fun i j hi hj h => hE.2 i j hi hj (by rw [hlt i hi, hlt j hj] at h; exact h)⟩, ⟨?_, by rw [h6]; exact hT2⟩, ⟨?_, by rw [h7]; exact hT3⟩, ?_, ?_, ?_, ?_, ?_, ?_, ?_, ?_, ?_, ?_⟩
  · rw [h6]; exact va_Zref (hts _ (by decide +kernel)) (hts _ (by decide +kernel)) e2 hA
  · rw [h7]; exact va_Zref (hts _ (by decide +kernel)) (hts _ (by decide +kernel)) e3 hA
  · exact va_Zof (hts _ (by decide +kernel)) (hts _ (by decide +kernel)) (va_eqi (hs _ (by decide +kernel))) hA
  · exact vx_Zqof (hts (.laysStatic "java/lang/Throwable" "UNASSIGNED_STACK" "[Ljava/lang/StackTraceElement;") (by decide +kernel)) (hts (.initialized "java/lang/Throwable") (by decide +kernel)) (hs (.isRef (.static "java/lang/Throwable" "UNASSIGNED_STACK" "[Ljava/lang/StackTraceElement;")) (by decide +kernel)) hA
  · exact vx_Zqof (hts (.laysStatic "java/lang/Throwable" "SUPPRESSED_SENTINEL" "Ljava/util/List;") (by decide +kernel)) (hts (.initialized "java/lang/Throwable") (by decide +kernel)) (hs (.isRef (.static "java/lang/Throwable" "SUPPRESSED_SENTINEL" "Ljava/util/List;")) (by decide +kernel)) hA
  · intro q hq
    have w1 : ∀ q ∈ fx_S, Cond.stringRef q.1 q.2.1 q.2.2 ∈ lw_tbl := by decide +kernel
    have w2 : ∀ q ∈ fx_S, Cond.exactly (.string q.1 q.2.1) "java/lang/String" ∈ flatC (Jvm.Cond.and given_1 narrow_1) := by decide +kernel
    obtain ⟨a, c, cell, k, q1, -⟩ := Cond.exactly_spec (hs _ (w2 q hq))
    exact ⟨a, vk_R.of (hts _ (w1 q hq)) q1⟩
  · intro q hq
    have w1 : ∀ q ∈ fx_M, Cond.methodLinkNest q.1 q.2.1 q.2.2 "CanalMaps" ∈ lw_tbl := by decide +kernel
    exact va_Nw.of rfl (hts _ (w1 q hq))
  · intro q hq
    have w1 : ∀ q ∈ fx_N, Cond.fieldLinkNest q.1 q.2.1 q.2.2.1 q.2.2.2.1 q.2.2.2.2 "CanalMaps" ∈ lw_tbl := by decide +kernel
    exact va_Nw.of rfl (hts _ (w1 q hq))
  · intro q hq
    have w1 : ∀ q ∈ fx_C, Cond.castable q.1 q.2 ∈ lw_tbl := by decide +kernel
    exact va_Nw.of rfl (hts _ (w1 q hq))
  · intro q hq
    have w1 : ∀ q ∈ fx_D, Cond.not (.castable q.1 q.2) ∈ flatC (Jvm.Cond.and given_1 narrow_1) := by decide +kernel
    exact va_Nc.of (hs _ (w1 q hq))
  · intro q hq
    have w1 : ∀ q ∈ fx_O, Cond.arrayOver (.object q) ∈ lw_tbl := by decide +kernel
    exact va_AO.of (hts _ (w1 q hq))
  · intro q hq
    have w1 : ∀ q ∈ fx_L, Cond.classLink "CanalMapsLaw" q.1 q.2 ∈ lw_tbl := by decide +kernel
    exact va_Nw.of rfl (hts _ (w1 q hq))
