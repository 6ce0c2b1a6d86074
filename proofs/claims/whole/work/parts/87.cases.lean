/-! the law's cases: place, number of arguments, the class's method, its link, the link's word; the reference's -/
def c_arg (pc k : Nat) : Bool := (List.range k).all fun a => decide (decode code (pc + 5 * a) = .ok (.aload_n 0, 1)) && decide (decode code (pc + 5 * a + 1) = .ok (.iload_n 3, 1)) && decide (decode code (pc + 5 * a + 2) = .ok (.iconst ((a + 1 : Nat) : Int), 1)) && decide (decode code (pc + 5 * a + 3) = .ok (.iadd, 1)) && decide (decode code (pc + 5 * a + 4) = .ok (.iaload, 1))
def c_met (k j ix wi : Nat) (C : String) : Bool := decide (j < 185) && o_w wi (.methodLink R_law ix (h_mt j).1) && o_w (h_mt j).2.2.2.2.2.1 (.instanceMethod (h_mt j).1) && o_w (h_mt j).2.2.2.2.2.2.1 (.selects (h_mt j).1.cls (h_mt j).1 (h_mt j).1) && decide (C = (h_mt j).1.cls) && decide (k = o_ps (h_mt j).1) && decide (k + 1 ≤ (h_cd j).2) && decide ((h_mt j).2.2.2.1 ≤ 20)
def c_ok (pc k jc ixc wc jr ixr wr : Nat) : Bool := decide (decode code pc = .ok (.aload_n 1, 1)) && c_arg (pc + 1) k && decide (decode code (pc + 1 + 5 * k) = .ok (.invokevirtual ixc, 3)) && decide (decode code (pc + 4 + 5 * k) = .ok (.aload_n 2, 1)) && c_arg (pc + 5 + 5 * k) k && decide (decode code (pc + 5 + 10 * k) = .ok (.invokevirtual ixr, 3)) && decide (decode code (pc + 8 + 10 * k) = .ok (.if_icmp .eq (1459 - ((pc + 8 + 10 * k : Nat) : Int)), 3)) && c_met k jc ixc wc RX6 && c_met k jr ixr wr RX7 && decide (k ≤ 4)
theorem cl_0 : c_ok 212 2 34 21 159 127 25 801 = true := by decide +kernel
theorem cl_1 : c_ok 245 3 35 26 178 128 30 817 = true := by decide +kernel
theorem cl_2 : c_ok 288 1 36 31 190 130 35 825 = true := by decide +kernel
theorem cl_3 : c_ok 311 1 37 36 205 131 39 837 = true := by decide +kernel
theorem cl_4 : c_ok 334 2 38 40 209 132 44 841 = true := by decide +kernel
theorem cl_5 : c_ok 367 1 39 45 350 134 48 879 = true := by decide +kernel
theorem cl_6 : c_ok 390 1 40 49 358 136 52 887 = true := by decide +kernel
theorem cl_7 : c_ok 413 3 41 53 370 137 57 899 = true := by decide +kernel
theorem cl_8 : c_ok 456 1 42 58 440 138 61 907 = true := by decide +kernel
theorem cl_9 : c_ok 479 4 43 62 444 140 66 911 = true := by decide +kernel
theorem cl_10 : c_ok 532 3 44 67 469 143 70 937 = true := by decide +kernel
theorem cl_11 : c_ok 575 3 45 71 488 144 74 956 = true := by decide +kernel
theorem cl_12 : c_ok 618 2 46 75 492 145 78 960 = true := by decide +kernel
theorem cl_13 : c_ok 651 4 47 79 501 148 82 972 = true := by decide +kernel
theorem cl_14 : c_ok 704 3 48 83 512 149 86 984 = true := by decide +kernel
theorem cl_15 : c_ok 747 2 49 87 516 151 90 988 = true := by decide +kernel
theorem cl_16 : c_ok 780 3 50 91 520 152 94 996 = true := by decide +kernel
theorem cl_17 : c_ok 823 2 51 95 527 153 98 1000 = true := by decide +kernel
theorem cl_18 : c_ok 856 2 52 99 531 155 102 1004 = true := by decide +kernel
theorem cl_19 : c_ok 889 1 53 103 544 156 107 1012 = true := by decide +kernel
theorem cl_20 : c_ok 912 2 54 108 553 162 111 1016 = true := by decide +kernel
theorem cl_21 : c_ok 945 3 55 112 564 164 115 1031 = true := by decide +kernel
theorem cl_22 : c_ok 988 3 56 116 581 165 119 1047 = true := by decide +kernel
theorem cl_23 : c_ok 1031 0 57 120 585 166 124 1051 = true := by decide +kernel
theorem cl_24 : c_ok 1044 0 58 125 589 167 128 1055 = true := by decide +kernel
theorem cl_25 : c_ok 1057 1 59 129 593 168 132 1059 = true := by decide +kernel
theorem cl_26 : c_ok 1080 3 60 133 597 169 136 1063 = true := by decide +kernel
theorem cl_27 : c_ok 1123 1 61 137 601 170 140 1067 = true := by decide +kernel
theorem cl_28 : c_ok 1146 1 62 141 605 171 144 1071 = true := by decide +kernel
theorem cl_29 : c_ok 1169 1 63 145 612 172 148 1075 = true := by decide +kernel
theorem cl_30 : c_ok 1192 1 64 149 616 173 152 1079 = true := by decide +kernel
theorem cl_31 : c_ok 1215 2 65 153 625 174 156 1084 = true := by decide +kernel
theorem cl_32 : c_ok 1248 2 66 157 629 176 160 1088 = true := by decide +kernel
theorem cl_33 : c_ok 1281 4 67 161 641 177 165 1096 = true := by decide +kernel
theorem cl_34 : c_ok 1334 2 68 166 649 178 169 1100 = true := by decide +kernel
theorem cl_35 : c_ok 1367 3 69 170 653 179 173 1104 = true := by decide +kernel
theorem cl_36 : c_ok 1410 1 70 174 657 180 177 1108 = true := by decide +kernel
theorem cl_37 : c_ok 1433 0 71 178 665 181 181 1113 = true := by decide +kernel
theorem cl_38 : c_ok 1446 0 72 182 669 182 185 1117 = true := by decide +kernel
