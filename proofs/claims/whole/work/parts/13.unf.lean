/-! each method: its entry, its blocks; each cell: its fields, its kind -/
theorem e0 {d : Nat} {a0 a1 : Int} {μ : zM} {P : Int → zM → Prop} : zC (d + 1) 0 [(2, a0), (0, a1)] μ P ↔ zB (zC d) P (zR d 0 P) k0_0 [(2, a0), (0, a1)] [] μ := zC_of rfl rfl rfl
theorem u0_16 {d : Nat} {Q : Int → zM → Prop} {lv st : List zV} {μ : zM} : zR d 0 Q 16 lv st μ ↔ zB (zC d) Q (zR d 0 Q) k0_16 lv st μ := zR_of rfl
theorem u0_17 {d : Nat} {Q : Int → zM → Prop} {lv st : List zV} {μ : zM} : zR d 0 Q 17 lv st μ ↔ zB (zC d) Q (zR d 0 Q) k0_17 lv st μ := zR_of rfl
theorem e1 {d : Nat} {a0 a1 a2 : Int} {μ : zM} {P : Int → zM → Prop} : zC (d + 1) 1 [(2, a0), (0, a1), (0, a2)] μ P ↔ zB (zC d) P (zR d 1 P) k1_0 [(2, a0), (0, a1), (0, a2)] [] μ := zC_of rfl rfl rfl
theorem e2 {d : Nat} {a0 a1 a2 : Int} {μ : zM} {P : Int → zM → Prop} : zC (d + 1) 2 [(2, a0), (2, a1), (0, a2)] μ P ↔ zB (zC d) P (zR d 2 P) k2_0 [(2, a0), (2, a1), (0, a2), (9, 0), (9, 0)] [] μ := zC_of rfl rfl rfl
theorem u2_2 {d : Nat} {Q : Int → zM → Prop} {lv st : List zV} {μ : zM} : zR d 2 Q 2 lv st μ ↔ zB (zC d) Q (zR d 2 Q) k2_2 lv st μ := zR_of rfl
theorem u2_10 {d : Nat} {Q : Int → zM → Prop} {lv st : List zV} {μ : zM} : zR d 2 Q 10 lv st μ ↔ zB (zC d) Q (zR d 2 Q) k2_10 lv st μ := zR_of rfl
theorem u2_37 {d : Nat} {Q : Int → zM → Prop} {lv st : List zV} {μ : zM} : zR d 2 Q 37 lv st μ ↔ zB (zC d) Q (zR d 2 Q) k2_37 lv st μ := zR_of rfl
theorem u2_43 {d : Nat} {Q : Int → zM → Prop} {lv st : List zV} {μ : zM} : zR d 2 Q 43 lv st μ ↔ zB (zC d) Q (zR d 2 Q) k2_43 lv st μ := zR_of rfl
theorem e3 {d : Nat} {a0 a1 : Int} {μ : zM} {P : Int → zM → Prop} : zC (d + 1) 3 [(2, a0), (2, a1)] μ P ↔ zB (zC d) P (zR d 3 P) k3_0 [(2, a0), (2, a1)] [] μ := zC_of rfl rfl rfl
theorem e4 {d : Nat} {a0 a1 a2 : Int} {μ : zM} {P : Int → zM → Prop} : zC (d + 1) 4 [(2, a0), (2, a1), (0, a2)] μ P ↔ zB (zC d) P (zR d 4 P) k4_0 [(2, a0), (2, a1), (0, a2), (9, 0)] [] μ := zC_of rfl rfl rfl
theorem u4_13 {d : Nat} {Q : Int → zM → Prop} {lv st : List zV} {μ : zM} : zR d 4 Q 13 lv st μ ↔ zB (zC d) Q (zR d 4 Q) k4_13 lv st μ := zR_of rfl
theorem u4_18 {d : Nat} {Q : Int → zM → Prop} {lv st : List zV} {μ : zM} : zR d 4 Q 18 lv st μ ↔ zB (zC d) Q (zR d 4 Q) k4_18 lv st μ := zR_of rfl
theorem u4_20 {d : Nat} {Q : Int → zM → Prop} {lv st : List zV} {μ : zM} : zR d 4 Q 20 lv st μ ↔ zB (zC d) Q (zR d 4 Q) k4_20 lv st μ := zR_of rfl
theorem u4_74 {d : Nat} {Q : Int → zM → Prop} {lv st : List zV} {μ : zM} : zR d 4 Q 74 lv st μ ↔ zB (zC d) Q (zR d 4 Q) k4_74 lv st μ := zR_of rfl
theorem u4_80 {d : Nat} {Q : Int → zM → Prop} {lv st : List zV} {μ : zM} : zR d 4 Q 80 lv st μ ↔ zB (zC d) Q (zR d 4 Q) k4_80 lv st μ := zR_of rfl
theorem e5 {d : Nat} {a0 : Int} {μ : zM} {P : Int → zM → Prop} : zC (d + 1) 5 [(2, a0)] μ P ↔ zB (zC d) P (zR d 5 P) k5_0 [(2, a0)] [] μ := zC_of rfl rfl rfl
theorem u5_37 {d : Nat} {Q : Int → zM → Prop} {lv st : List zV} {μ : zM} : zR d 5 Q 37 lv st μ ↔ zB (zC d) Q (zR d 5 Q) k5_37 lv st μ := zR_of rfl
theorem e6 {d : Nat} {a0 a1 a2 a3 : Int} {μ : zM} {P : Int → zM → Prop} : zC (d + 1) 6 [(2, a0), (2, a1), (0, a2), (0, a3)] μ P ↔ zB (zC d) P (zR d 6 P) k6_0 [(2, a0), (2, a1), (0, a2), (0, a3), (9, 0), (9, 0)] [] μ := zC_of rfl rfl rfl
theorem u6_38 {d : Nat} {Q : Int → zM → Prop} {lv st : List zV} {μ : zM} : zR d 6 Q 38 lv st μ ↔ zB (zC d) Q (zR d 6 Q) k6_38 lv st μ := zR_of rfl
theorem u6_74 {d : Nat} {Q : Int → zM → Prop} {lv st : List zV} {μ : zM} : zR d 6 Q 74 lv st μ ↔ zB (zC d) Q (zR d 6 Q) k6_74 lv st μ := zR_of rfl
theorem e7 {d : Nat} {a0 a1 a2 a3 a4 : Int} {μ : zM} {P : Int → zM → Prop} : zC (d + 1) 7 [(2, a0), (2, a1), (0, a2), (0, a3), (0, a4)] μ P ↔ zB (zC d) P (zR d 7 P) k7_0 [(2, a0), (2, a1), (0, a2), (0, a3), (0, a4), (9, 0)] [] μ := zC_of rfl rfl rfl
theorem u7_11 {d : Nat} {Q : Int → zM → Prop} {lv st : List zV} {μ : zM} : zR d 7 Q 11 lv st μ ↔ zB (zC d) Q (zR d 7 Q) k7_11 lv st μ := zR_of rfl
theorem u7_47 {d : Nat} {Q : Int → zM → Prop} {lv st : List zV} {μ : zM} : zR d 7 Q 47 lv st μ ↔ zB (zC d) Q (zR d 7 Q) k7_47 lv st μ := zR_of rfl
theorem e8 {d : Nat} {a0 a1 : Int} {μ : zM} {P : Int → zM → Prop} : zC (d + 1) 8 [(2, a0), (0, a1)] μ P ↔ zB (zC d) P (zR d 8 P) k8_0 [(2, a0), (0, a1), (9, 0), (9, 0), (9, 0), (9, 0)] [] μ := zC_of rfl rfl rfl
theorem u8_2 {d : Nat} {Q : Int → zM → Prop} {lv st : List zV} {μ : zM} : zR d 8 Q 2 lv st μ ↔ zB (zC d) Q (zR d 8 Q) k8_2 lv st μ := zR_of rfl
theorem u8_51 {d : Nat} {Q : Int → zM → Prop} {lv st : List zV} {μ : zM} : zR d 8 Q 51 lv st μ ↔ zB (zC d) Q (zR d 8 Q) k8_51 lv st μ := zR_of rfl
theorem u8_65 {d : Nat} {Q : Int → zM → Prop} {lv st : List zV} {μ : zM} : zR d 8 Q 65 lv st μ ↔ zB (zC d) Q (zR d 8 Q) k8_65 lv st μ := zR_of rfl
theorem u8_107 {d : Nat} {Q : Int → zM → Prop} {lv st : List zV} {μ : zM} : zR d 8 Q 107 lv st μ ↔ zB (zC d) Q (zR d 8 Q) k8_107 lv st μ := zR_of rfl
theorem u8_113 {d : Nat} {Q : Int → zM → Prop} {lv st : List zV} {μ : zM} : zR d 8 Q 113 lv st μ ↔ zB (zC d) Q (zR d 8 Q) k8_113 lv st μ := zR_of rfl
theorem u8_126 {d : Nat} {Q : Int → zM → Prop} {lv st : List zV} {μ : zM} : zR d 8 Q 126 lv st μ ↔ zB (zC d) Q (zR d 8 Q) k8_126 lv st μ := zR_of rfl
theorem u8_127 {d : Nat} {Q : Int → zM → Prop} {lv st : List zV} {μ : zM} : zR d 8 Q 127 lv st μ ↔ zB (zC d) Q (zR d 8 Q) k8_127 lv st μ := zR_of rfl
theorem e9 {d : Nat} {a0 a1 a2 : Int} {μ : zM} {P : Int → zM → Prop} : zC (d + 1) 9 [(2, a0), (0, a1), (0, a2)] μ P ↔ zB (zC d) P (zR d 9 P) k9_0 [(2, a0), (0, a1), (0, a2), (9, 0)] [] μ := zC_of rfl rfl rfl
theorem u9_2 {d : Nat} {Q : Int → zM → Prop} {lv st : List zV} {μ : zM} : zR d 9 Q 2 lv st μ ↔ zB (zC d) Q (zR d 9 Q) k9_2 lv st μ := zR_of rfl
theorem u9_32 {d : Nat} {Q : Int → zM → Prop} {lv st : List zV} {μ : zM} : zR d 9 Q 32 lv st μ ↔ zB (zC d) Q (zR d 9 Q) k9_32 lv st μ := zR_of rfl
theorem e10 {d : Nat} {a0 a1 a2 a3 : Int} {μ : zM} {P : Int → zM → Prop} : zC (d + 1) 10 [(2, a0), (0, a1), (0, a2), (0, a3)] μ P ↔ zB (zC d) P (zR d 10 P) k10_0 [(2, a0), (0, a1), (0, a2), (0, a3)] [] μ := zC_of rfl rfl rfl
theorem e11 {d : Nat} {a0 a1 : Int} {μ : zM} {P : Int → zM → Prop} : zC (d + 1) 11 [(2, a0), (2, a1)] μ P ↔ zB (zC d) P (zR d 11 P) k11_0 [(2, a0), (2, a1), (9, 0), (9, 0), (9, 0)] [] μ := zC_of rfl rfl rfl
theorem u11_10 {d : Nat} {Q : Int → zM → Prop} {lv st : List zV} {μ : zM} : zR d 11 Q 10 lv st μ ↔ zB (zC d) Q (zR d 11 Q) k11_10 lv st μ := zR_of rfl
theorem u11_20 {d : Nat} {Q : Int → zM → Prop} {lv st : List zV} {μ : zM} : zR d 11 Q 20 lv st μ ↔ zB (zC d) Q (zR d 11 Q) k11_20 lv st μ := zR_of rfl
theorem u11_31 {d : Nat} {Q : Int → zM → Prop} {lv st : List zV} {μ : zM} : zR d 11 Q 31 lv st μ ↔ zB (zC d) Q (zR d 11 Q) k11_31 lv st μ := zR_of rfl
theorem u11_66 {d : Nat} {Q : Int → zM → Prop} {lv st : List zV} {μ : zM} : zR d 11 Q 66 lv st μ ↔ zB (zC d) Q (zR d 11 Q) k11_66 lv st μ := zR_of rfl
theorem u11_72 {d : Nat} {Q : Int → zM → Prop} {lv st : List zV} {μ : zM} : zR d 11 Q 72 lv st μ ↔ zB (zC d) Q (zR d 11 Q) k11_72 lv st μ := zR_of rfl
theorem u11_78 {d : Nat} {Q : Int → zM → Prop} {lv st : List zV} {μ : zM} : zR d 11 Q 78 lv st μ ↔ zB (zC d) Q (zR d 11 Q) k11_78 lv st μ := zR_of rfl
theorem e12 {d : Nat} {a0 a1 a2 a3 : Int} {μ : zM} {P : Int → zM → Prop} : zC (d + 1) 12 [(2, a0), (0, a1), (0, a2), (0, a3)] μ P ↔ zB (zC d) P (zR d 12 P) k12_0 [(2, a0), (0, a1), (0, a2), (0, a3), (9, 0)] [] μ := zC_of rfl rfl rfl
theorem u12_8 {d : Nat} {Q : Int → zM → Prop} {lv st : List zV} {μ : zM} : zR d 12 Q 8 lv st μ ↔ zB (zC d) Q (zR d 12 Q) k12_8 lv st μ := zR_of rfl
theorem u12_15 {d : Nat} {Q : Int → zM → Prop} {lv st : List zV} {μ : zM} : zR d 12 Q 15 lv st μ ↔ zB (zC d) Q (zR d 12 Q) k12_15 lv st μ := zR_of rfl
theorem u12_56 {d : Nat} {Q : Int → zM → Prop} {lv st : List zV} {μ : zM} : zR d 12 Q 56 lv st μ ↔ zB (zC d) Q (zR d 12 Q) k12_56 lv st μ := zR_of rfl
theorem u12_67 {d : Nat} {Q : Int → zM → Prop} {lv st : List zV} {μ : zM} : zR d 12 Q 67 lv st μ ↔ zB (zC d) Q (zR d 12 Q) k12_67 lv st μ := zR_of rfl
theorem u12_76 {d : Nat} {Q : Int → zM → Prop} {lv st : List zV} {μ : zM} : zR d 12 Q 76 lv st μ ↔ zB (zC d) Q (zR d 12 Q) k12_76 lv st μ := zR_of rfl
theorem u12_85 {d : Nat} {Q : Int → zM → Prop} {lv st : List zV} {μ : zM} : zR d 12 Q 85 lv st μ ↔ zB (zC d) Q (zR d 12 Q) k12_85 lv st μ := zR_of rfl
theorem u12_110 {d : Nat} {Q : Int → zM → Prop} {lv st : List zV} {μ : zM} : zR d 12 Q 110 lv st μ ↔ zB (zC d) Q (zR d 12 Q) k12_110 lv st μ := zR_of rfl
theorem u12_118 {d : Nat} {Q : Int → zM → Prop} {lv st : List zV} {μ : zM} : zR d 12 Q 118 lv st μ ↔ zB (zC d) Q (zR d 12 Q) k12_118 lv st μ := zR_of rfl
theorem u12_119 {d : Nat} {Q : Int → zM → Prop} {lv st : List zV} {μ : zM} : zR d 12 Q 119 lv st μ ↔ zB (zC d) Q (zR d 12 Q) k12_119 lv st μ := zR_of rfl
theorem e13 {d : Nat} {a0 a1 a2 : Int} {μ : zM} {P : Int → zM → Prop} : zC (d + 1) 13 [(0, a0), (0, a1), (0, a2)] μ P ↔ zB (zC d) P (zR d 13 P) k13_0 [(0, a0), (0, a1), (0, a2)] [] μ := zC_of rfl rfl rfl
theorem u13_11 {d : Nat} {Q : Int → zM → Prop} {lv st : List zV} {μ : zM} : zR d 13 Q 11 lv st μ ↔ zB (zC d) Q (zR d 13 Q) k13_11 lv st μ := zR_of rfl
theorem u13_12 {d : Nat} {Q : Int → zM → Prop} {lv st : List zV} {μ : zM} : zR d 13 Q 12 lv st μ ↔ zB (zC d) Q (zR d 13 Q) k13_12 lv st μ := zR_of rfl
theorem e14 {d : Nat} {a0 a1 a2 a3 : Int} {μ : zM} {P : Int → zM → Prop} : zC (d + 1) 14 [(0, a0), (0, a1), (0, a2), (0, a3)] μ P ↔ zB (zC d) P (zR d 14 P) k14_0 [(0, a0), (0, a1), (0, a2), (0, a3), (9, 0)] [] μ := zC_of rfl rfl rfl
theorem u14_17 {d : Nat} {Q : Int → zM → Prop} {lv st : List zV} {μ : zM} : zR d 14 Q 17 lv st μ ↔ zB (zC d) Q (zR d 14 Q) k14_17 lv st μ := zR_of rfl
theorem u14_21 {d : Nat} {Q : Int → zM → Prop} {lv st : List zV} {μ : zM} : zR d 14 Q 21 lv st μ ↔ zB (zC d) Q (zR d 14 Q) k14_21 lv st μ := zR_of rfl
theorem u14_28 {d : Nat} {Q : Int → zM → Prop} {lv st : List zV} {μ : zM} : zR d 14 Q 28 lv st μ ↔ zB (zC d) Q (zR d 14 Q) k14_28 lv st μ := zR_of rfl
theorem u14_29 {d : Nat} {Q : Int → zM → Prop} {lv st : List zV} {μ : zM} : zR d 14 Q 29 lv st μ ↔ zB (zC d) Q (zR d 14 Q) k14_29 lv st μ := zR_of rfl
theorem e15 {d : Nat} {a0 a1 a2 a3 : Int} {μ : zM} {P : Int → zM → Prop} : zC (d + 1) 15 [(0, a0), (0, a1), (0, a2), (0, a3)] μ P ↔ zB (zC d) P (zR d 15 P) k15_0 [(0, a0), (0, a1), (0, a2), (0, a3), (9, 0), (9, 0)] [] μ := zC_of rfl rfl rfl
theorem u15_48 {d : Nat} {Q : Int → zM → Prop} {lv st : List zV} {μ : zM} : zR d 15 Q 48 lv st μ ↔ zB (zC d) Q (zR d 15 Q) k15_48 lv st μ := zR_of rfl
theorem u15_49 {d : Nat} {Q : Int → zM → Prop} {lv st : List zV} {μ : zM} : zR d 15 Q 49 lv st μ ↔ zB (zC d) Q (zR d 15 Q) k15_49 lv st μ := zR_of rfl
theorem e16 {d : Nat} {a0 a1 a2 a3 : Int} {μ : zM} {P : Int → zM → Prop} : zC (d + 1) 16 [(0, a0), (0, a1), (0, a2), (0, a3)] μ P ↔ zB (zC d) P (zR d 16 P) k16_0 [(0, a0), (0, a1), (0, a2), (0, a3)] [] μ := zC_of rfl rfl rfl
theorem u16_19 {d : Nat} {Q : Int → zM → Prop} {lv st : List zV} {μ : zM} : zR d 16 Q 19 lv st μ ↔ zB (zC d) Q (zR d 16 Q) k16_19 lv st μ := zR_of rfl
theorem u16_20 {d : Nat} {Q : Int → zM → Prop} {lv st : List zV} {μ : zM} : zR d 16 Q 20 lv st μ ↔ zB (zC d) Q (zR d 16 Q) k16_20 lv st μ := zR_of rfl
theorem u16_21 {d : Nat} {Q : Int → zM → Prop} {lv st : List zV} {μ : zM} : zR d 16 Q 21 lv st μ ↔ zB (zC d) Q (zR d 16 Q) k16_21 lv st μ := zR_of rfl
theorem u16_31 {d : Nat} {Q : Int → zM → Prop} {lv st : List zV} {μ : zM} : zR d 16 Q 31 lv st μ ↔ zB (zC d) Q (zR d 16 Q) k16_31 lv st μ := zR_of rfl
theorem u16_40 {d : Nat} {Q : Int → zM → Prop} {lv st : List zV} {μ : zM} : zR d 16 Q 40 lv st μ ↔ zB (zC d) Q (zR d 16 Q) k16_40 lv st μ := zR_of rfl
theorem u16_41 {d : Nat} {Q : Int → zM → Prop} {lv st : List zV} {μ : zM} : zR d 16 Q 41 lv st μ ↔ zB (zC d) Q (zR d 16 Q) k16_41 lv st μ := zR_of rfl
theorem u16_42 {d : Nat} {Q : Int → zM → Prop} {lv st : List zV} {μ : zM} : zR d 16 Q 42 lv st μ ↔ zB (zC d) Q (zR d 16 Q) k16_42 lv st μ := zR_of rfl
theorem e17 {d : Nat} {a0 a1 a2 a3 a4 : Int} {μ : zM} {P : Int → zM → Prop} : zC (d + 1) 17 [(2, a0), (0, a1), (0, a2), (0, a3), (0, a4)] μ P ↔ zB (zC d) P (zR d 17 P) k17_0 [(2, a0), (0, a1), (0, a2), (0, a3), (0, a4), (9, 0)] [] μ := zC_of rfl rfl rfl
theorem u17_8 {d : Nat} {Q : Int → zM → Prop} {lv st : List zV} {μ : zM} : zR d 17 Q 8 lv st μ ↔ zB (zC d) Q (zR d 17 Q) k17_8 lv st μ := zR_of rfl
theorem u17_51 {d : Nat} {Q : Int → zM → Prop} {lv st : List zV} {μ : zM} : zR d 17 Q 51 lv st μ ↔ zB (zC d) Q (zR d 17 Q) k17_51 lv st μ := zR_of rfl
theorem e18 {d : Nat} {a0 a1 a2 a3 a4 a5 : Int} {μ : zM} {P : Int → zM → Prop} : zC (d + 1) 18 [(2, a0), (0, a1), (0, a2), (0, a3), (0, a4), (0, a5)] μ P ↔ zB (zC d) P (zR d 18 P) k18_0 [(2, a0), (0, a1), (0, a2), (0, a3), (0, a4), (0, a5)] [] μ := zC_of rfl rfl rfl
theorem e19 {d : Nat} {a0 : Int} {μ : zM} {P : Int → zM → Prop} : zC (d + 1) 19 [(2, a0)] μ P ↔ zB (zC d) P (zR d 19 P) k19_0 [(2, a0), (9, 0), (9, 0), (9, 0), (9, 0)] [] μ := zC_of rfl rfl rfl
theorem u19_2 {d : Nat} {Q : Int → zM → Prop} {lv st : List zV} {μ : zM} : zR d 19 Q 2 lv st μ ↔ zB (zC d) Q (zR d 19 Q) k19_2 lv st μ := zR_of rfl
theorem u19_12 {d : Nat} {Q : Int → zM → Prop} {lv st : List zV} {μ : zM} : zR d 19 Q 12 lv st μ ↔ zB (zC d) Q (zR d 19 Q) k19_12 lv st μ := zR_of rfl
theorem u19_22 {d : Nat} {Q : Int → zM → Prop} {lv st : List zV} {μ : zM} : zR d 19 Q 22 lv st μ ↔ zB (zC d) Q (zR d 19 Q) k19_22 lv st μ := zR_of rfl
theorem u19_67 {d : Nat} {Q : Int → zM → Prop} {lv st : List zV} {μ : zM} : zR d 19 Q 67 lv st μ ↔ zB (zC d) Q (zR d 19 Q) k19_67 lv st μ := zR_of rfl
theorem u19_73 {d : Nat} {Q : Int → zM → Prop} {lv st : List zV} {μ : zM} : zR d 19 Q 73 lv st μ ↔ zB (zC d) Q (zR d 19 Q) k19_73 lv st μ := zR_of rfl
theorem u19_79 {d : Nat} {Q : Int → zM → Prop} {lv st : List zV} {μ : zM} : zR d 19 Q 79 lv st μ ↔ zB (zC d) Q (zR d 19 Q) k19_79 lv st μ := zR_of rfl
theorem u19_85 {d : Nat} {Q : Int → zM → Prop} {lv st : List zV} {μ : zM} : zR d 19 Q 85 lv st μ ↔ zB (zC d) Q (zR d 19 Q) k19_85 lv st μ := zR_of rfl
theorem e20 {d : Nat} {a0 a1 a2 a3 : Int} {μ : zM} {P : Int → zM → Prop} : zC (d + 1) 20 [(2, a0), (0, a1), (0, a2), (0, a3)] μ P ↔ zB (zC d) P (zR d 20 P) k20_0 [(2, a0), (0, a1), (0, a2), (0, a3), (9, 0), (9, 0), (9, 0), (9, 0)] [] μ := zC_of rfl rfl rfl
theorem u20_3 {d : Nat} {Q : Int → zM → Prop} {lv st : List zV} {μ : zM} : zR d 20 Q 3 lv st μ ↔ zB (zC d) Q (zR d 20 Q) k20_3 lv st μ := zR_of rfl
theorem u20_21 {d : Nat} {Q : Int → zM → Prop} {lv st : List zV} {μ : zM} : zR d 20 Q 21 lv st μ ↔ zB (zC d) Q (zR d 20 Q) k20_21 lv st μ := zR_of rfl
theorem u20_82 {d : Nat} {Q : Int → zM → Prop} {lv st : List zV} {μ : zM} : zR d 20 Q 82 lv st μ ↔ zB (zC d) Q (zR d 20 Q) k20_82 lv st μ := zR_of rfl
theorem u20_92 {d : Nat} {Q : Int → zM → Prop} {lv st : List zV} {μ : zM} : zR d 20 Q 92 lv st μ ↔ zB (zC d) Q (zR d 20 Q) k20_92 lv st μ := zR_of rfl
theorem u20_98 {d : Nat} {Q : Int → zM → Prop} {lv st : List zV} {μ : zM} : zR d 20 Q 98 lv st μ ↔ zB (zC d) Q (zR d 20 Q) k20_98 lv st μ := zR_of rfl
theorem e21 {d : Nat} {a0 : Int} {μ : zM} {P : Int → zM → Prop} : zC (d + 1) 21 [(2, a0)] μ P ↔ zB (zC d) P (zR d 21 P) k21_0 [(2, a0), (9, 0), (9, 0), (9, 0)] [] μ := zC_of rfl rfl rfl
theorem u21_2 {d : Nat} {Q : Int → zM → Prop} {lv st : List zV} {μ : zM} : zR d 21 Q 2 lv st μ ↔ zB (zC d) Q (zR d 21 Q) k21_2 lv st μ := zR_of rfl
theorem u21_12 {d : Nat} {Q : Int → zM → Prop} {lv st : List zV} {μ : zM} : zR d 21 Q 12 lv st μ ↔ zB (zC d) Q (zR d 21 Q) k21_12 lv st μ := zR_of rfl
theorem u21_22 {d : Nat} {Q : Int → zM → Prop} {lv st : List zV} {μ : zM} : zR d 21 Q 22 lv st μ ↔ zB (zC d) Q (zR d 21 Q) k21_22 lv st μ := zR_of rfl
theorem u21_54 {d : Nat} {Q : Int → zM → Prop} {lv st : List zV} {μ : zM} : zR d 21 Q 54 lv st μ ↔ zB (zC d) Q (zR d 21 Q) k21_54 lv st μ := zR_of rfl
theorem u21_60 {d : Nat} {Q : Int → zM → Prop} {lv st : List zV} {μ : zM} : zR d 21 Q 60 lv st μ ↔ zB (zC d) Q (zR d 21 Q) k21_60 lv st μ := zR_of rfl
theorem u21_66 {d : Nat} {Q : Int → zM → Prop} {lv st : List zV} {μ : zM} : zR d 21 Q 66 lv st μ ↔ zB (zC d) Q (zR d 21 Q) k21_66 lv st μ := zR_of rfl
theorem u21_72 {d : Nat} {Q : Int → zM → Prop} {lv st : List zV} {μ : zM} : zR d 21 Q 72 lv st μ ↔ zB (zC d) Q (zR d 21 Q) k21_72 lv st μ := zR_of rfl
theorem e22 {d : Nat} {a0 a1 : Int} {μ : zM} {P : Int → zM → Prop} : zC (d + 1) 22 [(2, a0), (0, a1)] μ P ↔ zB (zC d) P (zR d 22 P) k22_0 [(2, a0), (0, a1), (9, 0), (9, 0)] [] μ := zC_of rfl rfl rfl
theorem u22_5 {d : Nat} {Q : Int → zM → Prop} {lv st : List zV} {μ : zM} : zR d 22 Q 5 lv st μ ↔ zB (zC d) Q (zR d 22 Q) k22_5 lv st μ := zR_of rfl
theorem u22_40 {d : Nat} {Q : Int → zM → Prop} {lv st : List zV} {μ : zM} : zR d 22 Q 40 lv st μ ↔ zB (zC d) Q (zR d 22 Q) k22_40 lv st μ := zR_of rfl
theorem u22_43 {d : Nat} {Q : Int → zM → Prop} {lv st : List zV} {μ : zM} : zR d 22 Q 43 lv st μ ↔ zB (zC d) Q (zR d 22 Q) k22_43 lv st μ := zR_of rfl
theorem u22_45 {d : Nat} {Q : Int → zM → Prop} {lv st : List zV} {μ : zM} : zR d 22 Q 45 lv st μ ↔ zB (zC d) Q (zR d 22 Q) k22_45 lv st μ := zR_of rfl
theorem u22_51 {d : Nat} {Q : Int → zM → Prop} {lv st : List zV} {μ : zM} : zR d 22 Q 51 lv st μ ↔ zB (zC d) Q (zR d 22 Q) k22_51 lv st μ := zR_of rfl
theorem e23 {d : Nat} {a0 a1 a2 a3 : Int} {μ : zM} {P : Int → zM → Prop} : zC (d + 1) 23 [(2, a0), (2, a1), (2, a2), (2, a3)] μ P ↔ zB (zC d) P (zR d 23 P) k23_0 [(2, a0), (2, a1), (2, a2), (2, a3), (9, 0), (9, 0), (9, 0), (9, 0), (9, 0)] [] μ := zC_of rfl rfl rfl
theorem u23_8 {d : Nat} {Q : Int → zM → Prop} {lv st : List zV} {μ : zM} : zR d 23 Q 8 lv st μ ↔ zB (zC d) Q (zR d 23 Q) k23_8 lv st μ := zR_of rfl
theorem u23_20 {d : Nat} {Q : Int → zM → Prop} {lv st : List zV} {μ : zM} : zR d 23 Q 20 lv st μ ↔ zB (zC d) Q (zR d 23 Q) k23_20 lv st μ := zR_of rfl
theorem u23_43 {d : Nat} {Q : Int → zM → Prop} {lv st : List zV} {μ : zM} : zR d 23 Q 43 lv st μ ↔ zB (zC d) Q (zR d 23 Q) k23_43 lv st μ := zR_of rfl
theorem u23_86 {d : Nat} {Q : Int → zM → Prop} {lv st : List zV} {μ : zM} : zR d 23 Q 86 lv st μ ↔ zB (zC d) Q (zR d 23 Q) k23_86 lv st μ := zR_of rfl
theorem u23_92 {d : Nat} {Q : Int → zM → Prop} {lv st : List zV} {μ : zM} : zR d 23 Q 92 lv st μ ↔ zB (zC d) Q (zR d 23 Q) k23_92 lv st μ := zR_of rfl
theorem u23_98 {d : Nat} {Q : Int → zM → Prop} {lv st : List zV} {μ : zM} : zR d 23 Q 98 lv st μ ↔ zB (zC d) Q (zR d 23 Q) k23_98 lv st μ := zR_of rfl
theorem e24 {d : Nat} {a0 a1 a2 : Int} {μ : zM} {P : Int → zM → Prop} : zC (d + 1) 24 [(2, a0), (0, a1), (0, a2)] μ P ↔ zB (zC d) P (zR d 24 P) k24_0 [(2, a0), (0, a1), (0, a2), (9, 0), (9, 0)] [] μ := zC_of rfl rfl rfl
theorem u24_5 {d : Nat} {Q : Int → zM → Prop} {lv st : List zV} {μ : zM} : zR d 24 Q 5 lv st μ ↔ zB (zC d) Q (zR d 24 Q) k24_5 lv st μ := zR_of rfl
theorem u24_32 {d : Nat} {Q : Int → zM → Prop} {lv st : List zV} {μ : zM} : zR d 24 Q 32 lv st μ ↔ zB (zC d) Q (zR d 24 Q) k24_32 lv st μ := zR_of rfl
theorem u24_38 {d : Nat} {Q : Int → zM → Prop} {lv st : List zV} {μ : zM} : zR d 24 Q 38 lv st μ ↔ zB (zC d) Q (zR d 24 Q) k24_38 lv st μ := zR_of rfl
theorem e25 {d : Nat} {a0 a1 a2 : Int} {μ : zM} {P : Int → zM → Prop} : zC (d + 1) 25 [(2, a0), (0, a1), (0, a2)] μ P ↔ zB (zC d) P (zR d 25 P) k25_0 [(2, a0), (0, a1), (0, a2), (9, 0), (9, 0)] [] μ := zC_of rfl rfl rfl
theorem u25_5 {d : Nat} {Q : Int → zM → Prop} {lv st : List zV} {μ : zM} : zR d 25 Q 5 lv st μ ↔ zB (zC d) Q (zR d 25 Q) k25_5 lv st μ := zR_of rfl
theorem u25_34 {d : Nat} {Q : Int → zM → Prop} {lv st : List zV} {μ : zM} : zR d 25 Q 34 lv st μ ↔ zB (zC d) Q (zR d 25 Q) k25_34 lv st μ := zR_of rfl
theorem u25_40 {d : Nat} {Q : Int → zM → Prop} {lv st : List zV} {μ : zM} : zR d 25 Q 40 lv st μ ↔ zB (zC d) Q (zR d 25 Q) k25_40 lv st μ := zR_of rfl
theorem e26 {d : Nat} {a0 a1 : Int} {μ : zM} {P : Int → zM → Prop} : zC (d + 1) 26 [(2, a0), (0, a1)] μ P ↔ zB (zC d) P (zR d 26 P) k26_0 [(2, a0), (0, a1), (9, 0), (9, 0)] [] μ := zC_of rfl rfl rfl
theorem u26_4 {d : Nat} {Q : Int → zM → Prop} {lv st : List zV} {μ : zM} : zR d 26 Q 4 lv st μ ↔ zB (zC d) Q (zR d 26 Q) k26_4 lv st μ := zR_of rfl
theorem u26_30 {d : Nat} {Q : Int → zM → Prop} {lv st : List zV} {μ : zM} : zR d 26 Q 30 lv st μ ↔ zB (zC d) Q (zR d 26 Q) k26_30 lv st μ := zR_of rfl
theorem u26_36 {d : Nat} {Q : Int → zM → Prop} {lv st : List zV} {μ : zM} : zR d 26 Q 36 lv st μ ↔ zB (zC d) Q (zR d 26 Q) k26_36 lv st μ := zR_of rfl
theorem e27 {d : Nat} {a0 a1 : Int} {μ : zM} {P : Int → zM → Prop} : zC (d + 1) 27 [(2, a0), (0, a1)] μ P ↔ zB (zC d) P (zR d 27 P) k27_0 [(2, a0), (0, a1)] [] μ := zC_of rfl rfl rfl
theorem u27_20 {d : Nat} {Q : Int → zM → Prop} {lv st : List zV} {μ : zM} : zR d 27 Q 20 lv st μ ↔ zB (zC d) Q (zR d 27 Q) k27_20 lv st μ := zR_of rfl
theorem u27_21 {d : Nat} {Q : Int → zM → Prop} {lv st : List zV} {μ : zM} : zR d 27 Q 21 lv st μ ↔ zB (zC d) Q (zR d 27 Q) k27_21 lv st μ := zR_of rfl
theorem e28 {d : Nat} {a0 a1 : Int} {μ : zM} {P : Int → zM → Prop} : zC (d + 1) 28 [(2, a0), (0, a1)] μ P ↔ zB (zC d) P (zR d 28 P) k28_0 [(2, a0), (0, a1), (9, 0), (9, 0)] [] μ := zC_of rfl rfl rfl
theorem u28_6 {d : Nat} {Q : Int → zM → Prop} {lv st : List zV} {μ : zM} : zR d 28 Q 6 lv st μ ↔ zB (zC d) Q (zR d 28 Q) k28_6 lv st μ := zR_of rfl
theorem u28_23 {d : Nat} {Q : Int → zM → Prop} {lv st : List zV} {μ : zM} : zR d 28 Q 23 lv st μ ↔ zB (zC d) Q (zR d 28 Q) k28_23 lv st μ := zR_of rfl
theorem e29 {d : Nat} {a0 a1 a2 : Int} {μ : zM} {P : Int → zM → Prop} : zC (d + 1) 29 [(2, a0), (0, a1), (0, a2)] μ P ↔ zB (zC d) P (zR d 29 P) k29_0 [(2, a0), (0, a1), (0, a2), (9, 0), (9, 0), (9, 0)] [] μ := zC_of rfl rfl rfl
theorem u29_8 {d : Nat} {Q : Int → zM → Prop} {lv st : List zV} {μ : zM} : zR d 29 Q 8 lv st μ ↔ zB (zC d) Q (zR d 29 Q) k29_8 lv st μ := zR_of rfl
theorem u29_54 {d : Nat} {Q : Int → zM → Prop} {lv st : List zV} {μ : zM} : zR d 29 Q 54 lv st μ ↔ zB (zC d) Q (zR d 29 Q) k29_54 lv st μ := zR_of rfl
theorem e30 {d : Nat} {a0 a1 : Int} {μ : zM} {P : Int → zM → Prop} : zC (d + 1) 30 [(2, a0), (2, a1)] μ P ↔ zB (zC d) P (zR d 30 P) k30_0 [(2, a0), (2, a1)] [] μ := zC_of rfl rfl rfl
theorem e31 {d : Nat} {a0 a1 a2 : Int} {μ : zM} {P : Int → zM → Prop} : zC (d + 1) 31 [(2, a0), (0, a1), (2, a2)] μ P ↔ zB (zC d) P (zR d 31 P) k31_0 [(2, a0), (0, a1), (2, a2), (9, 0)] [] μ := zC_of rfl rfl rfl
theorem u31_19 {d : Nat} {Q : Int → zM → Prop} {lv st : List zV} {μ : zM} : zR d 31 Q 19 lv st μ ↔ zB (zC d) Q (zR d 31 Q) k31_19 lv st μ := zR_of rfl
theorem u31_41 {d : Nat} {Q : Int → zM → Prop} {lv st : List zV} {μ : zM} : zR d 31 Q 41 lv st μ ↔ zB (zC d) Q (zR d 31 Q) k31_41 lv st μ := zR_of rfl
theorem u31_66 {d : Nat} {Q : Int → zM → Prop} {lv st : List zV} {μ : zM} : zR d 31 Q 66 lv st μ ↔ zB (zC d) Q (zR d 31 Q) k31_66 lv st μ := zR_of rfl
theorem u31_83 {d : Nat} {Q : Int → zM → Prop} {lv st : List zV} {μ : zM} : zR d 31 Q 83 lv st μ ↔ zB (zC d) Q (zR d 31 Q) k31_83 lv st μ := zR_of rfl
theorem u31_89 {d : Nat} {Q : Int → zM → Prop} {lv st : List zV} {μ : zM} : zR d 31 Q 89 lv st μ ↔ zB (zC d) Q (zR d 31 Q) k31_89 lv st μ := zR_of rfl
theorem e32 {d : Nat} {a0 a1 : Int} {μ : zM} {P : Int → zM → Prop} : zC (d + 1) 32 [(2, a0), (0, a1)] μ P ↔ zB (zC d) P (zR d 32 P) k32_0 [(2, a0), (0, a1)] [] μ := zC_of rfl rfl rfl
theorem u32_29 {d : Nat} {Q : Int → zM → Prop} {lv st : List zV} {μ : zM} : zR d 32 Q 29 lv st μ ↔ zB (zC d) Q (zR d 32 Q) k32_29 lv st μ := zR_of rfl
theorem u32_37 {d : Nat} {Q : Int → zM → Prop} {lv st : List zV} {μ : zM} : zR d 32 Q 37 lv st μ ↔ zB (zC d) Q (zR d 32 Q) k32_37 lv st μ := zR_of rfl
theorem e33 {d : Nat} {a0 a1 : Int} {μ : zM} {P : Int → zM → Prop} : zC (d + 1) 33 [(2, a0), (0, a1)] μ P ↔ zB (zC d) P (zR d 33 P) k33_0 [(2, a0), (0, a1), (9, 0), (9, 0)] [] μ := zC_of rfl rfl rfl
theorem u33_21 {d : Nat} {Q : Int → zM → Prop} {lv st : List zV} {μ : zM} : zR d 33 Q 21 lv st μ ↔ zB (zC d) Q (zR d 33 Q) k33_21 lv st μ := zR_of rfl
theorem u33_23 {d : Nat} {Q : Int → zM → Prop} {lv st : List zV} {μ : zM} : zR d 33 Q 23 lv st μ ↔ zB (zC d) Q (zR d 33 Q) k33_23 lv st μ := zR_of rfl
theorem u33_56 {d : Nat} {Q : Int → zM → Prop} {lv st : List zV} {μ : zM} : zR d 33 Q 56 lv st μ ↔ zB (zC d) Q (zR d 33 Q) k33_56 lv st μ := zR_of rfl
theorem u33_58 {d : Nat} {Q : Int → zM → Prop} {lv st : List zV} {μ : zM} : zR d 33 Q 58 lv st μ ↔ zB (zC d) Q (zR d 33 Q) k33_58 lv st μ := zR_of rfl
theorem e34 {d : Nat} {a0 a1 a2 a3 a4 : Int} {μ : zM} {P : Int → zM → Prop} : zC (d + 1) 34 [(2, a0), (0, a1), (0, a2), (0, a3), (0, a4)] μ P ↔ zB (zC d) P (zR d 34 P) k34_0 [(2, a0), (0, a1), (0, a2), (0, a3), (0, a4), (9, 0), (9, 0), (9, 0)] [] μ := zC_of rfl rfl rfl
theorem u34_24 {d : Nat} {Q : Int → zM → Prop} {lv st : List zV} {μ : zM} : zR d 34 Q 24 lv st μ ↔ zB (zC d) Q (zR d 34 Q) k34_24 lv st μ := zR_of rfl
theorem u34_27 {d : Nat} {Q : Int → zM → Prop} {lv st : List zV} {μ : zM} : zR d 34 Q 27 lv st μ ↔ zB (zC d) Q (zR d 34 Q) k34_27 lv st μ := zR_of rfl
theorem u34_58 {d : Nat} {Q : Int → zM → Prop} {lv st : List zV} {μ : zM} : zR d 34 Q 58 lv st μ ↔ zB (zC d) Q (zR d 34 Q) k34_58 lv st μ := zR_of rfl
theorem u34_101 {d : Nat} {Q : Int → zM → Prop} {lv st : List zV} {μ : zM} : zR d 34 Q 101 lv st μ ↔ zB (zC d) Q (zR d 34 Q) k34_101 lv st μ := zR_of rfl
theorem u34_107 {d : Nat} {Q : Int → zM → Prop} {lv st : List zV} {μ : zM} : zR d 34 Q 107 lv st μ ↔ zB (zC d) Q (zR d 34 Q) k34_107 lv st μ := zR_of rfl
theorem e35 {d : Nat} {a0 a1 a2 : Int} {μ : zM} {P : Int → zM → Prop} : zC (d + 1) 35 [(2, a0), (0, a1), (0, a2)] μ P ↔ zB (zC d) P (zR d 35 P) k35_0 [(2, a0), (0, a1), (0, a2), (9, 0), (9, 0), (9, 0)] [] μ := zC_of rfl rfl rfl
theorem u35_19 {d : Nat} {Q : Int → zM → Prop} {lv st : List zV} {μ : zM} : zR d 35 Q 19 lv st μ ↔ zB (zC d) Q (zR d 35 Q) k35_19 lv st μ := zR_of rfl
theorem u35_21 {d : Nat} {Q : Int → zM → Prop} {lv st : List zV} {μ : zM} : zR d 35 Q 21 lv st μ ↔ zB (zC d) Q (zR d 35 Q) k35_21 lv st μ := zR_of rfl
theorem u35_27 {d : Nat} {Q : Int → zM → Prop} {lv st : List zV} {μ : zM} : zR d 35 Q 27 lv st μ ↔ zB (zC d) Q (zR d 35 Q) k35_27 lv st μ := zR_of rfl
theorem u35_76 {d : Nat} {Q : Int → zM → Prop} {lv st : List zV} {μ : zM} : zR d 35 Q 76 lv st μ ↔ zB (zC d) Q (zR d 35 Q) k35_76 lv st μ := zR_of rfl
theorem e36 {d : Nat} {a0 a1 a2 : Int} {μ : zM} {P : Int → zM → Prop} : zC (d + 1) 36 [(2, a0), (0, a1), (0, a2)] μ P ↔ zB (zC d) P (zR d 36 P) k36_0 [(2, a0), (0, a1), (0, a2), (9, 0)] [] μ := zC_of rfl rfl rfl
theorem u36_23 {d : Nat} {Q : Int → zM → Prop} {lv st : List zV} {μ : zM} : zR d 36 Q 23 lv st μ ↔ zB (zC d) Q (zR d 36 Q) k36_23 lv st μ := zR_of rfl
theorem u36_25 {d : Nat} {Q : Int → zM → Prop} {lv st : List zV} {μ : zM} : zR d 36 Q 25 lv st μ ↔ zB (zC d) Q (zR d 36 Q) k36_25 lv st μ := zR_of rfl
theorem e37 {d : Nat} {a0 a1 : Int} {μ : zM} {P : Int → zM → Prop} : zC (d + 1) 37 [(2, a0), (0, a1)] μ P ↔ zB (zC d) P (zR d 37 P) k37_0 [(2, a0), (0, a1)] [] μ := zC_of rfl rfl rfl
theorem u37_10 {d : Nat} {Q : Int → zM → Prop} {lv st : List zV} {μ : zM} : zR d 37 Q 10 lv st μ ↔ zB (zC d) Q (zR d 37 Q) k37_10 lv st μ := zR_of rfl
theorem e38 {d : Nat} {a0 : Int} {μ : zM} {P : Int → zM → Prop} : zC (d + 1) 38 [(2, a0)] μ P ↔ zB (zC d) P (zR d 38 P) k38_0 [(2, a0)] [] μ := zC_of rfl rfl rfl
theorem u38_39 {d : Nat} {Q : Int → zM → Prop} {lv st : List zV} {μ : zM} : zR d 38 Q 39 lv st μ ↔ zB (zC d) Q (zR d 38 Q) k38_39 lv st μ := zR_of rfl
theorem u38_40 {d : Nat} {Q : Int → zM → Prop} {lv st : List zV} {μ : zM} : zR d 38 Q 40 lv st μ ↔ zB (zC d) Q (zR d 38 Q) k38_40 lv st μ := zR_of rfl
theorem e39 {d : Nat} {a0 a1 a2 : Int} {μ : zM} {P : Int → zM → Prop} : zC (d + 1) 39 [(2, a0), (2, a1), (0, a2)] μ P ↔ zB (zC d) P (zR d 39 P) k39_0 [(2, a0), (2, a1), (0, a2), (9, 0), (9, 0)] [] μ := zC_of rfl rfl rfl
theorem u39_22 {d : Nat} {Q : Int → zM → Prop} {lv st : List zV} {μ : zM} : zR d 39 Q 22 lv st μ ↔ zB (zC d) Q (zR d 39 Q) k39_22 lv st μ := zR_of rfl
theorem u39_44 {d : Nat} {Q : Int → zM → Prop} {lv st : List zV} {μ : zM} : zR d 39 Q 44 lv st μ ↔ zB (zC d) Q (zR d 39 Q) k39_44 lv st μ := zR_of rfl
theorem u39_46 {d : Nat} {Q : Int → zM → Prop} {lv st : List zV} {μ : zM} : zR d 39 Q 46 lv st μ ↔ zB (zC d) Q (zR d 39 Q) k39_46 lv st μ := zR_of rfl
theorem u39_67 {d : Nat} {Q : Int → zM → Prop} {lv st : List zV} {μ : zM} : zR d 39 Q 67 lv st μ ↔ zB (zC d) Q (zR d 39 Q) k39_67 lv st μ := zR_of rfl
theorem u39_99 {d : Nat} {Q : Int → zM → Prop} {lv st : List zV} {μ : zM} : zR d 39 Q 99 lv st μ ↔ zB (zC d) Q (zR d 39 Q) k39_99 lv st μ := zR_of rfl
theorem e40 {d : Nat} {a0 a1 a2 : Int} {μ : zM} {P : Int → zM → Prop} : zC (d + 1) 40 [(2, a0), (0, a1), (0, a2)] μ P ↔ zB (zC d) P (zR d 40 P) k40_0 [(2, a0), (0, a1), (0, a2), (9, 0)] [] μ := zC_of rfl rfl rfl
theorem u40_2 {d : Nat} {Q : Int → zM → Prop} {lv st : List zV} {μ : zM} : zR d 40 Q 2 lv st μ ↔ zB (zC d) Q (zR d 40 Q) k40_2 lv st μ := zR_of rfl
theorem u40_26 {d : Nat} {Q : Int → zM → Prop} {lv st : List zV} {μ : zM} : zR d 40 Q 26 lv st μ ↔ zB (zC d) Q (zR d 40 Q) k40_26 lv st μ := zR_of rfl
theorem e41 {d : Nat} {a0 a1 a2 : Int} {μ : zM} {P : Int → zM → Prop} : zC (d + 1) 41 [(2, a0), (0, a1), (0, a2)] μ P ↔ zB (zC d) P (zR d 41 P) k41_0 [(2, a0), (0, a1), (0, a2), (9, 0), (9, 0)] [] μ := zC_of rfl rfl rfl
theorem u41_2 {d : Nat} {Q : Int → zM → Prop} {lv st : List zV} {μ : zM} : zR d 41 Q 2 lv st μ ↔ zB (zC d) Q (zR d 41 Q) k41_2 lv st μ := zR_of rfl
theorem u41_45 {d : Nat} {Q : Int → zM → Prop} {lv st : List zV} {μ : zM} : zR d 41 Q 45 lv st μ ↔ zB (zC d) Q (zR d 41 Q) k41_45 lv st μ := zR_of rfl
theorem e42 {d : Nat} {a0 a1 a2 : Int} {μ : zM} {P : Int → zM → Prop} : zC (d + 1) 42 [(2, a0), (0, a1), (0, a2)] μ P ↔ zB (zC d) P (zR d 42 P) k42_0 [(2, a0), (0, a1), (0, a2), (9, 0), (9, 0)] [] μ := zC_of rfl rfl rfl
theorem u42_26 {d : Nat} {Q : Int → zM → Prop} {lv st : List zV} {μ : zM} : zR d 42 Q 26 lv st μ ↔ zB (zC d) Q (zR d 42 Q) k42_26 lv st μ := zR_of rfl
theorem u42_59 {d : Nat} {Q : Int → zM → Prop} {lv st : List zV} {μ : zM} : zR d 42 Q 59 lv st μ ↔ zB (zC d) Q (zR d 42 Q) k42_59 lv st μ := zR_of rfl
theorem u42_65 {d : Nat} {Q : Int → zM → Prop} {lv st : List zV} {μ : zM} : zR d 42 Q 65 lv st μ ↔ zB (zC d) Q (zR d 42 Q) k42_65 lv st μ := zR_of rfl
theorem e43 {d : Nat} {a0 a1 a2 a3 : Int} {μ : zM} {P : Int → zM → Prop} : zC (d + 1) 43 [(2, a0), (0, a1), (0, a2), (0, a3)] μ P ↔ zB (zC d) P (zR d 43 P) k43_0 [(2, a0), (0, a1), (0, a2), (0, a3), (9, 0)] [] μ := zC_of rfl rfl rfl
theorem u43_3 {d : Nat} {Q : Int → zM → Prop} {lv st : List zV} {μ : zM} : zR d 43 Q 3 lv st μ ↔ zB (zC d) Q (zR d 43 Q) k43_3 lv st μ := zR_of rfl
theorem u43_93 {d : Nat} {Q : Int → zM → Prop} {lv st : List zV} {μ : zM} : zR d 43 Q 93 lv st μ ↔ zB (zC d) Q (zR d 43 Q) k43_93 lv st μ := zR_of rfl
theorem e44 {d : Nat} {a0 a1 a2 a3 : Int} {μ : zM} {P : Int → zM → Prop} : zC (d + 1) 44 [(2, a0), (2, a1), (2, a2), (0, a3)] μ P ↔ zB (zC d) P (zR d 44 P) k44_0 [(2, a0), (2, a1), (2, a2), (0, a3), (9, 0), (9, 0), (9, 0), (9, 0)] [] μ := zC_of rfl rfl rfl
theorem u44_3 {d : Nat} {Q : Int → zM → Prop} {lv st : List zV} {μ : zM} : zR d 44 Q 3 lv st μ ↔ zB (zC d) Q (zR d 44 Q) k44_3 lv st μ := zR_of rfl
theorem u44_12 {d : Nat} {Q : Int → zM → Prop} {lv st : List zV} {μ : zM} : zR d 44 Q 12 lv st μ ↔ zB (zC d) Q (zR d 44 Q) k44_12 lv st μ := zR_of rfl
theorem u44_24 {d : Nat} {Q : Int → zM → Prop} {lv st : List zV} {μ : zM} : zR d 44 Q 24 lv st μ ↔ zB (zC d) Q (zR d 44 Q) k44_24 lv st μ := zR_of rfl
theorem u44_60 {d : Nat} {Q : Int → zM → Prop} {lv st : List zV} {μ : zM} : zR d 44 Q 60 lv st μ ↔ zB (zC d) Q (zR d 44 Q) k44_60 lv st μ := zR_of rfl
theorem u44_80 {d : Nat} {Q : Int → zM → Prop} {lv st : List zV} {μ : zM} : zR d 44 Q 80 lv st μ ↔ zB (zC d) Q (zR d 44 Q) k44_80 lv st μ := zR_of rfl
theorem u44_86 {d : Nat} {Q : Int → zM → Prop} {lv st : List zV} {μ : zM} : zR d 44 Q 86 lv st μ ↔ zB (zC d) Q (zR d 44 Q) k44_86 lv st μ := zR_of rfl
theorem e45 {d : Nat} {a0 a1 a2 : Int} {μ : zM} {P : Int → zM → Prop} : zC (d + 1) 45 [(2, a0), (2, a1), (0, a2)] μ P ↔ zB (zC d) P (zR d 45 P) k45_0 [(2, a0), (2, a1), (0, a2), (9, 0), (9, 0), (9, 0), (9, 0), (9, 0)] [] μ := zC_of rfl rfl rfl
theorem u45_18 {d : Nat} {Q : Int → zM → Prop} {lv st : List zV} {μ : zM} : zR d 45 Q 18 lv st μ ↔ zB (zC d) Q (zR d 45 Q) k45_18 lv st μ := zR_of rfl
theorem u45_48 {d : Nat} {Q : Int → zM → Prop} {lv st : List zV} {μ : zM} : zR d 45 Q 48 lv st μ ↔ zB (zC d) Q (zR d 45 Q) k45_48 lv st μ := zR_of rfl
theorem u45_50 {d : Nat} {Q : Int → zM → Prop} {lv st : List zV} {μ : zM} : zR d 45 Q 50 lv st μ ↔ zB (zC d) Q (zR d 45 Q) k45_50 lv st μ := zR_of rfl
theorem u45_85 {d : Nat} {Q : Int → zM → Prop} {lv st : List zV} {μ : zM} : zR d 45 Q 85 lv st μ ↔ zB (zC d) Q (zR d 45 Q) k45_85 lv st μ := zR_of rfl
theorem u45_95 {d : Nat} {Q : Int → zM → Prop} {lv st : List zV} {μ : zM} : zR d 45 Q 95 lv st μ ↔ zB (zC d) Q (zR d 45 Q) k45_95 lv st μ := zR_of rfl
theorem e46 {d : Nat} {a0 a1 a2 : Int} {μ : zM} {P : Int → zM → Prop} : zC (d + 1) 46 [(2, a0), (0, a1), (0, a2)] μ P ↔ zB (zC d) P (zR d 46 P) k46_0 [(2, a0), (0, a1), (0, a2), (9, 0), (9, 0)] [] μ := zC_of rfl rfl rfl
theorem u46_5 {d : Nat} {Q : Int → zM → Prop} {lv st : List zV} {μ : zM} : zR d 46 Q 5 lv st μ ↔ zB (zC d) Q (zR d 46 Q) k46_5 lv st μ := zR_of rfl
theorem u46_32 {d : Nat} {Q : Int → zM → Prop} {lv st : List zV} {μ : zM} : zR d 46 Q 32 lv st μ ↔ zB (zC d) Q (zR d 46 Q) k46_32 lv st μ := zR_of rfl
theorem u46_35 {d : Nat} {Q : Int → zM → Prop} {lv st : List zV} {μ : zM} : zR d 46 Q 35 lv st μ ↔ zB (zC d) Q (zR d 46 Q) k46_35 lv st μ := zR_of rfl
theorem u46_41 {d : Nat} {Q : Int → zM → Prop} {lv st : List zV} {μ : zM} : zR d 46 Q 41 lv st μ ↔ zB (zC d) Q (zR d 46 Q) k46_41 lv st μ := zR_of rfl
theorem e47 {d : Nat} {a0 a1 a2 a3 : Int} {μ : zM} {P : Int → zM → Prop} : zC (d + 1) 47 [(2, a0), (2, a1), (2, a2), (0, a3)] μ P ↔ zB (zC d) P (zR d 47 P) k47_0 [(2, a0), (2, a1), (2, a2), (0, a3), (9, 0), (9, 0)] [] μ := zC_of rfl rfl rfl
theorem u47_3 {d : Nat} {Q : Int → zM → Prop} {lv st : List zV} {μ : zM} : zR d 47 Q 3 lv st μ ↔ zB (zC d) Q (zR d 47 Q) k47_3 lv st μ := zR_of rfl
theorem u47_12 {d : Nat} {Q : Int → zM → Prop} {lv st : List zV} {μ : zM} : zR d 47 Q 12 lv st μ ↔ zB (zC d) Q (zR d 47 Q) k47_12 lv st μ := zR_of rfl
theorem u47_53 {d : Nat} {Q : Int → zM → Prop} {lv st : List zV} {μ : zM} : zR d 47 Q 53 lv st μ ↔ zB (zC d) Q (zR d 47 Q) k47_53 lv st μ := zR_of rfl
theorem u47_59 {d : Nat} {Q : Int → zM → Prop} {lv st : List zV} {μ : zM} : zR d 47 Q 59 lv st μ ↔ zB (zC d) Q (zR d 47 Q) k47_59 lv st μ := zR_of rfl
theorem u47_104 {d : Nat} {Q : Int → zM → Prop} {lv st : List zV} {μ : zM} : zR d 47 Q 104 lv st μ ↔ zB (zC d) Q (zR d 47 Q) k47_104 lv st μ := zR_of rfl
theorem u47_133 {d : Nat} {Q : Int → zM → Prop} {lv st : List zV} {μ : zM} : zR d 47 Q 133 lv st μ ↔ zB (zC d) Q (zR d 47 Q) k47_133 lv st μ := zR_of rfl
theorem u47_134 {d : Nat} {Q : Int → zM → Prop} {lv st : List zV} {μ : zM} : zR d 47 Q 134 lv st μ ↔ zB (zC d) Q (zR d 47 Q) k47_134 lv st μ := zR_of rfl
theorem u47_135 {d : Nat} {Q : Int → zM → Prop} {lv st : List zV} {μ : zM} : zR d 47 Q 135 lv st μ ↔ zB (zC d) Q (zR d 47 Q) k47_135 lv st μ := zR_of rfl
theorem u47_141 {d : Nat} {Q : Int → zM → Prop} {lv st : List zV} {μ : zM} : zR d 47 Q 141 lv st μ ↔ zB (zC d) Q (zR d 47 Q) k47_141 lv st μ := zR_of rfl
theorem e48 {d : Nat} {a0 a1 a2 : Int} {μ : zM} {P : Int → zM → Prop} : zC (d + 1) 48 [(2, a0), (0, a1), (0, a2)] μ P ↔ zB (zC d) P (zR d 48 P) k48_0 [(2, a0), (0, a1), (0, a2), (9, 0), (9, 0)] [] μ := zC_of rfl rfl rfl
theorem u48_2 {d : Nat} {Q : Int → zM → Prop} {lv st : List zV} {μ : zM} : zR d 48 Q 2 lv st μ ↔ zB (zC d) Q (zR d 48 Q) k48_2 lv st μ := zR_of rfl
theorem u48_10 {d : Nat} {Q : Int → zM → Prop} {lv st : List zV} {μ : zM} : zR d 48 Q 10 lv st μ ↔ zB (zC d) Q (zR d 48 Q) k48_10 lv st μ := zR_of rfl
theorem u48_48 {d : Nat} {Q : Int → zM → Prop} {lv st : List zV} {μ : zM} : zR d 48 Q 48 lv st μ ↔ zB (zC d) Q (zR d 48 Q) k48_48 lv st μ := zR_of rfl
theorem u48_54 {d : Nat} {Q : Int → zM → Prop} {lv st : List zV} {μ : zM} : zR d 48 Q 54 lv st μ ↔ zB (zC d) Q (zR d 48 Q) k48_54 lv st μ := zR_of rfl
theorem u48_60 {d : Nat} {Q : Int → zM → Prop} {lv st : List zV} {μ : zM} : zR d 48 Q 60 lv st μ ↔ zB (zC d) Q (zR d 48 Q) k48_60 lv st μ := zR_of rfl
theorem e49 {d : Nat} {a0 a1 : Int} {μ : zM} {P : Int → zM → Prop} : zC (d + 1) 49 [(2, a0), (0, a1)] μ P ↔ zB (zC d) P (zR d 49 P) k49_0 [(2, a0), (0, a1), (9, 0), (9, 0)] [] μ := zC_of rfl rfl rfl
theorem u49_2 {d : Nat} {Q : Int → zM → Prop} {lv st : List zV} {μ : zM} : zR d 49 Q 2 lv st μ ↔ zB (zC d) Q (zR d 49 Q) k49_2 lv st μ := zR_of rfl
theorem u49_9 {d : Nat} {Q : Int → zM → Prop} {lv st : List zV} {μ : zM} : zR d 49 Q 9 lv st μ ↔ zB (zC d) Q (zR d 49 Q) k49_9 lv st μ := zR_of rfl
theorem u49_29 {d : Nat} {Q : Int → zM → Prop} {lv st : List zV} {μ : zM} : zR d 49 Q 29 lv st μ ↔ zB (zC d) Q (zR d 49 Q) k49_29 lv st μ := zR_of rfl
theorem u49_35 {d : Nat} {Q : Int → zM → Prop} {lv st : List zV} {μ : zM} : zR d 49 Q 35 lv st μ ↔ zB (zC d) Q (zR d 49 Q) k49_35 lv st μ := zR_of rfl
theorem u49_41 {d : Nat} {Q : Int → zM → Prop} {lv st : List zV} {μ : zM} : zR d 49 Q 41 lv st μ ↔ zB (zC d) Q (zR d 49 Q) k49_41 lv st μ := zR_of rfl
theorem e50 {d : Nat} {a0 a1 a2 : Int} {μ : zM} {P : Int → zM → Prop} : zC (d + 1) 50 [(2, a0), (0, a1), (0, a2)] μ P ↔ zB (zC d) P (zR d 50 P) k50_0 [(2, a0), (0, a1), (0, a2), (9, 0)] [] μ := zC_of rfl rfl rfl
theorem u50_13 {d : Nat} {Q : Int → zM → Prop} {lv st : List zV} {μ : zM} : zR d 50 Q 13 lv st μ ↔ zB (zC d) Q (zR d 50 Q) k50_13 lv st μ := zR_of rfl
theorem u50_24 {d : Nat} {Q : Int → zM → Prop} {lv st : List zV} {μ : zM} : zR d 50 Q 24 lv st μ ↔ zB (zC d) Q (zR d 50 Q) k50_24 lv st μ := zR_of rfl
theorem u50_39 {d : Nat} {Q : Int → zM → Prop} {lv st : List zV} {μ : zM} : zR d 50 Q 39 lv st μ ↔ zB (zC d) Q (zR d 50 Q) k50_39 lv st μ := zR_of rfl
theorem u50_55 {d : Nat} {Q : Int → zM → Prop} {lv st : List zV} {μ : zM} : zR d 50 Q 55 lv st μ ↔ zB (zC d) Q (zR d 50 Q) k50_55 lv st μ := zR_of rfl
theorem u50_63 {d : Nat} {Q : Int → zM → Prop} {lv st : List zV} {μ : zM} : zR d 50 Q 63 lv st μ ↔ zB (zC d) Q (zR d 50 Q) k50_63 lv st μ := zR_of rfl
theorem e51 {d : Nat} {a0 a1 : Int} {μ : zM} {P : Int → zM → Prop} : zC (d + 1) 51 [(2, a0), (0, a1)] μ P ↔ zB (zC d) P (zR d 51 P) k51_0 [(2, a0), (0, a1)] [] μ := zC_of rfl rfl rfl
theorem u51_28 {d : Nat} {Q : Int → zM → Prop} {lv st : List zV} {μ : zM} : zR d 51 Q 28 lv st μ ↔ zB (zC d) Q (zR d 51 Q) k51_28 lv st μ := zR_of rfl
theorem u51_36 {d : Nat} {Q : Int → zM → Prop} {lv st : List zV} {μ : zM} : zR d 51 Q 36 lv st μ ↔ zB (zC d) Q (zR d 51 Q) k51_36 lv st μ := zR_of rfl
theorem u51_44 {d : Nat} {Q : Int → zM → Prop} {lv st : List zV} {μ : zM} : zR d 51 Q 44 lv st μ ↔ zB (zC d) Q (zR d 51 Q) k51_44 lv st μ := zR_of rfl
theorem u51_52 {d : Nat} {Q : Int → zM → Prop} {lv st : List zV} {μ : zM} : zR d 51 Q 52 lv st μ ↔ zB (zC d) Q (zR d 51 Q) k51_52 lv st μ := zR_of rfl
theorem e52 {d : Nat} {a0 a1 a2 a3 a4 : Int} {μ : zM} {P : Int → zM → Prop} : zC (d + 1) 52 [(2, a0), (0, a1), (0, a2), (0, a3), (0, a4)] μ P ↔ zB (zC d) P (zR d 52 P) k52_0 [(2, a0), (0, a1), (0, a2), (0, a3), (0, a4), (9, 0)] [] μ := zC_of rfl rfl rfl
theorem u52_11 {d : Nat} {Q : Int → zM → Prop} {lv st : List zV} {μ : zM} : zR d 52 Q 11 lv st μ ↔ zB (zC d) Q (zR d 52 Q) k52_11 lv st μ := zR_of rfl
theorem u52_23 {d : Nat} {Q : Int → zM → Prop} {lv st : List zV} {μ : zM} : zR d 52 Q 23 lv st μ ↔ zB (zC d) Q (zR d 52 Q) k52_23 lv st μ := zR_of rfl
theorem u52_26 {d : Nat} {Q : Int → zM → Prop} {lv st : List zV} {μ : zM} : zR d 52 Q 26 lv st μ ↔ zB (zC d) Q (zR d 52 Q) k52_26 lv st μ := zR_of rfl
theorem e53 {d : Nat} {a0 a1 : Int} {μ : zM} {P : Int → zM → Prop} : zC (d + 1) 53 [(2, a0), (0, a1)] μ P ↔ zB (zC d) P (zR d 53 P) k53_0 [(2, a0), (0, a1)] [] μ := zC_of rfl rfl rfl
theorem u53_11 {d : Nat} {Q : Int → zM → Prop} {lv st : List zV} {μ : zM} : zR d 53 Q 11 lv st μ ↔ zB (zC d) Q (zR d 53 Q) k53_11 lv st μ := zR_of rfl
theorem u53_14 {d : Nat} {Q : Int → zM → Prop} {lv st : List zV} {μ : zM} : zR d 53 Q 14 lv st μ ↔ zB (zC d) Q (zR d 53 Q) k53_14 lv st μ := zR_of rfl
theorem u53_29 {d : Nat} {Q : Int → zM → Prop} {lv st : List zV} {μ : zM} : zR d 53 Q 29 lv st μ ↔ zB (zC d) Q (zR d 53 Q) k53_29 lv st μ := zR_of rfl
theorem e54 {d : Nat} {a0 : Int} {μ : zM} {P : Int → zM → Prop} : zC (d + 1) 54 [(2, a0)] μ P ↔ zB (zC d) P (zR d 54 P) k54_0 [(2, a0), (9, 0)] [] μ := zC_of rfl rfl rfl
theorem e55 {d : Nat} {a0 a1 a2 a3 : Int} {μ : zM} {P : Int → zM → Prop} : zC (d + 1) 55 [(2, a0), (0, a1), (0, a2), (0, a3)] μ P ↔ zB (zC d) P (zR d 55 P) k55_0 [(2, a0), (0, a1), (0, a2), (0, a3)] [] μ := zC_of rfl rfl rfl
theorem u55_23 {d : Nat} {Q : Int → zM → Prop} {lv st : List zV} {μ : zM} : zR d 55 Q 23 lv st μ ↔ zB (zC d) Q (zR d 55 Q) k55_23 lv st μ := zR_of rfl
theorem u55_24 {d : Nat} {Q : Int → zM → Prop} {lv st : List zV} {μ : zM} : zR d 55 Q 24 lv st μ ↔ zB (zC d) Q (zR d 55 Q) k55_24 lv st μ := zR_of rfl
theorem e56 {d : Nat} {a0 a1 : Int} {μ : zM} {P : Int → zM → Prop} : zC (d + 1) 56 [(2, a0), (0, a1)] μ P ↔ zB (zC d) P (zR d 56 P) k56_0 [(2, a0), (0, a1)] [] μ := zC_of rfl rfl rfl
theorem u56_28 {d : Nat} {Q : Int → zM → Prop} {lv st : List zV} {μ : zM} : zR d 56 Q 28 lv st μ ↔ zB (zC d) Q (zR d 56 Q) k56_28 lv st μ := zR_of rfl
theorem u56_36 {d : Nat} {Q : Int → zM → Prop} {lv st : List zV} {μ : zM} : zR d 56 Q 36 lv st μ ↔ zB (zC d) Q (zR d 56 Q) k56_36 lv st μ := zR_of rfl
theorem u56_44 {d : Nat} {Q : Int → zM → Prop} {lv st : List zV} {μ : zM} : zR d 56 Q 44 lv st μ ↔ zB (zC d) Q (zR d 56 Q) k56_44 lv st μ := zR_of rfl
theorem e57 {d : Nat} {a0 a1 : Int} {μ : zM} {P : Int → zM → Prop} : zC (d + 1) 57 [(2, a0), (0, a1)] μ P ↔ zB (zC d) P (zR d 57 P) k57_0 [(2, a0), (0, a1)] [] μ := zC_of rfl rfl rfl
theorem u57_19 {d : Nat} {Q : Int → zM → Prop} {lv st : List zV} {μ : zM} : zR d 57 Q 19 lv st μ ↔ zB (zC d) Q (zR d 57 Q) k57_19 lv st μ := zR_of rfl
theorem u57_20 {d : Nat} {Q : Int → zM → Prop} {lv st : List zV} {μ : zM} : zR d 57 Q 20 lv st μ ↔ zB (zC d) Q (zR d 57 Q) k57_20 lv st μ := zR_of rfl
theorem e58 {d : Nat} {a0 a1 a2 a3 : Int} {μ : zM} {P : Int → zM → Prop} : zC (d + 1) 58 [(2, a0), (0, a1), (0, a2), (0, a3)] μ P ↔ zB (zC d) P (zR d 58 P) k58_0 [(2, a0), (0, a1), (0, a2), (0, a3), (9, 0)] [] μ := zC_of rfl rfl rfl
theorem u58_26 {d : Nat} {Q : Int → zM → Prop} {lv st : List zV} {μ : zM} : zR d 58 Q 26 lv st μ ↔ zB (zC d) Q (zR d 58 Q) k58_26 lv st μ := zR_of rfl
theorem u58_30 {d : Nat} {Q : Int → zM → Prop} {lv st : List zV} {μ : zM} : zR d 58 Q 30 lv st μ ↔ zB (zC d) Q (zR d 58 Q) k58_30 lv st μ := zR_of rfl
theorem u58_51 {d : Nat} {Q : Int → zM → Prop} {lv st : List zV} {μ : zM} : zR d 58 Q 51 lv st μ ↔ zB (zC d) Q (zR d 58 Q) k58_51 lv st μ := zR_of rfl
theorem u58_96 {d : Nat} {Q : Int → zM → Prop} {lv st : List zV} {μ : zM} : zR d 58 Q 96 lv st μ ↔ zB (zC d) Q (zR d 58 Q) k58_96 lv st μ := zR_of rfl
theorem e59 {d : Nat} {a0 a1 : Int} {μ : zM} {P : Int → zM → Prop} : zC (d + 1) 59 [(2, a0), (0, a1)] μ P ↔ zB (zC d) P (zR d 59 P) k59_0 [(2, a0), (0, a1), (9, 0)] [] μ := zC_of rfl rfl rfl
theorem u59_9 {d : Nat} {Q : Int → zM → Prop} {lv st : List zV} {μ : zM} : zR d 59 Q 9 lv st μ ↔ zB (zC d) Q (zR d 59 Q) k59_9 lv st μ := zR_of rfl
theorem u59_64 {d : Nat} {Q : Int → zM → Prop} {lv st : List zV} {μ : zM} : zR d 59 Q 64 lv st μ ↔ zB (zC d) Q (zR d 59 Q) k59_64 lv st μ := zR_of rfl
theorem e60 {d : Nat} {a0 a1 a2 : Int} {μ : zM} {P : Int → zM → Prop} : zC (d + 1) 60 [(2, a0), (0, a1), (0, a2)] μ P ↔ zB (zC d) P (zR d 60 P) k60_0 [(2, a0), (0, a1), (0, a2)] [] μ := zC_of rfl rfl rfl
theorem u60_31 {d : Nat} {Q : Int → zM → Prop} {lv st : List zV} {μ : zM} : zR d 60 Q 31 lv st μ ↔ zB (zC d) Q (zR d 60 Q) k60_31 lv st μ := zR_of rfl
theorem u60_32 {d : Nat} {Q : Int → zM → Prop} {lv st : List zV} {μ : zM} : zR d 60 Q 32 lv st μ ↔ zB (zC d) Q (zR d 60 Q) k60_32 lv st μ := zR_of rfl
theorem e61 {d : Nat} {a0 a1 a2 a3 : Int} {μ : zM} {P : Int → zM → Prop} : zC (d + 1) 61 [(2, a0), (0, a1), (0, a2), (0, a3)] μ P ↔ zB (zC d) P (zR d 61 P) k61_0 [(2, a0), (0, a1), (0, a2), (0, a3), (9, 0)] [] μ := zC_of rfl rfl rfl
theorem u61_16 {d : Nat} {Q : Int → zM → Prop} {lv st : List zV} {μ : zM} : zR d 61 Q 16 lv st μ ↔ zB (zC d) Q (zR d 61 Q) k61_16 lv st μ := zR_of rfl
theorem u61_27 {d : Nat} {Q : Int → zM → Prop} {lv st : List zV} {μ : zM} : zR d 61 Q 27 lv st μ ↔ zB (zC d) Q (zR d 61 Q) k61_27 lv st μ := zR_of rfl
theorem u61_30 {d : Nat} {Q : Int → zM → Prop} {lv st : List zV} {μ : zM} : zR d 61 Q 30 lv st μ ↔ zB (zC d) Q (zR d 61 Q) k61_30 lv st μ := zR_of rfl
theorem e62 {d : Nat} {a0 a1 a2 : Int} {μ : zM} {P : Int → zM → Prop} : zC (d + 1) 62 [(2, a0), (0, a1), (0, a2)] μ P ↔ zB (zC d) P (zR d 62 P) k62_0 [(2, a0), (0, a1), (0, a2), (9, 0), (9, 0)] [] μ := zC_of rfl rfl rfl
theorem u62_14 {d : Nat} {Q : Int → zM → Prop} {lv st : List zV} {μ : zM} : zR d 62 Q 14 lv st μ ↔ zB (zC d) Q (zR d 62 Q) k62_14 lv st μ := zR_of rfl
theorem u62_16 {d : Nat} {Q : Int → zM → Prop} {lv st : List zV} {μ : zM} : zR d 62 Q 16 lv st μ ↔ zB (zC d) Q (zR d 62 Q) k62_16 lv st μ := zR_of rfl
theorem u62_55 {d : Nat} {Q : Int → zM → Prop} {lv st : List zV} {μ : zM} : zR d 62 Q 55 lv st μ ↔ zB (zC d) Q (zR d 62 Q) k62_55 lv st μ := zR_of rfl
theorem u62_82 {d : Nat} {Q : Int → zM → Prop} {lv st : List zV} {μ : zM} : zR d 62 Q 82 lv st μ ↔ zB (zC d) Q (zR d 62 Q) k62_82 lv st μ := zR_of rfl
theorem u62_88 {d : Nat} {Q : Int → zM → Prop} {lv st : List zV} {μ : zM} : zR d 62 Q 88 lv st μ ↔ zB (zC d) Q (zR d 62 Q) k62_88 lv st μ := zR_of rfl
theorem u62_93 {d : Nat} {Q : Int → zM → Prop} {lv st : List zV} {μ : zM} : zR d 62 Q 93 lv st μ ↔ zB (zC d) Q (zR d 62 Q) k62_93 lv st μ := zR_of rfl
theorem u62_144 {d : Nat} {Q : Int → zM → Prop} {lv st : List zV} {μ : zM} : zR d 62 Q 144 lv st μ ↔ zB (zC d) Q (zR d 62 Q) k62_144 lv st μ := zR_of rfl
theorem e63 {d : Nat} {a0 a1 : Int} {μ : zM} {P : Int → zM → Prop} : zC (d + 1) 63 [(2, a0), (0, a1)] μ P ↔ zB (zC d) P (zR d 63 P) k63_0 [(2, a0), (0, a1)] [] μ := zC_of rfl rfl rfl
theorem u63_11 {d : Nat} {Q : Int → zM → Prop} {lv st : List zV} {μ : zM} : zR d 63 Q 11 lv st μ ↔ zB (zC d) Q (zR d 63 Q) k63_11 lv st μ := zR_of rfl
theorem u63_26 {d : Nat} {Q : Int → zM → Prop} {lv st : List zV} {μ : zM} : zR d 63 Q 26 lv st μ ↔ zB (zC d) Q (zR d 63 Q) k63_26 lv st μ := zR_of rfl
theorem u63_27 {d : Nat} {Q : Int → zM → Prop} {lv st : List zV} {μ : zM} : zR d 63 Q 27 lv st μ ↔ zB (zC d) Q (zR d 63 Q) k63_27 lv st μ := zR_of rfl
theorem e64 {d : Nat} {a0 a1 : Int} {μ : zM} {P : Int → zM → Prop} : zC (d + 1) 64 [(2, a0), (0, a1)] μ P ↔ zB (zC d) P (zR d 64 P) k64_0 [(2, a0), (0, a1), (9, 0), (9, 0)] [] μ := zC_of rfl rfl rfl
theorem u64_4 {d : Nat} {Q : Int → zM → Prop} {lv st : List zV} {μ : zM} : zR d 64 Q 4 lv st μ ↔ zB (zC d) Q (zR d 64 Q) k64_4 lv st μ := zR_of rfl
theorem u64_35 {d : Nat} {Q : Int → zM → Prop} {lv st : List zV} {μ : zM} : zR d 64 Q 35 lv st μ ↔ zB (zC d) Q (zR d 64 Q) k64_35 lv st μ := zR_of rfl
theorem u64_38 {d : Nat} {Q : Int → zM → Prop} {lv st : List zV} {μ : zM} : zR d 64 Q 38 lv st μ ↔ zB (zC d) Q (zR d 64 Q) k64_38 lv st μ := zR_of rfl
theorem u64_44 {d : Nat} {Q : Int → zM → Prop} {lv st : List zV} {μ : zM} : zR d 64 Q 44 lv st μ ↔ zB (zC d) Q (zR d 64 Q) k64_44 lv st μ := zR_of rfl
theorem u64_53 {d : Nat} {Q : Int → zM → Prop} {lv st : List zV} {μ : zM} : zR d 64 Q 53 lv st μ ↔ zB (zC d) Q (zR d 64 Q) k64_53 lv st μ := zR_of rfl
theorem u64_55 {d : Nat} {Q : Int → zM → Prop} {lv st : List zV} {μ : zM} : zR d 64 Q 55 lv st μ ↔ zB (zC d) Q (zR d 64 Q) k64_55 lv st μ := zR_of rfl
theorem e65 {d : Nat} {a0 a1 : Int} {μ : zM} {P : Int → zM → Prop} : zC (d + 1) 65 [(2, a0), (0, a1)] μ P ↔ zB (zC d) P (zR d 65 P) k65_0 [(2, a0), (0, a1)] [] μ := zC_of rfl rfl rfl
theorem u65_19 {d : Nat} {Q : Int → zM → Prop} {lv st : List zV} {μ : zM} : zR d 65 Q 19 lv st μ ↔ zB (zC d) Q (zR d 65 Q) k65_19 lv st μ := zR_of rfl
theorem u65_21 {d : Nat} {Q : Int → zM → Prop} {lv st : List zV} {μ : zM} : zR d 65 Q 21 lv st μ ↔ zB (zC d) Q (zR d 65 Q) k65_21 lv st μ := zR_of rfl
theorem e66 {d : Nat} {a0 a1 a2 : Int} {μ : zM} {P : Int → zM → Prop} : zC (d + 1) 66 [(2, a0), (0, a1), (0, a2)] μ P ↔ zB (zC d) P (zR d 66 P) k66_0 [(2, a0), (0, a1), (0, a2), (9, 0)] [] μ := zC_of rfl rfl rfl
theorem u66_13 {d : Nat} {Q : Int → zM → Prop} {lv st : List zV} {μ : zM} : zR d 66 Q 13 lv st μ ↔ zB (zC d) Q (zR d 66 Q) k66_13 lv st μ := zR_of rfl
theorem u66_27 {d : Nat} {Q : Int → zM → Prop} {lv st : List zV} {μ : zM} : zR d 66 Q 27 lv st μ ↔ zB (zC d) Q (zR d 66 Q) k66_27 lv st μ := zR_of rfl
theorem u66_49 {d : Nat} {Q : Int → zM → Prop} {lv st : List zV} {μ : zM} : zR d 66 Q 49 lv st μ ↔ zB (zC d) Q (zR d 66 Q) k66_49 lv st μ := zR_of rfl
theorem u66_51 {d : Nat} {Q : Int → zM → Prop} {lv st : List zV} {μ : zM} : zR d 66 Q 51 lv st μ ↔ zB (zC d) Q (zR d 66 Q) k66_51 lv st μ := zR_of rfl
theorem e67 {d : Nat} {a0 a1 : Int} {μ : zM} {P : Int → zM → Prop} : zC (d + 1) 67 [(2, a0), (0, a1)] μ P ↔ zB (zC d) P (zR d 67 P) k67_0 [(2, a0), (0, a1), (9, 0), (9, 0), (9, 0), (9, 0)] [] μ := zC_of rfl rfl rfl
theorem u67_16 {d : Nat} {Q : Int → zM → Prop} {lv st : List zV} {μ : zM} : zR d 67 Q 16 lv st μ ↔ zB (zC d) Q (zR d 67 Q) k67_16 lv st μ := zR_of rfl
theorem u67_21 {d : Nat} {Q : Int → zM → Prop} {lv st : List zV} {μ : zM} : zR d 67 Q 21 lv st μ ↔ zB (zC d) Q (zR d 67 Q) k67_21 lv st μ := zR_of rfl
theorem u67_56 {d : Nat} {Q : Int → zM → Prop} {lv st : List zV} {μ : zM} : zR d 67 Q 56 lv st μ ↔ zB (zC d) Q (zR d 67 Q) k67_56 lv st μ := zR_of rfl
theorem e68 {d : Nat} {a0 a1 a2 a3 : Int} {μ : zM} {P : Int → zM → Prop} : zC (d + 1) 68 [(2, a0), (0, a1), (0, a2), (0, a3)] μ P ↔ zB (zC d) P (zR d 68 P) k68_0 [(2, a0), (0, a1), (0, a2), (0, a3), (9, 0), (9, 0), (9, 0), (9, 0)] [] μ := zC_of rfl rfl rfl
theorem u68_12 {d : Nat} {Q : Int → zM → Prop} {lv st : List zV} {μ : zM} : zR d 68 Q 12 lv st μ ↔ zB (zC d) Q (zR d 68 Q) k68_12 lv st μ := zR_of rfl
theorem u68_36 {d : Nat} {Q : Int → zM → Prop} {lv st : List zV} {μ : zM} : zR d 68 Q 36 lv st μ ↔ zB (zC d) Q (zR d 68 Q) k68_36 lv st μ := zR_of rfl
theorem u68_81 {d : Nat} {Q : Int → zM → Prop} {lv st : List zV} {μ : zM} : zR d 68 Q 81 lv st μ ↔ zB (zC d) Q (zR d 68 Q) k68_81 lv st μ := zR_of rfl
theorem u68_87 {d : Nat} {Q : Int → zM → Prop} {lv st : List zV} {μ : zM} : zR d 68 Q 87 lv st μ ↔ zB (zC d) Q (zR d 68 Q) k68_87 lv st μ := zR_of rfl
theorem u68_144 {d : Nat} {Q : Int → zM → Prop} {lv st : List zV} {μ : zM} : zR d 68 Q 144 lv st μ ↔ zB (zC d) Q (zR d 68 Q) k68_144 lv st μ := zR_of rfl
theorem e69 {d : Nat} {a0 a1 a2 a3 : Int} {μ : zM} {P : Int → zM → Prop} : zC (d + 1) 69 [(2, a0), (0, a1), (0, a2), (0, a3)] μ P ↔ zB (zC d) P (zR d 69 P) k69_0 [(2, a0), (0, a1), (0, a2), (0, a3), (9, 0)] [] μ := zC_of rfl rfl rfl
theorem u69_14 {d : Nat} {Q : Int → zM → Prop} {lv st : List zV} {μ : zM} : zR d 69 Q 14 lv st μ ↔ zB (zC d) Q (zR d 69 Q) k69_14 lv st μ := zR_of rfl
theorem u69_16 {d : Nat} {Q : Int → zM → Prop} {lv st : List zV} {μ : zM} : zR d 69 Q 16 lv st μ ↔ zB (zC d) Q (zR d 69 Q) k69_16 lv st μ := zR_of rfl
theorem u69_26 {d : Nat} {Q : Int → zM → Prop} {lv st : List zV} {μ : zM} : zR d 69 Q 26 lv st μ ↔ zB (zC d) Q (zR d 69 Q) k69_26 lv st μ := zR_of rfl
theorem u69_29 {d : Nat} {Q : Int → zM → Prop} {lv st : List zV} {μ : zM} : zR d 69 Q 29 lv st μ ↔ zB (zC d) Q (zR d 69 Q) k69_29 lv st μ := zR_of rfl
theorem e70 {d : Nat} {a0 a1 a2 : Int} {μ : zM} {P : Int → zM → Prop} : zC (d + 1) 70 [(2, a0), (0, a1), (0, a2)] μ P ↔ zB (zC d) P (zR d 70 P) k70_0 [(2, a0), (0, a1), (0, a2), (9, 0)] [] μ := zC_of rfl rfl rfl
theorem u70_9 {d : Nat} {Q : Int → zM → Prop} {lv st : List zV} {μ : zM} : zR d 70 Q 9 lv st μ ↔ zB (zC d) Q (zR d 70 Q) k70_9 lv st μ := zR_of rfl
theorem u70_19 {d : Nat} {Q : Int → zM → Prop} {lv st : List zV} {μ : zM} : zR d 70 Q 19 lv st μ ↔ zB (zC d) Q (zR d 70 Q) k70_19 lv st μ := zR_of rfl
theorem u70_22 {d : Nat} {Q : Int → zM → Prop} {lv st : List zV} {μ : zM} : zR d 70 Q 22 lv st μ ↔ zB (zC d) Q (zR d 70 Q) k70_22 lv st μ := zR_of rfl
theorem e71 {d : Nat} {a0 : Int} {μ : zM} {P : Int → zM → Prop} : zC (d + 1) 71 [(2, a0)] μ P ↔ zB (zC d) P (zR d 71 P) k71_0 [(2, a0), (9, 0)] [] μ := zC_of rfl rfl rfl
theorem u71_22 {d : Nat} {Q : Int → zM → Prop} {lv st : List zV} {μ : zM} : zR d 71 Q 22 lv st μ ↔ zB (zC d) Q (zR d 71 Q) k71_22 lv st μ := zR_of rfl
theorem e72 {d : Nat} {a0 a1 a2 a3 : Int} {μ : zM} {P : Int → zM → Prop} : zC (d + 1) 72 [(2, a0), (0, a1), (0, a2), (0, a3)] μ P ↔ zB (zC d) P (zR d 72 P) k72_0 [(2, a0), (0, a1), (0, a2), (0, a3), (9, 0), (9, 0), (9, 0), (9, 0), (9, 0)] [] μ := zC_of rfl rfl rfl
theorem u72_12 {d : Nat} {Q : Int → zM → Prop} {lv st : List zV} {μ : zM} : zR d 72 Q 12 lv st μ ↔ zB (zC d) Q (zR d 72 Q) k72_12 lv st μ := zR_of rfl
theorem u72_43 {d : Nat} {Q : Int → zM → Prop} {lv st : List zV} {μ : zM} : zR d 72 Q 43 lv st μ ↔ zB (zC d) Q (zR d 72 Q) k72_43 lv st μ := zR_of rfl
theorem u72_49 {d : Nat} {Q : Int → zM → Prop} {lv st : List zV} {μ : zM} : zR d 72 Q 49 lv st μ ↔ zB (zC d) Q (zR d 72 Q) k72_49 lv st μ := zR_of rfl
theorem u72_79 {d : Nat} {Q : Int → zM → Prop} {lv st : List zV} {μ : zM} : zR d 72 Q 79 lv st μ ↔ zB (zC d) Q (zR d 72 Q) k72_79 lv st μ := zR_of rfl
theorem u72_134 {d : Nat} {Q : Int → zM → Prop} {lv st : List zV} {μ : zM} : zR d 72 Q 134 lv st μ ↔ zB (zC d) Q (zR d 72 Q) k72_134 lv st μ := zR_of rfl
theorem e73 {d : Nat} {a0 a1 : Int} {μ : zM} {P : Int → zM → Prop} : zC (d + 1) 73 [(2, a0), (0, a1)] μ P ↔ zB (zC d) P (zR d 73 P) k73_0 [(2, a0), (0, a1)] [] μ := zC_of rfl rfl rfl
theorem u73_28 {d : Nat} {Q : Int → zM → Prop} {lv st : List zV} {μ : zM} : zR d 73 Q 28 lv st μ ↔ zB (zC d) Q (zR d 73 Q) k73_28 lv st μ := zR_of rfl
theorem u73_56 {d : Nat} {Q : Int → zM → Prop} {lv st : List zV} {μ : zM} : zR d 73 Q 56 lv st μ ↔ zB (zC d) Q (zR d 73 Q) k73_56 lv st μ := zR_of rfl
theorem u73_57 {d : Nat} {Q : Int → zM → Prop} {lv st : List zV} {μ : zM} : zR d 73 Q 57 lv st μ ↔ zB (zC d) Q (zR d 73 Q) k73_57 lv st μ := zR_of rfl
theorem u73_58 {d : Nat} {Q : Int → zM → Prop} {lv st : List zV} {μ : zM} : zR d 73 Q 58 lv st μ ↔ zB (zC d) Q (zR d 73 Q) k73_58 lv st μ := zR_of rfl
theorem u73_93 {d : Nat} {Q : Int → zM → Prop} {lv st : List zV} {μ : zM} : zR d 73 Q 93 lv st μ ↔ zB (zC d) Q (zR d 73 Q) k73_93 lv st μ := zR_of rfl
theorem u73_94 {d : Nat} {Q : Int → zM → Prop} {lv st : List zV} {μ : zM} : zR d 73 Q 94 lv st μ ↔ zB (zC d) Q (zR d 73 Q) k73_94 lv st μ := zR_of rfl
theorem u73_95 {d : Nat} {Q : Int → zM → Prop} {lv st : List zV} {μ : zM} : zR d 73 Q 95 lv st μ ↔ zB (zC d) Q (zR d 73 Q) k73_95 lv st μ := zR_of rfl
theorem e74 {d : Nat} {a0 a1 a2 : Int} {μ : zM} {P : Int → zM → Prop} : zC (d + 1) 74 [(2, a0), (0, a1), (0, a2)] μ P ↔ zB (zC d) P (zR d 74 P) k74_0 [(2, a0), (0, a1), (0, a2), (9, 0), (9, 0), (9, 0), (9, 0), (9, 0), (9, 0), (9, 0)] [] μ := zC_of rfl rfl rfl
theorem u74_9 {d : Nat} {Q : Int → zM → Prop} {lv st : List zV} {μ : zM} : zR d 74 Q 9 lv st μ ↔ zB (zC d) Q (zR d 74 Q) k74_9 lv st μ := zR_of rfl
theorem u74_12 {d : Nat} {Q : Int → zM → Prop} {lv st : List zV} {μ : zM} : zR d 74 Q 12 lv st μ ↔ zB (zC d) Q (zR d 74 Q) k74_12 lv st μ := zR_of rfl
theorem u74_22 {d : Nat} {Q : Int → zM → Prop} {lv st : List zV} {μ : zM} : zR d 74 Q 22 lv st μ ↔ zB (zC d) Q (zR d 74 Q) k74_22 lv st μ := zR_of rfl
theorem u74_135 {d : Nat} {Q : Int → zM → Prop} {lv st : List zV} {μ : zM} : zR d 74 Q 135 lv st μ ↔ zB (zC d) Q (zR d 74 Q) k74_135 lv st μ := zR_of rfl
theorem u74_138 {d : Nat} {Q : Int → zM → Prop} {lv st : List zV} {μ : zM} : zR d 74 Q 138 lv st μ ↔ zB (zC d) Q (zR d 74 Q) k74_138 lv st μ := zR_of rfl
theorem u74_144 {d : Nat} {Q : Int → zM → Prop} {lv st : List zV} {μ : zM} : zR d 74 Q 144 lv st μ ↔ zB (zC d) Q (zR d 74 Q) k74_144 lv st μ := zR_of rfl
theorem u74_153 {d : Nat} {Q : Int → zM → Prop} {lv st : List zV} {μ : zM} : zR d 74 Q 153 lv st μ ↔ zB (zC d) Q (zR d 74 Q) k74_153 lv st μ := zR_of rfl
theorem u74_155 {d : Nat} {Q : Int → zM → Prop} {lv st : List zV} {μ : zM} : zR d 74 Q 155 lv st μ ↔ zB (zC d) Q (zR d 74 Q) k74_155 lv st μ := zR_of rfl
theorem e75 {d : Nat} {a0 a1 a2 a3 : Int} {μ : zM} {P : Int → zM → Prop} : zC (d + 1) 75 [(2, a0), (0, a1), (0, a2), (0, a3)] μ P ↔ zB (zC d) P (zR d 75 P) k75_0 [(2, a0), (0, a1), (0, a2), (0, a3), (9, 0), (9, 0), (9, 0)] [] μ := zC_of rfl rfl rfl
theorem u75_11 {d : Nat} {Q : Int → zM → Prop} {lv st : List zV} {μ : zM} : zR d 75 Q 11 lv st μ ↔ zB (zC d) Q (zR d 75 Q) k75_11 lv st μ := zR_of rfl
theorem u75_46 {d : Nat} {Q : Int → zM → Prop} {lv st : List zV} {μ : zM} : zR d 75 Q 46 lv st μ ↔ zB (zC d) Q (zR d 75 Q) k75_46 lv st μ := zR_of rfl
theorem u75_47 {d : Nat} {Q : Int → zM → Prop} {lv st : List zV} {μ : zM} : zR d 75 Q 47 lv st μ ↔ zB (zC d) Q (zR d 75 Q) k75_47 lv st μ := zR_of rfl
theorem u75_55 {d : Nat} {Q : Int → zM → Prop} {lv st : List zV} {μ : zM} : zR d 75 Q 55 lv st μ ↔ zB (zC d) Q (zR d 75 Q) k75_55 lv st μ := zR_of rfl
theorem u75_99 {d : Nat} {Q : Int → zM → Prop} {lv st : List zV} {μ : zM} : zR d 75 Q 99 lv st μ ↔ zB (zC d) Q (zR d 75 Q) k75_99 lv st μ := zR_of rfl
theorem u75_123 {d : Nat} {Q : Int → zM → Prop} {lv st : List zV} {μ : zM} : zR d 75 Q 123 lv st μ ↔ zB (zC d) Q (zR d 75 Q) k75_123 lv st μ := zR_of rfl
theorem u75_130 {d : Nat} {Q : Int → zM → Prop} {lv st : List zV} {μ : zM} : zR d 75 Q 130 lv st μ ↔ zB (zC d) Q (zR d 75 Q) k75_130 lv st μ := zR_of rfl
theorem u75_136 {d : Nat} {Q : Int → zM → Prop} {lv st : List zV} {μ : zM} : zR d 75 Q 136 lv st μ ↔ zB (zC d) Q (zR d 75 Q) k75_136 lv st μ := zR_of rfl
theorem e76 {d : Nat} {a0 a1 a2 a3 a4 a5 : Int} {μ : zM} {P : Int → zM → Prop} : zC (d + 1) 76 [(2, a0), (0, a1), (0, a2), (0, a3), (0, a4), (0, a5)] μ P ↔ zB (zC d) P (zR d 76 P) k76_0 [(2, a0), (0, a1), (0, a2), (0, a3), (0, a4), (0, a5), (9, 0), (9, 0)] [] μ := zC_of rfl rfl rfl
theorem u76_43 {d : Nat} {Q : Int → zM → Prop} {lv st : List zV} {μ : zM} : zR d 76 Q 43 lv st μ ↔ zB (zC d) Q (zR d 76 Q) k76_43 lv st μ := zR_of rfl
theorem u76_47 {d : Nat} {Q : Int → zM → Prop} {lv st : List zV} {μ : zM} : zR d 76 Q 47 lv st μ ↔ zB (zC d) Q (zR d 76 Q) k76_47 lv st μ := zR_of rfl
theorem u76_53 {d : Nat} {Q : Int → zM → Prop} {lv st : List zV} {μ : zM} : zR d 76 Q 53 lv st μ ↔ zB (zC d) Q (zR d 76 Q) k76_53 lv st μ := zR_of rfl
theorem u76_87 {d : Nat} {Q : Int → zM → Prop} {lv st : List zV} {μ : zM} : zR d 76 Q 87 lv st μ ↔ zB (zC d) Q (zR d 76 Q) k76_87 lv st μ := zR_of rfl
theorem u76_106 {d : Nat} {Q : Int → zM → Prop} {lv st : List zV} {μ : zM} : zR d 76 Q 106 lv st μ ↔ zB (zC d) Q (zR d 76 Q) k76_106 lv st μ := zR_of rfl
theorem u76_120 {d : Nat} {Q : Int → zM → Prop} {lv st : List zV} {μ : zM} : zR d 76 Q 120 lv st μ ↔ zB (zC d) Q (zR d 76 Q) k76_120 lv st μ := zR_of rfl
theorem u76_126 {d : Nat} {Q : Int → zM → Prop} {lv st : List zV} {μ : zM} : zR d 76 Q 126 lv st μ ↔ zB (zC d) Q (zR d 76 Q) k76_126 lv st μ := zR_of rfl
theorem e77 {d : Nat} {a0 a1 a2 : Int} {μ : zM} {P : Int → zM → Prop} : zC (d + 1) 77 [(2, a0), (0, a1), (0, a2)] μ P ↔ zB (zC d) P (zR d 77 P) k77_0 [(2, a0), (0, a1), (0, a2)] [] μ := zC_of rfl rfl rfl
theorem u77_15 {d : Nat} {Q : Int → zM → Prop} {lv st : List zV} {μ : zM} : zR d 77 Q 15 lv st μ ↔ zB (zC d) Q (zR d 77 Q) k77_15 lv st μ := zR_of rfl
theorem u77_24 {d : Nat} {Q : Int → zM → Prop} {lv st : List zV} {μ : zM} : zR d 77 Q 24 lv st μ ↔ zB (zC d) Q (zR d 77 Q) k77_24 lv st μ := zR_of rfl
theorem u77_26 {d : Nat} {Q : Int → zM → Prop} {lv st : List zV} {μ : zM} : zR d 77 Q 26 lv st μ ↔ zB (zC d) Q (zR d 77 Q) k77_26 lv st μ := zR_of rfl
theorem u77_41 {d : Nat} {Q : Int → zM → Prop} {lv st : List zV} {μ : zM} : zR d 77 Q 41 lv st μ ↔ zB (zC d) Q (zR d 77 Q) k77_41 lv st μ := zR_of rfl
theorem u77_42 {d : Nat} {Q : Int → zM → Prop} {lv st : List zV} {μ : zM} : zR d 77 Q 42 lv st μ ↔ zB (zC d) Q (zR d 77 Q) k77_42 lv st μ := zR_of rfl
theorem u77_45 {d : Nat} {Q : Int → zM → Prop} {lv st : List zV} {μ : zM} : zR d 77 Q 45 lv st μ ↔ zB (zC d) Q (zR d 77 Q) k77_45 lv st μ := zR_of rfl
theorem u77_48 {d : Nat} {Q : Int → zM → Prop} {lv st : List zV} {μ : zM} : zR d 77 Q 48 lv st μ ↔ zB (zC d) Q (zR d 77 Q) k77_48 lv st μ := zR_of rfl
theorem u77_63 {d : Nat} {Q : Int → zM → Prop} {lv st : List zV} {μ : zM} : zR d 77 Q 63 lv st μ ↔ zB (zC d) Q (zR d 77 Q) k77_63 lv st μ := zR_of rfl
theorem e78 {d : Nat} {a0 a1 a2 : Int} {μ : zM} {P : Int → zM → Prop} : zC (d + 1) 78 [(2, a0), (0, a1), (0, a2)] μ P ↔ zB (zC d) P (zR d 78 P) k78_0 [(2, a0), (0, a1), (0, a2), (9, 0)] [] μ := zC_of rfl rfl rfl
theorem u78_15 {d : Nat} {Q : Int → zM → Prop} {lv st : List zV} {μ : zM} : zR d 78 Q 15 lv st μ ↔ zB (zC d) Q (zR d 78 Q) k78_15 lv st μ := zR_of rfl
theorem u78_17 {d : Nat} {Q : Int → zM → Prop} {lv st : List zV} {μ : zM} : zR d 78 Q 17 lv st μ ↔ zB (zC d) Q (zR d 78 Q) k78_17 lv st μ := zR_of rfl
theorem u78_28 {d : Nat} {Q : Int → zM → Prop} {lv st : List zV} {μ : zM} : zR d 78 Q 28 lv st μ ↔ zB (zC d) Q (zR d 78 Q) k78_28 lv st μ := zR_of rfl
theorem u78_67 {d : Nat} {Q : Int → zM → Prop} {lv st : List zV} {μ : zM} : zR d 78 Q 67 lv st μ ↔ zB (zC d) Q (zR d 78 Q) k78_67 lv st μ := zR_of rfl
theorem e79 {d : Nat} {a0 a1 : Int} {μ : zM} {P : Int → zM → Prop} : zC (d + 1) 79 [(2, a0), (0, a1)] μ P ↔ zB (zC d) P (zR d 79 P) k79_0 [(2, a0), (0, a1), (9, 0), (9, 0)] [] μ := zC_of rfl rfl rfl
theorem u79_9 {d : Nat} {Q : Int → zM → Prop} {lv st : List zV} {μ : zM} : zR d 79 Q 9 lv st μ ↔ zB (zC d) Q (zR d 79 Q) k79_9 lv st μ := zR_of rfl
theorem u79_16 {d : Nat} {Q : Int → zM → Prop} {lv st : List zV} {μ : zM} : zR d 79 Q 16 lv st μ ↔ zB (zC d) Q (zR d 79 Q) k79_16 lv st μ := zR_of rfl
theorem u79_51 {d : Nat} {Q : Int → zM → Prop} {lv st : List zV} {μ : zM} : zR d 79 Q 51 lv st μ ↔ zB (zC d) Q (zR d 79 Q) k79_51 lv st μ := zR_of rfl
theorem u79_57 {d : Nat} {Q : Int → zM → Prop} {lv st : List zV} {μ : zM} : zR d 79 Q 57 lv st μ ↔ zB (zC d) Q (zR d 79 Q) k79_57 lv st μ := zR_of rfl
theorem u79_70 {d : Nat} {Q : Int → zM → Prop} {lv st : List zV} {μ : zM} : zR d 79 Q 70 lv st μ ↔ zB (zC d) Q (zR d 79 Q) k79_70 lv st μ := zR_of rfl
theorem e80 {d : Nat} {a0 a1 : Int} {μ : zM} {P : Int → zM → Prop} : zC (d + 1) 80 [(2, a0), (0, a1)] μ P ↔ zB (zC d) P (zR d 80 P) k80_0 [(2, a0), (0, a1)] [] μ := zC_of rfl rfl rfl
theorem u80_21 {d : Nat} {Q : Int → zM → Prop} {lv st : List zV} {μ : zM} : zR d 80 Q 21 lv st μ ↔ zB (zC d) Q (zR d 80 Q) k80_21 lv st μ := zR_of rfl
theorem u80_22 {d : Nat} {Q : Int → zM → Prop} {lv st : List zV} {μ : zM} : zR d 80 Q 22 lv st μ ↔ zB (zC d) Q (zR d 80 Q) k80_22 lv st μ := zR_of rfl
theorem e81 {d : Nat} {a0 a1 a2 a3 : Int} {μ : zM} {P : Int → zM → Prop} : zC (d + 1) 81 [(2, a0), (0, a1), (0, a2), (0, a3)] μ P ↔ zB (zC d) P (zR d 81 P) k81_0 [(2, a0), (0, a1), (0, a2), (0, a3), (9, 0), (9, 0)] [] μ := zC_of rfl rfl rfl
theorem u81_23 {d : Nat} {Q : Int → zM → Prop} {lv st : List zV} {μ : zM} : zR d 81 Q 23 lv st μ ↔ zB (zC d) Q (zR d 81 Q) k81_23 lv st μ := zR_of rfl
theorem u81_25 {d : Nat} {Q : Int → zM → Prop} {lv st : List zV} {μ : zM} : zR d 81 Q 25 lv st μ ↔ zB (zC d) Q (zR d 81 Q) k81_25 lv st μ := zR_of rfl
theorem u81_37 {d : Nat} {Q : Int → zM → Prop} {lv st : List zV} {μ : zM} : zR d 81 Q 37 lv st μ ↔ zB (zC d) Q (zR d 81 Q) k81_37 lv st μ := zR_of rfl
theorem u81_40 {d : Nat} {Q : Int → zM → Prop} {lv st : List zV} {μ : zM} : zR d 81 Q 40 lv st μ ↔ zB (zC d) Q (zR d 81 Q) k81_40 lv st μ := zR_of rfl
theorem u81_74 {d : Nat} {Q : Int → zM → Prop} {lv st : List zV} {μ : zM} : zR d 81 Q 74 lv st μ ↔ zB (zC d) Q (zR d 81 Q) k81_74 lv st μ := zR_of rfl
theorem u81_75 {d : Nat} {Q : Int → zM → Prop} {lv st : List zV} {μ : zM} : zR d 81 Q 75 lv st μ ↔ zB (zC d) Q (zR d 81 Q) k81_75 lv st μ := zR_of rfl
theorem u81_99 {d : Nat} {Q : Int → zM → Prop} {lv st : List zV} {μ : zM} : zR d 81 Q 99 lv st μ ↔ zB (zC d) Q (zR d 81 Q) k81_99 lv st μ := zR_of rfl
theorem u81_105 {d : Nat} {Q : Int → zM → Prop} {lv st : List zV} {μ : zM} : zR d 81 Q 105 lv st μ ↔ zB (zC d) Q (zR d 81 Q) k81_105 lv st μ := zR_of rfl
theorem e82 {d : Nat} {a0 a1 a2 : Int} {μ : zM} {P : Int → zM → Prop} : zC (d + 1) 82 [(2, a0), (0, a1), (0, a2)] μ P ↔ zB (zC d) P (zR d 82 P) k82_0 [(2, a0), (0, a1), (0, a2), (9, 0)] [] μ := zC_of rfl rfl rfl
theorem u82_9 {d : Nat} {Q : Int → zM → Prop} {lv st : List zV} {μ : zM} : zR d 82 Q 9 lv st μ ↔ zB (zC d) Q (zR d 82 Q) k82_9 lv st μ := zR_of rfl
theorem u82_18 {d : Nat} {Q : Int → zM → Prop} {lv st : List zV} {μ : zM} : zR d 82 Q 18 lv st μ ↔ zB (zC d) Q (zR d 82 Q) k82_18 lv st μ := zR_of rfl
theorem u82_25 {d : Nat} {Q : Int → zM → Prop} {lv st : List zV} {μ : zM} : zR d 82 Q 25 lv st μ ↔ zB (zC d) Q (zR d 82 Q) k82_25 lv st μ := zR_of rfl
theorem u82_34 {d : Nat} {Q : Int → zM → Prop} {lv st : List zV} {μ : zM} : zR d 82 Q 34 lv st μ ↔ zB (zC d) Q (zR d 82 Q) k82_34 lv st μ := zR_of rfl
theorem u82_57 {d : Nat} {Q : Int → zM → Prop} {lv st : List zV} {μ : zM} : zR d 82 Q 57 lv st μ ↔ zB (zC d) Q (zR d 82 Q) k82_57 lv st μ := zR_of rfl
theorem e83 {d : Nat} {a0 a1 a2 a3 : Int} {μ : zM} {P : Int → zM → Prop} : zC (d + 1) 83 [(2, a0), (0, a1), (0, a2), (1, a3)] μ P ↔ zB (zC d) P (zR d 83 P) k83_0 [(2, a0), (0, a1), (0, a2), (1, a3), (9, 0)] [] μ := zC_of rfl rfl rfl
theorem u83_9 {d : Nat} {Q : Int → zM → Prop} {lv st : List zV} {μ : zM} : zR d 83 Q 9 lv st μ ↔ zB (zC d) Q (zR d 83 Q) k83_9 lv st μ := zR_of rfl
theorem u83_21 {d : Nat} {Q : Int → zM → Prop} {lv st : List zV} {μ : zM} : zR d 83 Q 21 lv st μ ↔ zB (zC d) Q (zR d 83 Q) k83_21 lv st μ := zR_of rfl
theorem u83_35 {d : Nat} {Q : Int → zM → Prop} {lv st : List zV} {μ : zM} : zR d 83 Q 35 lv st μ ↔ zB (zC d) Q (zR d 83 Q) k83_35 lv st μ := zR_of rfl
theorem u83_38 {d : Nat} {Q : Int → zM → Prop} {lv st : List zV} {μ : zM} : zR d 83 Q 38 lv st μ ↔ zB (zC d) Q (zR d 83 Q) k83_38 lv st μ := zR_of rfl
theorem e84 {d : Nat} {a0 a1 a2 : Int} {μ : zM} {P : Int → zM → Prop} : zC (d + 1) 84 [(2, a0), (0, a1), (0, a2)] μ P ↔ zB (zC d) P (zR d 84 P) k84_0 [(2, a0), (0, a1), (0, a2)] [] μ := zC_of rfl rfl rfl
theorem u84_21 {d : Nat} {Q : Int → zM → Prop} {lv st : List zV} {μ : zM} : zR d 84 Q 21 lv st μ ↔ zB (zC d) Q (zR d 84 Q) k84_21 lv st μ := zR_of rfl
theorem u84_25 {d : Nat} {Q : Int → zM → Prop} {lv st : List zV} {μ : zM} : zR d 84 Q 25 lv st μ ↔ zB (zC d) Q (zR d 84 Q) k84_25 lv st μ := zR_of rfl
theorem e85 {d : Nat} {a0 : Int} {μ : zM} {P : Int → zM → Prop} : zC (d + 1) 85 [(2, a0)] μ P ↔ zB (zC d) P (zR d 85 P) k85_0 [(2, a0)] [] μ := zC_of rfl rfl rfl
theorem e86 {d : Nat} {a0 : Int} {μ : zM} {P : Int → zM → Prop} : zC (d + 1) 86 [(2, a0)] μ P ↔ zB (zC d) P (zR d 86 P) k86_0 [(2, a0)] [] μ := zC_of rfl rfl rfl
theorem u86_10 {d : Nat} {Q : Int → zM → Prop} {lv st : List zV} {μ : zM} : zR d 86 Q 10 lv st μ ↔ zB (zC d) Q (zR d 86 Q) k86_10 lv st μ := zR_of rfl
theorem e87 {d : Nat} {a0 a1 : Int} {μ : zM} {P : Int → zM → Prop} : zC (d + 1) 87 [(2, a0), (0, a1)] μ P ↔ zB (zC d) P (zR d 87 P) k87_0 [(2, a0), (0, a1)] [] μ := zC_of rfl rfl rfl
theorem u87_36 {d : Nat} {Q : Int → zM → Prop} {lv st : List zV} {μ : zM} : zR d 87 Q 36 lv st μ ↔ zB (zC d) Q (zR d 87 Q) k87_36 lv st μ := zR_of rfl
theorem u87_47 {d : Nat} {Q : Int → zM → Prop} {lv st : List zV} {μ : zM} : zR d 87 Q 47 lv st μ ↔ zB (zC d) Q (zR d 87 Q) k87_47 lv st μ := zR_of rfl
theorem u87_58 {d : Nat} {Q : Int → zM → Prop} {lv st : List zV} {μ : zM} : zR d 87 Q 58 lv st μ ↔ zB (zC d) Q (zR d 87 Q) k87_58 lv st μ := zR_of rfl
theorem u87_66 {d : Nat} {Q : Int → zM → Prop} {lv st : List zV} {μ : zM} : zR d 87 Q 66 lv st μ ↔ zB (zC d) Q (zR d 87 Q) k87_66 lv st μ := zR_of rfl
theorem u87_71 {d : Nat} {Q : Int → zM → Prop} {lv st : List zV} {μ : zM} : zR d 87 Q 71 lv st μ ↔ zB (zC d) Q (zR d 87 Q) k87_71 lv st μ := zR_of rfl
theorem u87_79 {d : Nat} {Q : Int → zM → Prop} {lv st : List zV} {μ : zM} : zR d 87 Q 79 lv st μ ↔ zB (zC d) Q (zR d 87 Q) k87_79 lv st μ := zR_of rfl
theorem e88 {d : Nat} {a0 : Int} {μ : zM} {P : Int → zM → Prop} : zC (d + 1) 88 [(0, a0)] μ P ↔ zB (zC d) P (zR d 88 P) k88_0 [(0, a0)] [] μ := zC_of rfl rfl rfl
theorem u88_13 {d : Nat} {Q : Int → zM → Prop} {lv st : List zV} {μ : zM} : zR d 88 Q 13 lv st μ ↔ zB (zC d) Q (zR d 88 Q) k88_13 lv st μ := zR_of rfl
theorem u88_14 {d : Nat} {Q : Int → zM → Prop} {lv st : List zV} {μ : zM} : zR d 88 Q 14 lv st μ ↔ zB (zC d) Q (zR d 88 Q) k88_14 lv st μ := zR_of rfl
theorem e89 {d : Nat} {a0 a1 a2 : Int} {μ : zM} {P : Int → zM → Prop} : zC (d + 1) 89 [(0, a0), (0, a1), (0, a2)] μ P ↔ zB (zC d) P (zR d 89 P) k89_0 [(0, a0), (0, a1), (0, a2)] [] μ := zC_of rfl rfl rfl
theorem u89_33 {d : Nat} {Q : Int → zM → Prop} {lv st : List zV} {μ : zM} : zR d 89 Q 33 lv st μ ↔ zB (zC d) Q (zR d 89 Q) k89_33 lv st μ := zR_of rfl
theorem u89_34 {d : Nat} {Q : Int → zM → Prop} {lv st : List zV} {μ : zM} : zR d 89 Q 34 lv st μ ↔ zB (zC d) Q (zR d 89 Q) k89_34 lv st μ := zR_of rfl
theorem e90 {d : Nat} {a0 : Int} {μ : zM} {P : Int → zM → Prop} : zC (d + 1) 90 [(0, a0)] μ P ↔ zB (zC d) P (zR d 90 P) k90_0 [(0, a0)] [] μ := zC_of rfl rfl rfl
theorem u90_13 {d : Nat} {Q : Int → zM → Prop} {lv st : List zV} {μ : zM} : zR d 90 Q 13 lv st μ ↔ zB (zC d) Q (zR d 90 Q) k90_13 lv st μ := zR_of rfl
theorem u90_14 {d : Nat} {Q : Int → zM → Prop} {lv st : List zV} {μ : zM} : zR d 90 Q 14 lv st μ ↔ zB (zC d) Q (zR d 90 Q) k90_14 lv st μ := zR_of rfl
theorem e91 {d : Nat} {a0 : Int} {μ : zM} {P : Int → zM → Prop} : zC (d + 1) 91 [(0, a0)] μ P ↔ zB (zC d) P (zR d 91 P) k91_0 [(0, a0)] [] μ := zC_of rfl rfl rfl
theorem u91_13 {d : Nat} {Q : Int → zM → Prop} {lv st : List zV} {μ : zM} : zR d 91 Q 13 lv st μ ↔ zB (zC d) Q (zR d 91 Q) k91_13 lv st μ := zR_of rfl
theorem u91_14 {d : Nat} {Q : Int → zM → Prop} {lv st : List zV} {μ : zM} : zR d 91 Q 14 lv st μ ↔ zB (zC d) Q (zR d 91 Q) k91_14 lv st μ := zR_of rfl
theorem e92 {d : Nat} {a0 a1 : Int} {μ : zM} {P : Int → zM → Prop} : zC (d + 1) 92 [(0, a0), (0, a1)] μ P ↔ zB (zC d) P (zR d 92 P) k92_0 [(0, a0), (0, a1)] [] μ := zC_of rfl rfl rfl
theorem u92_28 {d : Nat} {Q : Int → zM → Prop} {lv st : List zV} {μ : zM} : zR d 92 Q 28 lv st μ ↔ zB (zC d) Q (zR d 92 Q) k92_28 lv st μ := zR_of rfl
theorem u92_41 {d : Nat} {Q : Int → zM → Prop} {lv st : List zV} {μ : zM} : zR d 92 Q 41 lv st μ ↔ zB (zC d) Q (zR d 92 Q) k92_41 lv st μ := zR_of rfl
theorem u92_42 {d : Nat} {Q : Int → zM → Prop} {lv st : List zV} {μ : zM} : zR d 92 Q 42 lv st μ ↔ zB (zC d) Q (zR d 92 Q) k92_42 lv st μ := zR_of rfl
theorem u92_43 {d : Nat} {Q : Int → zM → Prop} {lv st : List zV} {μ : zM} : zR d 92 Q 43 lv st μ ↔ zB (zC d) Q (zR d 92 Q) k92_43 lv st μ := zR_of rfl
theorem u92_57 {d : Nat} {Q : Int → zM → Prop} {lv st : List zV} {μ : zM} : zR d 92 Q 57 lv st μ ↔ zB (zC d) Q (zR d 92 Q) k92_57 lv st μ := zR_of rfl
theorem u92_58 {d : Nat} {Q : Int → zM → Prop} {lv st : List zV} {μ : zM} : zR d 92 Q 58 lv st μ ↔ zB (zC d) Q (zR d 92 Q) k92_58 lv st μ := zR_of rfl
theorem u92_59 {d : Nat} {Q : Int → zM → Prop} {lv st : List zV} {μ : zM} : zR d 92 Q 59 lv st μ ↔ zB (zC d) Q (zR d 92 Q) k92_59 lv st μ := zR_of rfl
theorem u92_73 {d : Nat} {Q : Int → zM → Prop} {lv st : List zV} {μ : zM} : zR d 92 Q 73 lv st μ ↔ zB (zC d) Q (zR d 92 Q) k92_73 lv st μ := zR_of rfl
theorem u92_74 {d : Nat} {Q : Int → zM → Prop} {lv st : List zV} {μ : zM} : zR d 92 Q 74 lv st μ ↔ zB (zC d) Q (zR d 92 Q) k92_74 lv st μ := zR_of rfl
theorem e93 {d : Nat} {a0 a1 : Int} {μ : zM} {P : Int → zM → Prop} : zC (d + 1) 93 [(2, a0), (0, a1)] μ P ↔ zB (zC d) P (zR d 93 P) k93_0 [(2, a0), (0, a1)] [] μ := zC_of rfl rfl rfl
theorem u93_19 {d : Nat} {Q : Int → zM → Prop} {lv st : List zV} {μ : zM} : zR d 93 Q 19 lv st μ ↔ zB (zC d) Q (zR d 93 Q) k93_19 lv st μ := zR_of rfl
theorem u93_20 {d : Nat} {Q : Int → zM → Prop} {lv st : List zV} {μ : zM} : zR d 93 Q 20 lv st μ ↔ zB (zC d) Q (zR d 93 Q) k93_20 lv st μ := zR_of rfl
theorem e94 {d : Nat} {a0 a1 a2 a3 : Int} {μ : zM} {P : Int → zM → Prop} : zC (d + 1) 94 [(2, a0), (0, a1), (0, a2), (0, a3)] μ P ↔ zB (zC d) P (zR d 94 P) k94_0 [(2, a0), (0, a1), (0, a2), (0, a3)] [] μ := zC_of rfl rfl rfl
theorem u94_28 {d : Nat} {Q : Int → zM → Prop} {lv st : List zV} {μ : zM} : zR d 94 Q 28 lv st μ ↔ zB (zC d) Q (zR d 94 Q) k94_28 lv st μ := zR_of rfl
theorem u94_29 {d : Nat} {Q : Int → zM → Prop} {lv st : List zV} {μ : zM} : zR d 94 Q 29 lv st μ ↔ zB (zC d) Q (zR d 94 Q) k94_29 lv st μ := zR_of rfl
theorem e95 {d : Nat} {a0 a1 : Int} {μ : zM} {P : Int → zM → Prop} : zC (d + 1) 95 [(2, a0), (0, a1)] μ P ↔ zB (zC d) P (zR d 95 P) k95_0 [(2, a0), (0, a1)] [] μ := zC_of rfl rfl rfl
theorem u95_21 {d : Nat} {Q : Int → zM → Prop} {lv st : List zV} {μ : zM} : zR d 95 Q 21 lv st μ ↔ zB (zC d) Q (zR d 95 Q) k95_21 lv st μ := zR_of rfl
theorem u95_22 {d : Nat} {Q : Int → zM → Prop} {lv st : List zV} {μ : zM} : zR d 95 Q 22 lv st μ ↔ zB (zC d) Q (zR d 95 Q) k95_22 lv st μ := zR_of rfl
theorem e96 {d : Nat} {a0 : Int} {μ : zM} {P : Int → zM → Prop} : zC (d + 1) 96 [(2, a0)] μ P ↔ zB (zC d) P (zR d 96 P) k96_0 [(2, a0)] [] μ := zC_of rfl rfl rfl
theorem e97 {d : Nat} {a0 : Int} {μ : zM} {P : Int → zM → Prop} : zC (d + 1) 97 [(2, a0)] μ P ↔ zB (zC d) P (zR d 97 P) k97_0 [(2, a0)] [] μ := zC_of rfl rfl rfl
theorem u97_23 {d : Nat} {Q : Int → zM → Prop} {lv st : List zV} {μ : zM} : zR d 97 Q 23 lv st μ ↔ zB (zC d) Q (zR d 97 Q) k97_23 lv st μ := zR_of rfl
theorem e98 {d : Nat} {a0 : Int} {μ : zM} {P : Int → zM → Prop} : zC (d + 1) 98 [(2, a0)] μ P ↔ zB (zC d) P (zR d 98 P) k98_0 [(2, a0)] [] μ := zC_of rfl rfl rfl
theorem u98_23 {d : Nat} {Q : Int → zM → Prop} {lv st : List zV} {μ : zM} : zR d 98 Q 23 lv st μ ↔ zB (zC d) Q (zR d 98 Q) k98_23 lv st μ := zR_of rfl
theorem e99 {d : Nat} {a0 a1 a2 : Int} {μ : zM} {P : Int → zM → Prop} : zC (d + 1) 99 [(2, a0), (2, a1), (0, a2)] μ P ↔ zB (zC d) P (zR d 99 P) k99_0 [(2, a0), (2, a1), (0, a2)] [] μ := zC_of rfl rfl rfl
theorem e100 {d : Nat} {a0 a1 a2 : Int} {μ : zM} {P : Int → zM → Prop} : zC (d + 1) 100 [(2, a0), (2, a1), (0, a2)] μ P ↔ zB (zC d) P (zR d 100 P) k100_0 [(2, a0), (2, a1), (0, a2), (9, 0)] [] μ := zC_of rfl rfl rfl
theorem u100_7 {d : Nat} {Q : Int → zM → Prop} {lv st : List zV} {μ : zM} : zR d 100 Q 7 lv st μ ↔ zB (zC d) Q (zR d 100 Q) k100_7 lv st μ := zR_of rfl
theorem u100_41 {d : Nat} {Q : Int → zM → Prop} {lv st : List zV} {μ : zM} : zR d 100 Q 41 lv st μ ↔ zB (zC d) Q (zR d 100 Q) k100_41 lv st μ := zR_of rfl
theorem e101 {d : Nat} {a0 a1 a2 : Int} {μ : zM} {P : Int → zM → Prop} : zC (d + 1) 101 [(2, a0), (0, a1), (0, a2)] μ P ↔ zB (zC d) P (zR d 101 P) k101_0 [(2, a0), (0, a1), (0, a2), (9, 0)] [] μ := zC_of rfl rfl rfl
theorem u101_57 {d : Nat} {Q : Int → zM → Prop} {lv st : List zV} {μ : zM} : zR d 101 Q 57 lv st μ ↔ zB (zC d) Q (zR d 101 Q) k101_57 lv st μ := zR_of rfl
theorem u101_83 {d : Nat} {Q : Int → zM → Prop} {lv st : List zV} {μ : zM} : zR d 101 Q 83 lv st μ ↔ zB (zC d) Q (zR d 101 Q) k101_83 lv st μ := zR_of rfl
theorem u101_90 {d : Nat} {Q : Int → zM → Prop} {lv st : List zV} {μ : zM} : zR d 101 Q 90 lv st μ ↔ zB (zC d) Q (zR d 101 Q) k101_90 lv st μ := zR_of rfl
theorem u101_118 {d : Nat} {Q : Int → zM → Prop} {lv st : List zV} {μ : zM} : zR d 101 Q 118 lv st μ ↔ zB (zC d) Q (zR d 101 Q) k101_118 lv st μ := zR_of rfl
theorem u101_120 {d : Nat} {Q : Int → zM → Prop} {lv st : List zV} {μ : zM} : zR d 101 Q 120 lv st μ ↔ zB (zC d) Q (zR d 101 Q) k101_120 lv st μ := zR_of rfl
theorem u101_155 {d : Nat} {Q : Int → zM → Prop} {lv st : List zV} {μ : zM} : zR d 101 Q 155 lv st μ ↔ zB (zC d) Q (zR d 101 Q) k101_155 lv st μ := zR_of rfl
theorem e102 {d : Nat} {a0 a1 a2 : Int} {μ : zM} {P : Int → zM → Prop} : zC (d + 1) 102 [(2, a0), (0, a1), (0, a2)] μ P ↔ zB (zC d) P (zR d 102 P) k102_0 [(2, a0), (0, a1), (0, a2)] [] μ := zC_of rfl rfl rfl
theorem u102_13 {d : Nat} {Q : Int → zM → Prop} {lv st : List zV} {μ : zM} : zR d 102 Q 13 lv st μ ↔ zB (zC d) Q (zR d 102 Q) k102_13 lv st μ := zR_of rfl
theorem u102_30 {d : Nat} {Q : Int → zM → Prop} {lv st : List zV} {μ : zM} : zR d 102 Q 30 lv st μ ↔ zB (zC d) Q (zR d 102 Q) k102_30 lv st μ := zR_of rfl
theorem u102_50 {d : Nat} {Q : Int → zM → Prop} {lv st : List zV} {μ : zM} : zR d 102 Q 50 lv st μ ↔ zB (zC d) Q (zR d 102 Q) k102_50 lv st μ := zR_of rfl
theorem u102_66 {d : Nat} {Q : Int → zM → Prop} {lv st : List zV} {μ : zM} : zR d 102 Q 66 lv st μ ↔ zB (zC d) Q (zR d 102 Q) k102_66 lv st μ := zR_of rfl
theorem e103 {d : Nat} {a0 a1 : Int} {μ : zM} {P : Int → zM → Prop} : zC (d + 1) 103 [(2, a0), (0, a1)] μ P ↔ zB (zC d) P (zR d 103 P) k103_0 [(2, a0), (0, a1)] [] μ := zC_of rfl rfl rfl
theorem u103_30 {d : Nat} {Q : Int → zM → Prop} {lv st : List zV} {μ : zM} : zR d 103 Q 30 lv st μ ↔ zB (zC d) Q (zR d 103 Q) k103_30 lv st μ := zR_of rfl
theorem e104 {d : Nat} {a0 a1 a2 : Int} {μ : zM} {P : Int → zM → Prop} : zC (d + 1) 104 [(0, a0), (0, a1), (0, a2)] μ P ↔ zB (zC d) P (zR d 104 P) k104_0 [(0, a0), (0, a1), (0, a2)] [] μ := zC_of rfl rfl rfl
theorem e105 {d : Nat} {a0 : Int} {μ : zM} {P : Int → zM → Prop} : zC (d + 1) 105 [(2, a0)] μ P ↔ zB (zC d) P (zR d 105 P) k105_0 [(2, a0), (9, 0), (9, 0), (9, 0), (9, 0), (9, 0)] [] μ := zC_of rfl rfl rfl
theorem u105_10 {d : Nat} {Q : Int → zM → Prop} {lv st : List zV} {μ : zM} : zR d 105 Q 10 lv st μ ↔ zB (zC d) Q (zR d 105 Q) k105_10 lv st μ := zR_of rfl
theorem u105_30 {d : Nat} {Q : Int → zM → Prop} {lv st : List zV} {μ : zM} : zR d 105 Q 30 lv st μ ↔ zB (zC d) Q (zR d 105 Q) k105_30 lv st μ := zR_of rfl
theorem u105_36 {d : Nat} {Q : Int → zM → Prop} {lv st : List zV} {μ : zM} : zR d 105 Q 36 lv st μ ↔ zB (zC d) Q (zR d 105 Q) k105_36 lv st μ := zR_of rfl
theorem e106 {d : Nat} {a0 a1 : Int} {μ : zM} {P : Int → zM → Prop} : zC (d + 1) 106 [(0, a0), (0, a1)] μ P ↔ zB (zC d) P (zR d 106 P) k106_0 [(0, a0), (0, a1), (9, 0), (9, 0), (9, 0), (9, 0)] [] μ := zC_of rfl rfl rfl
theorem u106_7 {d : Nat} {Q : Int → zM → Prop} {lv st : List zV} {μ : zM} : zR d 106 Q 7 lv st μ ↔ zB (zC d) Q (zR d 106 Q) k106_7 lv st μ := zR_of rfl
theorem u106_33 {d : Nat} {Q : Int → zM → Prop} {lv st : List zV} {μ : zM} : zR d 106 Q 33 lv st μ ↔ zB (zC d) Q (zR d 106 Q) k106_33 lv st μ := zR_of rfl
theorem e107 {d : Nat} {a0 : Int} {μ : zM} {P : Int → zM → Prop} : zC (d + 1) 107 [(0, a0)] μ P ↔ zB (zC d) P (zR d 107 P) k107_0 [(0, a0), (9, 0)] [] μ := zC_of rfl rfl rfl
theorem u107_2 {d : Nat} {Q : Int → zM → Prop} {lv st : List zV} {μ : zM} : zR d 107 Q 2 lv st μ ↔ zB (zC d) Q (zR d 107 Q) k107_2 lv st μ := zR_of rfl
theorem u107_20 {d : Nat} {Q : Int → zM → Prop} {lv st : List zV} {μ : zM} : zR d 107 Q 20 lv st μ ↔ zB (zC d) Q (zR d 107 Q) k107_20 lv st μ := zR_of rfl
theorem u107_26 {d : Nat} {Q : Int → zM → Prop} {lv st : List zV} {μ : zM} : zR d 107 Q 26 lv st μ ↔ zB (zC d) Q (zR d 107 Q) k107_26 lv st μ := zR_of rfl
theorem e108 {d : Nat} {a0 a1 a2 : Int} {μ : zM} {P : Int → zM → Prop} : zC (d + 1) 108 [(1, a0), (1, a1), (1, a2)] μ P ↔ zB (zC d) P (zR d 108 P) k108_0 [(1, a0), (9, 0), (1, a1), (9, 0), (1, a2), (9, 0)] [] μ := zC_of rfl rfl rfl
theorem u108_17 {d : Nat} {Q : Int → zM → Prop} {lv st : List zV} {μ : zM} : zR d 108 Q 17 lv st μ ↔ zB (zC d) Q (zR d 108 Q) k108_17 lv st μ := zR_of rfl
theorem u108_18 {d : Nat} {Q : Int → zM → Prop} {lv st : List zV} {μ : zM} : zR d 108 Q 18 lv st μ ↔ zB (zC d) Q (zR d 108 Q) k108_18 lv st μ := zR_of rfl
theorem e109 {d : Nat} {a0 : Int} {μ : zM} {P : Int → zM → Prop} : zC (d + 1) 109 [(0, a0)] μ P ↔ zB (zC d) P (zR d 109 P) k109_0 [(0, a0)] [] μ := zC_of rfl rfl rfl
theorem u109_8 {d : Nat} {Q : Int → zM → Prop} {lv st : List zV} {μ : zM} : zR d 109 Q 8 lv st μ ↔ zB (zC d) Q (zR d 109 Q) k109_8 lv st μ := zR_of rfl
theorem u109_9 {d : Nat} {Q : Int → zM → Prop} {lv st : List zV} {μ : zM} : zR d 109 Q 9 lv st μ ↔ zB (zC d) Q (zR d 109 Q) k109_9 lv st μ := zR_of rfl
theorem e110 {d : Nat} {a0 a1 : Int} {μ : zM} {P : Int → zM → Prop} : zC (d + 1) 110 [(2, a0), (0, a1)] μ P ↔ zB (zC d) P (zR d 110 P) k110_0 [(2, a0), (0, a1)] [] μ := zC_of rfl rfl rfl
theorem e111 {d : Nat} {a0 a1 a2 : Int} {μ : zM} {P : Int → zM → Prop} : zC (d + 1) 111 [(0, a0), (0, a1), (0, a2)] μ P ↔ zB (zC d) P (zR d 111 P) k111_0 [(0, a0), (0, a1), (0, a2)] [] μ := zC_of rfl rfl rfl
theorem e112 {d : Nat} {a0 a1 a2 : Int} {μ : zM} {P : Int → zM → Prop} : zC (d + 1) 112 [(2, a0), (0, a1), (0, a2)] μ P ↔ zB (zC d) P (zR d 112 P) k112_0 [(2, a0), (0, a1), (0, a2), (9, 0)] [] μ := zC_of rfl rfl rfl
theorem u112_14 {d : Nat} {Q : Int → zM → Prop} {lv st : List zV} {μ : zM} : zR d 112 Q 14 lv st μ ↔ zB (zC d) Q (zR d 112 Q) k112_14 lv st μ := zR_of rfl
theorem u112_33 {d : Nat} {Q : Int → zM → Prop} {lv st : List zV} {μ : zM} : zR d 112 Q 33 lv st μ ↔ zB (zC d) Q (zR d 112 Q) k112_33 lv st μ := zR_of rfl
theorem u112_53 {d : Nat} {Q : Int → zM → Prop} {lv st : List zV} {μ : zM} : zR d 112 Q 53 lv st μ ↔ zB (zC d) Q (zR d 112 Q) k112_53 lv st μ := zR_of rfl
theorem u112_65 {d : Nat} {Q : Int → zM → Prop} {lv st : List zV} {μ : zM} : zR d 112 Q 65 lv st μ ↔ zB (zC d) Q (zR d 112 Q) k112_65 lv st μ := zR_of rfl
theorem u112_68 {d : Nat} {Q : Int → zM → Prop} {lv st : List zV} {μ : zM} : zR d 112 Q 68 lv st μ ↔ zB (zC d) Q (zR d 112 Q) k112_68 lv st μ := zR_of rfl
theorem e113 {d : Nat} {a0 a1 : Int} {μ : zM} {P : Int → zM → Prop} : zC (d + 1) 113 [(2, a0), (0, a1)] μ P ↔ zB (zC d) P (zR d 113 P) k113_0 [(2, a0), (0, a1)] [] μ := zC_of rfl rfl rfl
theorem u113_21 {d : Nat} {Q : Int → zM → Prop} {lv st : List zV} {μ : zM} : zR d 113 Q 21 lv st μ ↔ zB (zC d) Q (zR d 113 Q) k113_21 lv st μ := zR_of rfl
theorem u113_22 {d : Nat} {Q : Int → zM → Prop} {lv st : List zV} {μ : zM} : zR d 113 Q 22 lv st μ ↔ zB (zC d) Q (zR d 113 Q) k113_22 lv st μ := zR_of rfl
theorem e114 {d : Nat} {a0 a1 a2 a3 a4 : Int} {μ : zM} {P : Int → zM → Prop} : zC (d + 1) 114 [(2, a0), (0, a1), (0, a2), (0, a3), (0, a4)] μ P ↔ zB (zC d) P (zR d 114 P) k114_0 [(2, a0), (0, a1), (0, a2), (0, a3), (0, a4), (9, 0)] [] μ := zC_of rfl rfl rfl
theorem u114_36 {d : Nat} {Q : Int → zM → Prop} {lv st : List zV} {μ : zM} : zR d 114 Q 36 lv st μ ↔ zB (zC d) Q (zR d 114 Q) k114_36 lv st μ := zR_of rfl
theorem u114_38 {d : Nat} {Q : Int → zM → Prop} {lv st : List zV} {μ : zM} : zR d 114 Q 38 lv st μ ↔ zB (zC d) Q (zR d 114 Q) k114_38 lv st μ := zR_of rfl
theorem u114_54 {d : Nat} {Q : Int → zM → Prop} {lv st : List zV} {μ : zM} : zR d 114 Q 54 lv st μ ↔ zB (zC d) Q (zR d 114 Q) k114_54 lv st μ := zR_of rfl
theorem e115 {d : Nat} {a0 a1 a2 a3 : Int} {μ : zM} {P : Int → zM → Prop} : zC (d + 1) 115 [(2, a0), (0, a1), (0, a2), (0, a3)] μ P ↔ zB (zC d) P (zR d 115 P) k115_0 [(2, a0), (0, a1), (0, a2), (0, a3), (9, 0), (9, 0), (9, 0)] [] μ := zC_of rfl rfl rfl
theorem u115_19 {d : Nat} {Q : Int → zM → Prop} {lv st : List zV} {μ : zM} : zR d 115 Q 19 lv st μ ↔ zB (zC d) Q (zR d 115 Q) k115_19 lv st μ := zR_of rfl
theorem u115_22 {d : Nat} {Q : Int → zM → Prop} {lv st : List zV} {μ : zM} : zR d 115 Q 22 lv st μ ↔ zB (zC d) Q (zR d 115 Q) k115_22 lv st μ := zR_of rfl
theorem u115_46 {d : Nat} {Q : Int → zM → Prop} {lv st : List zV} {μ : zM} : zR d 115 Q 46 lv st μ ↔ zB (zC d) Q (zR d 115 Q) k115_46 lv st μ := zR_of rfl
theorem u115_56 {d : Nat} {Q : Int → zM → Prop} {lv st : List zV} {μ : zM} : zR d 115 Q 56 lv st μ ↔ zB (zC d) Q (zR d 115 Q) k115_56 lv st μ := zR_of rfl
theorem u115_85 {d : Nat} {Q : Int → zM → Prop} {lv st : List zV} {μ : zM} : zR d 115 Q 85 lv st μ ↔ zB (zC d) Q (zR d 115 Q) k115_85 lv st μ := zR_of rfl
theorem u115_86 {d : Nat} {Q : Int → zM → Prop} {lv st : List zV} {μ : zM} : zR d 115 Q 86 lv st μ ↔ zB (zC d) Q (zR d 115 Q) k115_86 lv st μ := zR_of rfl
theorem e116 {d : Nat} {a0 a1 a2 a3 : Int} {μ : zM} {P : Int → zM → Prop} : zC (d + 1) 116 [(2, a0), (0, a1), (0, a2), (0, a3)] μ P ↔ zB (zC d) P (zR d 116 P) k116_0 [(2, a0), (0, a1), (0, a2), (0, a3), (9, 0)] [] μ := zC_of rfl rfl rfl
theorem u116_32 {d : Nat} {Q : Int → zM → Prop} {lv st : List zV} {μ : zM} : zR d 116 Q 32 lv st μ ↔ zB (zC d) Q (zR d 116 Q) k116_32 lv st μ := zR_of rfl
theorem u116_51 {d : Nat} {Q : Int → zM → Prop} {lv st : List zV} {μ : zM} : zR d 116 Q 51 lv st μ ↔ zB (zC d) Q (zR d 116 Q) k116_51 lv st μ := zR_of rfl
theorem u116_52 {d : Nat} {Q : Int → zM → Prop} {lv st : List zV} {μ : zM} : zR d 116 Q 52 lv st μ ↔ zB (zC d) Q (zR d 116 Q) k116_52 lv st μ := zR_of rfl
theorem u116_53 {d : Nat} {Q : Int → zM → Prop} {lv st : List zV} {μ : zM} : zR d 116 Q 53 lv st μ ↔ zB (zC d) Q (zR d 116 Q) k116_53 lv st μ := zR_of rfl
theorem u116_66 {d : Nat} {Q : Int → zM → Prop} {lv st : List zV} {μ : zM} : zR d 116 Q 66 lv st μ ↔ zB (zC d) Q (zR d 116 Q) k116_66 lv st μ := zR_of rfl
theorem u116_71 {d : Nat} {Q : Int → zM → Prop} {lv st : List zV} {μ : zM} : zR d 116 Q 71 lv st μ ↔ zB (zC d) Q (zR d 116 Q) k116_71 lv st μ := zR_of rfl
theorem u116_77 {d : Nat} {Q : Int → zM → Prop} {lv st : List zV} {μ : zM} : zR d 116 Q 77 lv st μ ↔ zB (zC d) Q (zR d 116 Q) k116_77 lv st μ := zR_of rfl
theorem u116_84 {d : Nat} {Q : Int → zM → Prop} {lv st : List zV} {μ : zM} : zR d 116 Q 84 lv st μ ↔ zB (zC d) Q (zR d 116 Q) k116_84 lv st μ := zR_of rfl
theorem u116_85 {d : Nat} {Q : Int → zM → Prop} {lv st : List zV} {μ : zM} : zR d 116 Q 85 lv st μ ↔ zB (zC d) Q (zR d 116 Q) k116_85 lv st μ := zR_of rfl
theorem e117 {d : Nat} {a0 a1 a2 a3 : Int} {μ : zM} {P : Int → zM → Prop} : zC (d + 1) 117 [(2, a0), (0, a1), (0, a2), (0, a3)] μ P ↔ zB (zC d) P (zR d 117 P) k117_0 [(2, a0), (0, a1), (0, a2), (0, a3)] [] μ := zC_of rfl rfl rfl
theorem u117_8 {d : Nat} {Q : Int → zM → Prop} {lv st : List zV} {μ : zM} : zR d 117 Q 8 lv st μ ↔ zB (zC d) Q (zR d 117 Q) k117_8 lv st μ := zR_of rfl
theorem u117_19 {d : Nat} {Q : Int → zM → Prop} {lv st : List zV} {μ : zM} : zR d 117 Q 19 lv st μ ↔ zB (zC d) Q (zR d 117 Q) k117_19 lv st μ := zR_of rfl
theorem u117_20 {d : Nat} {Q : Int → zM → Prop} {lv st : List zV} {μ : zM} : zR d 117 Q 20 lv st μ ↔ zB (zC d) Q (zR d 117 Q) k117_20 lv st μ := zR_of rfl
theorem u117_24 {d : Nat} {Q : Int → zM → Prop} {lv st : List zV} {μ : zM} : zR d 117 Q 24 lv st μ ↔ zB (zC d) Q (zR d 117 Q) k117_24 lv st μ := zR_of rfl
theorem u117_60 {d : Nat} {Q : Int → zM → Prop} {lv st : List zV} {μ : zM} : zR d 117 Q 60 lv st μ ↔ zB (zC d) Q (zR d 117 Q) k117_60 lv st μ := zR_of rfl
theorem u117_78 {d : Nat} {Q : Int → zM → Prop} {lv st : List zV} {μ : zM} : zR d 117 Q 78 lv st μ ↔ zB (zC d) Q (zR d 117 Q) k117_78 lv st μ := zR_of rfl
theorem u117_79 {d : Nat} {Q : Int → zM → Prop} {lv st : List zV} {μ : zM} : zR d 117 Q 79 lv st μ ↔ zB (zC d) Q (zR d 117 Q) k117_79 lv st μ := zR_of rfl
theorem u117_83 {d : Nat} {Q : Int → zM → Prop} {lv st : List zV} {μ : zM} : zR d 117 Q 83 lv st μ ↔ zB (zC d) Q (zR d 117 Q) k117_83 lv st μ := zR_of rfl
theorem u117_91 {d : Nat} {Q : Int → zM → Prop} {lv st : List zV} {μ : zM} : zR d 117 Q 91 lv st μ ↔ zB (zC d) Q (zR d 117 Q) k117_91 lv st μ := zR_of rfl
theorem u117_99 {d : Nat} {Q : Int → zM → Prop} {lv st : List zV} {μ : zM} : zR d 117 Q 99 lv st μ ↔ zB (zC d) Q (zR d 117 Q) k117_99 lv st μ := zR_of rfl
theorem e118 {d : Nat} {a0 a1 a2 a3 : Int} {μ : zM} {P : Int → zM → Prop} : zC (d + 1) 118 [(2, a0), (0, a1), (0, a2), (0, a3)] μ P ↔ zB (zC d) P (zR d 118 P) k118_0 [(2, a0), (0, a1), (0, a2), (0, a3)] [] μ := zC_of rfl rfl rfl
theorem u118_34 {d : Nat} {Q : Int → zM → Prop} {lv st : List zV} {μ : zM} : zR d 118 Q 34 lv st μ ↔ zB (zC d) Q (zR d 118 Q) k118_34 lv st μ := zR_of rfl
theorem u118_35 {d : Nat} {Q : Int → zM → Prop} {lv st : List zV} {μ : zM} : zR d 118 Q 35 lv st μ ↔ zB (zC d) Q (zR d 118 Q) k118_35 lv st μ := zR_of rfl
theorem e119 {d : Nat} {a0 : Int} {μ : zM} {P : Int → zM → Prop} : zC (d + 1) 119 [(2, a0)] μ P ↔ zB (zC d) P (zR d 119 P) k119_0 [(2, a0), (9, 0), (9, 0), (9, 0), (9, 0), (9, 0), (9, 0), (9, 0), (9, 0)] [] μ := zC_of rfl rfl rfl
theorem u119_9 {d : Nat} {Q : Int → zM → Prop} {lv st : List zV} {μ : zM} : zR d 119 Q 9 lv st μ ↔ zB (zC d) Q (zR d 119 Q) k119_9 lv st μ := zR_of rfl
theorem u119_16 {d : Nat} {Q : Int → zM → Prop} {lv st : List zV} {μ : zM} : zR d 119 Q 16 lv st μ ↔ zB (zC d) Q (zR d 119 Q) k119_16 lv st μ := zR_of rfl
theorem u119_24 {d : Nat} {Q : Int → zM → Prop} {lv st : List zV} {μ : zM} : zR d 119 Q 24 lv st μ ↔ zB (zC d) Q (zR d 119 Q) k119_24 lv st μ := zR_of rfl
theorem u119_33 {d : Nat} {Q : Int → zM → Prop} {lv st : List zV} {μ : zM} : zR d 119 Q 33 lv st μ ↔ zB (zC d) Q (zR d 119 Q) k119_33 lv st μ := zR_of rfl
theorem u119_48 {d : Nat} {Q : Int → zM → Prop} {lv st : List zV} {μ : zM} : zR d 119 Q 48 lv st μ ↔ zB (zC d) Q (zR d 119 Q) k119_48 lv st μ := zR_of rfl
theorem u119_108 {d : Nat} {Q : Int → zM → Prop} {lv st : List zV} {μ : zM} : zR d 119 Q 108 lv st μ ↔ zB (zC d) Q (zR d 119 Q) k119_108 lv st μ := zR_of rfl
theorem u119_135 {d : Nat} {Q : Int → zM → Prop} {lv st : List zV} {μ : zM} : zR d 119 Q 135 lv st μ ↔ zB (zC d) Q (zR d 119 Q) k119_135 lv st μ := zR_of rfl
theorem u119_141 {d : Nat} {Q : Int → zM → Prop} {lv st : List zV} {μ : zM} : zR d 119 Q 141 lv st μ ↔ zB (zC d) Q (zR d 119 Q) k119_141 lv st μ := zR_of rfl
theorem u119_147 {d : Nat} {Q : Int → zM → Prop} {lv st : List zV} {μ : zM} : zR d 119 Q 147 lv st μ ↔ zB (zC d) Q (zR d 119 Q) k119_147 lv st μ := zR_of rfl
theorem u119_153 {d : Nat} {Q : Int → zM → Prop} {lv st : List zV} {μ : zM} : zR d 119 Q 153 lv st μ ↔ zB (zC d) Q (zR d 119 Q) k119_153 lv st μ := zR_of rfl
theorem u119_159 {d : Nat} {Q : Int → zM → Prop} {lv st : List zV} {μ : zM} : zR d 119 Q 159 lv st μ ↔ zB (zC d) Q (zR d 119 Q) k119_159 lv st μ := zR_of rfl
theorem e120 {d : Nat} {a0 : Int} {μ : zM} {P : Int → zM → Prop} : zC (d + 1) 120 [(2, a0)] μ P ↔ zB (zC d) P (zR d 120 P) k120_0 [(2, a0), (9, 0), (9, 0), (9, 0)] [] μ := zC_of rfl rfl rfl
theorem u120_2 {d : Nat} {Q : Int → zM → Prop} {lv st : List zV} {μ : zM} : zR d 120 Q 2 lv st μ ↔ zB (zC d) Q (zR d 120 Q) k120_2 lv st μ := zR_of rfl
theorem u120_14 {d : Nat} {Q : Int → zM → Prop} {lv st : List zV} {μ : zM} : zR d 120 Q 14 lv st μ ↔ zB (zC d) Q (zR d 120 Q) k120_14 lv st μ := zR_of rfl
theorem u120_26 {d : Nat} {Q : Int → zM → Prop} {lv st : List zV} {μ : zM} : zR d 120 Q 26 lv st μ ↔ zB (zC d) Q (zR d 120 Q) k120_26 lv st μ := zR_of rfl
theorem u120_60 {d : Nat} {Q : Int → zM → Prop} {lv st : List zV} {μ : zM} : zR d 120 Q 60 lv st μ ↔ zB (zC d) Q (zR d 120 Q) k120_60 lv st μ := zR_of rfl
theorem u120_66 {d : Nat} {Q : Int → zM → Prop} {lv st : List zV} {μ : zM} : zR d 120 Q 66 lv st μ ↔ zB (zC d) Q (zR d 120 Q) k120_66 lv st μ := zR_of rfl
theorem u120_72 {d : Nat} {Q : Int → zM → Prop} {lv st : List zV} {μ : zM} : zR d 120 Q 72 lv st μ ↔ zB (zC d) Q (zR d 120 Q) k120_72 lv st μ := zR_of rfl
theorem u120_78 {d : Nat} {Q : Int → zM → Prop} {lv st : List zV} {μ : zM} : zR d 120 Q 78 lv st μ ↔ zB (zC d) Q (zR d 120 Q) k120_78 lv st μ := zR_of rfl
theorem e121 {d : Nat} {a0 a1 : Int} {μ : zM} {P : Int → zM → Prop} : zC (d + 1) 121 [(2, a0), (0, a1)] μ P ↔ zB (zC d) P (zR d 121 P) k121_0 [(2, a0), (0, a1)] [] μ := zC_of rfl rfl rfl
theorem u121_11 {d : Nat} {Q : Int → zM → Prop} {lv st : List zV} {μ : zM} : zR d 121 Q 11 lv st μ ↔ zB (zC d) Q (zR d 121 Q) k121_11 lv st μ := zR_of rfl
theorem u121_23 {d : Nat} {Q : Int → zM → Prop} {lv st : List zV} {μ : zM} : zR d 121 Q 23 lv st μ ↔ zB (zC d) Q (zR d 121 Q) k121_23 lv st μ := zR_of rfl
theorem u121_24 {d : Nat} {Q : Int → zM → Prop} {lv st : List zV} {μ : zM} : zR d 121 Q 24 lv st μ ↔ zB (zC d) Q (zR d 121 Q) k121_24 lv st μ := zR_of rfl
theorem e122 {d : Nat} {a0 a1 : Int} {μ : zM} {P : Int → zM → Prop} : zC (d + 1) 122 [(2, a0), (0, a1)] μ P ↔ zB (zC d) P (zR d 122 P) k122_0 [(2, a0), (0, a1), (9, 0), (9, 0), (9, 0)] [] μ := zC_of rfl rfl rfl
theorem u122_10 {d : Nat} {Q : Int → zM → Prop} {lv st : List zV} {μ : zM} : zR d 122 Q 10 lv st μ ↔ zB (zC d) Q (zR d 122 Q) k122_10 lv st μ := zR_of rfl
theorem u122_18 {d : Nat} {Q : Int → zM → Prop} {lv st : List zV} {μ : zM} : zR d 122 Q 18 lv st μ ↔ zB (zC d) Q (zR d 122 Q) k122_18 lv st μ := zR_of rfl
theorem u122_57 {d : Nat} {Q : Int → zM → Prop} {lv st : List zV} {μ : zM} : zR d 122 Q 57 lv st μ ↔ zB (zC d) Q (zR d 122 Q) k122_57 lv st μ := zR_of rfl
theorem u122_59 {d : Nat} {Q : Int → zM → Prop} {lv st : List zV} {μ : zM} : zR d 122 Q 59 lv st μ ↔ zB (zC d) Q (zR d 122 Q) k122_59 lv st μ := zR_of rfl
theorem u122_63 {d : Nat} {Q : Int → zM → Prop} {lv st : List zV} {μ : zM} : zR d 122 Q 63 lv st μ ↔ zB (zC d) Q (zR d 122 Q) k122_63 lv st μ := zR_of rfl
theorem u122_69 {d : Nat} {Q : Int → zM → Prop} {lv st : List zV} {μ : zM} : zR d 122 Q 69 lv st μ ↔ zB (zC d) Q (zR d 122 Q) k122_69 lv st μ := zR_of rfl
theorem u122_78 {d : Nat} {Q : Int → zM → Prop} {lv st : List zV} {μ : zM} : zR d 122 Q 78 lv st μ ↔ zB (zC d) Q (zR d 122 Q) k122_78 lv st μ := zR_of rfl
theorem u122_80 {d : Nat} {Q : Int → zM → Prop} {lv st : List zV} {μ : zM} : zR d 122 Q 80 lv st μ ↔ zB (zC d) Q (zR d 122 Q) k122_80 lv st μ := zR_of rfl
theorem e123 {d : Nat} {a0 a1 : Int} {μ : zM} {P : Int → zM → Prop} : zC (d + 1) 123 [(2, a0), (0, a1)] μ P ↔ zB (zC d) P (zR d 123 P) k123_0 [(2, a0), (0, a1), (9, 0)] [] μ := zC_of rfl rfl rfl
theorem u123_2 {d : Nat} {Q : Int → zM → Prop} {lv st : List zV} {μ : zM} : zR d 123 Q 2 lv st μ ↔ zB (zC d) Q (zR d 123 Q) k123_2 lv st μ := zR_of rfl
theorem u123_21 {d : Nat} {Q : Int → zM → Prop} {lv st : List zV} {μ : zM} : zR d 123 Q 21 lv st μ ↔ zB (zC d) Q (zR d 123 Q) k123_21 lv st μ := zR_of rfl
theorem u123_22 {d : Nat} {Q : Int → zM → Prop} {lv st : List zV} {μ : zM} : zR d 123 Q 22 lv st μ ↔ zB (zC d) Q (zR d 123 Q) k123_22 lv st μ := zR_of rfl
theorem u123_33 {d : Nat} {Q : Int → zM → Prop} {lv st : List zV} {μ : zM} : zR d 123 Q 33 lv st μ ↔ zB (zC d) Q (zR d 123 Q) k123_33 lv st μ := zR_of rfl
theorem e124 {d : Nat} {a0 a1 : Int} {μ : zM} {P : Int → zM → Prop} : zC (d + 1) 124 [(2, a0), (0, a1)] μ P ↔ zB (zC d) P (zR d 124 P) k124_0 [(2, a0), (0, a1), (9, 0), (9, 0)] [] μ := zC_of rfl rfl rfl
theorem u124_2 {d : Nat} {Q : Int → zM → Prop} {lv st : List zV} {μ : zM} : zR d 124 Q 2 lv st μ ↔ zB (zC d) Q (zR d 124 Q) k124_2 lv st μ := zR_of rfl
theorem u124_21 {d : Nat} {Q : Int → zM → Prop} {lv st : List zV} {μ : zM} : zR d 124 Q 21 lv st μ ↔ zB (zC d) Q (zR d 124 Q) k124_21 lv st μ := zR_of rfl
theorem u124_61 {d : Nat} {Q : Int → zM → Prop} {lv st : List zV} {μ : zM} : zR d 124 Q 61 lv st μ ↔ zB (zC d) Q (zR d 124 Q) k124_61 lv st μ := zR_of rfl
theorem u124_67 {d : Nat} {Q : Int → zM → Prop} {lv st : List zV} {μ : zM} : zR d 124 Q 67 lv st μ ↔ zB (zC d) Q (zR d 124 Q) k124_67 lv st μ := zR_of rfl
theorem e125 {d : Nat} {a0 a1 a2 a3 : Int} {μ : zM} {P : Int → zM → Prop} : zC (d + 1) 125 [(2, a0), (0, a1), (0, a2), (0, a3)] μ P ↔ zB (zC d) P (zR d 125 P) k125_0 [(2, a0), (0, a1), (0, a2), (0, a3), (9, 0)] [] μ := zC_of rfl rfl rfl
theorem u125_28 {d : Nat} {Q : Int → zM → Prop} {lv st : List zV} {μ : zM} : zR d 125 Q 28 lv st μ ↔ zB (zC d) Q (zR d 125 Q) k125_28 lv st μ := zR_of rfl
theorem u125_32 {d : Nat} {Q : Int → zM → Prop} {lv st : List zV} {μ : zM} : zR d 125 Q 32 lv st μ ↔ zB (zC d) Q (zR d 125 Q) k125_32 lv st μ := zR_of rfl
theorem u125_40 {d : Nat} {Q : Int → zM → Prop} {lv st : List zV} {μ : zM} : zR d 125 Q 40 lv st μ ↔ zB (zC d) Q (zR d 125 Q) k125_40 lv st μ := zR_of rfl
theorem u125_57 {d : Nat} {Q : Int → zM → Prop} {lv st : List zV} {μ : zM} : zR d 125 Q 57 lv st μ ↔ zB (zC d) Q (zR d 125 Q) k125_57 lv st μ := zR_of rfl
theorem e126 {d : Nat} {a0 a1 : Int} {μ : zM} {P : Int → zM → Prop} : zC (d + 1) 126 [(2, a0), (0, a1)] μ P ↔ zB (zC d) P (zR d 126 P) k126_0 [(2, a0), (0, a1)] [] μ := zC_of rfl rfl rfl
theorem u126_15 {d : Nat} {Q : Int → zM → Prop} {lv st : List zV} {μ : zM} : zR d 126 Q 15 lv st μ ↔ zB (zC d) Q (zR d 126 Q) k126_15 lv st μ := zR_of rfl
theorem u126_27 {d : Nat} {Q : Int → zM → Prop} {lv st : List zV} {μ : zM} : zR d 126 Q 27 lv st μ ↔ zB (zC d) Q (zR d 126 Q) k126_27 lv st μ := zR_of rfl
theorem e127 {d : Nat} {a0 a1 a2 : Int} {μ : zM} {P : Int → zM → Prop} : zC (d + 1) 127 [(2, a0), (0, a1), (0, a2)] μ P ↔ zB (zC d) P (zR d 127 P) k127_0 [(2, a0), (0, a1), (0, a2)] [] μ := zC_of rfl rfl rfl
theorem u127_35 {d : Nat} {Q : Int → zM → Prop} {lv st : List zV} {μ : zM} : zR d 127 Q 35 lv st μ ↔ zB (zC d) Q (zR d 127 Q) k127_35 lv st μ := zR_of rfl
theorem u127_36 {d : Nat} {Q : Int → zM → Prop} {lv st : List zV} {μ : zM} : zR d 127 Q 36 lv st μ ↔ zB (zC d) Q (zR d 127 Q) k127_36 lv st μ := zR_of rfl
theorem e128 {d : Nat} {a0 : Int} {μ : zM} {P : Int → zM → Prop} : zC (d + 1) 128 [(2, a0)] μ P ↔ zB (zC d) P (zR d 128 P) k128_0 [(2, a0)] [] μ := zC_of rfl rfl rfl
theorem u128_15 {d : Nat} {Q : Int → zM → Prop} {lv st : List zV} {μ : zM} : zR d 128 Q 15 lv st μ ↔ zB (zC d) Q (zR d 128 Q) k128_15 lv st μ := zR_of rfl
theorem u128_19 {d : Nat} {Q : Int → zM → Prop} {lv st : List zV} {μ : zM} : zR d 128 Q 19 lv st μ ↔ zB (zC d) Q (zR d 128 Q) k128_19 lv st μ := zR_of rfl
theorem e129 {d : Nat} {a0 a1 : Int} {μ : zM} {P : Int → zM → Prop} : zC (d + 1) 129 [(2, a0), (0, a1)] μ P ↔ zB (zC d) P (zR d 129 P) k129_0 [(2, a0), (0, a1)] [] μ := zC_of rfl rfl rfl
theorem u129_29 {d : Nat} {Q : Int → zM → Prop} {lv st : List zV} {μ : zM} : zR d 129 Q 29 lv st μ ↔ zB (zC d) Q (zR d 129 Q) k129_29 lv st μ := zR_of rfl
theorem u129_35 {d : Nat} {Q : Int → zM → Prop} {lv st : List zV} {μ : zM} : zR d 129 Q 35 lv st μ ↔ zB (zC d) Q (zR d 129 Q) k129_35 lv st μ := zR_of rfl
theorem e130 {d : Nat} {a0 a1 : Int} {μ : zM} {P : Int → zM → Prop} : zC (d + 1) 130 [(2, a0), (0, a1)] μ P ↔ zB (zC d) P (zR d 130 P) k130_0 [(2, a0), (0, a1)] [] μ := zC_of rfl rfl rfl
theorem u130_29 {d : Nat} {Q : Int → zM → Prop} {lv st : List zV} {μ : zM} : zR d 130 Q 29 lv st μ ↔ zB (zC d) Q (zR d 130 Q) k130_29 lv st μ := zR_of rfl
theorem u130_33 {d : Nat} {Q : Int → zM → Prop} {lv st : List zV} {μ : zM} : zR d 130 Q 33 lv st μ ↔ zB (zC d) Q (zR d 130 Q) k130_33 lv st μ := zR_of rfl
theorem e131 {d : Nat} {a0 a1 a2 a3 : Int} {μ : zM} {P : Int → zM → Prop} : zC (d + 1) 131 [(2, a0), (0, a1), (0, a2), (0, a3)] μ P ↔ zB (zC d) P (zR d 131 P) k131_0 [(2, a0), (0, a1), (0, a2), (0, a3), (9, 0), (9, 0)] [] μ := zC_of rfl rfl rfl
theorem u131_43 {d : Nat} {Q : Int → zM → Prop} {lv st : List zV} {μ : zM} : zR d 131 Q 43 lv st μ ↔ zB (zC d) Q (zR d 131 Q) k131_43 lv st μ := zR_of rfl
theorem u131_96 {d : Nat} {Q : Int → zM → Prop} {lv st : List zV} {μ : zM} : zR d 131 Q 96 lv st μ ↔ zB (zC d) Q (zR d 131 Q) k131_96 lv st μ := zR_of rfl
theorem u131_127 {d : Nat} {Q : Int → zM → Prop} {lv st : List zV} {μ : zM} : zR d 131 Q 127 lv st μ ↔ zB (zC d) Q (zR d 131 Q) k131_127 lv st μ := zR_of rfl
theorem u131_137 {d : Nat} {Q : Int → zM → Prop} {lv st : List zV} {μ : zM} : zR d 131 Q 137 lv st μ ↔ zB (zC d) Q (zR d 131 Q) k131_137 lv st μ := zR_of rfl
theorem e132 {d : Nat} {a0 a1 a2 a3 : Int} {μ : zM} {P : Int → zM → Prop} : zC (d + 1) 132 [(2, a0), (0, a1), (0, a2), (0, a3)] μ P ↔ zB (zC d) P (zR d 132 P) k132_0 [(2, a0), (0, a1), (0, a2), (0, a3), (9, 0)] [] μ := zC_of rfl rfl rfl
theorem u132_3 {d : Nat} {Q : Int → zM → Prop} {lv st : List zV} {μ : zM} : zR d 132 Q 3 lv st μ ↔ zB (zC d) Q (zR d 132 Q) k132_3 lv st μ := zR_of rfl
theorem u132_23 {d : Nat} {Q : Int → zM → Prop} {lv st : List zV} {μ : zM} : zR d 132 Q 23 lv st μ ↔ zB (zC d) Q (zR d 132 Q) k132_23 lv st μ := zR_of rfl
theorem u132_57 {d : Nat} {Q : Int → zM → Prop} {lv st : List zV} {μ : zM} : zR d 132 Q 57 lv st μ ↔ zB (zC d) Q (zR d 132 Q) k132_57 lv st μ := zR_of rfl
theorem u132_71 {d : Nat} {Q : Int → zM → Prop} {lv st : List zV} {μ : zM} : zR d 132 Q 71 lv st μ ↔ zB (zC d) Q (zR d 132 Q) k132_71 lv st μ := zR_of rfl
theorem u132_109 {d : Nat} {Q : Int → zM → Prop} {lv st : List zV} {μ : zM} : zR d 132 Q 109 lv st μ ↔ zB (zC d) Q (zR d 132 Q) k132_109 lv st μ := zR_of rfl
theorem e133 {d : Nat} {a0 a1 : Int} {μ : zM} {P : Int → zM → Prop} : zC (d + 1) 133 [(2, a0), (0, a1)] μ P ↔ zB (zC d) P (zR d 133 P) k133_0 [(2, a0), (0, a1), (9, 0), (9, 0), (9, 0), (9, 0)] [] μ := zC_of rfl rfl rfl
theorem u133_12 {d : Nat} {Q : Int → zM → Prop} {lv st : List zV} {μ : zM} : zR d 133 Q 12 lv st μ ↔ zB (zC d) Q (zR d 133 Q) k133_12 lv st μ := zR_of rfl
theorem u133_34 {d : Nat} {Q : Int → zM → Prop} {lv st : List zV} {μ : zM} : zR d 133 Q 34 lv st μ ↔ zB (zC d) Q (zR d 133 Q) k133_34 lv st μ := zR_of rfl
theorem u133_44 {d : Nat} {Q : Int → zM → Prop} {lv st : List zV} {μ : zM} : zR d 133 Q 44 lv st μ ↔ zB (zC d) Q (zR d 133 Q) k133_44 lv st μ := zR_of rfl
theorem u133_80 {d : Nat} {Q : Int → zM → Prop} {lv st : List zV} {μ : zM} : zR d 133 Q 80 lv st μ ↔ zB (zC d) Q (zR d 133 Q) k133_80 lv st μ := zR_of rfl
theorem u133_136 {d : Nat} {Q : Int → zM → Prop} {lv st : List zV} {μ : zM} : zR d 133 Q 136 lv st μ ↔ zB (zC d) Q (zR d 133 Q) k133_136 lv st μ := zR_of rfl
theorem u133_142 {d : Nat} {Q : Int → zM → Prop} {lv st : List zV} {μ : zM} : zR d 133 Q 142 lv st μ ↔ zB (zC d) Q (zR d 133 Q) k133_142 lv st μ := zR_of rfl
theorem e134 {d : Nat} {a0 : Int} {μ : zM} {P : Int → zM → Prop} : zC (d + 1) 134 [(2, a0)] μ P ↔ zB (zC d) P (zR d 134 P) k134_0 [(2, a0), (9, 0)] [] μ := zC_of rfl rfl rfl
theorem u134_19 {d : Nat} {Q : Int → zM → Prop} {lv st : List zV} {μ : zM} : zR d 134 Q 19 lv st μ ↔ zB (zC d) Q (zR d 134 Q) k134_19 lv st μ := zR_of rfl
theorem u134_35 {d : Nat} {Q : Int → zM → Prop} {lv st : List zV} {μ : zM} : zR d 134 Q 35 lv st μ ↔ zB (zC d) Q (zR d 134 Q) k134_35 lv st μ := zR_of rfl
theorem u134_42 {d : Nat} {Q : Int → zM → Prop} {lv st : List zV} {μ : zM} : zR d 134 Q 42 lv st μ ↔ zB (zC d) Q (zR d 134 Q) k134_42 lv st μ := zR_of rfl
theorem e135 {d : Nat} {a0 : Int} {μ : zM} {P : Int → zM → Prop} : zC (d + 1) 135 [(0, a0)] μ P ↔ zB (zC d) P (zR d 135 P) k135_0 [(0, a0)] [] μ := zC_of rfl rfl rfl
theorem e136 {d : Nat} {a0 a1 : Int} {μ : zM} {P : Int → zM → Prop} : zC (d + 1) 136 [(0, a0), (0, a1)] μ P ↔ zB (zC d) P (zR d 136 P) k136_0 [(0, a0), (0, a1)] [] μ := zC_of rfl rfl rfl
theorem e137 {d : Nat} {a0 a1 : Int} {μ : zM} {P : Int → zM → Prop} : zC (d + 1) 137 [(2, a0), (0, a1)] μ P ↔ zB (zC d) P (zR d 137 P) k137_0 [(2, a0), (0, a1)] [] μ := zC_of rfl rfl rfl
theorem u137_9 {d : Nat} {Q : Int → zM → Prop} {lv st : List zV} {μ : zM} : zR d 137 Q 9 lv st μ ↔ zB (zC d) Q (zR d 137 Q) k137_9 lv st μ := zR_of rfl
theorem u137_43 {d : Nat} {Q : Int → zM → Prop} {lv st : List zV} {μ : zM} : zR d 137 Q 43 lv st μ ↔ zB (zC d) Q (zR d 137 Q) k137_43 lv st μ := zR_of rfl
theorem u137_63 {d : Nat} {Q : Int → zM → Prop} {lv st : List zV} {μ : zM} : zR d 137 Q 63 lv st μ ↔ zB (zC d) Q (zR d 137 Q) k137_63 lv st μ := zR_of rfl
theorem e138 {d : Nat} {a0 a1 a2 : Int} {μ : zM} {P : Int → zM → Prop} : zC (d + 1) 138 [(2, a0), (0, a1), (0, a2)] μ P ↔ zB (zC d) P (zR d 138 P) k138_0 [(2, a0), (0, a1), (0, a2)] [] μ := zC_of rfl rfl rfl
theorem u138_28 {d : Nat} {Q : Int → zM → Prop} {lv st : List zV} {μ : zM} : zR d 138 Q 28 lv st μ ↔ zB (zC d) Q (zR d 138 Q) k138_28 lv st μ := zR_of rfl
theorem u138_29 {d : Nat} {Q : Int → zM → Prop} {lv st : List zV} {μ : zM} : zR d 138 Q 29 lv st μ ↔ zB (zC d) Q (zR d 138 Q) k138_29 lv st μ := zR_of rfl
theorem e139 {d : Nat} {a0 a1 a2 a3 : Int} {μ : zM} {P : Int → zM → Prop} : zC (d + 1) 139 [(2, a0), (0, a1), (0, a2), (0, a3)] μ P ↔ zB (zC d) P (zR d 139 P) k139_0 [(2, a0), (0, a1), (0, a2), (0, a3), (9, 0)] [] μ := zC_of rfl rfl rfl
theorem u139_15 {d : Nat} {Q : Int → zM → Prop} {lv st : List zV} {μ : zM} : zR d 139 Q 15 lv st μ ↔ zB (zC d) Q (zR d 139 Q) k139_15 lv st μ := zR_of rfl
theorem u139_17 {d : Nat} {Q : Int → zM → Prop} {lv st : List zV} {μ : zM} : zR d 139 Q 17 lv st μ ↔ zB (zC d) Q (zR d 139 Q) k139_17 lv st μ := zR_of rfl
theorem u139_32 {d : Nat} {Q : Int → zM → Prop} {lv st : List zV} {μ : zM} : zR d 139 Q 32 lv st μ ↔ zB (zC d) Q (zR d 139 Q) k139_32 lv st μ := zR_of rfl
theorem e140 {d : Nat} {a0 a1 a2 : Int} {μ : zM} {P : Int → zM → Prop} : zC (d + 1) 140 [(2, a0), (0, a1), (0, a2)] μ P ↔ zB (zC d) P (zR d 140 P) k140_0 [(2, a0), (0, a1), (0, a2), (9, 0), (9, 0), (9, 0), (9, 0)] [] μ := zC_of rfl rfl rfl
theorem u140_14 {d : Nat} {Q : Int → zM → Prop} {lv st : List zV} {μ : zM} : zR d 140 Q 14 lv st μ ↔ zB (zC d) Q (zR d 140 Q) k140_14 lv st μ := zR_of rfl
theorem u140_16 {d : Nat} {Q : Int → zM → Prop} {lv st : List zV} {μ : zM} : zR d 140 Q 16 lv st μ ↔ zB (zC d) Q (zR d 140 Q) k140_16 lv st μ := zR_of rfl
theorem u140_21 {d : Nat} {Q : Int → zM → Prop} {lv st : List zV} {μ : zM} : zR d 140 Q 21 lv st μ ↔ zB (zC d) Q (zR d 140 Q) k140_21 lv st μ := zR_of rfl
theorem u140_43 {d : Nat} {Q : Int → zM → Prop} {lv st : List zV} {μ : zM} : zR d 140 Q 43 lv st μ ↔ zB (zC d) Q (zR d 140 Q) k140_43 lv st μ := zR_of rfl
theorem u140_57 {d : Nat} {Q : Int → zM → Prop} {lv st : List zV} {μ : zM} : zR d 140 Q 57 lv st μ ↔ zB (zC d) Q (zR d 140 Q) k140_57 lv st μ := zR_of rfl
theorem u140_121 {d : Nat} {Q : Int → zM → Prop} {lv st : List zV} {μ : zM} : zR d 140 Q 121 lv st μ ↔ zB (zC d) Q (zR d 140 Q) k140_121 lv st μ := zR_of rfl
theorem u140_127 {d : Nat} {Q : Int → zM → Prop} {lv st : List zV} {μ : zM} : zR d 140 Q 127 lv st μ ↔ zB (zC d) Q (zR d 140 Q) k140_127 lv st μ := zR_of rfl
theorem u140_149 {d : Nat} {Q : Int → zM → Prop} {lv st : List zV} {μ : zM} : zR d 140 Q 149 lv st μ ↔ zB (zC d) Q (zR d 140 Q) k140_149 lv st μ := zR_of rfl
theorem u140_150 {d : Nat} {Q : Int → zM → Prop} {lv st : List zV} {μ : zM} : zR d 140 Q 150 lv st μ ↔ zB (zC d) Q (zR d 140 Q) k140_150 lv st μ := zR_of rfl
theorem u140_157 {d : Nat} {Q : Int → zM → Prop} {lv st : List zV} {μ : zM} : zR d 140 Q 157 lv st μ ↔ zB (zC d) Q (zR d 140 Q) k140_157 lv st μ := zR_of rfl
theorem u140_163 {d : Nat} {Q : Int → zM → Prop} {lv st : List zV} {μ : zM} : zR d 140 Q 163 lv st μ ↔ zB (zC d) Q (zR d 140 Q) k140_163 lv st μ := zR_of rfl
theorem u140_217 {d : Nat} {Q : Int → zM → Prop} {lv st : List zV} {μ : zM} : zR d 140 Q 217 lv st μ ↔ zB (zC d) Q (zR d 140 Q) k140_217 lv st μ := zR_of rfl
theorem u140_226 {d : Nat} {Q : Int → zM → Prop} {lv st : List zV} {μ : zM} : zR d 140 Q 226 lv st μ ↔ zB (zC d) Q (zR d 140 Q) k140_226 lv st μ := zR_of rfl
theorem u140_228 {d : Nat} {Q : Int → zM → Prop} {lv st : List zV} {μ : zM} : zR d 140 Q 228 lv st μ ↔ zB (zC d) Q (zR d 140 Q) k140_228 lv st μ := zR_of rfl
theorem e141 {d : Nat} {a0 a1 : Int} {μ : zM} {P : Int → zM → Prop} : zC (d + 1) 141 [(2, a0), (0, a1)] μ P ↔ zB (zC d) P (zR d 141 P) k141_0 [(2, a0), (0, a1)] [] μ := zC_of rfl rfl rfl
theorem e142 {d : Nat} {a0 a1 : Int} {μ : zM} {P : Int → zM → Prop} : zC (d + 1) 142 [(2, a0), (0, a1)] μ P ↔ zB (zC d) P (zR d 142 P) k142_0 [(2, a0), (0, a1), (9, 0), (9, 0), (9, 0), (9, 0)] [] μ := zC_of rfl rfl rfl
theorem u142_4 {d : Nat} {Q : Int → zM → Prop} {lv st : List zV} {μ : zM} : zR d 142 Q 4 lv st μ ↔ zB (zC d) Q (zR d 142 Q) k142_4 lv st μ := zR_of rfl
theorem u142_17 {d : Nat} {Q : Int → zM → Prop} {lv st : List zV} {μ : zM} : zR d 142 Q 17 lv st μ ↔ zB (zC d) Q (zR d 142 Q) k142_17 lv st μ := zR_of rfl
theorem u142_31 {d : Nat} {Q : Int → zM → Prop} {lv st : List zV} {μ : zM} : zR d 142 Q 31 lv st μ ↔ zB (zC d) Q (zR d 142 Q) k142_31 lv st μ := zR_of rfl
theorem u142_73 {d : Nat} {Q : Int → zM → Prop} {lv st : List zV} {μ : zM} : zR d 142 Q 73 lv st μ ↔ zB (zC d) Q (zR d 142 Q) k142_73 lv st μ := zR_of rfl
theorem u142_74 {d : Nat} {Q : Int → zM → Prop} {lv st : List zV} {μ : zM} : zR d 142 Q 74 lv st μ ↔ zB (zC d) Q (zR d 142 Q) k142_74 lv st μ := zR_of rfl
theorem u142_88 {d : Nat} {Q : Int → zM → Prop} {lv st : List zV} {μ : zM} : zR d 142 Q 88 lv st μ ↔ zB (zC d) Q (zR d 142 Q) k142_88 lv st μ := zR_of rfl
theorem u142_94 {d : Nat} {Q : Int → zM → Prop} {lv st : List zV} {μ : zM} : zR d 142 Q 94 lv st μ ↔ zB (zC d) Q (zR d 142 Q) k142_94 lv st μ := zR_of rfl
theorem u142_100 {d : Nat} {Q : Int → zM → Prop} {lv st : List zV} {μ : zM} : zR d 142 Q 100 lv st μ ↔ zB (zC d) Q (zR d 142 Q) k142_100 lv st μ := zR_of rfl
theorem e143 {d : Nat} {a0 a1 : Int} {μ : zM} {P : Int → zM → Prop} : zC (d + 1) 143 [(2, a0), (0, a1)] μ P ↔ zB (zC d) P (zR d 143 P) k143_0 [(2, a0), (0, a1)] [] μ := zC_of rfl rfl rfl
theorem u143_23 {d : Nat} {Q : Int → zM → Prop} {lv st : List zV} {μ : zM} : zR d 143 Q 23 lv st μ ↔ zB (zC d) Q (zR d 143 Q) k143_23 lv st μ := zR_of rfl
theorem u143_24 {d : Nat} {Q : Int → zM → Prop} {lv st : List zV} {μ : zM} : zR d 143 Q 24 lv st μ ↔ zB (zC d) Q (zR d 143 Q) k143_24 lv st μ := zR_of rfl
theorem e144 {d : Nat} {a0 a1 : Int} {μ : zM} {P : Int → zM → Prop} : zC (d + 1) 144 [(2, a0), (0, a1)] μ P ↔ zB (zC d) P (zR d 144 P) k144_0 [(2, a0), (0, a1)] [] μ := zC_of rfl rfl rfl
theorem u144_19 {d : Nat} {Q : Int → zM → Prop} {lv st : List zV} {μ : zM} : zR d 144 Q 19 lv st μ ↔ zB (zC d) Q (zR d 144 Q) k144_19 lv st μ := zR_of rfl
theorem u144_21 {d : Nat} {Q : Int → zM → Prop} {lv st : List zV} {μ : zM} : zR d 144 Q 21 lv st μ ↔ zB (zC d) Q (zR d 144 Q) k144_21 lv st μ := zR_of rfl
theorem e145 {d : Nat} {a0 a1 : Int} {μ : zM} {P : Int → zM → Prop} : zC (d + 1) 145 [(2, a0), (0, a1)] μ P ↔ zB (zC d) P (zR d 145 P) k145_0 [(2, a0), (0, a1), (9, 0), (9, 0)] [] μ := zC_of rfl rfl rfl
theorem u145_4 {d : Nat} {Q : Int → zM → Prop} {lv st : List zV} {μ : zM} : zR d 145 Q 4 lv st μ ↔ zB (zC d) Q (zR d 145 Q) k145_4 lv st μ := zR_of rfl
theorem u145_27 {d : Nat} {Q : Int → zM → Prop} {lv st : List zV} {μ : zM} : zR d 145 Q 27 lv st μ ↔ zB (zC d) Q (zR d 145 Q) k145_27 lv st μ := zR_of rfl
theorem u145_30 {d : Nat} {Q : Int → zM → Prop} {lv st : List zV} {μ : zM} : zR d 145 Q 30 lv st μ ↔ zB (zC d) Q (zR d 145 Q) k145_30 lv st μ := zR_of rfl
theorem u145_36 {d : Nat} {Q : Int → zM → Prop} {lv st : List zV} {μ : zM} : zR d 145 Q 36 lv st μ ↔ zB (zC d) Q (zR d 145 Q) k145_36 lv st μ := zR_of rfl
theorem u145_45 {d : Nat} {Q : Int → zM → Prop} {lv st : List zV} {μ : zM} : zR d 145 Q 45 lv st μ ↔ zB (zC d) Q (zR d 145 Q) k145_45 lv st μ := zR_of rfl
theorem u145_47 {d : Nat} {Q : Int → zM → Prop} {lv st : List zV} {μ : zM} : zR d 145 Q 47 lv st μ ↔ zB (zC d) Q (zR d 145 Q) k145_47 lv st μ := zR_of rfl
theorem e146 {d : Nat} {a0 a1 : Int} {μ : zM} {P : Int → zM → Prop} : zC (d + 1) 146 [(2, a0), (0, a1)] μ P ↔ zB (zC d) P (zR d 146 P) k146_0 [(2, a0), (0, a1), (9, 0), (9, 0)] [] μ := zC_of rfl rfl rfl
theorem u146_11 {d : Nat} {Q : Int → zM → Prop} {lv st : List zV} {μ : zM} : zR d 146 Q 11 lv st μ ↔ zB (zC d) Q (zR d 146 Q) k146_11 lv st μ := zR_of rfl
theorem u146_17 {d : Nat} {Q : Int → zM → Prop} {lv st : List zV} {μ : zM} : zR d 146 Q 17 lv st μ ↔ zB (zC d) Q (zR d 146 Q) k146_17 lv st μ := zR_of rfl
theorem u146_35 {d : Nat} {Q : Int → zM → Prop} {lv st : List zV} {μ : zM} : zR d 146 Q 35 lv st μ ↔ zB (zC d) Q (zR d 146 Q) k146_35 lv st μ := zR_of rfl
theorem e147 {d : Nat} {a0 a1 a2 a3 : Int} {μ : zM} {P : Int → zM → Prop} : zC (d + 1) 147 [(2, a0), (0, a1), (0, a2), (0, a3)] μ P ↔ zB (zC d) P (zR d 147 P) k147_0 [(2, a0), (0, a1), (0, a2), (0, a3), (9, 0), (9, 0), (9, 0)] [] μ := zC_of rfl rfl rfl
theorem u147_6 {d : Nat} {Q : Int → zM → Prop} {lv st : List zV} {μ : zM} : zR d 147 Q 6 lv st μ ↔ zB (zC d) Q (zR d 147 Q) k147_6 lv st μ := zR_of rfl
theorem u147_40 {d : Nat} {Q : Int → zM → Prop} {lv st : List zV} {μ : zM} : zR d 147 Q 40 lv st μ ↔ zB (zC d) Q (zR d 147 Q) k147_40 lv st μ := zR_of rfl
theorem u147_60 {d : Nat} {Q : Int → zM → Prop} {lv st : List zV} {μ : zM} : zR d 147 Q 60 lv st μ ↔ zB (zC d) Q (zR d 147 Q) k147_60 lv st μ := zR_of rfl
theorem u147_61 {d : Nat} {Q : Int → zM → Prop} {lv st : List zV} {μ : zM} : zR d 147 Q 61 lv st μ ↔ zB (zC d) Q (zR d 147 Q) k147_61 lv st μ := zR_of rfl
theorem u147_70 {d : Nat} {Q : Int → zM → Prop} {lv st : List zV} {μ : zM} : zR d 147 Q 70 lv st μ ↔ zB (zC d) Q (zR d 147 Q) k147_70 lv st μ := zR_of rfl
theorem u147_98 {d : Nat} {Q : Int → zM → Prop} {lv st : List zV} {μ : zM} : zR d 147 Q 98 lv st μ ↔ zB (zC d) Q (zR d 147 Q) k147_98 lv st μ := zR_of rfl
theorem u147_99 {d : Nat} {Q : Int → zM → Prop} {lv st : List zV} {μ : zM} : zR d 147 Q 99 lv st μ ↔ zB (zC d) Q (zR d 147 Q) k147_99 lv st μ := zR_of rfl
theorem e148 {d : Nat} {a0 a1 : Int} {μ : zM} {P : Int → zM → Prop} : zC (d + 1) 148 [(2, a0), (0, a1)] μ P ↔ zB (zC d) P (zR d 148 P) k148_0 [(2, a0), (0, a1), (9, 0), (9, 0)] [] μ := zC_of rfl rfl rfl
theorem u148_2 {d : Nat} {Q : Int → zM → Prop} {lv st : List zV} {μ : zM} : zR d 148 Q 2 lv st μ ↔ zB (zC d) Q (zR d 148 Q) k148_2 lv st μ := zR_of rfl
theorem u148_9 {d : Nat} {Q : Int → zM → Prop} {lv st : List zV} {μ : zM} : zR d 148 Q 9 lv st μ ↔ zB (zC d) Q (zR d 148 Q) k148_9 lv st μ := zR_of rfl
theorem u148_26 {d : Nat} {Q : Int → zM → Prop} {lv st : List zV} {μ : zM} : zR d 148 Q 26 lv st μ ↔ zB (zC d) Q (zR d 148 Q) k148_26 lv st μ := zR_of rfl
theorem u148_32 {d : Nat} {Q : Int → zM → Prop} {lv st : List zV} {μ : zM} : zR d 148 Q 32 lv st μ ↔ zB (zC d) Q (zR d 148 Q) k148_32 lv st μ := zR_of rfl
theorem u148_38 {d : Nat} {Q : Int → zM → Prop} {lv st : List zV} {μ : zM} : zR d 148 Q 38 lv st μ ↔ zB (zC d) Q (zR d 148 Q) k148_38 lv st μ := zR_of rfl
theorem e149 {d : Nat} {a0 a1 : Int} {μ : zM} {P : Int → zM → Prop} : zC (d + 1) 149 [(2, a0), (0, a1)] μ P ↔ zB (zC d) P (zR d 149 P) k149_0 [(2, a0), (0, a1), (9, 0)] [] μ := zC_of rfl rfl rfl
theorem u149_40 {d : Nat} {Q : Int → zM → Prop} {lv st : List zV} {μ : zM} : zR d 149 Q 40 lv st μ ↔ zB (zC d) Q (zR d 149 Q) k149_40 lv st μ := zR_of rfl
theorem u149_42 {d : Nat} {Q : Int → zM → Prop} {lv st : List zV} {μ : zM} : zR d 149 Q 42 lv st μ ↔ zB (zC d) Q (zR d 149 Q) k149_42 lv st μ := zR_of rfl
theorem u149_70 {d : Nat} {Q : Int → zM → Prop} {lv st : List zV} {μ : zM} : zR d 149 Q 70 lv st μ ↔ zB (zC d) Q (zR d 149 Q) k149_70 lv st μ := zR_of rfl
theorem u149_76 {d : Nat} {Q : Int → zM → Prop} {lv st : List zV} {μ : zM} : zR d 149 Q 76 lv st μ ↔ zB (zC d) Q (zR d 149 Q) k149_76 lv st μ := zR_of rfl
theorem e150 {d : Nat} {a0 : Int} {μ : zM} {P : Int → zM → Prop} : zC (d + 1) 150 [(2, a0)] μ P ↔ zB (zC d) P (zR d 150 P) k150_0 [(2, a0)] [] μ := zC_of rfl rfl rfl
theorem e151 {d : Nat} {a0 a1 a2 : Int} {μ : zM} {P : Int → zM → Prop} : zC (d + 1) 151 [(2, a0), (0, a1), (0, a2)] μ P ↔ zB (zC d) P (zR d 151 P) k151_0 [(2, a0), (0, a1), (0, a2)] [] μ := zC_of rfl rfl rfl
theorem u151_14 {d : Nat} {Q : Int → zM → Prop} {lv st : List zV} {μ : zM} : zR d 151 Q 14 lv st μ ↔ zB (zC d) Q (zR d 151 Q) k151_14 lv st μ := zR_of rfl
theorem u151_30 {d : Nat} {Q : Int → zM → Prop} {lv st : List zV} {μ : zM} : zR d 151 Q 30 lv st μ ↔ zB (zC d) Q (zR d 151 Q) k151_30 lv st μ := zR_of rfl
theorem u151_59 {d : Nat} {Q : Int → zM → Prop} {lv st : List zV} {μ : zM} : zR d 151 Q 59 lv st μ ↔ zB (zC d) Q (zR d 151 Q) k151_59 lv st μ := zR_of rfl
theorem u151_61 {d : Nat} {Q : Int → zM → Prop} {lv st : List zV} {μ : zM} : zR d 151 Q 61 lv st μ ↔ zB (zC d) Q (zR d 151 Q) k151_61 lv st μ := zR_of rfl
theorem e152 {d : Nat} {a0 a1 : Int} {μ : zM} {P : Int → zM → Prop} : zC (d + 1) 152 [(2, a0), (0, a1)] μ P ↔ zB (zC d) P (zR d 152 P) k152_0 [(2, a0), (0, a1), (9, 0), (9, 0)] [] μ := zC_of rfl rfl rfl
theorem u152_23 {d : Nat} {Q : Int → zM → Prop} {lv st : List zV} {μ : zM} : zR d 152 Q 23 lv st μ ↔ zB (zC d) Q (zR d 152 Q) k152_23 lv st μ := zR_of rfl
theorem u152_27 {d : Nat} {Q : Int → zM → Prop} {lv st : List zV} {μ : zM} : zR d 152 Q 27 lv st μ ↔ zB (zC d) Q (zR d 152 Q) k152_27 lv st μ := zR_of rfl
theorem u152_67 {d : Nat} {Q : Int → zM → Prop} {lv st : List zV} {μ : zM} : zR d 152 Q 67 lv st μ ↔ zB (zC d) Q (zR d 152 Q) k152_67 lv st μ := zR_of rfl
theorem e153 {d : Nat} {a0 : Int} {μ : zM} {P : Int → zM → Prop} : zC (d + 1) 153 [(0, a0)] μ P ↔ zB (zC d) P (zR d 153 P) k153_0 [(0, a0), (9, 0)] [] μ := zC_of rfl rfl rfl
theorem u153_2 {d : Nat} {Q : Int → zM → Prop} {lv st : List zV} {μ : zM} : zR d 153 Q 2 lv st μ ↔ zB (zC d) Q (zR d 153 Q) k153_2 lv st μ := zR_of rfl
theorem u153_18 {d : Nat} {Q : Int → zM → Prop} {lv st : List zV} {μ : zM} : zR d 153 Q 18 lv st μ ↔ zB (zC d) Q (zR d 153 Q) k153_18 lv st μ := zR_of rfl
theorem e154 {d : Nat} {a0 a1 a2 : Int} {μ : zM} {P : Int → zM → Prop} : zC (d + 1) 154 [(2, a0), (0, a1), (0, a2)] μ P ↔ zB (zC d) P (zR d 154 P) k154_0 [(2, a0), (0, a1), (0, a2), (9, 0), (9, 0)] [] μ := zC_of rfl rfl rfl
theorem u154_2 {d : Nat} {Q : Int → zM → Prop} {lv st : List zV} {μ : zM} : zR d 154 Q 2 lv st μ ↔ zB (zC d) Q (zR d 154 Q) k154_2 lv st μ := zR_of rfl
theorem u154_45 {d : Nat} {Q : Int → zM → Prop} {lv st : List zV} {μ : zM} : zR d 154 Q 45 lv st μ ↔ zB (zC d) Q (zR d 154 Q) k154_45 lv st μ := zR_of rfl
theorem e155 {d : Nat} {a0 a1 a2 a3 : Int} {μ : zM} {P : Int → zM → Prop} : zC (d + 1) 155 [(2, a0), (2, a1), (0, a2), (0, a3)] μ P ↔ zB (zC d) P (zR d 155 P) k155_0 [(2, a0), (2, a1), (0, a2), (0, a3), (9, 0)] [] μ := zC_of rfl rfl rfl
theorem u155_3 {d : Nat} {Q : Int → zM → Prop} {lv st : List zV} {μ : zM} : zR d 155 Q 3 lv st μ ↔ zB (zC d) Q (zR d 155 Q) k155_3 lv st μ := zR_of rfl
theorem u155_41 {d : Nat} {Q : Int → zM → Prop} {lv st : List zV} {μ : zM} : zR d 155 Q 41 lv st μ ↔ zB (zC d) Q (zR d 155 Q) k155_41 lv st μ := zR_of rfl
theorem e156 {d : Nat} {a0 a1 a2 a3 a4 : Int} {μ : zM} {P : Int → zM → Prop} : zC (d + 1) 156 [(2, a0), (2, a1), (0, a2), (0, a3), (0, a4)] μ P ↔ zB (zC d) P (zR d 156 P) k156_0 [(2, a0), (2, a1), (0, a2), (0, a3), (0, a4), (9, 0)] [] μ := zC_of rfl rfl rfl
theorem u156_3 {d : Nat} {Q : Int → zM → Prop} {lv st : List zV} {μ : zM} : zR d 156 Q 3 lv st μ ↔ zB (zC d) Q (zR d 156 Q) k156_3 lv st μ := zR_of rfl
theorem u156_54 {d : Nat} {Q : Int → zM → Prop} {lv st : List zV} {μ : zM} : zR d 156 Q 54 lv st μ ↔ zB (zC d) Q (zR d 156 Q) k156_54 lv st μ := zR_of rfl
theorem e157 {d : Nat} {a0 : Int} {μ : zM} {P : Int → zM → Prop} : zC (d + 1) 157 [(2, a0)] μ P ↔ zB (zC d) P (zR d 157 P) k157_0 [(2, a0), (9, 0), (9, 0), (9, 0), (9, 0), (9, 0), (9, 0)] [] μ := zC_of rfl rfl rfl
theorem u157_9 {d : Nat} {Q : Int → zM → Prop} {lv st : List zV} {μ : zM} : zR d 157 Q 9 lv st μ ↔ zB (zC d) Q (zR d 157 Q) k157_9 lv st μ := zR_of rfl
theorem u157_33 {d : Nat} {Q : Int → zM → Prop} {lv st : List zV} {μ : zM} : zR d 157 Q 33 lv st μ ↔ zB (zC d) Q (zR d 157 Q) k157_33 lv st μ := zR_of rfl
theorem u157_34 {d : Nat} {Q : Int → zM → Prop} {lv st : List zV} {μ : zM} : zR d 157 Q 34 lv st μ ↔ zB (zC d) Q (zR d 157 Q) k157_34 lv st μ := zR_of rfl
theorem u157_44 {d : Nat} {Q : Int → zM → Prop} {lv st : List zV} {μ : zM} : zR d 157 Q 44 lv st μ ↔ zB (zC d) Q (zR d 157 Q) k157_44 lv st μ := zR_of rfl
theorem u157_46 {d : Nat} {Q : Int → zM → Prop} {lv st : List zV} {μ : zM} : zR d 157 Q 46 lv st μ ↔ zB (zC d) Q (zR d 157 Q) k157_46 lv st μ := zR_of rfl
theorem u157_53 {d : Nat} {Q : Int → zM → Prop} {lv st : List zV} {μ : zM} : zR d 157 Q 53 lv st μ ↔ zB (zC d) Q (zR d 157 Q) k157_53 lv st μ := zR_of rfl
theorem u157_77 {d : Nat} {Q : Int → zM → Prop} {lv st : List zV} {μ : zM} : zR d 157 Q 77 lv st μ ↔ zB (zC d) Q (zR d 157 Q) k157_77 lv st μ := zR_of rfl
theorem u157_84 {d : Nat} {Q : Int → zM → Prop} {lv st : List zV} {μ : zM} : zR d 157 Q 84 lv st μ ↔ zB (zC d) Q (zR d 157 Q) k157_84 lv st μ := zR_of rfl
theorem u157_142 {d : Nat} {Q : Int → zM → Prop} {lv st : List zV} {μ : zM} : zR d 157 Q 142 lv st μ ↔ zB (zC d) Q (zR d 157 Q) k157_142 lv st μ := zR_of rfl
theorem u157_198 {d : Nat} {Q : Int → zM → Prop} {lv st : List zV} {μ : zM} : zR d 157 Q 198 lv st μ ↔ zB (zC d) Q (zR d 157 Q) k157_198 lv st μ := zR_of rfl
theorem u157_204 {d : Nat} {Q : Int → zM → Prop} {lv st : List zV} {μ : zM} : zR d 157 Q 204 lv st μ ↔ zB (zC d) Q (zR d 157 Q) k157_204 lv st μ := zR_of rfl
theorem u157_210 {d : Nat} {Q : Int → zM → Prop} {lv st : List zV} {μ : zM} : zR d 157 Q 210 lv st μ ↔ zB (zC d) Q (zR d 157 Q) k157_210 lv st μ := zR_of rfl
theorem e158 {d : Nat} {a0 a1 a2 a3 : Int} {μ : zM} {P : Int → zM → Prop} : zC (d + 1) 158 [(2, a0), (0, a1), (0, a2), (0, a3)] μ P ↔ zB (zC d) P (zR d 158 P) k158_0 [(2, a0), (0, a1), (0, a2), (0, a3), (9, 0), (9, 0)] [] μ := zC_of rfl rfl rfl
theorem u158_24 {d : Nat} {Q : Int → zM → Prop} {lv st : List zV} {μ : zM} : zR d 158 Q 24 lv st μ ↔ zB (zC d) Q (zR d 158 Q) k158_24 lv st μ := zR_of rfl
theorem u158_26 {d : Nat} {Q : Int → zM → Prop} {lv st : List zV} {μ : zM} : zR d 158 Q 26 lv st μ ↔ zB (zC d) Q (zR d 158 Q) k158_26 lv st μ := zR_of rfl
theorem u158_46 {d : Nat} {Q : Int → zM → Prop} {lv st : List zV} {μ : zM} : zR d 158 Q 46 lv st μ ↔ zB (zC d) Q (zR d 158 Q) k158_46 lv st μ := zR_of rfl
theorem u158_49 {d : Nat} {Q : Int → zM → Prop} {lv st : List zV} {μ : zM} : zR d 158 Q 49 lv st μ ↔ zB (zC d) Q (zR d 158 Q) k158_49 lv st μ := zR_of rfl
theorem u158_63 {d : Nat} {Q : Int → zM → Prop} {lv st : List zV} {μ : zM} : zR d 158 Q 63 lv st μ ↔ zB (zC d) Q (zR d 158 Q) k158_63 lv st μ := zR_of rfl
theorem u158_104 {d : Nat} {Q : Int → zM → Prop} {lv st : List zV} {μ : zM} : zR d 158 Q 104 lv st μ ↔ zB (zC d) Q (zR d 158 Q) k158_104 lv st μ := zR_of rfl
theorem u158_110 {d : Nat} {Q : Int → zM → Prop} {lv st : List zV} {μ : zM} : zR d 158 Q 110 lv st μ ↔ zB (zC d) Q (zR d 158 Q) k158_110 lv st μ := zR_of rfl
theorem u158_120 {d : Nat} {Q : Int → zM → Prop} {lv st : List zV} {μ : zM} : zR d 158 Q 120 lv st μ ↔ zB (zC d) Q (zR d 158 Q) k158_120 lv st μ := zR_of rfl
theorem u158_126 {d : Nat} {Q : Int → zM → Prop} {lv st : List zV} {μ : zM} : zR d 158 Q 126 lv st μ ↔ zB (zC d) Q (zR d 158 Q) k158_126 lv st μ := zR_of rfl
theorem u158_186 {d : Nat} {Q : Int → zM → Prop} {lv st : List zV} {μ : zM} : zR d 158 Q 186 lv st μ ↔ zB (zC d) Q (zR d 158 Q) k158_186 lv st μ := zR_of rfl
theorem e159 {d : Nat} {a0 : Int} {μ : zM} {P : Int → zM → Prop} : zC (d + 1) 159 [(0, a0)] μ P ↔ zB (zC d) P (zR d 159 P) k159_0 [(0, a0)] [] μ := zC_of rfl rfl rfl
theorem e160 {d : Nat} {a0 a1 a2 : Int} {μ : zM} {P : Int → zM → Prop} : zC (d + 1) 160 [(2, a0), (0, a1), (0, a2)] μ P ↔ zB (zC d) P (zR d 160 P) k160_0 [(2, a0), (0, a1), (0, a2)] [] μ := zC_of rfl rfl rfl
theorem e161 {d : Nat} {a0 a1 a2 a3 : Int} {μ : zM} {P : Int → zM → Prop} : zC (d + 1) 161 [(2, a0), (0, a1), (0, a2), (0, a3)] μ P ↔ zB (zC d) P (zR d 161 P) k161_0 [(2, a0), (0, a1), (0, a2), (0, a3), (9, 0)] [] μ := zC_of rfl rfl rfl
theorem u161_14 {d : Nat} {Q : Int → zM → Prop} {lv st : List zV} {μ : zM} : zR d 161 Q 14 lv st μ ↔ zB (zC d) Q (zR d 161 Q) k161_14 lv st μ := zR_of rfl
theorem u161_16 {d : Nat} {Q : Int → zM → Prop} {lv st : List zV} {μ : zM} : zR d 161 Q 16 lv st μ ↔ zB (zC d) Q (zR d 161 Q) k161_16 lv st μ := zR_of rfl
theorem u161_31 {d : Nat} {Q : Int → zM → Prop} {lv st : List zV} {μ : zM} : zR d 161 Q 31 lv st μ ↔ zB (zC d) Q (zR d 161 Q) k161_31 lv st μ := zR_of rfl
theorem e162 {d : Nat} {a0 a1 a2 : Int} {μ : zM} {P : Int → zM → Prop} : zC (d + 1) 162 [(2, a0), (0, a1), (0, a2)] μ P ↔ zB (zC d) P (zR d 162 P) k162_0 [(2, a0), (0, a1), (0, a2), (9, 0)] [] μ := zC_of rfl rfl rfl
theorem u162_9 {d : Nat} {Q : Int → zM → Prop} {lv st : List zV} {μ : zM} : zR d 162 Q 9 lv st μ ↔ zB (zC d) Q (zR d 162 Q) k162_9 lv st μ := zR_of rfl
theorem u162_24 {d : Nat} {Q : Int → zM → Prop} {lv st : List zV} {μ : zM} : zR d 162 Q 24 lv st μ ↔ zB (zC d) Q (zR d 162 Q) k162_24 lv st μ := zR_of rfl
theorem e163 {d : Nat} {a0 : Int} {μ : zM} {P : Int → zM → Prop} : zC (d + 1) 163 [(2, a0)] μ P ↔ zB (zC d) P (zR d 163 P) k163_0 [(2, a0), (9, 0), (9, 0)] [] μ := zC_of rfl rfl rfl
theorem u163_20 {d : Nat} {Q : Int → zM → Prop} {lv st : List zV} {μ : zM} : zR d 163 Q 20 lv st μ ↔ zB (zC d) Q (zR d 163 Q) k163_20 lv st μ := zR_of rfl
theorem u163_22 {d : Nat} {Q : Int → zM → Prop} {lv st : List zV} {μ : zM} : zR d 163 Q 22 lv st μ ↔ zB (zC d) Q (zR d 163 Q) k163_22 lv st μ := zR_of rfl
theorem u163_34 {d : Nat} {Q : Int → zM → Prop} {lv st : List zV} {μ : zM} : zR d 163 Q 34 lv st μ ↔ zB (zC d) Q (zR d 163 Q) k163_34 lv st μ := zR_of rfl
theorem u163_74 {d : Nat} {Q : Int → zM → Prop} {lv st : List zV} {μ : zM} : zR d 163 Q 74 lv st μ ↔ zB (zC d) Q (zR d 163 Q) k163_74 lv st μ := zR_of rfl
theorem u163_80 {d : Nat} {Q : Int → zM → Prop} {lv st : List zV} {μ : zM} : zR d 163 Q 80 lv st μ ↔ zB (zC d) Q (zR d 163 Q) k163_80 lv st μ := zR_of rfl
theorem e164 {d : Nat} {a0 a1 a2 a3 : Int} {μ : zM} {P : Int → zM → Prop} : zC (d + 1) 164 [(2, a0), (0, a1), (0, a2), (0, a3)] μ P ↔ zB (zC d) P (zR d 164 P) k164_0 [(2, a0), (0, a1), (0, a2), (0, a3), (9, 0), (9, 0), (9, 0)] [] μ := zC_of rfl rfl rfl
theorem u164_24 {d : Nat} {Q : Int → zM → Prop} {lv st : List zV} {μ : zM} : zR d 164 Q 24 lv st μ ↔ zB (zC d) Q (zR d 164 Q) k164_24 lv st μ := zR_of rfl
theorem u164_26 {d : Nat} {Q : Int → zM → Prop} {lv st : List zV} {μ : zM} : zR d 164 Q 26 lv st μ ↔ zB (zC d) Q (zR d 164 Q) k164_26 lv st μ := zR_of rfl
theorem u164_52 {d : Nat} {Q : Int → zM → Prop} {lv st : List zV} {μ : zM} : zR d 164 Q 52 lv st μ ↔ zB (zC d) Q (zR d 164 Q) k164_52 lv st μ := zR_of rfl
theorem u164_82 {d : Nat} {Q : Int → zM → Prop} {lv st : List zV} {μ : zM} : zR d 164 Q 82 lv st μ ↔ zB (zC d) Q (zR d 164 Q) k164_82 lv st μ := zR_of rfl
theorem u164_83 {d : Nat} {Q : Int → zM → Prop} {lv st : List zV} {μ : zM} : zR d 164 Q 83 lv st μ ↔ zB (zC d) Q (zR d 164 Q) k164_83 lv st μ := zR_of rfl
theorem u164_91 {d : Nat} {Q : Int → zM → Prop} {lv st : List zV} {μ : zM} : zR d 164 Q 91 lv st μ ↔ zB (zC d) Q (zR d 164 Q) k164_91 lv st μ := zR_of rfl
theorem u164_99 {d : Nat} {Q : Int → zM → Prop} {lv st : List zV} {μ : zM} : zR d 164 Q 99 lv st μ ↔ zB (zC d) Q (zR d 164 Q) k164_99 lv st μ := zR_of rfl
theorem u164_105 {d : Nat} {Q : Int → zM → Prop} {lv st : List zV} {μ : zM} : zR d 164 Q 105 lv st μ ↔ zB (zC d) Q (zR d 164 Q) k164_105 lv st μ := zR_of rfl
theorem u164_174 {d : Nat} {Q : Int → zM → Prop} {lv st : List zV} {μ : zM} : zR d 164 Q 174 lv st μ ↔ zB (zC d) Q (zR d 164 Q) k164_174 lv st μ := zR_of rfl
theorem e165 {d : Nat} {a0 a1 a2 a3 a4 a5 : Int} {μ : zM} {P : Int → zM → Prop} : zC (d + 1) 165 [(2, a0), (2, a1), (2, a2), (0, a3), (2, a4), (0, a5)] μ P ↔ zB (zC d) P (zR d 165 P) k165_0 [(2, a0), (2, a1), (2, a2), (0, a3), (2, a4), (0, a5), (9, 0), (9, 0), (9, 0), (9, 0)] [] μ := zC_of rfl rfl rfl
theorem u165_3 {d : Nat} {Q : Int → zM → Prop} {lv st : List zV} {μ : zM} : zR d 165 Q 3 lv st μ ↔ zB (zC d) Q (zR d 165 Q) k165_3 lv st μ := zR_of rfl
theorem u165_17 {d : Nat} {Q : Int → zM → Prop} {lv st : List zV} {μ : zM} : zR d 165 Q 17 lv st μ ↔ zB (zC d) Q (zR d 165 Q) k165_17 lv st μ := zR_of rfl
theorem u165_34 {d : Nat} {Q : Int → zM → Prop} {lv st : List zV} {μ : zM} : zR d 165 Q 34 lv st μ ↔ zB (zC d) Q (zR d 165 Q) k165_34 lv st μ := zR_of rfl
theorem u165_81 {d : Nat} {Q : Int → zM → Prop} {lv st : List zV} {μ : zM} : zR d 165 Q 81 lv st μ ↔ zB (zC d) Q (zR d 165 Q) k165_81 lv st μ := zR_of rfl
theorem u165_101 {d : Nat} {Q : Int → zM → Prop} {lv st : List zV} {μ : zM} : zR d 165 Q 101 lv st μ ↔ zB (zC d) Q (zR d 165 Q) k165_101 lv st μ := zR_of rfl
theorem u165_107 {d : Nat} {Q : Int → zM → Prop} {lv st : List zV} {μ : zM} : zR d 165 Q 107 lv st μ ↔ zB (zC d) Q (zR d 165 Q) k165_107 lv st μ := zR_of rfl
theorem e166 {d : Nat} {a0 : Int} {μ : zM} {P : Int → zM → Prop} : zC (d + 1) 166 [(2, a0)] μ P ↔ zB (zC d) P (zR d 166 P) k166_0 [(2, a0), (9, 0), (9, 0), (9, 0), (9, 0), (9, 0), (9, 0)] [] μ := zC_of rfl rfl rfl
theorem u166_6 {d : Nat} {Q : Int → zM → Prop} {lv st : List zV} {μ : zM} : zR d 166 Q 6 lv st μ ↔ zB (zC d) Q (zR d 166 Q) k166_6 lv st μ := zR_of rfl
theorem u166_22 {d : Nat} {Q : Int → zM → Prop} {lv st : List zV} {μ : zM} : zR d 166 Q 22 lv st μ ↔ zB (zC d) Q (zR d 166 Q) k166_22 lv st μ := zR_of rfl
theorem u166_73 {d : Nat} {Q : Int → zM → Prop} {lv st : List zV} {μ : zM} : zR d 166 Q 73 lv st μ ↔ zB (zC d) Q (zR d 166 Q) k166_73 lv st μ := zR_of rfl
theorem u166_76 {d : Nat} {Q : Int → zM → Prop} {lv st : List zV} {μ : zM} : zR d 166 Q 76 lv st μ ↔ zB (zC d) Q (zR d 166 Q) k166_76 lv st μ := zR_of rfl
theorem u166_82 {d : Nat} {Q : Int → zM → Prop} {lv st : List zV} {μ : zM} : zR d 166 Q 82 lv st μ ↔ zB (zC d) Q (zR d 166 Q) k166_82 lv st μ := zR_of rfl
theorem u166_90 {d : Nat} {Q : Int → zM → Prop} {lv st : List zV} {μ : zM} : zR d 166 Q 90 lv st μ ↔ zB (zC d) Q (zR d 166 Q) k166_90 lv st μ := zR_of rfl
theorem u166_96 {d : Nat} {Q : Int → zM → Prop} {lv st : List zV} {μ : zM} : zR d 166 Q 96 lv st μ ↔ zB (zC d) Q (zR d 166 Q) k166_96 lv st μ := zR_of rfl
theorem u166_114 {d : Nat} {Q : Int → zM → Prop} {lv st : List zV} {μ : zM} : zR d 166 Q 114 lv st μ ↔ zB (zC d) Q (zR d 166 Q) k166_114 lv st μ := zR_of rfl
theorem u166_115 {d : Nat} {Q : Int → zM → Prop} {lv st : List zV} {μ : zM} : zR d 166 Q 115 lv st μ ↔ zB (zC d) Q (zR d 166 Q) k166_115 lv st μ := zR_of rfl
theorem e167 {d : Nat} {a0 : Int} {μ : zM} {P : Int → zM → Prop} : zC (d + 1) 167 [(2, a0)] μ P ↔ zB (zC d) P (zR d 167 P) k167_0 [(2, a0), (9, 0), (9, 0), (9, 0), (9, 0), (9, 0)] [] μ := zC_of rfl rfl rfl
theorem u167_2 {d : Nat} {Q : Int → zM → Prop} {lv st : List zV} {μ : zM} : zR d 167 Q 2 lv st μ ↔ zB (zC d) Q (zR d 167 Q) k167_2 lv st μ := zR_of rfl
theorem u167_14 {d : Nat} {Q : Int → zM → Prop} {lv st : List zV} {μ : zM} : zR d 167 Q 14 lv st μ ↔ zB (zC d) Q (zR d 167 Q) k167_14 lv st μ := zR_of rfl
theorem u167_60 {d : Nat} {Q : Int → zM → Prop} {lv st : List zV} {μ : zM} : zR d 167 Q 60 lv st μ ↔ zB (zC d) Q (zR d 167 Q) k167_60 lv st μ := zR_of rfl
theorem u167_66 {d : Nat} {Q : Int → zM → Prop} {lv st : List zV} {μ : zM} : zR d 167 Q 66 lv st μ ↔ zB (zC d) Q (zR d 167 Q) k167_66 lv st μ := zR_of rfl
theorem u167_104 {d : Nat} {Q : Int → zM → Prop} {lv st : List zV} {μ : zM} : zR d 167 Q 104 lv st μ ↔ zB (zC d) Q (zR d 167 Q) k167_104 lv st μ := zR_of rfl
theorem u167_117 {d : Nat} {Q : Int → zM → Prop} {lv st : List zV} {μ : zM} : zR d 167 Q 117 lv st μ ↔ zB (zC d) Q (zR d 167 Q) k167_117 lv st μ := zR_of rfl
theorem u167_131 {d : Nat} {Q : Int → zM → Prop} {lv st : List zV} {μ : zM} : zR d 167 Q 131 lv st μ ↔ zB (zC d) Q (zR d 167 Q) k167_131 lv st μ := zR_of rfl
theorem u167_161 {d : Nat} {Q : Int → zM → Prop} {lv st : List zV} {μ : zM} : zR d 167 Q 161 lv st μ ↔ zB (zC d) Q (zR d 167 Q) k167_161 lv st μ := zR_of rfl
theorem u167_165 {d : Nat} {Q : Int → zM → Prop} {lv st : List zV} {μ : zM} : zR d 167 Q 165 lv st μ ↔ zB (zC d) Q (zR d 167 Q) k167_165 lv st μ := zR_of rfl
theorem u167_166 {d : Nat} {Q : Int → zM → Prop} {lv st : List zV} {μ : zM} : zR d 167 Q 166 lv st μ ↔ zB (zC d) Q (zR d 167 Q) k167_166 lv st μ := zR_of rfl
theorem u167_207 {d : Nat} {Q : Int → zM → Prop} {lv st : List zV} {μ : zM} : zR d 167 Q 207 lv st μ ↔ zB (zC d) Q (zR d 167 Q) k167_207 lv st μ := zR_of rfl
theorem u167_208 {d : Nat} {Q : Int → zM → Prop} {lv st : List zV} {μ : zM} : zR d 167 Q 208 lv st μ ↔ zB (zC d) Q (zR d 167 Q) k167_208 lv st μ := zR_of rfl
theorem u167_215 {d : Nat} {Q : Int → zM → Prop} {lv st : List zV} {μ : zM} : zR d 167 Q 215 lv st μ ↔ zB (zC d) Q (zR d 167 Q) k167_215 lv st μ := zR_of rfl
theorem u167_221 {d : Nat} {Q : Int → zM → Prop} {lv st : List zV} {μ : zM} : zR d 167 Q 221 lv st μ ↔ zB (zC d) Q (zR d 167 Q) k167_221 lv st μ := zR_of rfl
theorem u167_231 {d : Nat} {Q : Int → zM → Prop} {lv st : List zV} {μ : zM} : zR d 167 Q 231 lv st μ ↔ zB (zC d) Q (zR d 167 Q) k167_231 lv st μ := zR_of rfl
theorem u167_237 {d : Nat} {Q : Int → zM → Prop} {lv st : List zV} {μ : zM} : zR d 167 Q 237 lv st μ ↔ zB (zC d) Q (zR d 167 Q) k167_237 lv st μ := zR_of rfl
theorem e168 {d : Nat} {a0 a1 : Int} {μ : zM} {P : Int → zM → Prop} : zC (d + 1) 168 [(2, a0), (0, a1)] μ P ↔ zB (zC d) P (zR d 168 P) k168_0 [(2, a0), (0, a1)] [] μ := zC_of rfl rfl rfl
theorem u168_12 {d : Nat} {Q : Int → zM → Prop} {lv st : List zV} {μ : zM} : zR d 168 Q 12 lv st μ ↔ zB (zC d) Q (zR d 168 Q) k168_12 lv st μ := zR_of rfl
theorem u168_45 {d : Nat} {Q : Int → zM → Prop} {lv st : List zV} {μ : zM} : zR d 168 Q 45 lv st μ ↔ zB (zC d) Q (zR d 168 Q) k168_45 lv st μ := zR_of rfl
theorem u168_49 {d : Nat} {Q : Int → zM → Prop} {lv st : List zV} {μ : zM} : zR d 168 Q 49 lv st μ ↔ zB (zC d) Q (zR d 168 Q) k168_49 lv st μ := zR_of rfl
theorem e169 {d : Nat} {a0 a1 a2 a3 a4 : Int} {μ : zM} {P : Int → zM → Prop} : zC (d + 1) 169 [(2, a0), (0, a1), (0, a2), (0, a3), (0, a4)] μ P ↔ zB (zC d) P (zR d 169 P) k169_0 [(2, a0), (0, a1), (0, a2), (0, a3), (0, a4), (9, 0)] [] μ := zC_of rfl rfl rfl
theorem u169_80 {d : Nat} {Q : Int → zM → Prop} {lv st : List zV} {μ : zM} : zR d 169 Q 80 lv st μ ↔ zB (zC d) Q (zR d 169 Q) k169_80 lv st μ := zR_of rfl
theorem u169_81 {d : Nat} {Q : Int → zM → Prop} {lv st : List zV} {μ : zM} : zR d 169 Q 81 lv st μ ↔ zB (zC d) Q (zR d 169 Q) k169_81 lv st μ := zR_of rfl
theorem e170 {d : Nat} {a0 a1 a2 a3 a4 a5 : Int} {μ : zM} {P : Int → zM → Prop} : zC (d + 1) 170 [(2, a0), (0, a1), (0, a2), (0, a3), (0, a4), (0, a5)] μ P ↔ zB (zC d) P (zR d 170 P) k170_0 [(2, a0), (0, a1), (0, a2), (0, a3), (0, a4), (0, a5)] [] μ := zC_of rfl rfl rfl
theorem e171 {d : Nat} {a0 a1 a2 : Int} {μ : zM} {P : Int → zM → Prop} : zC (d + 1) 171 [(2, a0), (0, a1), (0, a2)] μ P ↔ zB (zC d) P (zR d 171 P) k171_0 [(2, a0), (0, a1), (0, a2), (9, 0), (9, 0), (9, 0), (9, 0), (9, 0), (9, 0), (9, 0)] [] μ := zC_of rfl rfl rfl
theorem u171_15 {d : Nat} {Q : Int → zM → Prop} {lv st : List zV} {μ : zM} : zR d 171 Q 15 lv st μ ↔ zB (zC d) Q (zR d 171 Q) k171_15 lv st μ := zR_of rfl
theorem u171_25 {d : Nat} {Q : Int → zM → Prop} {lv st : List zV} {μ : zM} : zR d 171 Q 25 lv st μ ↔ zB (zC d) Q (zR d 171 Q) k171_25 lv st μ := zR_of rfl
theorem u171_126 {d : Nat} {Q : Int → zM → Prop} {lv st : List zV} {μ : zM} : zR d 171 Q 126 lv st μ ↔ zB (zC d) Q (zR d 171 Q) k171_126 lv st μ := zR_of rfl
theorem u171_129 {d : Nat} {Q : Int → zM → Prop} {lv st : List zV} {μ : zM} : zR d 171 Q 129 lv st μ ↔ zB (zC d) Q (zR d 171 Q) k171_129 lv st μ := zR_of rfl
theorem u171_135 {d : Nat} {Q : Int → zM → Prop} {lv st : List zV} {μ : zM} : zR d 171 Q 135 lv st μ ↔ zB (zC d) Q (zR d 171 Q) k171_135 lv st μ := zR_of rfl
theorem u171_144 {d : Nat} {Q : Int → zM → Prop} {lv st : List zV} {μ : zM} : zR d 171 Q 144 lv st μ ↔ zB (zC d) Q (zR d 171 Q) k171_144 lv st μ := zR_of rfl
theorem u171_146 {d : Nat} {Q : Int → zM → Prop} {lv st : List zV} {μ : zM} : zR d 171 Q 146 lv st μ ↔ zB (zC d) Q (zR d 171 Q) k171_146 lv st μ := zR_of rfl
theorem e172 {d : Nat} {a0 a1 a2 a3 : Int} {μ : zM} {P : Int → zM → Prop} : zC (d + 1) 172 [(2, a0), (0, a1), (0, a2), (0, a3)] μ P ↔ zB (zC d) P (zR d 172 P) k172_0 [(2, a0), (0, a1), (0, a2), (0, a3), (9, 0), (9, 0), (9, 0), (9, 0)] [] μ := zC_of rfl rfl rfl
theorem u172_36 {d : Nat} {Q : Int → zM → Prop} {lv st : List zV} {μ : zM} : zR d 172 Q 36 lv st μ ↔ zB (zC d) Q (zR d 172 Q) k172_36 lv st μ := zR_of rfl
theorem u172_38 {d : Nat} {Q : Int → zM → Prop} {lv st : List zV} {μ : zM} : zR d 172 Q 38 lv st μ ↔ zB (zC d) Q (zR d 172 Q) k172_38 lv st μ := zR_of rfl
theorem u172_70 {d : Nat} {Q : Int → zM → Prop} {lv st : List zV} {μ : zM} : zR d 172 Q 70 lv st μ ↔ zB (zC d) Q (zR d 172 Q) k172_70 lv st μ := zR_of rfl
theorem u172_118 {d : Nat} {Q : Int → zM → Prop} {lv st : List zV} {μ : zM} : zR d 172 Q 118 lv st μ ↔ zB (zC d) Q (zR d 172 Q) k172_118 lv st μ := zR_of rfl
theorem u172_119 {d : Nat} {Q : Int → zM → Prop} {lv st : List zV} {μ : zM} : zR d 172 Q 119 lv st μ ↔ zB (zC d) Q (zR d 172 Q) k172_119 lv st μ := zR_of rfl
theorem u172_134 {d : Nat} {Q : Int → zM → Prop} {lv st : List zV} {μ : zM} : zR d 172 Q 134 lv st μ ↔ zB (zC d) Q (zR d 172 Q) k172_134 lv st μ := zR_of rfl
theorem e173 {d : Nat} {a0 a1 a2 : Int} {μ : zM} {P : Int → zM → Prop} : zC (d + 1) 173 [(2, a0), (0, a1), (0, a2)] μ P ↔ zB (zC d) P (zR d 173 P) k173_0 [(2, a0), (0, a1), (0, a2), (9, 0), (9, 0), (9, 0), (9, 0), (9, 0), (9, 0), (9, 0)] [] μ := zC_of rfl rfl rfl
theorem u173_8 {d : Nat} {Q : Int → zM → Prop} {lv st : List zV} {μ : zM} : zR d 173 Q 8 lv st μ ↔ zB (zC d) Q (zR d 173 Q) k173_8 lv st μ := zR_of rfl
theorem u173_42 {d : Nat} {Q : Int → zM → Prop} {lv st : List zV} {μ : zM} : zR d 173 Q 42 lv st μ ↔ zB (zC d) Q (zR d 173 Q) k173_42 lv st μ := zR_of rfl
theorem u173_56 {d : Nat} {Q : Int → zM → Prop} {lv st : List zV} {μ : zM} : zR d 173 Q 56 lv st μ ↔ zB (zC d) Q (zR d 173 Q) k173_56 lv st μ := zR_of rfl
theorem u173_97 {d : Nat} {Q : Int → zM → Prop} {lv st : List zV} {μ : zM} : zR d 173 Q 97 lv st μ ↔ zB (zC d) Q (zR d 173 Q) k173_97 lv st μ := zR_of rfl
theorem u173_98 {d : Nat} {Q : Int → zM → Prop} {lv st : List zV} {μ : zM} : zR d 173 Q 98 lv st μ ↔ zB (zC d) Q (zR d 173 Q) k173_98 lv st μ := zR_of rfl
theorem u173_113 {d : Nat} {Q : Int → zM → Prop} {lv st : List zV} {μ : zM} : zR d 173 Q 113 lv st μ ↔ zB (zC d) Q (zR d 173 Q) k173_113 lv st μ := zR_of rfl
theorem u173_119 {d : Nat} {Q : Int → zM → Prop} {lv st : List zV} {μ : zM} : zR d 173 Q 119 lv st μ ↔ zB (zC d) Q (zR d 173 Q) k173_119 lv st μ := zR_of rfl
theorem u173_129 {d : Nat} {Q : Int → zM → Prop} {lv st : List zV} {μ : zM} : zR d 173 Q 129 lv st μ ↔ zB (zC d) Q (zR d 173 Q) k173_129 lv st μ := zR_of rfl
theorem e174 {d : Nat} {a0 a1 a2 a3 a4 a5 : Int} {μ : zM} {P : Int → zM → Prop} : zC (d + 1) 174 [(2, a0), (0, a1), (0, a2), (0, a3), (0, a4), (0, a5)] μ P ↔ zB (zC d) P (zR d 174 P) k174_0 [(2, a0), (0, a1), (0, a2), (0, a3), (0, a4), (0, a5), (9, 0), (9, 0), (9, 0), (9, 0)] [] μ := zC_of rfl rfl rfl
theorem u174_44 {d : Nat} {Q : Int → zM → Prop} {lv st : List zV} {μ : zM} : zR d 174 Q 44 lv st μ ↔ zB (zC d) Q (zR d 174 Q) k174_44 lv st μ := zR_of rfl
theorem u174_48 {d : Nat} {Q : Int → zM → Prop} {lv st : List zV} {μ : zM} : zR d 174 Q 48 lv st μ ↔ zB (zC d) Q (zR d 174 Q) k174_48 lv st μ := zR_of rfl
theorem u174_54 {d : Nat} {Q : Int → zM → Prop} {lv st : List zV} {μ : zM} : zR d 174 Q 54 lv st μ ↔ zB (zC d) Q (zR d 174 Q) k174_54 lv st μ := zR_of rfl
theorem u174_85 {d : Nat} {Q : Int → zM → Prop} {lv st : List zV} {μ : zM} : zR d 174 Q 85 lv st μ ↔ zB (zC d) Q (zR d 174 Q) k174_85 lv st μ := zR_of rfl
theorem u174_93 {d : Nat} {Q : Int → zM → Prop} {lv st : List zV} {μ : zM} : zR d 174 Q 93 lv st μ ↔ zB (zC d) Q (zR d 174 Q) k174_93 lv st μ := zR_of rfl
theorem u174_116 {d : Nat} {Q : Int → zM → Prop} {lv st : List zV} {μ : zM} : zR d 174 Q 116 lv st μ ↔ zB (zC d) Q (zR d 174 Q) k174_116 lv st μ := zR_of rfl
theorem u174_130 {d : Nat} {Q : Int → zM → Prop} {lv st : List zV} {μ : zM} : zR d 174 Q 130 lv st μ ↔ zB (zC d) Q (zR d 174 Q) k174_130 lv st μ := zR_of rfl
theorem u174_136 {d : Nat} {Q : Int → zM → Prop} {lv st : List zV} {μ : zM} : zR d 174 Q 136 lv st μ ↔ zB (zC d) Q (zR d 174 Q) k174_136 lv st μ := zR_of rfl
theorem e175 {d : Nat} {a0 a1 a2 : Int} {μ : zM} {P : Int → zM → Prop} : zC (d + 1) 175 [(2, a0), (0, a1), (0, a2)] μ P ↔ zB (zC d) P (zR d 175 P) k175_0 [(2, a0), (0, a1), (0, a2)] [] μ := zC_of rfl rfl rfl
theorem u175_16 {d : Nat} {Q : Int → zM → Prop} {lv st : List zV} {μ : zM} : zR d 175 Q 16 lv st μ ↔ zB (zC d) Q (zR d 175 Q) k175_16 lv st μ := zR_of rfl
theorem u175_30 {d : Nat} {Q : Int → zM → Prop} {lv st : List zV} {μ : zM} : zR d 175 Q 30 lv st μ ↔ zB (zC d) Q (zR d 175 Q) k175_30 lv st μ := zR_of rfl
theorem u175_44 {d : Nat} {Q : Int → zM → Prop} {lv st : List zV} {μ : zM} : zR d 175 Q 44 lv st μ ↔ zB (zC d) Q (zR d 175 Q) k175_44 lv st μ := zR_of rfl
theorem u175_47 {d : Nat} {Q : Int → zM → Prop} {lv st : List zV} {μ : zM} : zR d 175 Q 47 lv st μ ↔ zB (zC d) Q (zR d 175 Q) k175_47 lv st μ := zR_of rfl
theorem u175_56 {d : Nat} {Q : Int → zM → Prop} {lv st : List zV} {μ : zM} : zR d 175 Q 56 lv st μ ↔ zB (zC d) Q (zR d 175 Q) k175_56 lv st μ := zR_of rfl
theorem u175_72 {d : Nat} {Q : Int → zM → Prop} {lv st : List zV} {μ : zM} : zR d 175 Q 72 lv st μ ↔ zB (zC d) Q (zR d 175 Q) k175_72 lv st μ := zR_of rfl
theorem e176 {d : Nat} {a0 a1 a2 : Int} {μ : zM} {P : Int → zM → Prop} : zC (d + 1) 176 [(2, a0), (0, a1), (0, a2)] μ P ↔ zB (zC d) P (zR d 176 P) k176_0 [(2, a0), (0, a1), (0, a2), (9, 0)] [] μ := zC_of rfl rfl rfl
theorem u176_17 {d : Nat} {Q : Int → zM → Prop} {lv st : List zV} {μ : zM} : zR d 176 Q 17 lv st μ ↔ zB (zC d) Q (zR d 176 Q) k176_17 lv st μ := zR_of rfl
theorem u176_40 {d : Nat} {Q : Int → zM → Prop} {lv st : List zV} {μ : zM} : zR d 176 Q 40 lv st μ ↔ zB (zC d) Q (zR d 176 Q) k176_40 lv st μ := zR_of rfl
theorem u176_42 {d : Nat} {Q : Int → zM → Prop} {lv st : List zV} {μ : zM} : zR d 176 Q 42 lv st μ ↔ zB (zC d) Q (zR d 176 Q) k176_42 lv st μ := zR_of rfl
theorem u176_74 {d : Nat} {Q : Int → zM → Prop} {lv st : List zV} {μ : zM} : zR d 176 Q 74 lv st μ ↔ zB (zC d) Q (zR d 176 Q) k176_74 lv st μ := zR_of rfl
theorem u176_80 {d : Nat} {Q : Int → zM → Prop} {lv st : List zV} {μ : zM} : zR d 176 Q 80 lv st μ ↔ zB (zC d) Q (zR d 176 Q) k176_80 lv st μ := zR_of rfl
theorem u176_105 {d : Nat} {Q : Int → zM → Prop} {lv st : List zV} {μ : zM} : zR d 176 Q 105 lv st μ ↔ zB (zC d) Q (zR d 176 Q) k176_105 lv st μ := zR_of rfl
theorem u176_111 {d : Nat} {Q : Int → zM → Prop} {lv st : List zV} {μ : zM} : zR d 176 Q 111 lv st μ ↔ zB (zC d) Q (zR d 176 Q) k176_111 lv st μ := zR_of rfl
theorem u176_118 {d : Nat} {Q : Int → zM → Prop} {lv st : List zV} {μ : zM} : zR d 176 Q 118 lv st μ ↔ zB (zC d) Q (zR d 176 Q) k176_118 lv st μ := zR_of rfl
theorem e177 {d : Nat} {a0 a1 a2 : Int} {μ : zM} {P : Int → zM → Prop} : zC (d + 1) 177 [(2, a0), (0, a1), (0, a2)] μ P ↔ zB (zC d) P (zR d 177 P) k177_0 [(2, a0), (0, a1), (0, a2), (9, 0)] [] μ := zC_of rfl rfl rfl
theorem u177_15 {d : Nat} {Q : Int → zM → Prop} {lv st : List zV} {μ : zM} : zR d 177 Q 15 lv st μ ↔ zB (zC d) Q (zR d 177 Q) k177_15 lv st μ := zR_of rfl
theorem u177_17 {d : Nat} {Q : Int → zM → Prop} {lv st : List zV} {μ : zM} : zR d 177 Q 17 lv st μ ↔ zB (zC d) Q (zR d 177 Q) k177_17 lv st μ := zR_of rfl
theorem u177_19 {d : Nat} {Q : Int → zM → Prop} {lv st : List zV} {μ : zM} : zR d 177 Q 19 lv st μ ↔ zB (zC d) Q (zR d 177 Q) k177_19 lv st μ := zR_of rfl
theorem u177_52 {d : Nat} {Q : Int → zM → Prop} {lv st : List zV} {μ : zM} : zR d 177 Q 52 lv st μ ↔ zB (zC d) Q (zR d 177 Q) k177_52 lv st μ := zR_of rfl
theorem u177_54 {d : Nat} {Q : Int → zM → Prop} {lv st : List zV} {μ : zM} : zR d 177 Q 54 lv st μ ↔ zB (zC d) Q (zR d 177 Q) k177_54 lv st μ := zR_of rfl
theorem u177_96 {d : Nat} {Q : Int → zM → Prop} {lv st : List zV} {μ : zM} : zR d 177 Q 96 lv st μ ↔ zB (zC d) Q (zR d 177 Q) k177_96 lv st μ := zR_of rfl
theorem e178 {d : Nat} {a0 a1 : Int} {μ : zM} {P : Int → zM → Prop} : zC (d + 1) 178 [(2, a0), (0, a1)] μ P ↔ zB (zC d) P (zR d 178 P) k178_0 [(2, a0), (0, a1)] [] μ := zC_of rfl rfl rfl
theorem e179 {d : Nat} {a0 a1 : Int} {μ : zM} {P : Int → zM → Prop} : zC (d + 1) 179 [(2, a0), (0, a1)] μ P ↔ zB (zC d) P (zR d 179 P) k179_0 [(2, a0), (0, a1)] [] μ := zC_of rfl rfl rfl
theorem u179_14 {d : Nat} {Q : Int → zM → Prop} {lv st : List zV} {μ : zM} : zR d 179 Q 14 lv st μ ↔ zB (zC d) Q (zR d 179 Q) k179_14 lv st μ := zR_of rfl
theorem e180 {d : Nat} {a0 a1 : Int} {μ : zM} {P : Int → zM → Prop} : zC (d + 1) 180 [(2, a0), (0, a1)] μ P ↔ zB (zC d) P (zR d 180 P) k180_0 [(2, a0), (0, a1), (9, 0), (9, 0)] [] μ := zC_of rfl rfl rfl
theorem u180_9 {d : Nat} {Q : Int → zM → Prop} {lv st : List zV} {μ : zM} : zR d 180 Q 9 lv st μ ↔ zB (zC d) Q (zR d 180 Q) k180_9 lv st μ := zR_of rfl
theorem u180_16 {d : Nat} {Q : Int → zM → Prop} {lv st : List zV} {μ : zM} : zR d 180 Q 16 lv st μ ↔ zB (zC d) Q (zR d 180 Q) k180_16 lv st μ := zR_of rfl
theorem u180_44 {d : Nat} {Q : Int → zM → Prop} {lv st : List zV} {μ : zM} : zR d 180 Q 44 lv st μ ↔ zB (zC d) Q (zR d 180 Q) k180_44 lv st μ := zR_of rfl
theorem u180_57 {d : Nat} {Q : Int → zM → Prop} {lv st : List zV} {μ : zM} : zR d 180 Q 57 lv st μ ↔ zB (zC d) Q (zR d 180 Q) k180_57 lv st μ := zR_of rfl
theorem u180_67 {d : Nat} {Q : Int → zM → Prop} {lv st : List zV} {μ : zM} : zR d 180 Q 67 lv st μ ↔ zB (zC d) Q (zR d 180 Q) k180_67 lv st μ := zR_of rfl
theorem u180_75 {d : Nat} {Q : Int → zM → Prop} {lv st : List zV} {μ : zM} : zR d 180 Q 75 lv st μ ↔ zB (zC d) Q (zR d 180 Q) k180_75 lv st μ := zR_of rfl
theorem u180_81 {d : Nat} {Q : Int → zM → Prop} {lv st : List zV} {μ : zM} : zR d 180 Q 81 lv st μ ↔ zB (zC d) Q (zR d 180 Q) k180_81 lv st μ := zR_of rfl
theorem u180_94 {d : Nat} {Q : Int → zM → Prop} {lv st : List zV} {μ : zM} : zR d 180 Q 94 lv st μ ↔ zB (zC d) Q (zR d 180 Q) k180_94 lv st μ := zR_of rfl
theorem e181 {d : Nat} {a0 a1 : Int} {μ : zM} {P : Int → zM → Prop} : zC (d + 1) 181 [(2, a0), (0, a1)] μ P ↔ zB (zC d) P (zR d 181 P) k181_0 [(2, a0), (0, a1)] [] μ := zC_of rfl rfl rfl
theorem u181_25 {d : Nat} {Q : Int → zM → Prop} {lv st : List zV} {μ : zM} : zR d 181 Q 25 lv st μ ↔ zB (zC d) Q (zR d 181 Q) k181_25 lv st μ := zR_of rfl
theorem u181_26 {d : Nat} {Q : Int → zM → Prop} {lv st : List zV} {μ : zM} : zR d 181 Q 26 lv st μ ↔ zB (zC d) Q (zR d 181 Q) k181_26 lv st μ := zR_of rfl
theorem e182 {d : Nat} {a0 : Int} {μ : zM} {P : Int → zM → Prop} : zC (d + 1) 182 [(0, a0)] μ P ↔ zB (zC d) P (zR d 182 P) k182_0 [(0, a0)] [] μ := zC_of rfl rfl rfl
theorem e183 {d : Nat} {a0 a1 a2 a3 : Int} {μ : zM} {P : Int → zM → Prop} : zC (d + 1) 183 [(2, a0), (0, a1), (0, a2), (0, a3)] μ P ↔ zB (zC d) P (zR d 183 P) k183_0 [(2, a0), (0, a1), (0, a2), (0, a3), (9, 0)] [] μ := zC_of rfl rfl rfl
theorem u183_23 {d : Nat} {Q : Int → zM → Prop} {lv st : List zV} {μ : zM} : zR d 183 Q 23 lv st μ ↔ zB (zC d) Q (zR d 183 Q) k183_23 lv st μ := zR_of rfl
theorem u183_25 {d : Nat} {Q : Int → zM → Prop} {lv st : List zV} {μ : zM} : zR d 183 Q 25 lv st μ ↔ zB (zC d) Q (zR d 183 Q) k183_25 lv st μ := zR_of rfl
theorem u183_38 {d : Nat} {Q : Int → zM → Prop} {lv st : List zV} {μ : zM} : zR d 183 Q 38 lv st μ ↔ zB (zC d) Q (zR d 183 Q) k183_38 lv st μ := zR_of rfl
theorem u183_41 {d : Nat} {Q : Int → zM → Prop} {lv st : List zV} {μ : zM} : zR d 183 Q 41 lv st μ ↔ zB (zC d) Q (zR d 183 Q) k183_41 lv st μ := zR_of rfl
theorem u183_84 {d : Nat} {Q : Int → zM → Prop} {lv st : List zV} {μ : zM} : zR d 183 Q 84 lv st μ ↔ zB (zC d) Q (zR d 183 Q) k183_84 lv st μ := zR_of rfl
theorem u183_85 {d : Nat} {Q : Int → zM → Prop} {lv st : List zV} {μ : zM} : zR d 183 Q 85 lv st μ ↔ zB (zC d) Q (zR d 183 Q) k183_85 lv st μ := zR_of rfl
theorem u183_93 {d : Nat} {Q : Int → zM → Prop} {lv st : List zV} {μ : zM} : zR d 183 Q 93 lv st μ ↔ zB (zC d) Q (zR d 183 Q) k183_93 lv st μ := zR_of rfl
theorem u183_99 {d : Nat} {Q : Int → zM → Prop} {lv st : List zV} {μ : zM} : zR d 183 Q 99 lv st μ ↔ zB (zC d) Q (zR d 183 Q) k183_99 lv st μ := zR_of rfl
theorem e184 {d : Nat} {a0 a1 a2 : Int} {μ : zM} {P : Int → zM → Prop} : zC (d + 1) 184 [(2, a0), (0, a1), (0, a2)] μ P ↔ zB (zC d) P (zR d 184 P) k184_0 [(2, a0), (0, a1), (0, a2), (9, 0)] [] μ := zC_of rfl rfl rfl
theorem u184_9 {d : Nat} {Q : Int → zM → Prop} {lv st : List zV} {μ : zM} : zR d 184 Q 9 lv st μ ↔ zB (zC d) Q (zR d 184 Q) k184_9 lv st μ := zR_of rfl
theorem u184_18 {d : Nat} {Q : Int → zM → Prop} {lv st : List zV} {μ : zM} : zR d 184 Q 18 lv st μ ↔ zB (zC d) Q (zR d 184 Q) k184_18 lv st μ := zR_of rfl
theorem u184_25 {d : Nat} {Q : Int → zM → Prop} {lv st : List zV} {μ : zM} : zR d 184 Q 25 lv st μ ↔ zB (zC d) Q (zR d 184 Q) k184_25 lv st μ := zR_of rfl
theorem u184_34 {d : Nat} {Q : Int → zM → Prop} {lv st : List zV} {μ : zM} : zR d 184 Q 34 lv st μ ↔ zB (zC d) Q (zR d 184 Q) k184_34 lv st μ := zR_of rfl
theorem u184_58 {d : Nat} {Q : Int → zM → Prop} {lv st : List zV} {μ : zM} : zR d 184 Q 58 lv st μ ↔ zB (zC d) Q (zR d 184 Q) k184_58 lv st μ := zR_of rfl
theorem e185 {d : Nat} {a0 a1 a2 a3 : Int} {μ : zM} {P : Int → zM → Prop} : zC (d + 1) 185 [(2, a0), (0, a1), (0, a2), (1, a3)] μ P ↔ zB (zC d) P (zR d 185 P) k185_0 [(2, a0), (0, a1), (0, a2), (1, a3), (9, 0)] [] μ := zC_of rfl rfl rfl
theorem u185_9 {d : Nat} {Q : Int → zM → Prop} {lv st : List zV} {μ : zM} : zR d 185 Q 9 lv st μ ↔ zB (zC d) Q (zR d 185 Q) k185_9 lv st μ := zR_of rfl
theorem u185_22 {d : Nat} {Q : Int → zM → Prop} {lv st : List zV} {μ : zM} : zR d 185 Q 22 lv st μ ↔ zB (zC d) Q (zR d 185 Q) k185_22 lv st μ := zR_of rfl
theorem u185_43 {d : Nat} {Q : Int → zM → Prop} {lv st : List zV} {μ : zM} : zR d 185 Q 43 lv st μ ↔ zB (zC d) Q (zR d 185 Q) k185_43 lv st μ := zR_of rfl
theorem e186 {d : Nat} {a0 a1 a2 : Int} {μ : zM} {P : Int → zM → Prop} : zC (d + 1) 186 [(2, a0), (0, a1), (0, a2)] μ P ↔ zB (zC d) P (zR d 186 P) k186_0 [(2, a0), (0, a1), (0, a2)] [] μ := zC_of rfl rfl rfl
theorem u186_39 {d : Nat} {Q : Int → zM → Prop} {lv st : List zV} {μ : zM} : zR d 186 Q 39 lv st μ ↔ zB (zC d) Q (zR d 186 Q) k186_39 lv st μ := zR_of rfl
theorem u186_42 {d : Nat} {Q : Int → zM → Prop} {lv st : List zV} {μ : zM} : zR d 186 Q 42 lv st μ ↔ zB (zC d) Q (zR d 186 Q) k186_42 lv st μ := zR_of rfl
theorem e187 {d : Nat} {a0 : Int} {μ : zM} {P : Int → zM → Prop} : zC (d + 1) 187 [(2, a0)] μ P ↔ zB (zC d) P (zR d 187 P) k187_0 [(2, a0)] [] μ := zC_of rfl rfl rfl
theorem e188 {d : Nat} {a0 : Int} {μ : zM} {P : Int → zM → Prop} : zC (d + 1) 188 [(2, a0)] μ P ↔ zB (zC d) P (zR d 188 P) k188_0 [(2, a0)] [] μ := zC_of rfl rfl rfl
theorem u188_10 {d : Nat} {Q : Int → zM → Prop} {lv st : List zV} {μ : zM} : zR d 188 Q 10 lv st μ ↔ zB (zC d) Q (zR d 188 Q) k188_10 lv st μ := zR_of rfl
theorem e189 {d : Nat} {a0 a1 a2 : Int} {μ : zM} {P : Int → zM → Prop} : zC (d + 1) 189 [(2, a0), (0, a1), (0, a2)] μ P ↔ zB (zC d) P (zR d 189 P) k189_0 [(2, a0), (0, a1), (0, a2), (9, 0), (9, 0)] [] μ := zC_of rfl rfl rfl
theorem u189_5 {d : Nat} {Q : Int → zM → Prop} {lv st : List zV} {μ : zM} : zR d 189 Q 5 lv st μ ↔ zB (zC d) Q (zR d 189 Q) k189_5 lv st μ := zR_of rfl
theorem u189_26 {d : Nat} {Q : Int → zM → Prop} {lv st : List zV} {μ : zM} : zR d 189 Q 26 lv st μ ↔ zB (zC d) Q (zR d 189 Q) k189_26 lv st μ := zR_of rfl
theorem u189_27 {d : Nat} {Q : Int → zM → Prop} {lv st : List zV} {μ : zM} : zR d 189 Q 27 lv st μ ↔ zB (zC d) Q (zR d 189 Q) k189_27 lv st μ := zR_of rfl
theorem u189_38 {d : Nat} {Q : Int → zM → Prop} {lv st : List zV} {μ : zM} : zR d 189 Q 38 lv st μ ↔ zB (zC d) Q (zR d 189 Q) k189_38 lv st μ := zR_of rfl
theorem e190 {d : Nat} {a0 a1 : Int} {μ : zM} {P : Int → zM → Prop} : zC (d + 1) 190 [(2, a0), (0, a1)] μ P ↔ zB (zC d) P (zR d 190 P) k190_0 [(2, a0), (0, a1)] [] μ := zC_of rfl rfl rfl
theorem u190_36 {d : Nat} {Q : Int → zM → Prop} {lv st : List zV} {μ : zM} : zR d 190 Q 36 lv st μ ↔ zB (zC d) Q (zR d 190 Q) k190_36 lv st μ := zR_of rfl
theorem u190_45 {d : Nat} {Q : Int → zM → Prop} {lv st : List zV} {μ : zM} : zR d 190 Q 45 lv st μ ↔ zB (zC d) Q (zR d 190 Q) k190_45 lv st μ := zR_of rfl
theorem u190_56 {d : Nat} {Q : Int → zM → Prop} {lv st : List zV} {μ : zM} : zR d 190 Q 56 lv st μ ↔ zB (zC d) Q (zR d 190 Q) k190_56 lv st μ := zR_of rfl
theorem u190_61 {d : Nat} {Q : Int → zM → Prop} {lv st : List zV} {μ : zM} : zR d 190 Q 61 lv st μ ↔ zB (zC d) Q (zR d 190 Q) k190_61 lv st μ := zR_of rfl
theorem u190_66 {d : Nat} {Q : Int → zM → Prop} {lv st : List zV} {μ : zM} : zR d 190 Q 66 lv st μ ↔ zB (zC d) Q (zR d 190 Q) k190_66 lv st μ := zR_of rfl
theorem u190_75 {d : Nat} {Q : Int → zM → Prop} {lv st : List zV} {μ : zM} : zR d 190 Q 75 lv st μ ↔ zB (zC d) Q (zR d 190 Q) k190_75 lv st μ := zR_of rfl
theorem e191 {d : Nat} {a0 a1 : Int} {μ : zM} {P : Int → zM → Prop} : zC (d + 1) 191 [(2, a0), (1, a1)] μ P ↔ zB (zC d) P (zR d 191 P) k191_0 [(2, a0), (1, a1), (9, 0), (9, 0), (9, 0)] [] μ := zC_of rfl rfl rfl
theorem u191_6 {d : Nat} {Q : Int → zM → Prop} {lv st : List zV} {μ : zM} : zR d 191 Q 6 lv st μ ↔ zB (zC d) Q (zR d 191 Q) k191_6 lv st μ := zR_of rfl
theorem u191_22 {d : Nat} {Q : Int → zM → Prop} {lv st : List zV} {μ : zM} : zR d 191 Q 22 lv st μ ↔ zB (zC d) Q (zR d 191 Q) k191_22 lv st μ := zR_of rfl
theorem e192 {d : Nat} {a0 a1 : Int} {μ : zM} {P : Int → zM → Prop} : zC (d + 1) 192 [(2, a0), (0, a1)] μ P ↔ zB (zC d) P (zR d 192 P) k192_0 [(2, a0), (0, a1), (9, 0), (9, 0)] [] μ := zC_of rfl rfl rfl
theorem u192_5 {d : Nat} {Q : Int → zM → Prop} {lv st : List zV} {μ : zM} : zR d 192 Q 5 lv st μ ↔ zB (zC d) Q (zR d 192 Q) k192_5 lv st μ := zR_of rfl
theorem u192_20 {d : Nat} {Q : Int → zM → Prop} {lv st : List zV} {μ : zM} : zR d 192 Q 20 lv st μ ↔ zB (zC d) Q (zR d 192 Q) k192_20 lv st μ := zR_of rfl
theorem u193_18 {d : Nat} {Q : Int → zM → Prop} {lv st : List zV} {μ : zM} : zR d 193 Q 18 lv st μ ↔ zB (zC d) Q (zR d 193 Q) k193_18 lv st μ := zR_of rfl
theorem u193_200 {d : Nat} {Q : Int → zM → Prop} {lv st : List zV} {μ : zM} : zR d 193 Q 200 lv st μ ↔ zB (zC d) Q (zR d 193 Q) k193_200 lv st μ := zR_of rfl
theorem u193_233 {d : Nat} {Q : Int → zM → Prop} {lv st : List zV} {μ : zM} : zR d 193 Q 233 lv st μ ↔ zB (zC d) Q (zR d 193 Q) k193_233 lv st μ := zR_of rfl
theorem u193_256 {d : Nat} {Q : Int → zM → Prop} {lv st : List zV} {μ : zM} : zR d 193 Q 256 lv st μ ↔ zB (zC d) Q (zR d 193 Q) k193_256 lv st μ := zR_of rfl
theorem u193_309 {d : Nat} {Q : Int → zM → Prop} {lv st : List zV} {μ : zM} : zR d 193 Q 309 lv st μ ↔ zB (zC d) Q (zR d 193 Q) k193_309 lv st μ := zR_of rfl
theorem u193_332 {d : Nat} {Q : Int → zM → Prop} {lv st : List zV} {μ : zM} : zR d 193 Q 332 lv st μ ↔ zB (zC d) Q (zR d 193 Q) k193_332 lv st μ := zR_of rfl
theorem u193_345 {d : Nat} {Q : Int → zM → Prop} {lv st : List zV} {μ : zM} : zR d 193 Q 345 lv st μ ↔ zB (zC d) Q (zR d 193 Q) k193_345 lv st μ := zR_of rfl
theorem u193_388 {d : Nat} {Q : Int → zM → Prop} {lv st : List zV} {μ : zM} : zR d 193 Q 388 lv st μ ↔ zB (zC d) Q (zR d 193 Q) k193_388 lv st μ := zR_of rfl
theorem u193_411 {d : Nat} {Q : Int → zM → Prop} {lv st : List zV} {μ : zM} : zR d 193 Q 411 lv st μ ↔ zB (zC d) Q (zR d 193 Q) k193_411 lv st μ := zR_of rfl
theorem u193_434 {d : Nat} {Q : Int → zM → Prop} {lv st : List zV} {μ : zM} : zR d 193 Q 434 lv st μ ↔ zB (zC d) Q (zR d 193 Q) k193_434 lv st μ := zR_of rfl
theorem u193_478 {d : Nat} {Q : Int → zM → Prop} {lv st : List zV} {μ : zM} : zR d 193 Q 478 lv st μ ↔ zB (zC d) Q (zR d 193 Q) k193_478 lv st μ := zR_of rfl
theorem u193_501 {d : Nat} {Q : Int → zM → Prop} {lv st : List zV} {μ : zM} : zR d 193 Q 501 lv st μ ↔ zB (zC d) Q (zR d 193 Q) k193_501 lv st μ := zR_of rfl
theorem u193_534 {d : Nat} {Q : Int → zM → Prop} {lv st : List zV} {μ : zM} : zR d 193 Q 534 lv st μ ↔ zB (zC d) Q (zR d 193 Q) k193_534 lv st μ := zR_of rfl
theorem u193_577 {d : Nat} {Q : Int → zM → Prop} {lv st : List zV} {μ : zM} : zR d 193 Q 577 lv st μ ↔ zB (zC d) Q (zR d 193 Q) k193_577 lv st μ := zR_of rfl
theorem u193_610 {d : Nat} {Q : Int → zM → Prop} {lv st : List zV} {μ : zM} : zR d 193 Q 610 lv st μ ↔ zB (zC d) Q (zR d 193 Q) k193_610 lv st μ := zR_of rfl
theorem u193_633 {d : Nat} {Q : Int → zM → Prop} {lv st : List zV} {μ : zM} : zR d 193 Q 633 lv st μ ↔ zB (zC d) Q (zR d 193 Q) k193_633 lv st μ := zR_of rfl
theorem u193_656 {d : Nat} {Q : Int → zM → Prop} {lv st : List zV} {μ : zM} : zR d 193 Q 656 lv st μ ↔ zB (zC d) Q (zR d 193 Q) k193_656 lv st μ := zR_of rfl
theorem u193_679 {d : Nat} {Q : Int → zM → Prop} {lv st : List zV} {μ : zM} : zR d 193 Q 679 lv st μ ↔ zB (zC d) Q (zR d 193 Q) k193_679 lv st μ := zR_of rfl
theorem u193_712 {d : Nat} {Q : Int → zM → Prop} {lv st : List zV} {μ : zM} : zR d 193 Q 712 lv st μ ↔ zB (zC d) Q (zR d 193 Q) k193_712 lv st μ := zR_of rfl
theorem u193_735 {d : Nat} {Q : Int → zM → Prop} {lv st : List zV} {μ : zM} : zR d 193 Q 735 lv st μ ↔ zB (zC d) Q (zR d 193 Q) k193_735 lv st μ := zR_of rfl
theorem u193_778 {d : Nat} {Q : Int → zM → Prop} {lv st : List zV} {μ : zM} : zR d 193 Q 778 lv st μ ↔ zB (zC d) Q (zR d 193 Q) k193_778 lv st μ := zR_of rfl
theorem u193_821 {d : Nat} {Q : Int → zM → Prop} {lv st : List zV} {μ : zM} : zR d 193 Q 821 lv st μ ↔ zB (zC d) Q (zR d 193 Q) k193_821 lv st μ := zR_of rfl
theorem u193_854 {d : Nat} {Q : Int → zM → Prop} {lv st : List zV} {μ : zM} : zR d 193 Q 854 lv st μ ↔ zB (zC d) Q (zR d 193 Q) k193_854 lv st μ := zR_of rfl
theorem u193_867 {d : Nat} {Q : Int → zM → Prop} {lv st : List zV} {μ : zM} : zR d 193 Q 867 lv st μ ↔ zB (zC d) Q (zR d 193 Q) k193_867 lv st μ := zR_of rfl
theorem u193_910 {d : Nat} {Q : Int → zM → Prop} {lv st : List zV} {μ : zM} : zR d 193 Q 910 lv st μ ↔ zB (zC d) Q (zR d 193 Q) k193_910 lv st μ := zR_of rfl
theorem u193_933 {d : Nat} {Q : Int → zM → Prop} {lv st : List zV} {μ : zM} : zR d 193 Q 933 lv st μ ↔ zB (zC d) Q (zR d 193 Q) k193_933 lv st μ := zR_of rfl
theorem u193_966 {d : Nat} {Q : Int → zM → Prop} {lv st : List zV} {μ : zM} : zR d 193 Q 966 lv st μ ↔ zB (zC d) Q (zR d 193 Q) k193_966 lv st μ := zR_of rfl
theorem u193_1009 {d : Nat} {Q : Int → zM → Prop} {lv st : List zV} {μ : zM} : zR d 193 Q 1009 lv st μ ↔ zB (zC d) Q (zR d 193 Q) k193_1009 lv st μ := zR_of rfl
theorem u193_1073 {d : Nat} {Q : Int → zM → Prop} {lv st : List zV} {μ : zM} : zR d 193 Q 1073 lv st μ ↔ zB (zC d) Q (zR d 193 Q) k193_1073 lv st μ := zR_of rfl
theorem u193_1106 {d : Nat} {Q : Int → zM → Prop} {lv st : List zV} {μ : zM} : zR d 193 Q 1106 lv st μ ↔ zB (zC d) Q (zR d 193 Q) k193_1106 lv st μ := zR_of rfl
theorem u193_1139 {d : Nat} {Q : Int → zM → Prop} {lv st : List zV} {μ : zM} : zR d 193 Q 1139 lv st μ ↔ zB (zC d) Q (zR d 193 Q) k193_1139 lv st μ := zR_of rfl
theorem u193_1162 {d : Nat} {Q : Int → zM → Prop} {lv st : List zV} {μ : zM} : zR d 193 Q 1162 lv st μ ↔ zB (zC d) Q (zR d 193 Q) k193_1162 lv st μ := zR_of rfl
theorem u193_1185 {d : Nat} {Q : Int → zM → Prop} {lv st : List zV} {μ : zM} : zR d 193 Q 1185 lv st μ ↔ zB (zC d) Q (zR d 193 Q) k193_1185 lv st μ := zR_of rfl
theorem u193_1228 {d : Nat} {Q : Int → zM → Prop} {lv st : List zV} {μ : zM} : zR d 193 Q 1228 lv st μ ↔ zB (zC d) Q (zR d 193 Q) k193_1228 lv st μ := zR_of rfl
theorem u193_1261 {d : Nat} {Q : Int → zM → Prop} {lv st : List zV} {μ : zM} : zR d 193 Q 1261 lv st μ ↔ zB (zC d) Q (zR d 193 Q) k193_1261 lv st μ := zR_of rfl
theorem u193_1334 {d : Nat} {Q : Int → zM → Prop} {lv st : List zV} {μ : zM} : zR d 193 Q 1334 lv st μ ↔ zB (zC d) Q (zR d 193 Q) k193_1334 lv st μ := zR_of rfl
theorem u193_1368 {d : Nat} {Q : Int → zM → Prop} {lv st : List zV} {μ : zM} : zR d 193 Q 1368 lv st μ ↔ zB (zC d) Q (zR d 193 Q) k193_1368 lv st μ := zR_of rfl
theorem u193_1381 {d : Nat} {Q : Int → zM → Prop} {lv st : List zV} {μ : zM} : zR d 193 Q 1381 lv st μ ↔ zB (zC d) Q (zR d 193 Q) k193_1381 lv st μ := zR_of rfl
theorem u193_1394 {d : Nat} {Q : Int → zM → Prop} {lv st : List zV} {μ : zM} : zR d 193 Q 1394 lv st μ ↔ zB (zC d) Q (zR d 193 Q) k193_1394 lv st μ := zR_of rfl
theorem u193_1417 {d : Nat} {Q : Int → zM → Prop} {lv st : List zV} {μ : zM} : zR d 193 Q 1417 lv st μ ↔ zB (zC d) Q (zR d 193 Q) k193_1417 lv st μ := zR_of rfl
theorem u193_1423 {d : Nat} {Q : Int → zM → Prop} {lv st : List zV} {μ : zM} : zR d 193 Q 1423 lv st μ ↔ zB (zC d) Q (zR d 193 Q) k193_1423 lv st μ := zR_of rfl
theorem zT_0 : zT 0 = 3 := rfl
theorem zN_0 : zN 0 = 5 := rfl
theorem zG_160_0 : zG 160 0 = 1 := rfl
theorem zGf_160_0 {μ : zM} {k : zV → Prop} : zGet (zG 160 0) 0 160 μ k = k (2, 1) := rfl
theorem zG_161_0 : zG 161 0 = 8 := rfl
theorem zGf_161_0 {μ : zM} {k : zV → Prop} : zGet (zG 161 0) 0 161 μ k = k (2, 8) := rfl
theorem zG_162_0 : zG 162 0 = (-2) := rfl
theorem zGf_162_0 {μ : zM} {k : zV → Prop} : zGet (zG 162 0) 0 162 μ k = k (0, μ 0 2) := zGet_z
theorem zPf_162_0 {v : Int} {μ : zM} {k : zM → Prop} : zPut (zG 162 0) 0 162 v μ k = ((v = 0 ∨ v = 1) ∧ k (zu μ 0 2 v)) := zPut_z
theorem zG_163_0 : zG 163 0 = 15 := rfl
theorem zGf_163_0 {μ : zM} {k : zV → Prop} : zGet (zG 163 0) 0 163 μ k = k (2, 15) := rfl
theorem zG_164_0 : zG 164 0 = 17 := rfl
theorem zGf_164_0 {μ : zM} {k : zV → Prop} : zGet (zG 164 0) 0 164 μ k = k (2, 17) := rfl
theorem zG_165_0 : zG 165 0 = 19 := rfl
theorem zGf_165_0 {μ : zM} {k : zV → Prop} : zGet (zG 165 0) 0 165 μ k = k (2, 19) := rfl
theorem zG_166_0 : zG 166 0 = 24 := rfl
theorem zGf_166_0 {μ : zM} {k : zV → Prop} : zGet (zG 166 0) 0 166 μ k = k (2, 24) := rfl
theorem zG_167_0 : zG 167 0 = (-2) := rfl
theorem zGf_167_0 {μ : zM} {k : zV → Prop} : zGet (zG 167 0) 0 167 μ k = k (0, μ 0 7) := zGet_z
theorem zPf_167_0 {v : Int} {μ : zM} {k : zM → Prop} : zPut (zG 167 0) 0 167 v μ k = ((v = 0 ∨ v = 1) ∧ k (zu μ 0 7 v)) := zPut_z
theorem zG_168_0 : zG 168 0 = (-2) := rfl
theorem zGf_168_0 {μ : zM} {k : zV → Prop} : zGet (zG 168 0) 0 168 μ k = k (0, μ 0 8) := zGet_z
theorem zPf_168_0 {v : Int} {μ : zM} {k : zM → Prop} : zPut (zG 168 0) 0 168 v μ k = ((v = 0 ∨ v = 1) ∧ k (zu μ 0 8 v)) := zPut_z
theorem zG_169_0 : zG 169 0 = 29 := rfl
theorem zGf_169_0 {μ : zM} {k : zV → Prop} : zGet (zG 169 0) 0 169 μ k = k (2, 29) := rfl
theorem zG_170_0 : zG 170 0 = 33 := rfl
theorem zGf_170_0 {μ : zM} {k : zV → Prop} : zGet (zG 170 0) 0 170 μ k = k (2, 33) := rfl
theorem zG_171_0 : zG 171 0 = (-1) := rfl
theorem zGf_171_0 {μ : zM} {k : zV → Prop} : zGet (zG 171 0) 0 171 μ k = k (0, μ 0 11) := zGet_n
theorem zPf_171_0 {v : Int} {μ : zM} {k : zM → Prop} : zPut (zG 171 0) 0 171 v μ k = k (zu μ 0 11 v) := zPut_n
theorem zG_172_0 : zG 172 0 = 34 := rfl
theorem zGf_172_0 {μ : zM} {k : zV → Prop} : zGet (zG 172 0) 0 172 μ k = k (2, 34) := rfl
theorem zG_173_0 : zG 173 0 = 35 := rfl
theorem zGf_173_0 {μ : zM} {k : zV → Prop} : zGet (zG 173 0) 0 173 μ k = k (2, 35) := rfl
theorem zG_174_0 : zG 174 0 = 36 := rfl
theorem zGf_174_0 {μ : zM} {k : zV → Prop} : zGet (zG 174 0) 0 174 μ k = k (2, 36) := rfl
theorem zG_175_0 : zG 175 0 = 37 := rfl
theorem zGf_175_0 {μ : zM} {k : zV → Prop} : zGet (zG 175 0) 0 175 μ k = k (2, 37) := rfl
theorem zG_176_0 : zG 176 0 = 38 := rfl
theorem zGf_176_0 {μ : zM} {k : zV → Prop} : zGet (zG 176 0) 0 176 μ k = k (2, 38) := rfl
theorem zT_1 : zT 1 = 3 := rfl
theorem zN_1 : zN 1 = 2 := rfl
theorem zG_64_1 : zG 64 1 = (-1) := rfl
theorem zGf_64_1 {μ : zM} {k : zV → Prop} : zGet (zG 64 1) 1 64 μ k = k (0, μ 1 0) := zGet_n
theorem zPf_64_1 {v : Int} {μ : zM} {k : zM → Prop} : zPut (zG 64 1) 1 64 v μ k = k (zu μ 1 0 v) := zPut_n
theorem zG_65_1 : zG 65 1 = (-1) := rfl
theorem zGf_65_1 {μ : zM} {k : zV → Prop} : zGet (zG 65 1) 1 65 μ k = k (0, μ 1 1) := zGet_n
theorem zPf_65_1 {v : Int} {μ : zM} {k : zM → Prop} : zPut (zG 65 1) 1 65 v μ k = k (zu μ 1 1 v) := zPut_n
theorem zG_66_1 : zG 66 1 = (-1) := rfl
theorem zGf_66_1 {μ : zM} {k : zV → Prop} : zGet (zG 66 1) 1 66 μ k = k (0, μ 1 2) := zGet_n
theorem zPf_66_1 {v : Int} {μ : zM} {k : zM → Prop} : zPut (zG 66 1) 1 66 v μ k = k (zu μ 1 2 v) := zPut_n
theorem zG_67_1 : zG 67 1 = 2 := rfl
theorem zGf_67_1 {μ : zM} {k : zV → Prop} : zGet (zG 67 1) 1 67 μ k = k (2, 2) := rfl
theorem zG_68_1 : zG 68 1 = 3 := rfl
theorem zGf_68_1 {μ : zM} {k : zV → Prop} : zGet (zG 68 1) 1 68 μ k = k (2, 3) := rfl
theorem zG_69_1 : zG 69 1 = 4 := rfl
theorem zGf_69_1 {μ : zM} {k : zV → Prop} : zGet (zG 69 1) 1 69 μ k = k (2, 4) := rfl
theorem zG_70_1 : zG 70 1 = 5 := rfl
theorem zGf_70_1 {μ : zM} {k : zV → Prop} : zGet (zG 70 1) 1 70 μ k = k (2, 5) := rfl
theorem zG_71_1 : zG 71 1 = 6 := rfl
theorem zGf_71_1 {μ : zM} {k : zV → Prop} : zGet (zG 71 1) 1 71 μ k = k (2, 6) := rfl
theorem zG_72_1 : zG 72 1 = 7 := rfl
theorem zGf_72_1 {μ : zM} {k : zV → Prop} : zGet (zG 72 1) 1 72 μ k = k (2, 7) := rfl
theorem zG_73_1 : zG 73 1 = (-1) := rfl
theorem zGf_73_1 {μ : zM} {k : zV → Prop} : zGet (zG 73 1) 1 73 μ k = k (0, μ 1 9) := zGet_n
theorem zPf_73_1 {v : Int} {μ : zM} {k : zM → Prop} : zPut (zG 73 1) 1 73 v μ k = k (zu μ 1 9 v) := zPut_n
theorem zT_2 : zT 2 = 0 := rfl
theorem zN_2 : zN 2 = 125 := rfl
theorem zAl_2 {j : Int} {μ : zM} {k : Int → Prop} : zAld 0 2 j μ k = (0 ≤ j ∧ j < 125 ∧ k (μ 2 j)) := rfl
theorem zAs_2 {j v : Int} {μ : zM} {k : zM → Prop} : zAst 0 2 j v μ k = (0 ≤ j ∧ j < 125 ∧ k (zu μ 2 j v)) := by simp only [zAst, zT_2, zN_2, true_and]
theorem zT_3 : zT 3 = 0 := rfl
theorem zN_3 : zN 3 = 20 := rfl
theorem zAl_3 {j : Int} {μ : zM} {k : Int → Prop} : zAld 0 3 j μ k = (0 ≤ j ∧ j < 20 ∧ k (μ 3 j)) := rfl
theorem zAs_3 {j v : Int} {μ : zM} {k : zM → Prop} : zAst 0 3 j v μ k = (0 ≤ j ∧ j < 20 ∧ k (zu μ 3 j v)) := by simp only [zAst, zT_3, zN_3, true_and]
theorem zT_4 : zT 4 = 0 := rfl
theorem zN_4 : zN 4 = 25 := rfl
theorem zAl_4 {j : Int} {μ : zM} {k : Int → Prop} : zAld 0 4 j μ k = (0 ≤ j ∧ j < 25 ∧ k (μ 4 j)) := rfl
theorem zAs_4 {j v : Int} {μ : zM} {k : zM → Prop} : zAst 0 4 j v μ k = (0 ≤ j ∧ j < 25 ∧ k (zu μ 4 j v)) := by simp only [zAst, zT_4, zN_4, true_and]
theorem zT_5 : zT 5 = 0 := rfl
theorem zN_5 : zN 5 = 5 := rfl
theorem zAl_5 {j : Int} {μ : zM} {k : Int → Prop} : zAld 0 5 j μ k = (0 ≤ j ∧ j < 5 ∧ k (μ 5 j)) := rfl
theorem zAs_5 {j v : Int} {μ : zM} {k : zM → Prop} : zAst 0 5 j v μ k = (0 ≤ j ∧ j < 5 ∧ k (zu μ 5 j v)) := by simp only [zAst, zT_5, zN_5, true_and]
theorem zT_6 : zT 6 = 0 := rfl
theorem zN_6 : zN 6 = 8 := rfl
theorem zAl_6 {j : Int} {μ : zM} {k : Int → Prop} : zAld 0 6 j μ k = (0 ≤ j ∧ j < 8 ∧ k (μ 6 j)) := rfl
theorem zAs_6 {j v : Int} {μ : zM} {k : zM → Prop} : zAst 0 6 j v μ k = (0 ≤ j ∧ j < 8 ∧ k (zu μ 6 j v)) := by simp only [zAst, zT_6, zN_6, true_and]
theorem zT_7 : zT 7 = 0 := rfl
theorem zN_7 : zN 7 = 8 := rfl
theorem zAl_7 {j : Int} {μ : zM} {k : Int → Prop} : zAld 0 7 j μ k = (0 ≤ j ∧ j < 8 ∧ k (μ 7 j)) := rfl
theorem zAs_7 {j v : Int} {μ : zM} {k : zM → Prop} : zAst 0 7 j v μ k = (0 ≤ j ∧ j < 8 ∧ k (zu μ 7 j v)) := by simp only [zAst, zT_7, zN_7, true_and]
theorem zT_8 : zT 8 = 3 := rfl
theorem zN_8 : zN 8 = 2 := rfl
theorem zG_64_8 : zG 64 8 = (-1) := rfl
theorem zGf_64_8 {μ : zM} {k : zV → Prop} : zGet (zG 64 8) 8 64 μ k = k (0, μ 8 0) := zGet_n
theorem zPf_64_8 {v : Int} {μ : zM} {k : zM → Prop} : zPut (zG 64 8) 8 64 v μ k = k (zu μ 8 0 v) := zPut_n
theorem zG_65_8 : zG 65 8 = (-1) := rfl
theorem zGf_65_8 {μ : zM} {k : zV → Prop} : zGet (zG 65 8) 8 65 μ k = k (0, μ 8 1) := zGet_n
theorem zPf_65_8 {v : Int} {μ : zM} {k : zM → Prop} : zPut (zG 65 8) 8 65 v μ k = k (zu μ 8 1 v) := zPut_n
theorem zG_66_8 : zG 66 8 = (-1) := rfl
theorem zGf_66_8 {μ : zM} {k : zV → Prop} : zGet (zG 66 8) 8 66 μ k = k (0, μ 8 2) := zGet_n
theorem zPf_66_8 {v : Int} {μ : zM} {k : zM → Prop} : zPut (zG 66 8) 8 66 v μ k = k (zu μ 8 2 v) := zPut_n
theorem zG_67_8 : zG 67 8 = 9 := rfl
theorem zGf_67_8 {μ : zM} {k : zV → Prop} : zGet (zG 67 8) 8 67 μ k = k (2, 9) := rfl
theorem zG_68_8 : zG 68 8 = 10 := rfl
theorem zGf_68_8 {μ : zM} {k : zV → Prop} : zGet (zG 68 8) 8 68 μ k = k (2, 10) := rfl
theorem zG_69_8 : zG 69 8 = 11 := rfl
theorem zGf_69_8 {μ : zM} {k : zV → Prop} : zGet (zG 69 8) 8 69 μ k = k (2, 11) := rfl
theorem zG_70_8 : zG 70 8 = 12 := rfl
theorem zGf_70_8 {μ : zM} {k : zV → Prop} : zGet (zG 70 8) 8 70 μ k = k (2, 12) := rfl
theorem zG_71_8 : zG 71 8 = 13 := rfl
theorem zGf_71_8 {μ : zM} {k : zV → Prop} : zGet (zG 71 8) 8 71 μ k = k (2, 13) := rfl
theorem zG_72_8 : zG 72 8 = 14 := rfl
theorem zGf_72_8 {μ : zM} {k : zV → Prop} : zGet (zG 72 8) 8 72 μ k = k (2, 14) := rfl
theorem zG_73_8 : zG 73 8 = (-1) := rfl
theorem zGf_73_8 {μ : zM} {k : zV → Prop} : zGet (zG 73 8) 8 73 μ k = k (0, μ 8 9) := zGet_n
theorem zPf_73_8 {v : Int} {μ : zM} {k : zM → Prop} : zPut (zG 73 8) 8 73 v μ k = k (zu μ 8 9 v) := zPut_n
theorem zT_9 : zT 9 = 0 := rfl
theorem zN_9 : zN 9 = 125 := rfl
theorem zAl_9 {j : Int} {μ : zM} {k : Int → Prop} : zAld 0 9 j μ k = (0 ≤ j ∧ j < 125 ∧ k (μ 9 j)) := rfl
theorem zAs_9 {j v : Int} {μ : zM} {k : zM → Prop} : zAst 0 9 j v μ k = (0 ≤ j ∧ j < 125 ∧ k (zu μ 9 j v)) := by simp only [zAst, zT_9, zN_9, true_and]
theorem zT_10 : zT 10 = 0 := rfl
theorem zN_10 : zN 10 = 20 := rfl
theorem zAl_10 {j : Int} {μ : zM} {k : Int → Prop} : zAld 0 10 j μ k = (0 ≤ j ∧ j < 20 ∧ k (μ 10 j)) := rfl
theorem zAs_10 {j v : Int} {μ : zM} {k : zM → Prop} : zAst 0 10 j v μ k = (0 ≤ j ∧ j < 20 ∧ k (zu μ 10 j v)) := by simp only [zAst, zT_10, zN_10, true_and]
theorem zT_11 : zT 11 = 0 := rfl
theorem zN_11 : zN 11 = 25 := rfl
theorem zAl_11 {j : Int} {μ : zM} {k : Int → Prop} : zAld 0 11 j μ k = (0 ≤ j ∧ j < 25 ∧ k (μ 11 j)) := rfl
theorem zAs_11 {j v : Int} {μ : zM} {k : zM → Prop} : zAst 0 11 j v μ k = (0 ≤ j ∧ j < 25 ∧ k (zu μ 11 j v)) := by simp only [zAst, zT_11, zN_11, true_and]
theorem zT_12 : zT 12 = 0 := rfl
theorem zN_12 : zN 12 = 5 := rfl
theorem zAl_12 {j : Int} {μ : zM} {k : Int → Prop} : zAld 0 12 j μ k = (0 ≤ j ∧ j < 5 ∧ k (μ 12 j)) := rfl
theorem zAs_12 {j v : Int} {μ : zM} {k : zM → Prop} : zAst 0 12 j v μ k = (0 ≤ j ∧ j < 5 ∧ k (zu μ 12 j v)) := by simp only [zAst, zT_12, zN_12, true_and]
theorem zT_13 : zT 13 = 0 := rfl
theorem zN_13 : zN 13 = 8 := rfl
theorem zAl_13 {j : Int} {μ : zM} {k : Int → Prop} : zAld 0 13 j μ k = (0 ≤ j ∧ j < 8 ∧ k (μ 13 j)) := rfl
theorem zAs_13 {j v : Int} {μ : zM} {k : zM → Prop} : zAst 0 13 j v μ k = (0 ≤ j ∧ j < 8 ∧ k (zu μ 13 j v)) := by simp only [zAst, zT_13, zN_13, true_and]
theorem zT_14 : zT 14 = 0 := rfl
theorem zN_14 : zN 14 = 8 := rfl
theorem zAl_14 {j : Int} {μ : zM} {k : Int → Prop} : zAld 0 14 j μ k = (0 ≤ j ∧ j < 8 ∧ k (μ 14 j)) := rfl
theorem zAs_14 {j v : Int} {μ : zM} {k : zM → Prop} : zAst 0 14 j v μ k = (0 ≤ j ∧ j < 8 ∧ k (zu μ 14 j v)) := by simp only [zAst, zT_14, zN_14, true_and]
theorem zT_15 : zT 15 = 3 := rfl
theorem zN_15 : zN 15 = 1 := rfl
theorem zG_32_15 : zG 32 15 = (-1) := rfl
theorem zGf_32_15 {μ : zM} {k : zV → Prop} : zGet (zG 32 15) 15 32 μ k = k (0, μ 15 0) := zGet_n
theorem zPf_32_15 {v : Int} {μ : zM} {k : zM → Prop} : zPut (zG 32 15) 15 32 v μ k = k (zu μ 15 0 v) := zPut_n
theorem zG_33_15 : zG 33 15 = 16 := rfl
theorem zGf_33_15 {μ : zM} {k : zV → Prop} : zGet (zG 33 15) 15 33 μ k = k (2, 16) := rfl
theorem zT_16 : zT 16 = 0 := rfl
theorem zN_16 : zN 16 = 125 := rfl
theorem zAl_16 {j : Int} {μ : zM} {k : Int → Prop} : zAld 0 16 j μ k = (0 ≤ j ∧ j < 125 ∧ k (μ 16 j)) := rfl
theorem zAs_16 {j v : Int} {μ : zM} {k : zM → Prop} : zAst 0 16 j v μ k = (0 ≤ j ∧ j < 125 ∧ k (zu μ 16 j v)) := by simp only [zAst, zT_16, zN_16, true_and]
theorem zT_17 : zT 17 = 3 := rfl
theorem zN_17 : zN 17 = 1 := rfl
theorem zG_32_17 : zG 32 17 = (-1) := rfl
theorem zGf_32_17 {μ : zM} {k : zV → Prop} : zGet (zG 32 17) 17 32 μ k = k (0, μ 17 0) := zGet_n
theorem zPf_32_17 {v : Int} {μ : zM} {k : zM → Prop} : zPut (zG 32 17) 17 32 v μ k = k (zu μ 17 0 v) := zPut_n
theorem zG_33_17 : zG 33 17 = 18 := rfl
theorem zGf_33_17 {μ : zM} {k : zV → Prop} : zGet (zG 33 17) 17 33 μ k = k (2, 18) := rfl
theorem zT_18 : zT 18 = 0 := rfl
theorem zN_18 : zN 18 = 125 := rfl
theorem zAl_18 {j : Int} {μ : zM} {k : Int → Prop} : zAld 0 18 j μ k = (0 ≤ j ∧ j < 125 ∧ k (μ 18 j)) := rfl
theorem zAs_18 {j v : Int} {μ : zM} {k : zM → Prop} : zAst 0 18 j v μ k = (0 ≤ j ∧ j < 125 ∧ k (zu μ 18 j v)) := by simp only [zAst, zT_18, zN_18, true_and]
theorem zT_19 : zT 19 = 3 := rfl
theorem zN_19 : zN 19 = 0 := rfl
theorem zG_0_19 : zG 0 19 = (-1) := rfl
theorem zGf_0_19 {μ : zM} {k : zV → Prop} : zGet (zG 0 19) 19 0 μ k = k (0, μ 19 0) := zGet_n
theorem zPf_0_19 {v : Int} {μ : zM} {k : zM → Prop} : zPut (zG 0 19) 19 0 v μ k = k (zu μ 19 0 v) := zPut_n
theorem zG_1_19 : zG 1 19 = 20 := rfl
theorem zGf_1_19 {μ : zM} {k : zV → Prop} : zGet (zG 1 19) 19 1 μ k = k (2, 20) := rfl
theorem zG_2_19 : zG 2 19 = 21 := rfl
theorem zGf_2_19 {μ : zM} {k : zV → Prop} : zGet (zG 2 19) 19 2 μ k = k (2, 21) := rfl
theorem zG_3_19 : zG 3 19 = 22 := rfl
theorem zGf_3_19 {μ : zM} {k : zV → Prop} : zGet (zG 3 19) 19 3 μ k = k (2, 22) := rfl
theorem zG_4_19 : zG 4 19 = 23 := rfl
theorem zGf_4_19 {μ : zM} {k : zV → Prop} : zGet (zG 4 19) 19 4 μ k = k (2, 23) := rfl
theorem zT_20 : zT 20 = 0 := rfl
theorem zN_20 : zN 20 = 25 := rfl
theorem zAl_20 {j : Int} {μ : zM} {k : Int → Prop} : zAld 0 20 j μ k = (0 ≤ j ∧ j < 25 ∧ k (μ 20 j)) := rfl
theorem zAs_20 {j v : Int} {μ : zM} {k : zM → Prop} : zAst 0 20 j v μ k = (0 ≤ j ∧ j < 25 ∧ k (zu μ 20 j v)) := by simp only [zAst, zT_20, zN_20, true_and]
theorem zT_21 : zT 21 = 0 := rfl
theorem zN_21 : zN 21 = 5 := rfl
theorem zAl_21 {j : Int} {μ : zM} {k : Int → Prop} : zAld 0 21 j μ k = (0 ≤ j ∧ j < 5 ∧ k (μ 21 j)) := rfl
theorem zAs_21 {j v : Int} {μ : zM} {k : zM → Prop} : zAst 0 21 j v μ k = (0 ≤ j ∧ j < 5 ∧ k (zu μ 21 j v)) := by simp only [zAst, zT_21, zN_21, true_and]
theorem zT_22 : zT 22 = 0 := rfl
theorem zN_22 : zN 22 = 5 := rfl
theorem zAl_22 {j : Int} {μ : zM} {k : Int → Prop} : zAld 0 22 j μ k = (0 ≤ j ∧ j < 5 ∧ k (μ 22 j)) := rfl
theorem zAs_22 {j v : Int} {μ : zM} {k : zM → Prop} : zAst 0 22 j v μ k = (0 ≤ j ∧ j < 5 ∧ k (zu μ 22 j v)) := by simp only [zAst, zT_22, zN_22, true_and]
theorem zT_23 : zT 23 = 0 := rfl
theorem zN_23 : zN 23 = 125 := rfl
theorem zAl_23 {j : Int} {μ : zM} {k : Int → Prop} : zAld 0 23 j μ k = (0 ≤ j ∧ j < 125 ∧ k (μ 23 j)) := rfl
theorem zAs_23 {j v : Int} {μ : zM} {k : zM → Prop} : zAst 0 23 j v μ k = (0 ≤ j ∧ j < 125 ∧ k (zu μ 23 j v)) := by simp only [zAst, zT_23, zN_23, true_and]
theorem zT_24 : zT 24 = 3 := rfl
theorem zN_24 : zN 24 = 4 := rfl
theorem zG_128_24 : zG 128 24 = 25 := rfl
theorem zGf_128_24 {μ : zM} {k : zV → Prop} : zGet (zG 128 24) 24 128 μ k = k (2, 25) := rfl
theorem zG_129_24 : zG 129 24 = 26 := rfl
theorem zGf_129_24 {μ : zM} {k : zV → Prop} : zGet (zG 129 24) 24 129 μ k = k (2, 26) := rfl
theorem zG_130_24 : zG 130 24 = 27 := rfl
theorem zGf_130_24 {μ : zM} {k : zV → Prop} : zGet (zG 130 24) 24 130 μ k = k (2, 27) := rfl
theorem zG_131_24 : zG 131 24 = 28 := rfl
theorem zGf_131_24 {μ : zM} {k : zV → Prop} : zGet (zG 131 24) 24 131 μ k = k (2, 28) := rfl
theorem zT_25 : zT 25 = 0 := rfl
theorem zN_25 : zN 25 = 25 := rfl
theorem zAl_25 {j : Int} {μ : zM} {k : Int → Prop} : zAld 0 25 j μ k = (0 ≤ j ∧ j < 25 ∧ k (μ 25 j)) := rfl
theorem zAs_25 {j v : Int} {μ : zM} {k : zM → Prop} : zAst 0 25 j v μ k = (0 ≤ j ∧ j < 25 ∧ k (zu μ 25 j v)) := by simp only [zAst, zT_25, zN_25, true_and]
theorem zT_26 : zT 26 = 0 := rfl
theorem zN_26 : zN 26 = 25 := rfl
theorem zAl_26 {j : Int} {μ : zM} {k : Int → Prop} : zAld 0 26 j μ k = (0 ≤ j ∧ j < 25 ∧ k (μ 26 j)) := rfl
theorem zAs_26 {j v : Int} {μ : zM} {k : zM → Prop} : zAst 0 26 j v μ k = (0 ≤ j ∧ j < 25 ∧ k (zu μ 26 j v)) := by simp only [zAst, zT_26, zN_26, true_and]
theorem zT_27 : zT 27 = 0 := rfl
theorem zN_27 : zN 27 = 25 := rfl
theorem zAl_27 {j : Int} {μ : zM} {k : Int → Prop} : zAld 0 27 j μ k = (0 ≤ j ∧ j < 25 ∧ k (μ 27 j)) := rfl
theorem zAs_27 {j v : Int} {μ : zM} {k : zM → Prop} : zAst 0 27 j v μ k = (0 ≤ j ∧ j < 25 ∧ k (zu μ 27 j v)) := by simp only [zAst, zT_27, zN_27, true_and]
theorem zT_28 : zT 28 = 0 := rfl
theorem zN_28 : zN 28 = 25 := rfl
theorem zAl_28 {j : Int} {μ : zM} {k : Int → Prop} : zAld 0 28 j μ k = (0 ≤ j ∧ j < 25 ∧ k (μ 28 j)) := rfl
theorem zAs_28 {j v : Int} {μ : zM} {k : zM → Prop} : zAst 0 28 j v μ k = (0 ≤ j ∧ j < 25 ∧ k (zu μ 28 j v)) := by simp only [zAst, zT_28, zN_28, true_and]
theorem zT_29 : zT 29 = 3 := rfl
theorem zN_29 : zN 29 = 3 := rfl
theorem zG_96_29 : zG 96 29 = 30 := rfl
theorem zGf_96_29 {μ : zM} {k : zV → Prop} : zGet (zG 96 29) 29 96 μ k = k (2, 30) := rfl
theorem zG_97_29 : zG 97 29 = (-1) := rfl
theorem zGf_97_29 {μ : zM} {k : zV → Prop} : zGet (zG 97 29) 29 97 μ k = k (0, μ 29 1) := zGet_n
theorem zPf_97_29 {v : Int} {μ : zM} {k : zM → Prop} : zPut (zG 97 29) 29 97 v μ k = k (zu μ 29 1 v) := zPut_n
theorem zG_98_29 : zG 98 29 = 31 := rfl
theorem zGf_98_29 {μ : zM} {k : zV → Prop} : zGet (zG 98 29) 29 98 μ k = k (2, 31) := rfl
theorem zG_99_29 : zG 99 29 = (-1) := rfl
theorem zGf_99_29 {μ : zM} {k : zV → Prop} : zGet (zG 99 29) 29 99 μ k = k (0, μ 29 3) := zGet_n
theorem zPf_99_29 {v : Int} {μ : zM} {k : zM → Prop} : zPut (zG 99 29) 29 99 v μ k = k (zu μ 29 3 v) := zPut_n
theorem zG_100_29 : zG 100 29 = (-1) := rfl
theorem zGf_100_29 {μ : zM} {k : zV → Prop} : zGet (zG 100 29) 29 100 μ k = k (0, μ 29 4) := zGet_n
theorem zPf_100_29 {v : Int} {μ : zM} {k : zM → Prop} : zPut (zG 100 29) 29 100 v μ k = k (zu μ 29 4 v) := zPut_n
theorem zG_101_29 : zG 101 29 = 32 := rfl
theorem zGf_101_29 {μ : zM} {k : zV → Prop} : zGet (zG 101 29) 29 101 μ k = k (2, 32) := rfl
theorem zT_30 : zT 30 = 1 := rfl
theorem zN_30 : zN 30 = 60 := rfl
theorem zAl_30 {j : Int} {μ : zM} {k : Int → Prop} : zAld 1 30 j μ k = (0 ≤ j ∧ j < 60 ∧ k (μ 30 j)) := rfl
theorem zAs_30 {j v : Int} {μ : zM} {k : zM → Prop} : zAst 1 30 j v μ k = (0 ≤ j ∧ j < 60 ∧ k (zu μ 30 j v)) := by simp only [zAst, zT_30, zN_30, true_and]
theorem zT_31 : zT 31 = 0 := rfl
theorem zN_31 : zN 31 = 5 := rfl
theorem zAl_31 {j : Int} {μ : zM} {k : Int → Prop} : zAld 0 31 j μ k = (0 ≤ j ∧ j < 5 ∧ k (μ 31 j)) := rfl
theorem zAs_31 {j v : Int} {μ : zM} {k : zM → Prop} : zAst 0 31 j v μ k = (0 ≤ j ∧ j < 5 ∧ k (zu μ 31 j v)) := by simp only [zAst, zT_31, zN_31, true_and]
theorem zT_32 : zT 32 = 0 := rfl
theorem zN_32 : zN 32 = 125 := rfl
theorem zAl_32 {j : Int} {μ : zM} {k : Int → Prop} : zAld 0 32 j μ k = (0 ≤ j ∧ j < 125 ∧ k (μ 32 j)) := rfl
theorem zAs_32 {j v : Int} {μ : zM} {k : zM → Prop} : zAst 0 32 j v μ k = (0 ≤ j ∧ j < 125 ∧ k (zu μ 32 j v)) := by simp only [zAst, zT_32, zN_32, true_and]
theorem zT_33 : zT 33 = 1 := rfl
theorem zN_33 : zN 33 = 24 := rfl
theorem zAl_33 {j : Int} {μ : zM} {k : Int → Prop} : zAld 1 33 j μ k = (0 ≤ j ∧ j < 24 ∧ k (μ 33 j)) := rfl
theorem zAs_33 {j v : Int} {μ : zM} {k : zM → Prop} : zAst 1 33 j v μ k = (0 ≤ j ∧ j < 24 ∧ k (zu μ 33 j v)) := by simp only [zAst, zT_33, zN_33, true_and]
theorem zT_34 : zT 34 = 2 := rfl
theorem zN_34 : zN 34 = 48 := rfl
theorem zAl_34 {j : Int} {μ : zM} {k : Int → Prop} : zAld 2 34 j μ k = (0 ≤ j ∧ j < 48 ∧ k (μ 34 j)) := rfl
theorem zAs_34 {j v : Int} {μ : zM} {k : zM → Prop} : zAst 2 34 j v μ k = (0 ≤ j ∧ j < 48 ∧ k (zu μ 34 j v)) := by simp only [zAst, zT_34, zN_34, true_and]
theorem zT_35 : zT 35 = 0 := rfl
theorem zN_35 : zN 35 = 4 := rfl
theorem zAl_35 {j : Int} {μ : zM} {k : Int → Prop} : zAld 0 35 j μ k = (0 ≤ j ∧ j < 4 ∧ k (μ 35 j)) := rfl
theorem zAs_35 {j v : Int} {μ : zM} {k : zM → Prop} : zAst 0 35 j v μ k = (0 ≤ j ∧ j < 4 ∧ k (zu μ 35 j v)) := by simp only [zAst, zT_35, zN_35, true_and]
theorem zT_36 : zT 36 = 2 := rfl
theorem zN_36 : zN 36 = 5 := rfl
theorem zAl_36 {j : Int} {μ : zM} {k : Int → Prop} : zAld 2 36 j μ k = (0 ≤ j ∧ j < 5 ∧ k (μ 36 j)) := rfl
theorem zAs_36 {j v : Int} {μ : zM} {k : zM → Prop} : zAst 2 36 j v μ k = (0 ≤ j ∧ j < 5 ∧ k (zu μ 36 j v)) := by simp only [zAst, zT_36, zN_36, true_and]
theorem zT_37 : zT 37 = 2 := rfl
theorem zN_37 : zN 37 = 5 := rfl
theorem zAl_37 {j : Int} {μ : zM} {k : Int → Prop} : zAld 2 37 j μ k = (0 ≤ j ∧ j < 5 ∧ k (μ 37 j)) := rfl
theorem zAs_37 {j v : Int} {μ : zM} {k : zM → Prop} : zAst 2 37 j v μ k = (0 ≤ j ∧ j < 5 ∧ k (zu μ 37 j v)) := by simp only [zAst, zT_37, zN_37, true_and]
theorem zT_38 : zT 38 = 2 := rfl
theorem zN_38 : zN 38 = 5 := rfl
theorem zAl_38 {j : Int} {μ : zM} {k : Int → Prop} : zAld 2 38 j μ k = (0 ≤ j ∧ j < 5 ∧ k (μ 38 j)) := rfl
theorem zAs_38 {j v : Int} {μ : zM} {k : zM → Prop} : zAst 2 38 j v μ k = (0 ≤ j ∧ j < 5 ∧ k (zu μ 38 j v)) := by simp only [zAst, zT_38, zN_38, true_and]
theorem zT_39 : zT 39 = 3 := rfl
theorem zN_39 : zN 39 = 6 := rfl
theorem zG_192_39 : zG 192 39 = 40 := rfl
theorem zGf_192_39 {μ : zM} {k : zV → Prop} : zGet (zG 192 39) 39 192 μ k = k (2, 40) := rfl
theorem zG_193_39 : zG 193 39 = 41 := rfl
theorem zGf_193_39 {μ : zM} {k : zV → Prop} : zGet (zG 193 39) 39 193 μ k = k (2, 41) := rfl
theorem zG_194_39 : zG 194 39 = (-2) := rfl
theorem zGf_194_39 {μ : zM} {k : zV → Prop} : zGet (zG 194 39) 39 194 μ k = k (0, μ 39 2) := zGet_z
theorem zPf_194_39 {v : Int} {μ : zM} {k : zM → Prop} : zPut (zG 194 39) 39 194 v μ k = ((v = 0 ∨ v = 1) ∧ k (zu μ 39 2 v)) := zPut_z
theorem zG_195_39 : zG 195 39 = 42 := rfl
theorem zGf_195_39 {μ : zM} {k : zV → Prop} : zGet (zG 195 39) 39 195 μ k = k (2, 42) := rfl
theorem zG_196_39 : zG 196 39 = 43 := rfl
theorem zGf_196_39 {μ : zM} {k : zV → Prop} : zGet (zG 196 39) 39 196 μ k = k (2, 43) := rfl
theorem zG_197_39 : zG 197 39 = 44 := rfl
theorem zGf_197_39 {μ : zM} {k : zV → Prop} : zGet (zG 197 39) 39 197 μ k = k (2, 44) := rfl
theorem zG_198_39 : zG 198 39 = (-1) := rfl
theorem zGf_198_39 {μ : zM} {k : zV → Prop} : zGet (zG 198 39) 39 198 μ k = k (0, μ 39 6) := zGet_n
theorem zPf_198_39 {v : Int} {μ : zM} {k : zM → Prop} : zPut (zG 198 39) 39 198 v μ k = k (zu μ 39 6 v) := zPut_n
theorem zG_199_39 : zG 199 39 = (-1) := rfl
theorem zGf_199_39 {μ : zM} {k : zV → Prop} : zGet (zG 199 39) 39 199 μ k = k (0, μ 39 7) := zGet_n
theorem zPf_199_39 {v : Int} {μ : zM} {k : zM → Prop} : zPut (zG 199 39) 39 199 v μ k = k (zu μ 39 7 v) := zPut_n
theorem zG_200_39 : zG 200 39 = (-1) := rfl
theorem zGf_200_39 {μ : zM} {k : zV → Prop} : zGet (zG 200 39) 39 200 μ k = k (0, μ 39 8) := zGet_n
theorem zPf_200_39 {v : Int} {μ : zM} {k : zM → Prop} : zPut (zG 200 39) 39 200 v μ k = k (zu μ 39 8 v) := zPut_n
theorem zG_201_39 : zG 201 39 = 45 := rfl
theorem zGf_201_39 {μ : zM} {k : zV → Prop} : zGet (zG 201 39) 39 201 μ k = k (2, 45) := rfl
theorem zG_202_39 : zG 202 39 = (-1) := rfl
theorem zGf_202_39 {μ : zM} {k : zV → Prop} : zGet (zG 202 39) 39 202 μ k = k (0, μ 39 10) := zGet_n
theorem zPf_202_39 {v : Int} {μ : zM} {k : zM → Prop} : zPut (zG 202 39) 39 202 v μ k = k (zu μ 39 10 v) := zPut_n
theorem zG_203_39 : zG 203 39 = 46 := rfl
theorem zGf_203_39 {μ : zM} {k : zV → Prop} : zGet (zG 203 39) 39 203 μ k = k (2, 46) := rfl
theorem zG_204_39 : zG 204 39 = (-1) := rfl
theorem zGf_204_39 {μ : zM} {k : zV → Prop} : zGet (zG 204 39) 39 204 μ k = k (0, μ 39 12) := zGet_n
theorem zPf_204_39 {v : Int} {μ : zM} {k : zM → Prop} : zPut (zG 204 39) 39 204 v μ k = k (zu μ 39 12 v) := zPut_n
theorem zG_205_39 : zG 205 39 = 47 := rfl
theorem zGf_205_39 {μ : zM} {k : zV → Prop} : zGet (zG 205 39) 39 205 μ k = k (2, 47) := rfl
theorem zG_206_39 : zG 206 39 = 48 := rfl
theorem zGf_206_39 {μ : zM} {k : zV → Prop} : zGet (zG 206 39) 39 206 μ k = k (2, 48) := rfl
theorem zG_207_39 : zG 207 39 = 49 := rfl
theorem zGf_207_39 {μ : zM} {k : zV → Prop} : zGet (zG 207 39) 39 207 μ k = k (2, 49) := rfl
theorem zG_208_39 : zG 208 39 = 50 := rfl
theorem zGf_208_39 {μ : zM} {k : zV → Prop} : zGet (zG 208 39) 39 208 μ k = k (2, 50) := rfl
theorem zG_209_39 : zG 209 39 = 51 := rfl
theorem zGf_209_39 {μ : zM} {k : zV → Prop} : zGet (zG 209 39) 39 209 μ k = k (2, 51) := rfl
theorem zG_210_39 : zG 210 39 = 52 := rfl
theorem zGf_210_39 {μ : zM} {k : zV → Prop} : zGet (zG 210 39) 39 210 μ k = k (2, 52) := rfl
theorem zG_211_39 : zG 211 39 = 53 := rfl
theorem zGf_211_39 {μ : zM} {k : zV → Prop} : zGet (zG 211 39) 39 211 μ k = k (2, 53) := rfl
theorem zG_212_39 : zG 212 39 = 54 := rfl
theorem zGf_212_39 {μ : zM} {k : zV → Prop} : zGet (zG 212 39) 39 212 μ k = k (2, 54) := rfl
theorem zG_213_39 : zG 213 39 = 55 := rfl
theorem zGf_213_39 {μ : zM} {k : zV → Prop} : zGet (zG 213 39) 39 213 μ k = k (2, 55) := rfl
theorem zG_214_39 : zG 214 39 = (-1) := rfl
theorem zGf_214_39 {μ : zM} {k : zV → Prop} : zGet (zG 214 39) 39 214 μ k = k (0, μ 39 22) := zGet_n
theorem zPf_214_39 {v : Int} {μ : zM} {k : zM → Prop} : zPut (zG 214 39) 39 214 v μ k = k (zu μ 39 22 v) := zPut_n
theorem zG_215_39 : zG 215 39 = 56 := rfl
theorem zGf_215_39 {μ : zM} {k : zV → Prop} : zGet (zG 215 39) 39 215 μ k = k (2, 56) := rfl
theorem zG_216_39 : zG 216 39 = 57 := rfl
theorem zGf_216_39 {μ : zM} {k : zV → Prop} : zGet (zG 216 39) 39 216 μ k = k (2, 57) := rfl
theorem zT_40 : zT 40 = 0 := rfl
theorem zN_40 : zN 40 = 195 := rfl
theorem zAl_40 {j : Int} {μ : zM} {k : Int → Prop} : zAld 0 40 j μ k = (0 ≤ j ∧ j < 195 ∧ k (μ 40 j)) := rfl
theorem zAs_40 {j v : Int} {μ : zM} {k : zM → Prop} : zAst 0 40 j v μ k = (0 ≤ j ∧ j < 195 ∧ k (zu μ 40 j v)) := by simp only [zAst, zT_40, zN_40, true_and]
theorem zT_41 : zT 41 = 0 := rfl
theorem zN_41 : zN 41 = 195 := rfl
theorem zAl_41 {j : Int} {μ : zM} {k : Int → Prop} : zAld 0 41 j μ k = (0 ≤ j ∧ j < 195 ∧ k (μ 41 j)) := rfl
theorem zAs_41 {j v : Int} {μ : zM} {k : zM → Prop} : zAst 0 41 j v μ k = (0 ≤ j ∧ j < 195 ∧ k (zu μ 41 j v)) := by simp only [zAst, zT_41, zN_41, true_and]
theorem zT_42 : zT 42 = 2 := rfl
theorem zN_42 : zN 42 = 5 := rfl
theorem zAl_42 {j : Int} {μ : zM} {k : Int → Prop} : zAld 2 42 j μ k = (0 ≤ j ∧ j < 5 ∧ k (μ 42 j)) := rfl
theorem zAs_42 {j v : Int} {μ : zM} {k : zM → Prop} : zAst 2 42 j v μ k = (0 ≤ j ∧ j < 5 ∧ k (zu μ 42 j v)) := by simp only [zAst, zT_42, zN_42, true_and]
theorem zT_43 : zT 43 = 2 := rfl
theorem zN_43 : zN 43 = 5 := rfl
theorem zAl_43 {j : Int} {μ : zM} {k : Int → Prop} : zAld 2 43 j μ k = (0 ≤ j ∧ j < 5 ∧ k (μ 43 j)) := rfl
theorem zAs_43 {j v : Int} {μ : zM} {k : zM → Prop} : zAst 2 43 j v μ k = (0 ≤ j ∧ j < 5 ∧ k (zu μ 43 j v)) := by simp only [zAst, zT_43, zN_43, true_and]
theorem zT_44 : zT 44 = 0 := rfl
theorem zN_44 : zN 44 = 60 := rfl
theorem zAl_44 {j : Int} {μ : zM} {k : Int → Prop} : zAld 0 44 j μ k = (0 ≤ j ∧ j < 60 ∧ k (μ 44 j)) := rfl
theorem zAs_44 {j v : Int} {μ : zM} {k : zM → Prop} : zAst 0 44 j v μ k = (0 ≤ j ∧ j < 60 ∧ k (zu μ 44 j v)) := by simp only [zAst, zT_44, zN_44, true_and]
theorem zT_45 : zT 45 = 0 := rfl
theorem zN_45 : zN 45 = 5 := rfl
theorem zAl_45 {j : Int} {μ : zM} {k : Int → Prop} : zAld 0 45 j μ k = (0 ≤ j ∧ j < 5 ∧ k (μ 45 j)) := rfl
theorem zAs_45 {j v : Int} {μ : zM} {k : zM → Prop} : zAst 0 45 j v μ k = (0 ≤ j ∧ j < 5 ∧ k (zu μ 45 j v)) := by simp only [zAst, zT_45, zN_45, true_and]
theorem zT_46 : zT 46 = 0 := rfl
theorem zN_46 : zN 46 = 320 := rfl
theorem zAl_46 {j : Int} {μ : zM} {k : Int → Prop} : zAld 0 46 j μ k = (0 ≤ j ∧ j < 320 ∧ k (μ 46 j)) := rfl
theorem zAs_46 {j v : Int} {μ : zM} {k : zM → Prop} : zAst 0 46 j v μ k = (0 ≤ j ∧ j < 320 ∧ k (zu μ 46 j v)) := by simp only [zAst, zT_46, zN_46, true_and]
theorem zT_47 : zT 47 = 0 := rfl
theorem zN_47 : zN 47 = 5 := rfl
theorem zAl_47 {j : Int} {μ : zM} {k : Int → Prop} : zAld 0 47 j μ k = (0 ≤ j ∧ j < 5 ∧ k (μ 47 j)) := rfl
theorem zAs_47 {j v : Int} {μ : zM} {k : zM → Prop} : zAst 0 47 j v μ k = (0 ≤ j ∧ j < 5 ∧ k (zu μ 47 j v)) := by simp only [zAst, zT_47, zN_47, true_and]
theorem zT_48 : zT 48 = 0 := rfl
theorem zN_48 : zN 48 = 25 := rfl
theorem zAl_48 {j : Int} {μ : zM} {k : Int → Prop} : zAld 0 48 j μ k = (0 ≤ j ∧ j < 25 ∧ k (μ 48 j)) := rfl
theorem zAs_48 {j v : Int} {μ : zM} {k : zM → Prop} : zAst 0 48 j v μ k = (0 ≤ j ∧ j < 25 ∧ k (zu μ 48 j v)) := by simp only [zAst, zT_48, zN_48, true_and]
theorem zT_49 : zT 49 = 0 := rfl
theorem zN_49 : zN 49 = 25 := rfl
theorem zAl_49 {j : Int} {μ : zM} {k : Int → Prop} : zAld 0 49 j μ k = (0 ≤ j ∧ j < 25 ∧ k (μ 49 j)) := rfl
theorem zAs_49 {j v : Int} {μ : zM} {k : zM → Prop} : zAst 0 49 j v μ k = (0 ≤ j ∧ j < 25 ∧ k (zu μ 49 j v)) := by simp only [zAst, zT_49, zN_49, true_and]
theorem zT_50 : zT 50 = 0 := rfl
theorem zN_50 : zN 50 = 25 := rfl
theorem zAl_50 {j : Int} {μ : zM} {k : Int → Prop} : zAld 0 50 j μ k = (0 ≤ j ∧ j < 25 ∧ k (μ 50 j)) := rfl
theorem zAs_50 {j v : Int} {μ : zM} {k : zM → Prop} : zAst 0 50 j v μ k = (0 ≤ j ∧ j < 25 ∧ k (zu μ 50 j v)) := by simp only [zAst, zT_50, zN_50, true_and]
theorem zT_51 : zT 51 = 0 := rfl
theorem zN_51 : zN 51 = 25 := rfl
theorem zAl_51 {j : Int} {μ : zM} {k : Int → Prop} : zAld 0 51 j μ k = (0 ≤ j ∧ j < 25 ∧ k (μ 51 j)) := rfl
theorem zAs_51 {j v : Int} {μ : zM} {k : zM → Prop} : zAst 0 51 j v μ k = (0 ≤ j ∧ j < 25 ∧ k (zu μ 51 j v)) := by simp only [zAst, zT_51, zN_51, true_and]
theorem zT_52 : zT 52 = 0 := rfl
theorem zN_52 : zN 52 = 25 := rfl
theorem zAl_52 {j : Int} {μ : zM} {k : Int → Prop} : zAld 0 52 j μ k = (0 ≤ j ∧ j < 25 ∧ k (μ 52 j)) := rfl
theorem zAs_52 {j v : Int} {μ : zM} {k : zM → Prop} : zAst 0 52 j v μ k = (0 ≤ j ∧ j < 25 ∧ k (zu μ 52 j v)) := by simp only [zAst, zT_52, zN_52, true_and]
theorem zT_53 : zT 53 = 0 := rfl
theorem zN_53 : zN 53 = 25 := rfl
theorem zAl_53 {j : Int} {μ : zM} {k : Int → Prop} : zAld 0 53 j μ k = (0 ≤ j ∧ j < 25 ∧ k (μ 53 j)) := rfl
theorem zAs_53 {j v : Int} {μ : zM} {k : zM → Prop} : zAst 0 53 j v μ k = (0 ≤ j ∧ j < 25 ∧ k (zu μ 53 j v)) := by simp only [zAst, zT_53, zN_53, true_and]
theorem zT_54 : zT 54 = 0 := rfl
theorem zN_54 : zN 54 = 195 := rfl
theorem zAl_54 {j : Int} {μ : zM} {k : Int → Prop} : zAld 0 54 j μ k = (0 ≤ j ∧ j < 195 ∧ k (μ 54 j)) := rfl
theorem zAs_54 {j v : Int} {μ : zM} {k : zM → Prop} : zAst 0 54 j v μ k = (0 ≤ j ∧ j < 195 ∧ k (zu μ 54 j v)) := by simp only [zAst, zT_54, zN_54, true_and]
theorem zT_55 : zT 55 = 0 := rfl
theorem zN_55 : zN 55 = 40 := rfl
theorem zAl_55 {j : Int} {μ : zM} {k : Int → Prop} : zAld 0 55 j μ k = (0 ≤ j ∧ j < 40 ∧ k (μ 55 j)) := rfl
theorem zAs_55 {j v : Int} {μ : zM} {k : zM → Prop} : zAst 0 55 j v μ k = (0 ≤ j ∧ j < 40 ∧ k (zu μ 55 j v)) := by simp only [zAst, zT_55, zN_55, true_and]
theorem zT_56 : zT 56 = 2 := rfl
theorem zN_56 : zN 56 = 48 := rfl
theorem zAl_56 {j : Int} {μ : zM} {k : Int → Prop} : zAld 2 56 j μ k = (0 ≤ j ∧ j < 48 ∧ k (μ 56 j)) := rfl
theorem zAs_56 {j v : Int} {μ : zM} {k : zM → Prop} : zAst 2 56 j v μ k = (0 ≤ j ∧ j < 48 ∧ k (zu μ 56 j v)) := by simp only [zAst, zT_56, zN_56, true_and]
theorem zT_57 : zT 57 = 0 := rfl
theorem zN_57 : zN 57 = 4 := rfl
theorem zAl_57 {j : Int} {μ : zM} {k : Int → Prop} : zAld 0 57 j μ k = (0 ≤ j ∧ j < 4 ∧ k (μ 57 j)) := rfl
theorem zAs_57 {j v : Int} {μ : zM} {k : zM → Prop} : zAst 0 57 j v μ k = (0 ≤ j ∧ j < 4 ∧ k (zu μ 57 j v)) := by simp only [zAst, zT_57, zN_57, true_and]
theorem zT_99 : zT 99 = 4 := rfl
