-- links of fields and methods (written by wip/tools/gen_links.py)
theorem flX9_9 : zFl RX9 9 9 0 := ⟨RX9, TX9, 10, rfl, by decide, rfl, zT1 38 rfl rfl⟩
theorem fX9_9 : zFa RX9 9 9 0 := ⟨flX9_9, rfl⟩
theorem flX9_22 : zFl RX9 22 9 1 := ⟨RX9, TX9, 10, rfl, by decide, rfl, zT1 39 rfl rfl⟩
theorem fX9_22 : zFi RX9 22 9 1 := ⟨flX9_22, rfl⟩
theorem pX9_22 : zPi RX9 22 9 1 := ⟨flX9_22, rfl, rfl⟩
theorem flX11_185 : zFl RX11 185 9 1 := ⟨RX9, TX9, 10, rfl, by decide, rfl, zT1 40 rfl rfl⟩
theorem fX11_185 : zFi RX11 185 9 1 := ⟨flX11_185, rfl⟩
theorem pX11_185 : zPi RX11 185 9 1 := ⟨flX11_185, rfl, rfl⟩
theorem flX9_25 : zFl RX9 25 9 2 := ⟨RX9, TX9, 10, rfl, by decide, rfl, zT1 41 rfl rfl⟩
theorem fX9_25 : zFi RX9 25 9 2 := ⟨flX9_25, rfl⟩
theorem pX9_25 : zPi RX9 25 9 2 := ⟨flX9_25, rfl, rfl⟩
theorem flX9_28 : zFl RX9 28 9 3 := ⟨RX9, TX9, 10, rfl, by decide, rfl, zT1 42 rfl rfl⟩
theorem fX9_28 : zFi RX9 28 9 3 := ⟨flX9_28, rfl⟩
theorem pX9_28 : zPi RX9 28 9 3 := ⟨flX9_28, rfl, rfl⟩
theorem flX9_41 : zFl RX9 41 9 4 := ⟨RX9, TX9, 10, rfl, by decide, rfl, zT1 43 rfl rfl⟩
theorem fX9_41 : zFi RX9 41 9 4 := ⟨flX9_41, rfl⟩
theorem pX9_41 : zPi RX9 41 9 4 := ⟨flX9_41, rfl, rfl⟩
theorem flX9_31 : zFl RX9 31 9 5 := ⟨RX9, TX9, 10, rfl, by decide, rfl, zT1 44 rfl rfl⟩
theorem fX9_31 : zFi RX9 31 9 5 := ⟨flX9_31, rfl⟩
theorem pX9_31 : zPi RX9 31 9 5 := ⟨flX9_31, rfl, rfl⟩
theorem flX7_78 : zFl RX7 78 9 6 := ⟨RX9, TX9, 10, rfl, by decide, rfl, zT1 45 rfl rfl⟩
theorem fX7_78 : zFi RX7 78 9 6 := ⟨flX7_78, rfl⟩
theorem pX7_78 : zPi RX7 78 9 6 := ⟨flX7_78, rfl, rfl⟩
theorem flX9_38 : zFl RX9 38 9 6 := ⟨RX9, TX9, 10, rfl, by decide, rfl, zT1 46 rfl rfl⟩
theorem fX9_38 : zFi RX9 38 9 6 := ⟨flX9_38, rfl⟩
theorem pX9_38 : zPi RX9 38 9 6 := ⟨flX9_38, rfl, rfl⟩
theorem flX0_124 : zFl RX0 124 9 6 := ⟨RX9, TX9, 10, rfl, by decide, rfl, zT1 47 rfl rfl⟩
theorem fX0_124 : zFi RX0 124 9 6 := ⟨flX0_124, rfl⟩
theorem pX0_124 : zPi RX0 124 9 6 := ⟨flX0_124, rfl, rfl⟩
theorem flX5_129 : zFl RX5 129 9 6 := ⟨RX9, TX9, 10, rfl, by decide, rfl, zT1 48 rfl rfl⟩
theorem fX5_129 : zFi RX5 129 9 6 := ⟨flX5_129, rfl⟩
theorem pX5_129 : zPi RX5 129 9 6 := ⟨flX5_129, rfl, rfl⟩
theorem flX9_34 : zFl RX9 34 9 7 := ⟨RX9, TX9, 10, rfl, by decide, rfl, zT1 49 rfl rfl⟩
theorem fX9_34 : zFj RX9 34 9 7 := ⟨flX9_34, rfl⟩
theorem pX9_34 : zPj RX9 34 9 7 := ⟨flX9_34, rfl, rfl⟩
theorem flX0_132 : zFl RX0 132 9 7 := ⟨RX9, TX9, 10, rfl, by decide, rfl, zT1 50 rfl rfl⟩
theorem fX0_132 : zFj RX0 132 9 7 := ⟨flX0_132, rfl⟩
theorem pX0_132 : zPj RX0 132 9 7 := ⟨flX0_132, rfl, rfl⟩
theorem flX5_110 : zFl RX5 110 9 7 := ⟨RX9, TX9, 10, rfl, by decide, rfl, zT1 51 rfl rfl⟩
theorem fX5_110 : zFj RX5 110 9 7 := ⟨flX5_110, rfl⟩
theorem pX5_110 : zPj RX5 110 9 7 := ⟨flX5_110, rfl, rfl⟩
theorem flX9_15 : zFl RX9 15 9 8 := ⟨RX9, TX9, 10, rfl, by decide, rfl, zT1 52 rfl rfl⟩
theorem fX9_15 : zFi RX9 15 9 8 := ⟨flX9_15, rfl⟩
theorem pX9_15 : zPi RX9 15 9 8 := ⟨flX9_15, rfl, rfl⟩
theorem flX11_212 : zFl RX11 212 9 8 := ⟨RX9, TX9, 10, rfl, by decide, rfl, zT1 53 rfl rfl⟩
theorem fX11_212 : zFi RX11 212 9 8 := ⟨flX11_212, rfl⟩
theorem pX11_212 : zPi RX11 212 9 8 := ⟨flX11_212, rfl, rfl⟩
theorem flX9_19 : zFl RX9 19 9 9 := ⟨RX9, TX9, 10, rfl, by decide, rfl, zT1 54 rfl rfl⟩
theorem fX9_19 : zFi RX9 19 9 9 := ⟨flX9_19, rfl⟩
theorem pX9_19 : zPi RX9 19 9 9 := ⟨flX9_19, rfl, rfl⟩
theorem flX11_215 : zFl RX11 215 9 9 := ⟨RX9, TX9, 10, rfl, by decide, rfl, zT1 55 rfl rfl⟩
theorem fX11_215 : zFi RX11 215 9 9 := ⟨flX11_215, rfl⟩
theorem pX11_215 : zPi RX11 215 9 9 := ⟨flX11_215, rfl, rfl⟩
theorem flX5_40 : zFl RX5 40 5 0 := ⟨RX5, TX5, 13, rfl, by decide, rfl, zT1 84 rfl rfl⟩
theorem fX5_40 : zFi RX5 40 5 0 := ⟨flX5_40, rfl⟩
theorem pX5_40 : zPi RX5 40 5 0 := ⟨flX5_40, rfl, rfl⟩
theorem flX2_39 : zFl RX2 39 5 0 := ⟨RX5, TX5, 13, rfl, by decide, rfl, zT1 85 rfl rfl⟩
theorem fX2_39 : zFi RX2 39 5 0 := ⟨flX2_39, rfl⟩
theorem pX2_39 : zPi RX2 39 5 0 := ⟨flX2_39, rfl, rfl⟩
theorem flX6_57 : zFl RX6 57 5 0 := ⟨RX5, TX5, 13, rfl, by decide, rfl, zT1 86 rfl rfl⟩
theorem fX6_57 : zFi RX6 57 5 0 := ⟨flX6_57, rfl⟩
theorem pX6_57 : zPi RX6 57 5 0 := ⟨flX6_57, rfl, rfl⟩
theorem flX8_80 : zFl RX8 80 5 0 := ⟨RX5, TX5, 13, rfl, by decide, rfl, zT1 87 rfl rfl⟩
theorem fX8_80 : zFi RX8 80 5 0 := ⟨flX8_80, rfl⟩
theorem pX8_80 : zPi RX8 80 5 0 := ⟨flX8_80, rfl, rfl⟩
theorem flX11_120 : zFl RX11 120 5 0 := ⟨RX5, TX5, 13, rfl, by decide, rfl, zT1 88 rfl rfl⟩
theorem fX11_120 : zFi RX11 120 5 0 := ⟨flX11_120, rfl⟩
theorem pX11_120 : zPi RX11 120 5 0 := ⟨flX11_120, rfl, rfl⟩
theorem flX5_44 : zFl RX5 44 5 1 := ⟨RX5, TX5, 13, rfl, by decide, rfl, zT1 89 rfl rfl⟩
theorem fX5_44 : zFi RX5 44 5 1 := ⟨flX5_44, rfl⟩
theorem pX5_44 : zPi RX5 44 5 1 := ⟨flX5_44, rfl, rfl⟩
theorem flX6_36 : zFl RX6 36 5 1 := ⟨RX5, TX5, 13, rfl, by decide, rfl, zT1 90 rfl rfl⟩
theorem fX6_36 : zFi RX6 36 5 1 := ⟨flX6_36, rfl⟩
theorem pX6_36 : zPi RX6 36 5 1 := ⟨flX6_36, rfl, rfl⟩
theorem flX8_49 : zFl RX8 49 5 1 := ⟨RX5, TX5, 13, rfl, by decide, rfl, zT1 91 rfl rfl⟩
theorem fX8_49 : zFi RX8 49 5 1 := ⟨flX8_49, rfl⟩
theorem pX8_49 : zPi RX8 49 5 1 := ⟨flX8_49, rfl, rfl⟩
theorem flX1_60 : zFl RX1 60 5 1 := ⟨RX5, TX5, 13, rfl, by decide, rfl, zT1 92 rfl rfl⟩
theorem fX1_60 : zFi RX1 60 5 1 := ⟨flX1_60, rfl⟩
theorem pX1_60 : zPi RX1 60 5 1 := ⟨flX1_60, rfl, rfl⟩
theorem flX3_88 : zFl RX3 88 5 1 := ⟨RX5, TX5, 13, rfl, by decide, rfl, zT1 93 rfl rfl⟩
theorem fX3_88 : zFi RX3 88 5 1 := ⟨flX3_88, rfl⟩
theorem pX3_88 : zPi RX3 88 5 1 := ⟨flX3_88, rfl, rfl⟩
theorem flX2_116 : zFl RX2 116 5 1 := ⟨RX5, TX5, 13, rfl, by decide, rfl, zT1 94 rfl rfl⟩
theorem fX2_116 : zFi RX2 116 5 1 := ⟨flX2_116, rfl⟩
theorem pX2_116 : zPi RX2 116 5 1 := ⟨flX2_116, rfl, rfl⟩
theorem flX11_221 : zFl RX11 221 5 1 := ⟨RX5, TX5, 13, rfl, by decide, rfl, zT1 95 rfl rfl⟩
theorem fX11_221 : zFi RX11 221 5 1 := ⟨flX11_221, rfl⟩
theorem pX11_221 : zPi RX11 221 5 1 := ⟨flX11_221, rfl, rfl⟩
theorem flX5_9 : zFl RX5 9 5 2 := ⟨RX5, TX5, 13, rfl, by decide, rfl, zT1 96 rfl rfl⟩
theorem fX5_9 : zFa RX5 9 5 2 := ⟨flX5_9, rfl⟩
theorem flX5_15 : zFl RX5 15 5 3 := ⟨RX5, TX5, 13, rfl, by decide, rfl, zT1 97 rfl rfl⟩
theorem fX5_15 : zFa RX5 15 5 3 := ⟨flX5_15, rfl⟩
theorem flX8_83 : zFl RX8 83 5 3 := ⟨RX5, TX5, 13, rfl, by decide, rfl, zT1 98 rfl rfl⟩
theorem fX8_83 : zFa RX8 83 5 3 := ⟨flX8_83, rfl⟩
theorem flX11_227 : zFl RX11 227 5 3 := ⟨RX5, TX5, 13, rfl, by decide, rfl, zT1 99 rfl rfl⟩
theorem fX11_227 : zFa RX11 227 5 3 := ⟨flX11_227, rfl⟩
theorem flX5_19 : zFl RX5 19 5 4 := ⟨RX5, TX5, 13, rfl, by decide, rfl, zT1 100 rfl rfl⟩
theorem fX5_19 : zFa RX5 19 5 4 := ⟨flX5_19, rfl⟩
theorem flX2_44 : zFl RX2 44 5 4 := ⟨RX5, TX5, 13, rfl, by decide, rfl, zT1 101 rfl rfl⟩
theorem fX2_44 : zFa RX2 44 5 4 := ⟨flX2_44, rfl⟩
theorem flX5_22 : zFl RX5 22 5 5 := ⟨RX5, TX5, 13, rfl, by decide, rfl, zT1 102 rfl rfl⟩
theorem fX5_22 : zFa RX5 22 5 5 := ⟨flX5_22, rfl⟩
theorem flX11_231 : zFl RX11 231 5 5 := ⟨RX5, TX5, 13, rfl, by decide, rfl, zT1 103 rfl rfl⟩
theorem fX11_231 : zFa RX11 231 5 5 := ⟨flX11_231, rfl⟩
theorem flX5_47 : zFl RX5 47 5 6 := ⟨RX5, TX5, 13, rfl, by decide, rfl, zT1 104 rfl rfl⟩
theorem fX5_47 : zFi RX5 47 5 6 := ⟨flX5_47, rfl⟩
theorem pX5_47 : zPz RX5 47 5 6 := ⟨flX5_47, rfl, rfl⟩
theorem flX5_51 : zFl RX5 51 5 7 := ⟨RX5, TX5, 13, rfl, by decide, rfl, zT1 105 rfl rfl⟩
theorem fX5_51 : zFi RX5 51 5 7 := ⟨flX5_51, rfl⟩
theorem pX5_51 : zPi RX5 51 5 7 := ⟨flX5_51, rfl, rfl⟩
theorem flX1_57 : zFl RX1 57 5 7 := ⟨RX5, TX5, 13, rfl, by decide, rfl, zT1 106 rfl rfl⟩
theorem fX1_57 : zFi RX1 57 5 7 := ⟨flX1_57, rfl⟩
theorem pX1_57 : zPi RX1 57 5 7 := ⟨flX1_57, rfl, rfl⟩
theorem flX2_78 : zFl RX2 78 5 7 := ⟨RX5, TX5, 13, rfl, by decide, rfl, zT1 107 rfl rfl⟩
theorem fX2_78 : zFi RX2 78 5 7 := ⟨flX2_78, rfl⟩
theorem pX2_78 : zPi RX2 78 5 7 := ⟨flX2_78, rfl, rfl⟩
theorem flX8_109 : zFl RX8 109 5 7 := ⟨RX5, TX5, 13, rfl, by decide, rfl, zT1 108 rfl rfl⟩
theorem fX8_109 : zFi RX8 109 5 7 := ⟨flX8_109, rfl⟩
theorem pX8_109 : zPi RX8 109 5 7 := ⟨flX8_109, rfl, rfl⟩
theorem flX11_123 : zFl RX11 123 5 7 := ⟨RX5, TX5, 13, rfl, by decide, rfl, zT1 109 rfl rfl⟩
theorem fX11_123 : zFi RX11 123 5 7 := ⟨flX11_123, rfl⟩
theorem pX11_123 : zPi RX11 123 5 7 := ⟨flX11_123, rfl, rfl⟩
theorem flX5_25 : zFl RX5 25 5 8 := ⟨RX5, TX5, 13, rfl, by decide, rfl, zT1 110 rfl rfl⟩
theorem fX5_25 : zFa RX5 25 5 8 := ⟨flX5_25, rfl⟩
theorem flX6_39 : zFl RX6 39 5 8 := ⟨RX5, TX5, 13, rfl, by decide, rfl, zT1 111 rfl rfl⟩
theorem fX6_39 : zFa RX6 39 5 8 := ⟨flX6_39, rfl⟩
theorem flX1_69 : zFl RX1 69 5 8 := ⟨RX5, TX5, 13, rfl, by decide, rfl, zT1 112 rfl rfl⟩
theorem fX1_69 : zFa RX1 69 5 8 := ⟨flX1_69, rfl⟩
theorem flX8_65 : zFl RX8 65 5 8 := ⟨RX5, TX5, 13, rfl, by decide, rfl, zT1 113 rfl rfl⟩
theorem fX8_65 : zFa RX8 65 5 8 := ⟨flX8_65, rfl⟩
theorem flX3_91 : zFl RX3 91 5 8 := ⟨RX5, TX5, 13, rfl, by decide, rfl, zT1 114 rfl rfl⟩
theorem fX3_91 : zFa RX3 91 5 8 := ⟨flX3_91, rfl⟩
theorem flX2_106 : zFl RX2 106 5 8 := ⟨RX5, TX5, 13, rfl, by decide, rfl, zT1 115 rfl rfl⟩
theorem fX2_106 : zFa RX2 106 5 8 := ⟨flX2_106, rfl⟩
theorem flX11_237 : zFl RX11 237 5 8 := ⟨RX5, TX5, 13, rfl, by decide, rfl, zT1 116 rfl rfl⟩
theorem fX11_237 : zFa RX11 237 5 8 := ⟨flX11_237, rfl⟩
theorem flX5_28 : zFl RX5 28 5 9 := ⟨RX5, TX5, 13, rfl, by decide, rfl, zT1 117 rfl rfl⟩
theorem fX5_28 : zFa RX5 28 5 9 := ⟨flX5_28, rfl⟩
theorem flX8_115 : zFl RX8 115 5 9 := ⟨RX5, TX5, 13, rfl, by decide, rfl, zT1 118 rfl rfl⟩
theorem fX8_115 : zFa RX8 115 5 9 := ⟨flX8_115, rfl⟩
theorem flX11_240 : zFl RX11 240 5 9 := ⟨RX5, TX5, 13, rfl, by decide, rfl, zT1 119 rfl rfl⟩
theorem fX11_240 : zFa RX11 240 5 9 := ⟨flX11_240, rfl⟩
theorem flX5_31 : zFl RX5 31 5 10 := ⟨RX5, TX5, 13, rfl, by decide, rfl, zT1 120 rfl rfl⟩
theorem fX5_31 : zFa RX5 31 5 10 := ⟨flX5_31, rfl⟩
theorem flX8_112 : zFl RX8 112 5 10 := ⟨RX5, TX5, 13, rfl, by decide, rfl, zT1 121 rfl rfl⟩
theorem fX8_112 : zFa RX8 112 5 10 := ⟨flX8_112, rfl⟩
theorem flX11_243 : zFl RX11 243 5 10 := ⟨RX5, TX5, 13, rfl, by decide, rfl, zT1 122 rfl rfl⟩
theorem fX11_243 : zFa RX11 243 5 10 := ⟨flX11_243, rfl⟩
theorem flX5_34 : zFl RX5 34 5 11 := ⟨RX5, TX5, 13, rfl, by decide, rfl, zT1 123 rfl rfl⟩
theorem fX5_34 : zFa RX5 34 5 11 := ⟨flX5_34, rfl⟩
theorem flX2_81 : zFl RX2 81 5 11 := ⟨RX5, TX5, 13, rfl, by decide, rfl, zT1 124 rfl rfl⟩
theorem fX2_81 : zFa RX2 81 5 11 := ⟨flX2_81, rfl⟩
theorem flX11_246 : zFl RX11 246 5 11 := ⟨RX5, TX5, 13, rfl, by decide, rfl, zT1 125 rfl rfl⟩
theorem fX11_246 : zFa RX11 246 5 11 := ⟨flX11_246, rfl⟩
theorem flX5_37 : zFl RX5 37 5 12 := ⟨RX5, TX5, 13, rfl, by decide, rfl, zT1 126 rfl rfl⟩
theorem fX5_37 : zFa RX5 37 5 12 := ⟨flX5_37, rfl⟩
theorem flX2_103 : zFl RX2 103 5 12 := ⟨RX5, TX5, 13, rfl, by decide, rfl, zT1 127 rfl rfl⟩
theorem fX2_103 : zFa RX2 103 5 12 := ⟨flX2_103, rfl⟩
theorem flX7_9 : zFl RX7 9 7 0 := ⟨RX7, TX7, 4, rfl, by decide, rfl, zT1 163 rfl rfl⟩
theorem fX7_9 : zFi RX7 9 7 0 := ⟨flX7_9, rfl⟩
theorem pX7_9 : zPi RX7 9 7 0 := ⟨flX7_9, rfl, rfl⟩
theorem flX2_29 : zFl RX2 29 7 0 := ⟨RX7, TX7, 4, rfl, by decide, rfl, zT1 164 rfl rfl⟩
theorem fX2_29 : zFi RX2 29 7 0 := ⟨flX2_29, rfl⟩
theorem pX2_29 : zPi RX2 29 7 0 := ⟨flX2_29, rfl, rfl⟩
theorem flX11_209 : zFl RX11 209 7 0 := ⟨RX7, TX7, 4, rfl, by decide, rfl, zT1 165 rfl rfl⟩
theorem fX11_209 : zFi RX11 209 7 0 := ⟨flX11_209, rfl⟩
theorem pX11_209 : zPi RX11 209 7 0 := ⟨flX11_209, rfl, rfl⟩
theorem flX7_15 : zFl RX7 15 7 1 := ⟨RX7, TX7, 4, rfl, by decide, rfl, zT1 166 rfl rfl⟩
theorem fX7_15 : zFa RX7 15 7 1 := ⟨flX7_15, rfl⟩
theorem flX2_53 : zFl RX2 53 7 1 := ⟨RX7, TX7, 4, rfl, by decide, rfl, zT1 167 rfl rfl⟩
theorem fX2_53 : zFa RX2 53 7 1 := ⟨flX2_53, rfl⟩
theorem flX7_19 : zFl RX7 19 7 2 := ⟨RX7, TX7, 4, rfl, by decide, rfl, zT1 168 rfl rfl⟩
theorem fX7_19 : zFa RX7 19 7 2 := ⟨flX7_19, rfl⟩
theorem flX2_66 : zFl RX2 66 7 2 := ⟨RX7, TX7, 4, rfl, by decide, rfl, zT1 169 rfl rfl⟩
theorem fX2_66 : zFa RX2 66 7 2 := ⟨flX2_66, rfl⟩
theorem flX7_22 : zFl RX7 22 7 3 := ⟨RX7, TX7, 4, rfl, by decide, rfl, zT1 170 rfl rfl⟩
theorem fX7_22 : zFa RX7 22 7 3 := ⟨flX7_22, rfl⟩
theorem flX2_84 : zFl RX2 84 7 3 := ⟨RX7, TX7, 4, rfl, by decide, rfl, zT1 171 rfl rfl⟩
theorem fX2_84 : zFa RX2 84 7 3 := ⟨flX2_84, rfl⟩
theorem flX0_35 : zFl RX0 35 0 0 := ⟨RX0, TX0, 11, rfl, by decide, rfl, zT1 187 rfl rfl⟩
theorem fX0_35 : zFi RX0 35 0 0 := ⟨flX0_35, rfl⟩
theorem pX0_35 : zPi RX0 35 0 0 := ⟨flX0_35, rfl, rfl⟩
theorem flX3_47 : zFl RX3 47 0 0 := ⟨RX0, TX0, 11, rfl, by decide, rfl, zT1 188 rfl rfl⟩
theorem fX3_47 : zFi RX3 47 0 0 := ⟨flX3_47, rfl⟩
theorem pX3_47 : zPi RX3 47 0 0 := ⟨flX3_47, rfl, rfl⟩
theorem flX0_39 : zFl RX0 39 0 1 := ⟨RX0, TX0, 11, rfl, by decide, rfl, zT1 189 rfl rfl⟩
theorem fX0_39 : zFi RX0 39 0 1 := ⟨flX0_39, rfl⟩
theorem pX0_39 : zPi RX0 39 0 1 := ⟨flX0_39, rfl, rfl⟩
theorem flX11_362 : zFl RX11 362 0 1 := ⟨RX0, TX0, 11, rfl, by decide, rfl, zT1 190 rfl rfl⟩
theorem fX11_362 : zFi RX11 362 0 1 := ⟨flX11_362, rfl⟩
theorem pX11_362 : zPi RX11 362 0 1 := ⟨flX11_362, rfl, rfl⟩
theorem flX0_42 : zFl RX0 42 0 2 := ⟨RX0, TX0, 11, rfl, by decide, rfl, zT1 191 rfl rfl⟩
theorem fX0_42 : zFi RX0 42 0 2 := ⟨flX0_42, rfl⟩
theorem pX0_42 : zPz RX0 42 0 2 := ⟨flX0_42, rfl, rfl⟩
theorem flX3_107 : zFl RX3 107 0 2 := ⟨RX0, TX0, 11, rfl, by decide, rfl, zT1 192 rfl rfl⟩
theorem fX3_107 : zFi RX3 107 0 2 := ⟨flX3_107, rfl⟩
theorem pX3_107 : zPz RX3 107 0 2 := ⟨flX3_107, rfl, rfl⟩
theorem flX0_11 : zFl RX0 11 0 3 := ⟨RX0, TX0, 11, rfl, by decide, rfl, zT1 193 rfl rfl⟩
theorem fX0_11 : zFa RX0 11 0 3 := ⟨flX0_11, rfl⟩
theorem flX3_50 : zFl RX3 50 0 3 := ⟨RX0, TX0, 11, rfl, by decide, rfl, zT1 194 rfl rfl⟩
theorem fX3_50 : zFa RX3 50 0 3 := ⟨flX3_50, rfl⟩
theorem flX0_15 : zFl RX0 15 0 4 := ⟨RX0, TX0, 11, rfl, by decide, rfl, zT1 195 rfl rfl⟩
theorem fX0_15 : zFa RX0 15 0 4 := ⟨flX0_15, rfl⟩
theorem flX3_78 : zFl RX3 78 0 4 := ⟨RX0, TX0, 11, rfl, by decide, rfl, zT1 196 rfl rfl⟩
theorem fX3_78 : zFa RX3 78 0 4 := ⟨flX3_78, rfl⟩
theorem flX0_18 : zFl RX0 18 0 5 := ⟨RX0, TX0, 11, rfl, by decide, rfl, zT1 197 rfl rfl⟩
theorem fX0_18 : zFa RX0 18 0 5 := ⟨flX0_18, rfl⟩
theorem flX3_81 : zFl RX3 81 0 5 := ⟨RX0, TX0, 11, rfl, by decide, rfl, zT1 198 rfl rfl⟩
theorem fX3_81 : zFa RX3 81 0 5 := ⟨flX3_81, rfl⟩
theorem flX0_21 : zFl RX0 21 0 6 := ⟨RX0, TX0, 11, rfl, by decide, rfl, zT1 199 rfl rfl⟩
theorem fX0_21 : zFa RX0 21 0 6 := ⟨flX0_21, rfl⟩
theorem flX3_64 : zFl RX3 64 0 6 := ⟨RX0, TX0, 11, rfl, by decide, rfl, zT1 200 rfl rfl⟩
theorem fX3_64 : zFa RX3 64 0 6 := ⟨flX3_64, rfl⟩
theorem flX0_25 : zFl RX0 25 0 7 := ⟨RX0, TX0, 11, rfl, by decide, rfl, zT1 201 rfl rfl⟩
theorem fX0_25 : zFa RX0 25 0 7 := ⟨flX0_25, rfl⟩
theorem flX3_100 : zFl RX3 100 0 7 := ⟨RX0, TX0, 11, rfl, by decide, rfl, zT1 202 rfl rfl⟩
theorem fX3_100 : zFa RX3 100 0 7 := ⟨flX3_100, rfl⟩
theorem flX0_29 : zFl RX0 29 0 8 := ⟨RX0, TX0, 11, rfl, by decide, rfl, zT1 203 rfl rfl⟩
theorem fX0_29 : zFa RX0 29 0 8 := ⟨flX0_29, rfl⟩
theorem flX3_53 : zFl RX3 53 0 8 := ⟨RX0, TX0, 11, rfl, by decide, rfl, zT1 204 rfl rfl⟩
theorem fX3_53 : zFa RX3 53 0 8 := ⟨flX3_53, rfl⟩
theorem flX0_32 : zFl RX0 32 0 9 := ⟨RX0, TX0, 11, rfl, by decide, rfl, zT1 205 rfl rfl⟩
theorem fX0_32 : zFa RX0 32 0 9 := ⟨flX0_32, rfl⟩
theorem flX0_52 : zFl RX0 52 0 10 := ⟨RX0, TX0, 11, rfl, by decide, rfl, zT1 206 rfl rfl⟩
theorem fX0_52 : zFi RX0 52 0 10 := ⟨flX0_52, rfl⟩
theorem pX0_52 : zPi RX0 52 0 10 := ⟨flX0_52, rfl, rfl⟩
theorem flX2_21 : zFl RX2 21 2 0 := ⟨RX2, TX2, 5, rfl, by decide, rfl, zT1 239 rfl rfl⟩
theorem fX2_21 : zFa RX2 21 2 0 := ⟨flX2_21, rfl⟩
theorem flX2_25 : zFl RX2 25 2 1 := ⟨RX2, TX2, 5, rfl, by decide, rfl, zT2 0 rfl rfl⟩
theorem fX2_25 : zFa RX2 25 2 1 := ⟨flX2_25, rfl⟩
theorem flX2_9 : zFl RX2 9 2 2 := ⟨RX2, TX2, 5, rfl, by decide, rfl, zT2 1 rfl rfl⟩
theorem fX2_9 : zFa RX2 9 2 2 := ⟨flX2_9, rfl⟩
theorem flX2_15 : zFl RX2 15 2 3 := ⟨RX2, TX2, 5, rfl, by decide, rfl, zT2 2 rfl rfl⟩
theorem fX2_15 : zFa RX2 15 2 3 := ⟨flX2_15, rfl⟩
theorem flX2_18 : zFl RX2 18 2 4 := ⟨RX2, TX2, 5, rfl, by decide, rfl, zT2 3 rfl rfl⟩
theorem fX2_18 : zFa RX2 18 2 4 := ⟨flX2_18, rfl⟩
theorem flX8_21 : zFl RX8 21 8 0 := ⟨RX8, TX8, 12, rfl, by decide, rfl, zT2 21 rfl rfl⟩
theorem fX8_21 : zFa RX8 21 8 0 := ⟨flX8_21, rfl⟩
theorem flX8_25 : zFl RX8 25 8 1 := ⟨RX8, TX8, 12, rfl, by decide, rfl, zT2 22 rfl rfl⟩
theorem fX8_25 : zFa RX8 25 8 1 := ⟨flX8_25, rfl⟩
theorem flX8_29 : zFl RX8 29 8 2 := ⟨RX8, TX8, 12, rfl, by decide, rfl, zT2 23 rfl rfl⟩
theorem fX8_29 : zFi RX8 29 8 2 := ⟨flX8_29, rfl⟩
theorem pX8_29 : zPi RX8 29 8 2 := ⟨flX8_29, rfl, rfl⟩
theorem flX8_33 : zFl RX8 33 8 3 := ⟨RX8, TX8, 12, rfl, by decide, rfl, zT2 24 rfl rfl⟩
theorem fX8_33 : zFi RX8 33 8 3 := ⟨flX8_33, rfl⟩
theorem pX8_33 : zPz RX8 33 8 3 := ⟨flX8_33, rfl, rfl⟩
theorem flX8_37 : zFl RX8 37 8 4 := ⟨RX8, TX8, 12, rfl, by decide, rfl, zT2 25 rfl rfl⟩
theorem fX8_37 : zFi RX8 37 8 4 := ⟨flX8_37, rfl⟩
theorem pX8_37 : zPi RX8 37 8 4 := ⟨flX8_37, rfl, rfl⟩
theorem flX8_98 : zFl RX8 98 8 5 := ⟨RX8, TX8, 12, rfl, by decide, rfl, zT2 26 rfl rfl⟩
theorem fX8_98 : zFi RX8 98 8 5 := ⟨flX8_98, rfl⟩
theorem pX8_98 : zPi RX8 98 8 5 := ⟨flX8_98, rfl, rfl⟩
theorem flX8_9 : zFl RX8 9 8 6 := ⟨RX8, TX8, 12, rfl, by decide, rfl, zT2 27 rfl rfl⟩
theorem fX8_9 : zFa RX8 9 8 6 := ⟨flX8_9, rfl⟩
theorem flX8_15 : zFl RX8 15 8 7 := ⟨RX8, TX8, 12, rfl, by decide, rfl, zT2 28 rfl rfl⟩
theorem fX8_15 : zFa RX8 15 8 7 := ⟨flX8_15, rfl⟩
theorem flX8_40 : zFl RX8 40 8 8 := ⟨RX8, TX8, 12, rfl, by decide, rfl, zT2 29 rfl rfl⟩
theorem fX8_40 : zFi RX8 40 8 8 := ⟨flX8_40, rfl⟩
theorem pX8_40 : zPi RX8 40 8 8 := ⟨flX8_40, rfl, rfl⟩
theorem flX11_299 : zFl RX11 299 8 8 := ⟨RX8, TX8, 12, rfl, by decide, rfl, zT2 30 rfl rfl⟩
theorem fX11_299 : zFi RX11 299 8 8 := ⟨flX11_299, rfl⟩
theorem pX11_299 : zPi RX11 299 8 8 := ⟨flX11_299, rfl, rfl⟩
theorem flX4_19 : zFl RX4 19 8 9 := ⟨RX8, TX8, 12, rfl, by decide, rfl, zT2 31 rfl rfl⟩
theorem fX4_19 : zFi RX4 19 8 9 := ⟨flX4_19, rfl⟩
theorem pX4_19 : zPi RX4 19 8 9 := ⟨flX4_19, rfl, rfl⟩
theorem flX8_74 : zFl RX8 74 8 9 := ⟨RX8, TX8, 12, rfl, by decide, rfl, zT2 32 rfl rfl⟩
theorem fX8_74 : zFi RX8 74 8 9 := ⟨flX8_74, rfl⟩
theorem pX8_74 : zPi RX8 74 8 9 := ⟨flX8_74, rfl, rfl⟩
theorem flX4_25 : zFl RX4 25 8 10 := ⟨RX8, TX8, 12, rfl, by decide, rfl, zT2 33 rfl rfl⟩
theorem fX4_25 : zFi RX4 25 8 10 := ⟨flX4_25, rfl⟩
theorem pX4_25 : zPi RX4 25 8 10 := ⟨flX4_25, rfl, rfl⟩
theorem flX8_77 : zFl RX8 77 8 10 := ⟨RX8, TX8, 12, rfl, by decide, rfl, zT2 34 rfl rfl⟩
theorem fX8_77 : zFi RX8 77 8 10 := ⟨flX8_77, rfl⟩
theorem pX8_77 : zPi RX8 77 8 10 := ⟨flX8_77, rfl, rfl⟩
theorem flX8_18 : zFl RX8 18 8 11 := ⟨RX8, TX8, 12, rfl, by decide, rfl, zT2 35 rfl rfl⟩
theorem fX8_18 : zFa RX8 18 8 11 := ⟨flX8_18, rfl⟩
theorem flX4_38 : zFl RX4 38 8 11 := ⟨RX8, TX8, 12, rfl, by decide, rfl, zT2 36 rfl rfl⟩
theorem fX4_38 : zFa RX4 38 8 11 := ⟨flX4_38, rfl⟩
theorem flX4_11 : zFl RX4 11 4 0 := ⟨RX4, TX4, 5, rfl, by decide, rfl, zT2 68 rfl rfl⟩
theorem fX4_11 : zFi RX4 11 4 0 := ⟨flX4_11, rfl⟩
theorem pX4_11 : zPi RX4 11 4 0 := ⟨flX4_11, rfl, rfl⟩
theorem flX11_313 : zFl RX11 313 4 0 := ⟨RX4, TX4, 5, rfl, by decide, rfl, zT2 69 rfl rfl⟩
theorem fX11_313 : zFi RX11 313 4 0 := ⟨flX11_313, rfl⟩
theorem pX11_313 : zPi RX11 313 4 0 := ⟨flX11_313, rfl, rfl⟩
theorem flX4_24 : zFl RX4 24 4 1 := ⟨RX4, TX4, 5, rfl, by decide, rfl, zT2 70 rfl rfl⟩
theorem fX4_24 : zFi RX4 24 4 1 := ⟨flX4_24, rfl⟩
theorem pX4_24 : zPi RX4 24 4 1 := ⟨flX4_24, rfl, rfl⟩
theorem flX11_316 : zFl RX11 316 4 1 := ⟨RX4, TX4, 5, rfl, by decide, rfl, zT2 71 rfl rfl⟩
theorem fX11_316 : zFi RX11 316 4 1 := ⟨flX11_316, rfl⟩
theorem pX11_316 : zPi RX11 316 4 1 := ⟨flX11_316, rfl, rfl⟩
theorem flX4_28 : zFl RX4 28 4 2 := ⟨RX4, TX4, 5, rfl, by decide, rfl, zT2 72 rfl rfl⟩
theorem fX4_28 : zFi RX4 28 4 2 := ⟨flX4_28, rfl⟩
theorem pX4_28 : zPi RX4 28 4 2 := ⟨flX4_28, rfl, rfl⟩
theorem flX11_319 : zFl RX11 319 4 2 := ⟨RX4, TX4, 5, rfl, by decide, rfl, zT2 73 rfl rfl⟩
theorem fX11_319 : zFi RX11 319 4 2 := ⟨flX11_319, rfl⟩
theorem pX11_319 : zPi RX11 319 4 2 := ⟨flX11_319, rfl, rfl⟩
theorem flX4_35 : zFl RX4 35 4 3 := ⟨RX4, TX4, 5, rfl, by decide, rfl, zT2 74 rfl rfl⟩
theorem fX4_35 : zFi RX4 35 4 3 := ⟨flX4_35, rfl⟩
theorem pX4_35 : zPi RX4 35 4 3 := ⟨flX4_35, rfl, rfl⟩
theorem flX11_322 : zFl RX11 322 4 3 := ⟨RX4, TX4, 5, rfl, by decide, rfl, zT2 75 rfl rfl⟩
theorem fX11_322 : zFi RX11 322 4 3 := ⟨flX11_322, rfl⟩
theorem pX11_322 : zPi RX11 322 4 3 := ⟨flX11_322, rfl, rfl⟩
theorem flX4_15 : zFl RX4 15 4 4 := ⟨RX4, TX4, 5, rfl, by decide, rfl, zT2 76 rfl rfl⟩
theorem fX4_15 : zFa RX4 15 4 4 := ⟨flX4_15, rfl⟩
theorem flX11_323 : zFl RX11 323 4 4 := ⟨RX4, TX4, 5, rfl, by decide, rfl, zT2 77 rfl rfl⟩
theorem fX11_323 : zFa RX11 323 4 4 := ⟨flX11_323, rfl⟩
theorem flX6_22 : zFl RX6 22 6 0 := ⟨RX6, TX6, 6, rfl, by decide, rfl, zT2 95 rfl rfl⟩
theorem fX6_22 : zFa RX6 22 6 0 := ⟨flX6_22, rfl⟩
theorem flX6_26 : zFl RX6 26 6 1 := ⟨RX6, TX6, 6, rfl, by decide, rfl, zT2 96 rfl rfl⟩
theorem fX6_26 : zFa RX6 26 6 1 := ⟨flX6_26, rfl⟩
theorem flX6_11 : zFl RX6 11 6 2 := ⟨RX6, TX6, 6, rfl, by decide, rfl, zT2 97 rfl rfl⟩
theorem fX6_11 : zFa RX6 11 6 2 := ⟨flX6_11, rfl⟩
theorem flX6_15 : zFl RX6 15 6 3 := ⟨RX6, TX6, 6, rfl, by decide, rfl, zT2 98 rfl rfl⟩
theorem fX6_15 : zFa RX6 15 6 3 := ⟨flX6_15, rfl⟩
theorem flX6_66 : zFl RX6 66 6 4 := ⟨RX6, TX6, 6, rfl, by decide, rfl, zT2 99 rfl rfl⟩
theorem fX6_66 : zFi RX6 66 6 4 := ⟨flX6_66, rfl⟩
theorem pX6_66 : zPz RX6 66 6 4 := ⟨flX6_66, rfl, rfl⟩
theorem flX11_342 : zFl RX11 342 6 4 := ⟨RX6, TX6, 6, rfl, by decide, rfl, zT2 100 rfl rfl⟩
theorem fX11_342 : zFi RX11 342 6 4 := ⟨flX11_342, rfl⟩
theorem pX11_342 : zPz RX11 342 6 4 := ⟨flX11_342, rfl, rfl⟩
theorem flX6_18 : zFl RX6 18 6 5 := ⟨RX6, TX6, 6, rfl, by decide, rfl, zT2 101 rfl rfl⟩
theorem fX6_18 : zFi RX6 18 6 5 := ⟨flX6_18, rfl⟩
theorem pX6_18 : zPi RX6 18 6 5 := ⟨flX6_18, rfl, rfl⟩
theorem flX11_345 : zFl RX11 345 6 5 := ⟨RX6, TX6, 6, rfl, by decide, rfl, zT2 102 rfl rfl⟩
theorem fX11_345 : zFi RX11 345 6 5 := ⟨flX11_345, rfl⟩
theorem pX11_345 : zPi RX11 345 6 5 := ⟨flX11_345, rfl, rfl⟩
theorem flX1_22 : zFl RX1 22 1 0 := ⟨RX1, TX1, 7, rfl, by decide, rfl, zT2 122 rfl rfl⟩
theorem fX1_22 : zFa RX1 22 1 0 := ⟨flX1_22, rfl⟩
theorem flX1_26 : zFl RX1 26 1 1 := ⟨RX1, TX1, 7, rfl, by decide, rfl, zT2 123 rfl rfl⟩
theorem fX1_26 : zFa RX1 26 1 1 := ⟨flX1_26, rfl⟩
theorem flX1_9 : zFl RX1 9 1 2 := ⟨RX1, TX1, 7, rfl, by decide, rfl, zT2 124 rfl rfl⟩
theorem fX1_9 : zFa RX1 9 1 2 := ⟨flX1_9, rfl⟩
theorem flX1_30 : zFl RX1 30 1 3 := ⟨RX1, TX1, 7, rfl, by decide, rfl, zT2 125 rfl rfl⟩
theorem fX1_30 : zFi RX1 30 1 3 := ⟨flX1_30, rfl⟩
theorem pX1_30 : zPi RX1 30 1 3 := ⟨flX1_30, rfl, rfl⟩
theorem flX1_34 : zFl RX1 34 1 4 := ⟨RX1, TX1, 7, rfl, by decide, rfl, zT2 126 rfl rfl⟩
theorem fX1_34 : zFj RX1 34 1 4 := ⟨flX1_34, rfl⟩
theorem pX1_34 : zPj RX1 34 1 4 := ⟨flX1_34, rfl, rfl⟩
theorem flX1_15 : zFl RX1 15 1 5 := ⟨RX1, TX1, 7, rfl, by decide, rfl, zT2 127 rfl rfl⟩
theorem fX1_15 : zFj RX1 15 1 5 := ⟨flX1_15, rfl⟩
theorem pX1_15 : zPj RX1 15 1 5 := ⟨flX1_15, rfl, rfl⟩
theorem flX11_113 : zFl RX11 113 1 5 := ⟨RX1, TX1, 7, rfl, by decide, rfl, zT2 128 rfl rfl⟩
theorem fX11_113 : zFj RX11 113 1 5 := ⟨flX11_113, rfl⟩
theorem pX11_113 : zPj RX11 113 1 5 := ⟨flX11_113, rfl, rfl⟩
theorem flX1_19 : zFl RX1 19 1 6 := ⟨RX1, TX1, 7, rfl, by decide, rfl, zT2 129 rfl rfl⟩
theorem fX1_19 : zFj RX1 19 1 6 := ⟨flX1_19, rfl⟩
theorem pX1_19 : zPj RX1 19 1 6 := ⟨flX1_19, rfl, rfl⟩
theorem flX11_117 : zFl RX11 117 1 6 := ⟨RX1, TX1, 7, rfl, by decide, rfl, zT2 130 rfl rfl⟩
theorem fX11_117 : zFj RX11 117 1 6 := ⟨flX11_117, rfl⟩
theorem pX11_117 : zPj RX11 117 1 6 := ⟨flX11_117, rfl, rfl⟩
theorem flX3_17 : zFl RX3 17 3 0 := ⟨RX3, TX3, 9, rfl, by decide, rfl, zT2 152 rfl rfl⟩
theorem fX3_17 : zFa RX3 17 3 0 := ⟨flX3_17, rfl⟩
theorem flX3_21 : zFl RX3 21 3 1 := ⟨RX3, TX3, 9, rfl, by decide, rfl, zT2 153 rfl rfl⟩
theorem fX3_21 : zFa RX3 21 3 1 := ⟨flX3_21, rfl⟩
theorem flX3_25 : zFl RX3 25 3 2 := ⟨RX3, TX3, 9, rfl, by decide, rfl, zT2 154 rfl rfl⟩
theorem fX3_25 : zFa RX3 25 3 2 := ⟨flX3_25, rfl⟩
theorem flX3_11 : zFl RX3 11 3 3 := ⟨RX3, TX3, 9, rfl, by decide, rfl, zT2 155 rfl rfl⟩
theorem fX3_11 : zFa RX3 11 3 3 := ⟨flX3_11, rfl⟩
theorem flX3_29 : zFl RX3 29 3 4 := ⟨RX3, TX3, 9, rfl, by decide, rfl, zT2 156 rfl rfl⟩
theorem fX3_29 : zFi RX3 29 3 4 := ⟨flX3_29, rfl⟩
theorem pX3_29 : zPz RX3 29 3 4 := ⟨flX3_29, rfl, rfl⟩
theorem flX11_368 : zFl RX11 368 3 4 := ⟨RX3, TX3, 9, rfl, by decide, rfl, zT2 157 rfl rfl⟩
theorem fX11_368 : zFi RX11 368 3 4 := ⟨flX11_368, rfl⟩
theorem pX11_368 : zPz RX11 368 3 4 := ⟨flX11_368, rfl, rfl⟩
theorem flX3_33 : zFl RX3 33 3 5 := ⟨RX3, TX3, 9, rfl, by decide, rfl, zT2 158 rfl rfl⟩
theorem fX3_33 : zFi RX3 33 3 5 := ⟨flX3_33, rfl⟩
theorem pX3_33 : zPi RX3 33 3 5 := ⟨flX3_33, rfl, rfl⟩
theorem flX11_371 : zFl RX11 371 3 5 := ⟨RX3, TX3, 9, rfl, by decide, rfl, zT2 159 rfl rfl⟩
theorem fX11_371 : zFi RX11 371 3 5 := ⟨flX11_371, rfl⟩
theorem pX11_371 : zPi RX11 371 3 5 := ⟨flX11_371, rfl, rfl⟩
theorem flX3_37 : zFl RX3 37 3 6 := ⟨RX3, TX3, 9, rfl, by decide, rfl, zT2 160 rfl rfl⟩
theorem fX3_37 : zFi RX3 37 3 6 := ⟨flX3_37, rfl⟩
theorem pX3_37 : zPi RX3 37 3 6 := ⟨flX3_37, rfl, rfl⟩
theorem flX11_374 : zFl RX11 374 3 6 := ⟨RX3, TX3, 9, rfl, by decide, rfl, zT2 161 rfl rfl⟩
theorem fX11_374 : zFi RX11 374 3 6 := ⟨flX11_374, rfl⟩
theorem pX11_374 : zPi RX11 374 3 6 := ⟨flX11_374, rfl, rfl⟩
theorem flX3_40 : zFl RX3 40 3 7 := ⟨RX3, TX3, 9, rfl, by decide, rfl, zT2 162 rfl rfl⟩
theorem fX3_40 : zFi RX3 40 3 7 := ⟨flX3_40, rfl⟩
theorem pX3_40 : zPi RX3 40 3 7 := ⟨flX3_40, rfl, rfl⟩
theorem flX11_377 : zFl RX11 377 3 7 := ⟨RX3, TX3, 9, rfl, by decide, rfl, zT2 163 rfl rfl⟩
theorem fX11_377 : zFi RX11 377 3 7 := ⟨flX11_377, rfl⟩
theorem pX11_377 : zPi RX11 377 3 7 := ⟨flX11_377, rfl, rfl⟩
theorem flX3_43 : zFl RX3 43 3 8 := ⟨RX3, TX3, 9, rfl, by decide, rfl, zT2 164 rfl rfl⟩
theorem fX3_43 : zFi RX3 43 3 8 := ⟨flX3_43, rfl⟩
theorem pX3_43 : zPz RX3 43 3 8 := ⟨flX3_43, rfl, rfl⟩
theorem flX11_380 : zFl RX11 380 3 8 := ⟨RX3, TX3, 9, rfl, by decide, rfl, zT2 165 rfl rfl⟩
theorem fX11_380 : zFi RX11 380 3 8 := ⟨flX11_380, rfl⟩
theorem pX11_380 : zPz RX11 380 3 8 := ⟨flX11_380, rfl, rfl⟩
theorem flX10_15 : zFl RX10 15 10 0 := ⟨RX10, TX10, 4, rfl, by decide, rfl, zT2 190 rfl rfl⟩
theorem fX10_15 : zFi RX10 15 10 0 := ⟨flX10_15, rfl⟩
theorem pX10_15 : zPz RX10 15 10 0 := ⟨flX10_15, rfl, rfl⟩
theorem flX11_161 : zFl RX11 161 10 0 := ⟨RX10, TX10, 4, rfl, by decide, rfl, zT2 191 rfl rfl⟩
theorem fX11_161 : zFi RX11 161 10 0 := ⟨flX11_161, rfl⟩
theorem pX11_161 : zPz RX11 161 10 0 := ⟨flX11_161, rfl, rfl⟩
theorem flX10_19 : zFl RX10 19 10 1 := ⟨RX10, TX10, 4, rfl, by decide, rfl, zT2 192 rfl rfl⟩
theorem fX10_19 : zFi RX10 19 10 1 := ⟨flX10_19, rfl⟩
theorem pX10_19 : zPi RX10 19 10 1 := ⟨flX10_19, rfl, rfl⟩
theorem flX11_165 : zFl RX11 165 10 1 := ⟨RX10, TX10, 4, rfl, by decide, rfl, zT2 193 rfl rfl⟩
theorem fX11_165 : zFi RX11 165 10 1 := ⟨flX11_165, rfl⟩
theorem pX11_165 : zPi RX11 165 10 1 := ⟨flX11_165, rfl, rfl⟩
theorem flX10_23 : zFl RX10 23 10 2 := ⟨RX10, TX10, 4, rfl, by decide, rfl, zT2 194 rfl rfl⟩
theorem fX10_23 : zFi RX10 23 10 2 := ⟨flX10_23, rfl⟩
theorem pX10_23 : zPi RX10 23 10 2 := ⟨flX10_23, rfl, rfl⟩
theorem flX11_275 : zFl RX11 275 10 2 := ⟨RX10, TX10, 4, rfl, by decide, rfl, zT2 195 rfl rfl⟩
theorem fX11_275 : zFi RX11 275 10 2 := ⟨flX11_275, rfl⟩
theorem pX11_275 : zPi RX11 275 10 2 := ⟨flX11_275, rfl, rfl⟩
theorem flX10_9 : zFl RX10 9 10 3 := ⟨RX10, TX10, 4, rfl, by decide, rfl, zT2 196 rfl rfl⟩
theorem fX10_9 : zFa RX10 9 10 3 := ⟨flX10_9, rfl⟩
theorem flX1_72 : zFl RX1 72 10 3 := ⟨RX10, TX10, 4, rfl, by decide, rfl, zT2 197 rfl rfl⟩
theorem fX1_72 : zFa RX1 72 10 3 := ⟨flX1_72, rfl⟩
theorem flX11_157 : zFl RX11 157 10 3 := ⟨RX10, TX10, 4, rfl, by decide, rfl, zT2 198 rfl rfl⟩
theorem fX11_157 : zFa RX11 157 10 3 := ⟨flX11_157, rfl⟩
theorem flX11_109 : zFl RX11 109 11 0 := ⟨RX11, TX11, 18, rfl, by decide, rfl, zT2 208 rfl rfl⟩
theorem fX11_109 : zFi RX11 109 11 0 := ⟨flX11_109, rfl⟩
theorem pX11_109 : zPi RX11 109 11 0 := ⟨flX11_109, rfl, rfl⟩
theorem flX11_11 : zFl RX11 11 11 1 := ⟨RX11, TX11, 18, rfl, by decide, rfl, zT2 209 rfl rfl⟩
theorem fX11_11 : zFa RX11 11 11 1 := ⟨flX11_11, rfl⟩
theorem flX11_18 : zFl RX11 18 11 2 := ⟨RX11, TX11, 18, rfl, by decide, rfl, zT2 210 rfl rfl⟩
theorem fX11_18 : zFa RX11 18 11 2 := ⟨flX11_18, rfl⟩
theorem flX11_25 : zFl RX11 25 11 3 := ⟨RX11, TX11, 18, rfl, by decide, rfl, zT2 211 rfl rfl⟩
theorem fX11_25 : zFa RX11 25 11 3 := ⟨flX11_25, rfl⟩
theorem flX11_29 : zFl RX11 29 11 4 := ⟨RX11, TX11, 18, rfl, by decide, rfl, zT2 212 rfl rfl⟩
theorem fX11_29 : zFa RX11 29 11 4 := ⟨flX11_29, rfl⟩
theorem flX11_35 : zFl RX11 35 11 5 := ⟨RX11, TX11, 18, rfl, by decide, rfl, zT2 213 rfl rfl⟩
theorem fX11_35 : zFa RX11 35 11 5 := ⟨flX11_35, rfl⟩
theorem flX11_39 : zFl RX11 39 11 6 := ⟨RX11, TX11, 18, rfl, by decide, rfl, zT2 214 rfl rfl⟩
theorem fX11_39 : zFa RX11 39 11 6 := ⟨flX11_39, rfl⟩
theorem flX11_45 : zFl RX11 45 11 7 := ⟨RX11, TX11, 18, rfl, by decide, rfl, zT2 215 rfl rfl⟩
theorem fX11_45 : zFa RX11 45 11 7 := ⟨flX11_45, rfl⟩
theorem flX11_49 : zFl RX11 49 11 8 := ⟨RX11, TX11, 18, rfl, by decide, rfl, zT2 216 rfl rfl⟩
theorem fX11_49 : zFa RX11 49 11 8 := ⟨flX11_49, rfl⟩
theorem flX11_52 : zFl RX11 52 11 9 := ⟨RX11, TX11, 18, rfl, by decide, rfl, zT2 217 rfl rfl⟩
theorem fX11_52 : zFa RX11 52 11 9 := ⟨flX11_52, rfl⟩
theorem flX11_56 : zFl RX11 56 11 10 := ⟨RX11, TX11, 18, rfl, by decide, rfl, zT2 218 rfl rfl⟩
theorem fX11_56 : zFa RX11 56 11 10 := ⟨flX11_56, rfl⟩
theorem flX11_383 : zFl RX11 383 11 11 := ⟨RX11, TX11, 18, rfl, by decide, rfl, zT2 219 rfl rfl⟩
theorem fX11_383 : zFi RX11 383 11 11 := ⟨flX11_383, rfl⟩
theorem pX11_383 : zPi RX11 383 11 11 := ⟨flX11_383, rfl, rfl⟩
theorem flX11_65 : zFl RX11 65 11 12 := ⟨RX11, TX11, 18, rfl, by decide, rfl, zT2 220 rfl rfl⟩
theorem fX11_65 : zFa RX11 65 11 12 := ⟨flX11_65, rfl⟩
theorem flX11_74 : zFl RX11 74 11 13 := ⟨RX11, TX11, 18, rfl, by decide, rfl, zT2 221 rfl rfl⟩
theorem fX11_74 : zFa RX11 74 11 13 := ⟨flX11_74, rfl⟩
theorem flX11_81 : zFl RX11 81 11 14 := ⟨RX11, TX11, 18, rfl, by decide, rfl, zT2 222 rfl rfl⟩
theorem fX11_81 : zFa RX11 81 11 14 := ⟨flX11_81, rfl⟩
theorem flX11_88 : zFl RX11 88 11 15 := ⟨RX11, TX11, 18, rfl, by decide, rfl, zT2 223 rfl rfl⟩
theorem fX11_88 : zFa RX11 88 11 15 := ⟨flX11_88, rfl⟩
theorem flX11_95 : zFl RX11 95 11 16 := ⟨RX11, TX11, 18, rfl, by decide, rfl, zT2 224 rfl rfl⟩
theorem fX11_95 : zFa RX11 95 11 16 := ⟨flX11_95, rfl⟩
theorem flX11_104 : zFl RX11 104 11 17 := ⟨RX11, TX11, 18, rfl, by decide, rfl, zT2 225 rfl rfl⟩
theorem fX11_104 : zFa RX11 104 11 17 := ⟨flX11_104, rfl⟩
theorem flX12_101 : zFl RX12 101 12 0 := ⟨RX12, TX12, 74, rfl, by decide, rfl, zT6 25 rfl rfl⟩
theorem fX12_101 : zFi RX12 101 12 0 := ⟨flX12_101, rfl⟩
theorem pX12_101 : zPi RX12 101 12 0 := ⟨flX12_101, rfl, rfl⟩
theorem flX12_98 : zFl RX12 98 12 1 := ⟨RX12, TX12, 74, rfl, by decide, rfl, zT6 26 rfl rfl⟩
theorem fX12_98 : zFi RX12 98 12 1 := ⟨flX12_98, rfl⟩
theorem pX12_98 : zPi RX12 98 12 1 := ⟨flX12_98, rfl, rfl⟩
theorem flX12_104 : zFl RX12 104 12 2 := ⟨RX12, TX12, 74, rfl, by decide, rfl, zT6 27 rfl rfl⟩
theorem fX12_104 : zFj RX12 104 12 2 := ⟨flX12_104, rfl⟩
theorem pX12_104 : zPj RX12 104 12 2 := ⟨flX12_104, rfl, rfl⟩
theorem flX12_7 : zFl RX12 7 12 3 := ⟨RX12, TX12, 74, rfl, by decide, rfl, zT6 28 rfl rfl⟩
theorem fX12_7 : zFj RX12 7 12 3 := ⟨flX12_7, rfl⟩
theorem pX12_7 : zPj RX12 7 12 3 := ⟨flX12_7, rfl, rfl⟩
theorem flX12_13 : zFl RX12 13 12 4 := ⟨RX12, TX12, 74, rfl, by decide, rfl, zT6 29 rfl rfl⟩
theorem fX12_13 : zFa RX12 13 12 4 := ⟨flX12_13, rfl⟩
theorem flX12_17 : zFl RX12 17 12 5 := ⟨RX12, TX12, 74, rfl, by decide, rfl, zT6 30 rfl rfl⟩
theorem fX12_17 : zFa RX12 17 12 5 := ⟨flX12_17, rfl⟩
theorem flX12_20 : zFl RX12 20 12 6 := ⟨RX12, TX12, 74, rfl, by decide, rfl, zT6 31 rfl rfl⟩
theorem fX12_20 : zFa RX12 20 12 6 := ⟨flX12_20, rfl⟩
theorem flX12_24 : zFl RX12 24 12 7 := ⟨RX12, TX12, 74, rfl, by decide, rfl, zT6 32 rfl rfl⟩
theorem fX12_24 : zFa RX12 24 12 7 := ⟨flX12_24, rfl⟩
theorem flX12_217 : zFl RX12 217 12 8 := ⟨RX12, TX12, 74, rfl, by decide, rfl, zT6 33 rfl rfl⟩
theorem fX12_217 : zFi RX12 217 12 8 := ⟨flX12_217, rfl⟩
theorem pX12_217 : zPi RX12 217 12 8 := ⟨flX12_217, rfl, rfl⟩
theorem flX12_137 : zFl RX12 137 12 9 := ⟨RX12, TX12, 74, rfl, by decide, rfl, zT6 34 rfl rfl⟩
theorem fX12_137 : zFi RX12 137 12 9 := ⟨flX12_137, rfl⟩
theorem pX12_137 : zPi RX12 137 12 9 := ⟨flX12_137, rfl, rfl⟩
theorem flX12_28 : zFl RX12 28 12 10 := ⟨RX12, TX12, 74, rfl, by decide, rfl, zT6 35 rfl rfl⟩
theorem fX12_28 : zFi RX12 28 12 10 := ⟨flX12_28, rfl⟩
theorem pX12_28 : zPi RX12 28 12 10 := ⟨flX12_28, rfl, rfl⟩
theorem flX12_32 : zFl RX12 32 12 11 := ⟨RX12, TX12, 74, rfl, by decide, rfl, zT6 36 rfl rfl⟩
theorem fX12_32 : zFi RX12 32 12 11 := ⟨flX12_32, rfl⟩
theorem pX12_32 : zPi RX12 32 12 11 := ⟨flX12_32, rfl, rfl⟩
theorem flX12_201 : zFl RX12 201 12 12 := ⟨RX12, TX12, 74, rfl, by decide, rfl, zT6 37 rfl rfl⟩
theorem fX12_201 : zFi RX12 201 12 12 := ⟨flX12_201, rfl⟩
theorem pX12_201 : zPi RX12 201 12 12 := ⟨flX12_201, rfl, rfl⟩
theorem flX12_204 : zFl RX12 204 12 13 := ⟨RX12, TX12, 74, rfl, by decide, rfl, zT6 38 rfl rfl⟩
theorem fX12_204 : zFi RX12 204 12 13 := ⟨flX12_204, rfl⟩
theorem pX12_204 : zPi RX12 204 12 13 := ⟨flX12_204, rfl, rfl⟩
theorem flX12_149 : zFl RX12 149 12 14 := ⟨RX12, TX12, 74, rfl, by decide, rfl, zT6 39 rfl rfl⟩
theorem fX12_149 : zFi RX12 149 12 14 := ⟨flX12_149, rfl⟩
theorem pX12_149 : zPi RX12 149 12 14 := ⟨flX12_149, rfl, rfl⟩
theorem flX12_143 : zFl RX12 143 12 15 := ⟨RX12, TX12, 74, rfl, by decide, rfl, zT6 40 rfl rfl⟩
theorem fX12_143 : zFi RX12 143 12 15 := ⟨flX12_143, rfl⟩
theorem pX12_143 : zPi RX12 143 12 15 := ⟨flX12_143, rfl, rfl⟩
theorem flX12_140 : zFl RX12 140 12 16 := ⟨RX12, TX12, 74, rfl, by decide, rfl, zT6 41 rfl rfl⟩
theorem fX12_140 : zFi RX12 140 12 16 := ⟨flX12_140, rfl⟩
theorem pX12_140 : zPi RX12 140 12 16 := ⟨flX12_140, rfl, rfl⟩
theorem flX12_168 : zFl RX12 168 12 17 := ⟨RX12, TX12, 74, rfl, by decide, rfl, zT6 42 rfl rfl⟩
theorem fX12_168 : zFi RX12 168 12 17 := ⟨flX12_168, rfl⟩
theorem pX12_168 : zPi RX12 168 12 17 := ⟨flX12_168, rfl, rfl⟩
theorem flX12_162 : zFl RX12 162 12 18 := ⟨RX12, TX12, 74, rfl, by decide, rfl, zT6 43 rfl rfl⟩
theorem fX12_162 : zFi RX12 162 12 18 := ⟨flX12_162, rfl⟩
theorem pX12_162 : zPi RX12 162 12 18 := ⟨flX12_162, rfl, rfl⟩
theorem flX12_155 : zFl RX12 155 12 19 := ⟨RX12, TX12, 74, rfl, by decide, rfl, zT6 44 rfl rfl⟩
theorem fX12_155 : zFj RX12 155 12 19 := ⟨flX12_155, rfl⟩
theorem pX12_155 : zPj RX12 155 12 19 := ⟨flX12_155, rfl, rfl⟩
theorem flX12_35 : zFl RX12 35 12 20 := ⟨RX12, TX12, 74, rfl, by decide, rfl, zT6 45 rfl rfl⟩
theorem fX12_35 : zFa RX12 35 12 20 := ⟨flX12_35, rfl⟩
theorem flX12_38 : zFl RX12 38 12 21 := ⟨RX12, TX12, 74, rfl, by decide, rfl, zT6 46 rfl rfl⟩
theorem fX12_38 : zFa RX12 38 12 21 := ⟨flX12_38, rfl⟩
theorem flX12_541 : zFl RX12 541 12 22 := ⟨RX12, TX12, 74, rfl, by decide, rfl, zT6 47 rfl rfl⟩
theorem fX12_541 : zFi RX12 541 12 22 := ⟨flX12_541, rfl⟩
theorem pX12_541 : zPi RX12 541 12 22 := ⟨flX12_541, rfl, rfl⟩
theorem flX12_41 : zFl RX12 41 12 23 := ⟨RX12, TX12, 74, rfl, by decide, rfl, zT6 48 rfl rfl⟩
theorem fX12_41 : zFa RX12 41 12 23 := ⟨flX12_41, rfl⟩
theorem flX12_44 : zFl RX12 44 12 24 := ⟨RX12, TX12, 74, rfl, by decide, rfl, zT6 49 rfl rfl⟩
theorem fX12_44 : zFa RX12 44 12 24 := ⟨flX12_44, rfl⟩
theorem flX12_284 : zFl RX12 284 12 25 := ⟨RX12, TX12, 74, rfl, by decide, rfl, zT6 50 rfl rfl⟩
theorem fX12_284 : zFi RX12 284 12 25 := ⟨flX12_284, rfl⟩
theorem pX12_284 : zPi RX12 284 12 25 := ⟨flX12_284, rfl, rfl⟩
theorem flX12_495 : zFl RX12 495 12 26 := ⟨RX12, TX12, 74, rfl, by decide, rfl, zT6 51 rfl rfl⟩
theorem fX12_495 : zFi RX12 495 12 26 := ⟨flX12_495, rfl⟩
theorem pX12_495 : zPi RX12 495 12 26 := ⟨flX12_495, rfl, rfl⟩
theorem flX12_482 : zFl RX12 482 12 27 := ⟨RX12, TX12, 74, rfl, by decide, rfl, zT6 52 rfl rfl⟩
theorem fX12_482 : zFi RX12 482 12 27 := ⟨flX12_482, rfl⟩
theorem pX12_482 : zPi RX12 482 12 27 := ⟨flX12_482, rfl, rfl⟩
theorem flX12_523 : zFl RX12 523 12 28 := ⟨RX12, TX12, 74, rfl, by decide, rfl, zT6 53 rfl rfl⟩
theorem fX12_523 : zFi RX12 523 12 28 := ⟨flX12_523, rfl⟩
theorem pX12_523 : zPi RX12 523 12 28 := ⟨flX12_523, rfl, rfl⟩
theorem flX12_517 : zFl RX12 517 12 29 := ⟨RX12, TX12, 74, rfl, by decide, rfl, zT6 54 rfl rfl⟩
theorem fX12_517 : zFi RX12 517 12 29 := ⟨flX12_517, rfl⟩
theorem pX12_517 : zPi RX12 517 12 29 := ⟨flX12_517, rfl, rfl⟩
theorem flX12_511 : zFl RX12 511 12 30 := ⟨RX12, TX12, 74, rfl, by decide, rfl, zT6 55 rfl rfl⟩
theorem fX12_511 : zFi RX12 511 12 30 := ⟨flX12_511, rfl⟩
theorem pX12_511 : zPi RX12 511 12 30 := ⟨flX12_511, rfl, rfl⟩
theorem flX12_508 : zFl RX12 508 12 31 := ⟨RX12, TX12, 74, rfl, by decide, rfl, zT6 56 rfl rfl⟩
theorem fX12_508 : zFi RX12 508 12 31 := ⟨flX12_508, rfl⟩
theorem pX12_508 : zPi RX12 508 12 31 := ⟨flX12_508, rfl, rfl⟩
theorem flX12_505 : zFl RX12 505 12 32 := ⟨RX12, TX12, 74, rfl, by decide, rfl, zT6 57 rfl rfl⟩
theorem fX12_505 : zFi RX12 505 12 32 := ⟨flX12_505, rfl⟩
theorem pX12_505 : zPi RX12 505 12 32 := ⟨flX12_505, rfl, rfl⟩
theorem flX12_498 : zFl RX12 498 12 33 := ⟨RX12, TX12, 74, rfl, by decide, rfl, zT6 58 rfl rfl⟩
theorem fX12_498 : zFi RX12 498 12 33 := ⟨flX12_498, rfl⟩
theorem pX12_498 : zPz RX12 498 12 33 := ⟨flX12_498, rfl, rfl⟩
theorem flX12_485 : zFl RX12 485 12 34 := ⟨RX12, TX12, 74, rfl, by decide, rfl, zT6 59 rfl rfl⟩
theorem fX12_485 : zFi RX12 485 12 34 := ⟨flX12_485, rfl⟩
theorem pX12_485 : zPz RX12 485 12 34 := ⟨flX12_485, rfl, rfl⟩
theorem flX12_538 : zFl RX12 538 12 35 := ⟨RX12, TX12, 74, rfl, by decide, rfl, zT6 60 rfl rfl⟩
theorem fX12_538 : zFi RX12 538 12 35 := ⟨flX12_538, rfl⟩
theorem pX12_538 : zPz RX12 538 12 35 := ⟨flX12_538, rfl, rfl⟩
theorem flX12_47 : zFl RX12 47 12 36 := ⟨RX12, TX12, 74, rfl, by decide, rfl, zT6 61 rfl rfl⟩
theorem fX12_47 : zFa RX12 47 12 36 := ⟨flX12_47, rfl⟩
theorem flX12_50 : zFl RX12 50 12 37 := ⟨RX12, TX12, 74, rfl, by decide, rfl, zT6 62 rfl rfl⟩
theorem fX12_50 : zFa RX12 50 12 37 := ⟨flX12_50, rfl⟩
theorem flX12_53 : zFl RX12 53 12 38 := ⟨RX12, TX12, 74, rfl, by decide, rfl, zT6 63 rfl rfl⟩
theorem fX12_53 : zFa RX12 53 12 38 := ⟨flX12_53, rfl⟩
theorem flX12_56 : zFl RX12 56 12 39 := ⟨RX12, TX12, 74, rfl, by decide, rfl, zT6 64 rfl rfl⟩
theorem fX12_56 : zFa RX12 56 12 39 := ⟨flX12_56, rfl⟩
theorem flX12_59 : zFl RX12 59 12 40 := ⟨RX12, TX12, 74, rfl, by decide, rfl, zT6 65 rfl rfl⟩
theorem fX12_59 : zFa RX12 59 12 40 := ⟨flX12_59, rfl⟩
theorem flX12_62 : zFl RX12 62 12 41 := ⟨RX12, TX12, 74, rfl, by decide, rfl, zT6 66 rfl rfl⟩
theorem fX12_62 : zFa RX12 62 12 41 := ⟨flX12_62, rfl⟩
theorem flX12_65 : zFl RX12 65 12 42 := ⟨RX12, TX12, 74, rfl, by decide, rfl, zT6 67 rfl rfl⟩
theorem fX12_65 : zFa RX12 65 12 42 := ⟨flX12_65, rfl⟩
theorem flX12_68 : zFl RX12 68 12 43 := ⟨RX12, TX12, 74, rfl, by decide, rfl, zT6 68 rfl rfl⟩
theorem fX12_68 : zFa RX12 68 12 43 := ⟨flX12_68, rfl⟩
theorem flX12_71 : zFl RX12 71 12 44 := ⟨RX12, TX12, 74, rfl, by decide, rfl, zT6 69 rfl rfl⟩
theorem fX12_71 : zFa RX12 71 12 44 := ⟨flX12_71, rfl⟩
theorem flX12_74 : zFl RX12 74 12 45 := ⟨RX12, TX12, 74, rfl, by decide, rfl, zT6 70 rfl rfl⟩
theorem fX12_74 : zFa RX12 74 12 45 := ⟨flX12_74, rfl⟩
theorem flX12_354 : zFl RX12 354 12 46 := ⟨RX12, TX12, 74, rfl, by decide, rfl, zT6 71 rfl rfl⟩
theorem fX12_354 : zFi RX12 354 12 46 := ⟨flX12_354, rfl⟩
theorem pX12_354 : zPi RX12 354 12 46 := ⟨flX12_354, rfl, rfl⟩
theorem flX12_360 : zFl RX12 360 12 47 := ⟨RX12, TX12, 74, rfl, by decide, rfl, zT6 72 rfl rfl⟩
theorem fX12_360 : zFi RX12 360 12 47 := ⟨flX12_360, rfl⟩
theorem pX12_360 : zPi RX12 360 12 47 := ⟨flX12_360, rfl, rfl⟩
theorem flX12_378 : zFl RX12 378 12 48 := ⟨RX12, TX12, 74, rfl, by decide, rfl, zT6 73 rfl rfl⟩
theorem fX12_378 : zFi RX12 378 12 48 := ⟨flX12_378, rfl⟩
theorem pX12_378 : zPi RX12 378 12 48 := ⟨flX12_378, rfl, rfl⟩
theorem flX12_400 : zFl RX12 400 12 49 := ⟨RX12, TX12, 74, rfl, by decide, rfl, zT6 74 rfl rfl⟩
theorem fX12_400 : zFi RX12 400 12 49 := ⟨flX12_400, rfl⟩
theorem pX12_400 : zPi RX12 400 12 49 := ⟨flX12_400, rfl, rfl⟩
theorem flX12_403 : zFl RX12 403 12 50 := ⟨RX12, TX12, 74, rfl, by decide, rfl, zT6 75 rfl rfl⟩
theorem fX12_403 : zFi RX12 403 12 50 := ⟨flX12_403, rfl⟩
theorem pX12_403 : zPi RX12 403 12 50 := ⟨flX12_403, rfl, rfl⟩
theorem flX12_414 : zFl RX12 414 12 51 := ⟨RX12, TX12, 74, rfl, by decide, rfl, zT6 76 rfl rfl⟩
theorem fX12_414 : zFi RX12 414 12 51 := ⟨flX12_414, rfl⟩
theorem pX12_414 : zPi RX12 414 12 51 := ⟨flX12_414, rfl, rfl⟩
theorem flX12_397 : zFl RX12 397 12 52 := ⟨RX12, TX12, 74, rfl, by decide, rfl, zT6 77 rfl rfl⟩
theorem fX12_397 : zFi RX12 397 12 52 := ⟨flX12_397, rfl⟩
theorem pX12_397 : zPi RX12 397 12 52 := ⟨flX12_397, rfl, rfl⟩
theorem flX12_77 : zFl RX12 77 12 53 := ⟨RX12, TX12, 74, rfl, by decide, rfl, zT6 78 rfl rfl⟩
theorem fX12_77 : zFa RX12 77 12 53 := ⟨flX12_77, rfl⟩
theorem flX12_80 : zFl RX12 80 12 54 := ⟨RX12, TX12, 74, rfl, by decide, rfl, zT6 79 rfl rfl⟩
theorem fX12_80 : zFa RX12 80 12 54 := ⟨flX12_80, rfl⟩
theorem flX12_83 : zFl RX12 83 12 55 := ⟨RX12, TX12, 74, rfl, by decide, rfl, zT6 80 rfl rfl⟩
theorem fX12_83 : zFa RX12 83 12 55 := ⟨flX12_83, rfl⟩
theorem flX12_366 : zFl RX12 366 12 56 := ⟨RX12, TX12, 74, rfl, by decide, rfl, zT6 81 rfl rfl⟩
theorem fX12_366 : zFi RX12 366 12 56 := ⟨flX12_366, rfl⟩
theorem pX12_366 : zPz RX12 366 12 56 := ⟨flX12_366, rfl, rfl⟩
theorem flX12_357 : zFl RX12 357 12 57 := ⟨RX12, TX12, 74, rfl, by decide, rfl, zT6 82 rfl rfl⟩
theorem fX12_357 : zFi RX12 357 12 57 := ⟨flX12_357, rfl⟩
theorem pX12_357 : zPz RX12 357 12 57 := ⟨flX12_357, rfl, rfl⟩
theorem flX12_363 : zFl RX12 363 12 58 := ⟨RX12, TX12, 74, rfl, by decide, rfl, zT6 83 rfl rfl⟩
theorem fX12_363 : zFi RX12 363 12 58 := ⟨flX12_363, rfl⟩
theorem pX12_363 : zPi RX12 363 12 58 := ⟨flX12_363, rfl, rfl⟩
theorem flX12_369 : zFl RX12 369 12 59 := ⟨RX12, TX12, 74, rfl, by decide, rfl, zT6 84 rfl rfl⟩
theorem fX12_369 : zFi RX12 369 12 59 := ⟨flX12_369, rfl⟩
theorem pX12_369 : zPi RX12 369 12 59 := ⟨flX12_369, rfl, rfl⟩
theorem flX12_381 : zFl RX12 381 12 60 := ⟨RX12, TX12, 74, rfl, by decide, rfl, zT6 85 rfl rfl⟩
theorem fX12_381 : zFi RX12 381 12 60 := ⟨flX12_381, rfl⟩
theorem pX12_381 : zPi RX12 381 12 60 := ⟨flX12_381, rfl, rfl⟩
theorem flX12_86 : zFl RX12 86 12 61 := ⟨RX12, TX12, 74, rfl, by decide, rfl, zT6 86 rfl rfl⟩
theorem fX12_86 : zFi RX12 86 12 61 := ⟨flX12_86, rfl⟩
theorem pX12_86 : zPi RX12 86 12 61 := ⟨flX12_86, rfl, rfl⟩
theorem flX12_438 : zFl RX12 438 12 62 := ⟨RX12, TX12, 74, rfl, by decide, rfl, zT6 87 rfl rfl⟩
theorem fX12_438 : zFi RX12 438 12 62 := ⟨flX12_438, rfl⟩
theorem pX12_438 : zPz RX12 438 12 62 := ⟨flX12_438, rfl, rfl⟩
theorem flX12_89 : zFl RX12 89 12 63 := ⟨RX12, TX12, 74, rfl, by decide, rfl, zT6 88 rfl rfl⟩
theorem fX12_89 : zFa RX12 89 12 63 := ⟨flX12_89, rfl⟩
theorem flX12_426 : zFl RX12 426 12 64 := ⟨RX12, TX12, 74, rfl, by decide, rfl, zT6 89 rfl rfl⟩
theorem fX12_426 : zFi RX12 426 12 64 := ⟨flX12_426, rfl⟩
theorem pX12_426 : zPi RX12 426 12 64 := ⟨flX12_426, rfl, rfl⟩
theorem flX12_432 : zFl RX12 432 12 65 := ⟨RX12, TX12, 74, rfl, by decide, rfl, zT6 90 rfl rfl⟩
theorem fX12_432 : zFi RX12 432 12 65 := ⟨flX12_432, rfl⟩
theorem pX12_432 : zPi RX12 432 12 65 := ⟨flX12_432, rfl, rfl⟩
theorem flX12_435 : zFl RX12 435 12 66 := ⟨RX12, TX12, 74, rfl, by decide, rfl, zT6 91 rfl rfl⟩
theorem fX12_435 : zFi RX12 435 12 66 := ⟨flX12_435, rfl⟩
theorem pX12_435 : zPi RX12 435 12 66 := ⟨flX12_435, rfl, rfl⟩
theorem flX12_423 : zFl RX12 423 12 67 := ⟨RX12, TX12, 74, rfl, by decide, rfl, zT6 92 rfl rfl⟩
theorem fX12_423 : zFi RX12 423 12 67 := ⟨flX12_423, rfl⟩
theorem pX12_423 : zPi RX12 423 12 67 := ⟨flX12_423, rfl, rfl⟩
theorem flX12_441 : zFl RX12 441 12 68 := ⟨RX12, TX12, 74, rfl, by decide, rfl, zT6 93 rfl rfl⟩
theorem fX12_441 : zFj RX12 441 12 68 := ⟨flX12_441, rfl⟩
theorem pX12_441 : zPj RX12 441 12 68 := ⟨flX12_441, rfl, rfl⟩
theorem flX12_92 : zFl RX12 92 12 69 := ⟨RX12, TX12, 74, rfl, by decide, rfl, zT6 94 rfl rfl⟩
theorem fX12_92 : zFa RX12 92 12 69 := ⟨flX12_92, rfl⟩
theorem flX12_224 : zFl RX12 224 12 70 := ⟨RX12, TX12, 74, rfl, by decide, rfl, zT6 95 rfl rfl⟩
theorem fX12_224 : zFi RX12 224 12 70 := ⟨flX12_224, rfl⟩
theorem pX12_224 : zPz RX12 224 12 70 := ⟨flX12_224, rfl, rfl⟩
theorem flX12_95 : zFl RX12 95 12 71 := ⟨RX12, TX12, 74, rfl, by decide, rfl, zT6 96 rfl rfl⟩
theorem fX12_95 : zFa RX12 95 12 71 := ⟨flX12_95, rfl⟩
theorem flX12_342 : zFl RX12 342 12 72 := ⟨RX12, TX12, 74, rfl, by decide, rfl, zT6 97 rfl rfl⟩
theorem fX12_342 : zFi RX12 342 12 72 := ⟨flX12_342, rfl⟩
theorem pX12_342 : zPi RX12 342 12 72 := ⟨flX12_342, rfl, rfl⟩
theorem flX12_345 : zFl RX12 345 12 73 := ⟨RX12, TX12, 74, rfl, by decide, rfl, zT6 98 rfl rfl⟩
theorem fX12_345 : zFi RX12 345 12 73 := ⟨flX12_345, rfl⟩
theorem pX12_345 : zPi RX12 345 12 73 := ⟨flX12_345, rfl, rfl⟩
theorem lL_9 : zLk RL 9 mX11_init := zT1 24 rfl rfl
theorem lX11_34 : zLk RX11 34 mX7_init := zT1 159 rfl rfl
theorem lX11_62 : zLk RX11 62 mX2_init := zT1 235 rfl rfl
theorem lX11_71 : zLk RX11 71 mX8_init := zT2 17 rfl rfl
theorem lX11_87 : zLk RX11 87 mX6_init := zT2 91 rfl rfl
theorem lX11_94 : zLk RX11 94 mX1_init := zT2 118 rfl rfl
theorem lX11_101 : zLk RX11 101 mX3_init := zT2 148 rfl rfl
theorem lL_13 : zLk RL 13 mX11_status := zT3 23 rfl rfl
theorem lL_18 : zLk RL 18 mX11_top := zT3 27 rfl rfl
theorem lL_23 : zLk RL 23 mX11_bottom := zT3 31 rfl rfl
theorem lL_27 : zLk RL 27 mX11_tray := zT3 35 rfl rfl
theorem lX11_130 : zLk RX11 130 mX11_isTray := zT3 39 rfl rfl
theorem lX11_134 : zLk RX11 134 mX11_deny := zT3 42 rfl rfl
theorem lX11_137 : zLk RX11 137 mX10_become := zT3 46 rfl rfl
theorem lX10_26 : zLk RX10 26 mJ7_fill_d0a16 := zT3 50 rfl rfl
theorem lX11_141 : zLk RX11 141 mX11_agree := zT3 53 rfl rfl
theorem lL_34 : zLk RL 34 mX11_write := zT3 57 rfl rfl
theorem lX11_145 : zLk RX11 145 mX11_whyNoCell := zT3 61 rfl rfl
theorem lX11_168 : zLk RX11 168 mX10_has := zT3 65 rfl rfl
theorem lX11_149 : zLk RX11 149 mX10_put := zT3 69 rfl rfl
theorem lL_39 : zLk RL 39 mX11_read := zT3 73 rfl rfl
theorem lX11_153 : zLk RX11 153 mX11_fail := zT3 77 rfl rfl
theorem lL_44 : zLk RL 44 mX11_pour := zT3 81 rfl rfl
theorem lX11_172 : zAC RX11 172 := zT3 85 rfl rfl
theorem lL_49 : zLk RL 49 mX11_feed := zT3 88 rfl rfl
theorem lX11_178 : zLk RX11 178 mX9_hasRoom := zT3 92 rfl rfl
theorem lX11_181 : zLk RX11 181 mX9_add := zT3 96 rfl rfl
theorem lL_54 : zLk RL 54 mX11_hall := zT3 100 rfl rfl
theorem lX11_188 : zLk RX11 188 mX9_open := zT3 104 rfl rfl
theorem lX11_191 : zLk RX11 191 mX5_readFrom := zT3 108 rfl rfl
theorem lX5_72 : zLk RX5 72 mX5_clear := zT3 112 rfl rfl
theorem lX5_75 : zLk RX5 75 mX9_advance := zT3 116 rfl rfl
theorem lX9_44 : zLk RX9 44 mX9_isLetter := zT3 120 rfl rfl
theorem lX9_48 : zLk RX9 48 mX9_takeWord := zT3 123 rfl rfl
theorem lX9_51 : zLk RX9 51 mX9_isDigit := zT3 127 rfl rfl
theorem lX9_54 : zLk RX9 54 mX9_takeNumber := zT3 130 rfl rfl
theorem lX5_80 : zLk RX5 80 mX9_atEnd := zT3 134 rfl rfl
theorem lX5_86 : zLk RX5 86 mX9_at := zT3 139 rfl rfl
theorem lX9_57 : zLk RX9 57 mJ0_length_8abf5 := zT3 143 rfl rfl
theorem lJ0_335 : zLk RJ0 335 mJ0_coder_7d493 := zT3 147 rfl rfl
theorem lX9_62 : zLk RX9 62 mJ0_charAt_5068e := zT3 153 rfl rfl
theorem lJ0_492 : zLk RJ0 492 mJ0_isLatin1_aae02 := zT3 157 rfl rfl
theorem lJ0_495 : zLk RJ0 495 mJ1_charAt_3b067 := zT3 161 rfl rfl
theorem lJ1_9 : zLk RJ1 9 mJ0_checkIndex_df160 := zT3 164 rfl rfl
theorem lJ0_1059 : zLk RJ0 1059 mJ3_checkIndex_8e157 := zT3 169 rfl rfl
theorem lJ0_498 : zLk RJ0 498 mJ2_charAt_3b067 := zT3 172 rfl rfl
theorem lJ2_67 : zLk RJ2 67 mJ2_checkIndex_2214a := zT3 175 rfl rfl
theorem lJ2_48 : zLk RJ2 48 mJ2_length_9d52b := zT3 178 rfl rfl
theorem lJ2_414 : zLk RJ2 414 mJ0_checkIndex_df160 := zT3 181 rfl rfl
theorem lJ2_71 : zLk RJ2 71 mJ2_getChar_3b067 := zT3 182 rfl rfl
theorem lX5_90 : zLk RX5 90 mX5_readName := zT3 191 rfl rfl
theorem lX5_103 : zLk RX5 103 mX9_refuse := zT3 195 rfl rfl
theorem lX5_107 : zLk RX5 107 mX5_isNameWord := zT3 199 rfl rfl
theorem lX5_138 : zLk RX5 138 mX9_atShortWord := zT3 208 rfl rfl
theorem lX5_114 : zLk RX5 114 mX5_find := zT3 212 rfl rfl
theorem lX5_118 : zLk RX5 118 mX5_readNameOptions := zT3 216 rfl rfl
theorem lX5_126 : zLk RX5 126 mX9_expectNumber := zT3 220 rfl rfl
theorem lX9_66 : zLk RX9 66 mX9_advance := zT3 224 rfl rfl
theorem lX9_76 : zLk RX9 76 mX9_isNumber := zT3 225 rfl rfl
theorem lX9_80 : zLk RX9 80 mX9_atNumber := zT3 229 rfl rfl
theorem lX9_73 : zLk RX9 73 mX9_refuse := zT3 233 rfl rfl
theorem lX5_132 : zLk RX5 132 mX9_atSign := zT3 234 rfl rfl
theorem lX5_96 : zLk RX5 96 mX5_readSort := zT3 238 rfl rfl
theorem lX5_141 : zLk RX5 141 mX5_readSortOptions := zT4 2 rfl rfl
theorem lX5_144 : zLk RX5 144 mX5_readRow := zT4 6 rfl rfl
theorem lX5_100 : zLk RX5 100 mX5_readTies := zT4 10 rfl rfl
theorem lX11_195 : zLk RX11 195 mX9_empty := zT4 14 rfl rfl
theorem lX11_198 : zLk RX11 198 mX5_copyFrom := zT4 18 rfl rfl
theorem lX5_54 : zAC RX5 54 := zT4 22 rfl rfl
theorem lX11_202 : zLk RX11 202 mX11_answer := zT4 23 rfl rfl
theorem lL_59 : zLk RL 59 mX11_rule := zT4 27 rfl rfl
theorem lX11_205 : zLk RX11 205 mX7_readFrom := zT4 31 rfl rfl
theorem lX7_31 : zLk RX7 31 mX9_advance := zT4 35 rfl rfl
theorem lX7_36 : zLk RX7 36 mX9_atEnd := zT4 36 rfl rfl
theorem lX7_40 : zLk RX7 40 mX7_isKey := zT4 37 rfl rfl
theorem lX7_54 : zLk RX7 54 mX9_at := zT4 41 rfl rfl
theorem lX7_44 : zLk RX7 44 mX9_refuse := zT4 47 rfl rfl
theorem lX7_48 : zLk RX7 48 mX7_readClause := zT4 48 rfl rfl
theorem lX7_67 : zLk RX7 67 mX7_readPoints := zT4 52 rfl rfl
theorem lX7_84 : zLk RX7 84 mX9_atSign := zT4 56 rfl rfl
theorem lX7_87 : zLk RX7 87 mX9_isNumber := zT4 57 rfl rfl
theorem lX7_70 : zLk RX7 70 mX7_putOnes := zT4 58 rfl rfl
theorem lX7_74 : zLk RX7 74 mX9_expectNumber := zT4 62 rfl rfl
theorem lX7_81 : zLk RX7 81 mX9_expectSign := zT4 63 rfl rfl
theorem lX9_69 : zLk RX9 69 mX9_atSign := zT4 67 rfl rfl
theorem lX11_206 : zLk RX11 206 mX7_copyFrom := zT4 68 rfl rfl
theorem lX7_25 : zAC RX7 25 := zT4 72 rfl rfl
theorem lL_63 : zLk RL 63 mX11_fault := zT4 73 rfl rfl
theorem lL_67 : zLk RL 67 mX11_many := zT4 77 rfl rfl
theorem lX11_218 : zLk RX11 218 mX5_votersIn := zT4 81 rfl rfl
theorem lL_71 : zLk RL 71 mX11_name := zT4 85 rfl rfl
theorem lX11_224 : zLk RX11 224 mX11_isName := zT4 89 rfl rfl
theorem lL_76 : zLk RL 76 mX11_sort := zT4 93 rfl rfl
theorem lX11_234 : zLk RX11 234 mX11_isSort := zT4 97 rfl rfl
theorem lL_80 : zLk RL 80 mX11_order := zT4 101 rfl rfl
theorem lL_84 : zLk RL 84 mX11_stand := zT4 105 rfl rfl
theorem lL_89 : zLk RL 89 mX11_voters := zT4 109 rfl rfl
theorem lL_93 : zLk RL 93 mX11_wins := zT4 113 rfl rfl
theorem lX11_249 : zLk RX11 249 mX2_winnerOf := zT4 117 rfl rfl
theorem lX2_35 : zLk RX2 35 mX2_leftOf := zT4 121 rfl rfl
theorem lX2_47 : zLk RX2 47 mJ6_bitCount_0f7a4 := zT4 125 rfl rfl
theorem lX2_56 : zLk RX2 56 mX2_mostPoints := zT4 131 rfl rfl
theorem lX2_72 : zLk RX2 72 mJ7_fill_53178 := zT4 135 rfl rfl
theorem lX2_87 : zLk RX2 87 mJ9_max_7cf53 := zT4 138 rfl rfl
theorem lX2_93 : zLk RX2 93 mX2_withAtLeast := zT4 141 rfl rfl
theorem lX2_59 : zLk RX2 59 mX2_runOff := zT4 145 rfl rfl
theorem lX2_96 : zLk RX2 96 mX2_tallyFirsts := zT4 149 rfl rfl
theorem lX2_63 : zLk RX2 63 mX2_beatsEach := zT4 153 rfl rfl
theorem lX2_99 : zLk RX2 99 mX2_margin := zT4 157 rfl rfl
theorem lX2_69 : zLk RX2 69 mX2_aboveBar := zT4 161 rfl rfl
theorem lL_97 : zLk RL 97 mX11_firsts := zT4 165 rfl rfl
theorem lX11_253 : zLk RX11 253 mX2_firstsOf := zT4 169 rfl rfl
theorem lL_101 : zLk RL 101 mX11_beats := zT4 173 rfl rfl
theorem lX11_257 : zLk RX11 257 mX2_margin := zT4 177 rfl rfl
theorem lL_105 : zLk RL 105 mX11_left := zT4 178 rfl rfl
theorem lX11_260 : zLk RX11 260 mX2_leftOf := zT4 182 rfl rfl
theorem lL_109 : zLk RL 109 mX11_told := zT4 183 rfl rfl
theorem lX11_264 : zLk RX11 264 mX11_whyNotTold := zT4 187 rfl rfl
theorem lX11_271 : zLk RX11 271 mX5_isChange := zT4 191 rfl rfl
theorem lX11_267 : zLk RX11 267 mX11_changeSpare := zT4 197 rfl rfl
theorem lX11_278 : zLk RX11 278 mX5_change := zT4 202 rfl rfl
theorem lX5_64 : zLk RX5 64 mX5_isThere := zT4 206 rfl rfl
theorem lX5_68 : zLk RX5 68 mX5_turn := zT4 210 rfl rfl
theorem lX11_281 : zLk RX11 281 mX5_costOf := zT4 214 rfl rfl
theorem lL_113 : zLk RL 113 mX11_cost := zT4 218 rfl rfl
theorem lL_117 : zLk RL 117 mX11_names := zT4 222 rfl rfl
theorem lX11_284 : zLk RX11 284 mX11_isOfNames := zT4 226 rfl rfl
theorem lX11_287 : zLk RX11 287 mX8_aim := zT4 229 rfl rfl
theorem lX11_291 : zLk RX11 291 mX8_byNames := zT4 233 rfl rfl
theorem lX8_43 : zLk RX8 43 mX5_allNames := zT4 237 rfl rfl
theorem lX8_52 : zLk RX8 52 mJ6_bitCount_0f7a4 := zT5 1 rfl rfl
theorem lX8_58 : zLk RX8 58 mX8_costOfNames := zT5 2 rfl rfl
theorem lX8_61 : zLk RX8 61 mX8_isBetter := zT5 6 rfl rfl
theorem lX8_68 : zLk RX8 68 mX2_winnerOf := zT5 10 rfl rfl
theorem lX11_295 : zLk RX11 295 mX4_keepNames := zT5 11 rfl rfl
theorem lL_122 : zLk RL 122 mX11_people := zT5 15 rfl rfl
theorem lX11_302 : zLk RX11 302 mX11_isOfVoters := zT5 19 rfl rfl
theorem lX11_305 : zLk RX11 305 mX8_byVoters := zT5 22 rfl rfl
theorem lX8_86 : zLk RX8 86 mJ7_fill_53178 := zT5 26 rfl rfl
theorem lX8_92 : zAC RX8 92 := zT5 27 rfl rfl
theorem lX8_101 : zLk RX8 101 mX8_spread := zT5 28 rfl rfl
theorem lX8_105 : zLk RX8 105 mX8_keepTrial := zT5 31 rfl rfl
theorem lX8_118 : zLk RX8 118 mX8_tryMove := zT5 35 rfl rfl
theorem lX11_309 : zLk RX11 309 mX4_keepVoters := zT5 39 rfl rfl
theorem lX4_29 : zLk RX4 29 mJ9_min_7cf53 := zT5 43 rfl rfl
theorem lX4_39 : zAC RX4 39 := zT5 46 rfl rfl
theorem lL_127 : zLk RL 127 mX11_found := zT5 47 rfl rfl
theorem lL_131 : zLk RL 131 mX11_moved := zT5 51 rfl rfl
theorem lL_135 : zLk RL 135 mX11_safe := zT5 55 rfl rfl
theorem lL_139 : zLk RL 139 mX11_parted := zT5 59 rfl rfl
theorem lX11_326 : zLk RX11 326 mX5_allSorts := zT5 63 rfl rfl
theorem lX11_329 : zLk RX11 329 mX2_partedWinner := zT5 67 rfl rfl
theorem lX2_109 : zLk RX2 109 mX2_hallWinner := zT5 71 rfl rfl
theorem lX2_113 : zLk RX2 113 mX2_winnerOf := zT5 75 rfl rfl
theorem lL_143 : zLk RL 143 mX11_parting := zT5 76 rfl rfl
theorem lL_147 : zLk RL 147 mX11_cousins := zT5 80 rfl rfl
theorem lL_151 : zLk RL 151 mX11_alike := zT5 84 rfl rfl
theorem lX11_332 : zLk RX11 332 mX2_neighbours := zT5 88 rfl rfl
theorem lX2_119 : zLk RX2 119 mJ9_min_7cf53 := zT5 92 rfl rfl
theorem lL_155 : zLk RL 155 mX11_game := zT5 93 rfl rfl
theorem lX11_335 : zLk RX11 335 mX11_isSetOfNames := zT5 97 rfl rfl
theorem lX11_126 : zLk RX11 126 mX5_allNames := zT5 101 rfl rfl
theorem lX11_338 : zLk RX11 338 mX6_play := zT5 102 rfl rfl
theorem lX6_30 : zLk RX6 30 mX5_allNames := zT5 106 rfl rfl
theorem lX6_43 : zLk RX6 43 mX2_winnerOf := zT5 107 rfl rfl
theorem lX6_49 : zLk RX6 49 mX6_stepBack := zT5 108 rfl rfl
theorem lX6_60 : zAC RX6 60 := zT5 112 rfl rfl
theorem lX6_53 : zLk RX6 53 mX6_open := zT5 113 rfl rfl
theorem lL_160 : zLk RL 160 mX11_opening := zT5 117 rfl rfl
theorem lL_164 : zLk RL 164 mX11_doubt := zT5 121 rfl rfl
theorem lX11_348 : zLk RX11 348 mX10_within := zT5 125 rfl rfl
theorem lX11_351 : zLk RX11 351 mX1_doubtful := zT5 129 rfl rfl
theorem lX1_37 : zLk RX1 37 mX1_letVote := zT5 133 rfl rfl
theorem lX1_63 : zLk RX1 63 mX2_winnerOf := zT5 136 rfl rfl
theorem lX1_78 : zLk RX1 78 mX1_choose := zT5 137 rfl rfl
theorem lX1_49 : zLk RX1 49 mX1_power := zT5 140 rfl rfl
theorem lX1_43 : zLk RX1 43 mX5_votersIn := zT5 144 rfl rfl
theorem lX1_53 : zLk RX1 53 mX1_tell := zT5 145 rfl rfl
theorem lL_169 : zLk RL 169 mX11_seldom := zT5 149 rfl rfl
theorem lX11_355 : zLk RX11 355 mX1_struck := zT5 153 rfl rfl
theorem lX1_82 : zAC RX1 82 := zT5 157 rfl rfl
theorem lX1_88 : zLk RX1 88 mX1_strike := zT5 158 rfl rfl
theorem lL_173 : zLk RL 173 mX11_acts := zT5 161 rfl rfl
theorem lX11_358 : zLk RX11 358 mX0_readFrom := zT5 165 rfl rfl
theorem lX0_55 : zLk RX0 55 mX9_advance := zT5 169 rfl rfl
theorem lX0_60 : zLk RX0 60 mX9_atEnd := zT5 170 rfl rfl
theorem lX0_64 : zLk RX0 64 mX9_refuse := zT5 171 rfl rfl
theorem lX0_70 : zLk RX0 70 mX9_at := zT5 173 rfl rfl
theorem lX0_74 : zLk RX0 74 mX0_readEnd := zT5 174 rfl rfl
theorem lX0_81 : zLk RX0 81 mX9_expectSign := zT5 178 rfl rfl
theorem lX0_78 : zLk RX0 78 mX0_readStep := zT5 179 rfl rfl
theorem lX0_84 : zLk RX0 84 mX0_kindAt := zT5 183 rfl rfl
theorem lX0_88 : zLk RX0 88 mX0_readArguments := zT5 194 rfl rfl
theorem lX0_108 : zLk RX0 108 mX0_readMove := zT5 198 rfl rfl
theorem lX0_120 : zLk RX0 120 mX9_isNumber := zT5 202 rfl rfl
theorem lX0_112 : zLk RX0 112 mX0_readNumber := zT5 203 rfl rfl
theorem lX0_116 : zLk RX0 116 mX0_readWho := zT5 207 rfl rfl
theorem lX0_129 : zLk RX0 129 mX9_atShortWord := zT5 212 rfl rfl
theorem lX11_359 : zLk RX11 359 mX0_copyFrom := zT5 213 rfl rfl
theorem lX0_46 : zAC RX0 46 := zT5 217 rfl rfl
theorem lL_177 : zLk RL 177 mX11_act := zT5 218 rfl rfl
theorem lX11_365 : zLk RX11 365 mX3_run := zT5 222 rfl rfl
theorem lX3_56 : zLk RX3 56 mX3_behindEnd := zT5 227 rfl rfl
theorem lX3_84 : zLk RX3 84 mX3_isSo := zT5 231 rfl rfl
theorem lX3_68 : zLk RX3 68 mX5_find := zT5 235 rfl rfl
theorem lX3_94 : zLk RX3 94 mX2_winnerOf := zT5 236 rfl rfl
theorem lX3_60 : zLk RX3 60 mX3_behindStep := zT5 237 rfl rfl
theorem lX3_74 : zLk RX3 74 mX3_change := zT6 1 rfl rfl
theorem lX3_104 : zLk RX3 104 mX5_costOf := zT6 5 rfl rfl
theorem lX3_110 : zLk RX3 110 mX5_change := zT6 6 rfl rfl
theorem lL_181 : zLk RL 181 mX11_acted := zT6 7 rfl rfl
theorem lL_185 : zLk RL 185 mX11_mark := zT6 11 rfl rfl
theorem lL_189 : zLk RL 189 mX11_back := zT6 15 rfl rfl
theorem lL_12 : zLk RL 12 mX12_init := zT6 21 rfl rfl
theorem lL_17 : zLk RL 17 mX12_status := zT7 8 rfl rfl
theorem lL_22 : zLk RL 22 mX12_top := zT7 12 rfl rfl
theorem lL_26 : zLk RL 26 mX12_bottom := zT7 16 rfl rfl
theorem lL_31 : zLk RL 31 mX12_tray := zT7 20 rfl rfl
theorem lX12_113 : zLk RX12 113 mX12_no := zT7 24 rfl rfl
theorem lL_38 : zLk RL 38 mX12_write := zT7 28 rfl rfl
theorem lX12_121 : zLk RX12 121 mX12_placed := zT7 32 rfl rfl
theorem lX12_117 : zLk RX12 117 mX12_trayed := zT7 36 rfl rfl
theorem lX12_125 : zLk RX12 125 mX12_cut := zT7 40 rfl rfl
theorem lL_43 : zLk RL 43 mX12_read := zT7 43 rfl rfl
theorem lL_48 : zLk RL 48 mX12_pour := zT7 48 rfl rfl
theorem lL_53 : zLk RL 53 mX12_feed := zT7 52 rfl rfl
theorem lX12_220 : zLk RX12 220 mX12_lay := zT7 56 rfl rfl
theorem lL_58 : zLk RL 58 mX12_hall := zT7 60 rfl rfl
theorem lX12_245 : zLk RX12 245 mX12_opens := zT7 64 rfl rfl
theorem lX12_211 : zLk RX12 211 mX12_next := zT7 68 rfl rfl
theorem lX12_146 : zLk RX12 146 mX12_look := zT7 72 rfl rfl
theorem lX12_152 : zLk RX12 152 mX12_isLetter := zT7 76 rfl rfl
theorem lX12_165 : zLk RX12 165 mX12_isDigit := zT7 81 rfl rfl
theorem lX12_179 : zLk RX12 179 mX12_isNameWord := zT7 84 rfl rfl
theorem lX12_171 : zLk RX12 171 mX12_spelled := zT7 88 rfl rfl
theorem lX12_175 : zLk RX12 175 mX12_isWord := zT7 91 rfl rfl
theorem lX12_249 : zLk RX12 249 mX12_readName := zT7 95 rfl rfl
theorem lX12_207 : zLk RX12 207 mX12_fail := zT7 99 rfl rfl
theorem lX12_228 : zLk RX12 228 mX12_isHallName := zT7 103 rfl rfl
theorem lX12_183 : zLk RX12 183 mX12_isOffWord := zT7 107 rfl rfl
theorem lX12_186 : zLk RX12 186 mX12_isCostWord := zT7 111 rfl rfl
theorem lX12_189 : zLk RX12 189 mX12_isSortWord := zT7 115 rfl rfl
theorem lX12_192 : zLk RX12 192 mX12_isOutWord := zT7 119 rfl rfl
theorem lX12_195 : zLk RX12 195 mX12_isOrderWord := zT7 123 rfl rfl
theorem lX12_198 : zLk RX12 198 mX12_isTiesWord := zT7 127 rfl rfl
theorem lX12_214 : zLk RX12 214 mX12_wrong := zT7 131 rfl rfl
theorem lX12_231 : zLk RX12 231 mX12_newName := zT7 135 rfl rfl
theorem lX12_235 : zLk RX12 235 mX12_count := zT7 139 rfl rfl
theorem lX12_133 : zLk RX12 133 mX12_isIn := zT7 143 rfl rfl
theorem lX12_238 : zLk RX12 238 mX12_must := zT7 146 rfl rfl
theorem lX12_252 : zLk RX12 252 mX12_readSort := zT7 150 rfl rfl
theorem lX12_242 : zLk RX12 242 mX12_readOrder := zT7 154 rfl rfl
theorem lX12_255 : zLk RX12 255 mX12_readTies := zT7 158 rfl rfl
theorem lX12_258 : zLk RX12 258 mX12_isWell := zT7 162 rfl rfl
theorem lL_62 : zLk RL 62 mX12_rule := zT7 166 rfl rfl
theorem lX12_269 : zLk RX12 269 mX12_readClause := zT7 170 rfl rfl
theorem lX12_261 : zLk RX12 261 mX12_clauseWord := zT7 174 rfl rfl
theorem lX12_264 : zLk RX12 264 mX12_readPoints := zT7 178 rfl rfl
theorem lL_66 : zLk RL 66 mX12_fault := zT7 183 rfl rfl
theorem lL_70 : zLk RL 70 mX12_many := zT7 187 rfl rfl
theorem lX12_272 : zLk RX12 272 mX12_allIn := zT7 191 rfl rfl
theorem lX12_275 : zLk RX12 275 mX12_refuse := zT7 195 rfl rfl
theorem lL_75 : zLk RL 75 mX12_name := zT7 199 rfl rfl
theorem lX12_278 : zLk RX12 278 mX12_isName := zT7 203 rfl rfl
theorem lL_79 : zLk RL 79 mX12_sort := zT7 207 rfl rfl
theorem lX12_281 : zLk RX12 281 mX12_isSort := zT7 211 rfl rfl
theorem lL_83 : zLk RL 83 mX12_order := zT7 215 rfl rfl
theorem lL_88 : zLk RL 88 mX12_stand := zT7 219 rfl rfl
theorem lL_92 : zLk RL 92 mX12_voters := zT7 223 rfl rfl
theorem lL_96 : zLk RL 96 mX12_wins := zT7 227 rfl rfl
theorem lX12_326 : zLk RX12 326 mX12_winnerNow := zT7 231 rfl rfl
theorem lX12_320 : zLk RX12 320 mX12_countAll := zT7 235 rfl rfl
theorem lX12_287 : zLk RX12 287 mX12_setVoters := zT7 239 rfl rfl
theorem lX12_323 : zLk RX12 323 mX12_winner := zT8 3 rfl rfl
theorem lX12_317 : zLk RX12 317 mX12_leftOf := zT8 7 rfl rfl
theorem lX12_314 : zLk RX12 314 mX12_sift := zT8 11 rfl rfl
theorem lX12_305 : zLk RX12 305 mX12_runDown := zT8 15 rfl rfl
theorem lX12_297 : zLk RX12 297 mJ6_bitCount_0f7a4 := zT8 19 rfl rfl
theorem lX12_302 : zLk RX12 302 mX12_firstsOf := zT8 20 rfl rfl
theorem lX12_290 : zLk RX12 290 mX12_placeIn := zT8 24 rfl rfl
theorem lX12_308 : zLk RX12 308 mX12_more := zT8 28 rfl rfl
theorem lX12_311 : zLk RX12 311 mX12_greatest := zT8 32 rfl rfl
theorem lX12_294 : zLk RX12 294 mJ9_max_7cf53 := zT8 36 rfl rfl
theorem lL_100 : zLk RL 100 mX12_firsts := zT8 37 rfl rfl
theorem lL_104 : zLk RL 104 mX12_beats := zT8 41 rfl rfl
theorem lL_108 : zLk RL 108 mX12_left := zT8 45 rfl rfl
theorem lL_112 : zLk RL 112 mX12_told := zT8 49 rfl rfl
theorem lX12_351 : zLk RX12 351 mX12_toldBy := zT8 53 rfl rfl
theorem lX12_329 : zLk RX12 329 mX12_isTray := zT8 57 rfl rfl
theorem lX12_334 : zLk RX12 334 mX12_numberOf := zT8 63 rfl rfl
theorem lX12_348 : zLk RX12 348 mX12_sumVoters := zT8 69 rfl rfl
theorem lL_116 : zLk RL 116 mX12_cost := zT8 73 rfl rfl
theorem lL_121 : zLk RL 121 mX12_names := zT8 77 rfl rfl
theorem lX12_390 : zLk RX12 390 mX12_aim := zT8 81 rfl rfl
theorem lX12_394 : zLk RX12 394 mX12_findNames := zT8 85 rfl rfl
theorem lX12_372 : zLk RX12 372 mX12_isBetter := zT8 89 rfl rfl
theorem lX12_375 : zLk RX12 375 mX12_isAim := zT8 93 rfl rfl
theorem lL_126 : zLk RL 126 mX12_people := zT8 97 rfl rfl
theorem lX12_406 : zLk RX12 406 mX12_isPeople := zT8 101 rfl rfl
theorem lX12_411 : zLk RX12 411 mX12_findPeople := zT8 105 rfl rfl
theorem lX12_386 : zLk RX12 386 mX12_movePeople := zT8 109 rfl rfl
theorem lX12_384 : zLk RX12 384 mJ9_abs_0f7a4 := zT8 113 rfl rfl
theorem lL_130 : zLk RL 130 mX12_found := zT8 116 rfl rfl
theorem lL_134 : zLk RL 134 mX12_moved := zT8 120 rfl rfl
theorem lL_138 : zLk RL 138 mX12_safe := zT8 124 rfl rfl
theorem lL_142 : zLk RL 142 mX12_parted := zT8 128 rfl rfl
theorem lX12_420 : zLk RX12 420 mX12_partedBy := zT8 132 rfl rfl
theorem lX12_417 : zLk RX12 417 mX12_winnerIn := zT8 136 rfl rfl
theorem lL_146 : zLk RL 146 mX12_parting := zT8 140 rfl rfl
theorem lL_150 : zLk RL 150 mX12_cousins := zT8 144 rfl rfl
theorem lL_154 : zLk RL 154 mX12_alike := zT8 148 rfl rfl
theorem lL_159 : zLk RL 159 mX12_game := zT8 152 rfl rfl
theorem lX12_429 : zLk RX12 429 mX12_sure := zT8 156 rfl rfl
theorem lL_163 : zLk RL 163 mX12_opening := zT8 160 rfl rfl
theorem lL_168 : zLk RL 168 mX12_doubt := zT8 164 rfl rfl
theorem lX12_453 : zLk RX12 453 mX12_doubtFrom := zT8 169 rfl rfl
theorem lX12_444 : zLk RX12 444 mX12_ways := zT8 173 rfl rfl
theorem lX12_447 : zLk RX12 447 mX12_power := zT8 176 rfl rfl
theorem lX12_457 : zLk RX12 457 mX12_fraction := zT8 179 rfl rfl
theorem lX12_107 : zLk RX12 107 mJ9_abs_067f4 := zT8 183 rfl rfl
theorem lL_172 : zLk RL 172 mX12_seldom := zT8 186 rfl rfl
theorem lX12_464 : zLk RX12 464 mX12_seldomFrom := zT8 191 rfl rfl
theorem lX12_461 : zLk RX12 461 mJ9_min_7cf53 := zT8 195 rfl rfl
theorem lL_176 : zLk RL 176 mX12_acts := zT8 196 rfl rfl
theorem lX12_492 : zLk RX12 492 mX12_readStep := zT8 200 rfl rfl
theorem lX12_470 : zLk RX12 470 mX12_stepWord := zT8 204 rfl rfl
theorem lX12_488 : zLk RX12 488 mX12_readWho := zT8 208 rfl rfl
theorem lX12_473 : zLk RX12 473 mX12_isNot := zT8 212 rfl rfl
theorem lX12_479 : zLk RX12 479 mX12_isActName := zT8 216 rfl rfl
theorem lX12_476 : zLk RX12 476 mX12_isEnd := zT8 220 rfl rfl
theorem lL_180 : zLk RL 180 mX12_act := zT8 224 rfl rfl
theorem lX12_532 : zLk RX12 532 mX12_doAll := zT8 228 rfl rfl
theorem lX12_520 : zLk RX12 520 mX12_doOne := zT8 232 rfl rfl
theorem lX12_526 : zLk RX12 526 mX12_changeName := zT8 236 rfl rfl
theorem lX12_501 : zLk RX12 501 mX12_named := zT9 0 rfl rfl
theorem lX12_514 : zLk RX12 514 mX12_pays := zT9 4 rfl rfl
theorem lX12_529 : zLk RX12 529 mX12_changeVoters := zT9 8 rfl rfl
theorem lX12_535 : zLk RX12 535 mX12_isSo := zT9 12 rfl rfl
theorem lL_184 : zLk RL 184 mX12_acted := zT9 16 rfl rfl
theorem lL_188 : zLk RL 188 mX12_mark := zT9 20 rfl rfl
theorem lX12_544 : zLk RX12 544 mX12_copy := zT9 24 rfl rfl
theorem lL_192 : zLk RL 192 mX12_back := zT9 28 rfl rfl
theorem tX0_init : zMi mX0_init 0 := ⟨zT1 184 rfl rfl, zT1 5 rfl rfl, zT1 185 rfl rfl, ⟨by decide +kernel, by decide +kernel, by decide +kernel⟩, by decide, rfl, rfl⟩
theorem tX0_copyFrom : zMt mX0_copyFrom 0 1 := ⟨zT5 214 rfl rfl, zT5 215 rfl rfl, zT1 5 rfl rfl, zT5 216 rfl rfl, ⟨by decide +kernel, by decide +kernel, by decide +kernel⟩, ⟨TX0, 11, rfl⟩, by decide⟩
theorem tX0_readFrom : zMt mX0_readFrom 0 1 := ⟨zT5 166 rfl rfl, zT5 167 rfl rfl, zT1 5 rfl rfl, zT5 168 rfl rfl, ⟨by decide +kernel, by decide +kernel, by decide +kernel⟩, ⟨TX0, 11, rfl⟩, by decide⟩
theorem tX0_readEnd : zMt mX0_readEnd 0 1 := ⟨zT5 176 rfl rfl, zTb_mem 38 rfl rfl, zT1 5 rfl rfl, zT5 177 rfl rfl, ⟨by decide +kernel, by decide +kernel, by decide +kernel⟩, ⟨TX0, 11, rfl⟩, by decide⟩
theorem tX0_readStep : zMt mX0_readStep 0 1 := ⟨zT5 181 rfl rfl, zTb_mem 39 rfl rfl, zT1 5 rfl rfl, zT5 182 rfl rfl, ⟨by decide +kernel, by decide +kernel, by decide +kernel⟩, ⟨TX0, 11, rfl⟩, by decide⟩
theorem tX0_kindAt : zMs mX0_kindAt 1 := ⟨zT5 184 rfl rfl, zT1 5 rfl rfl, zT5 185 rfl rfl, ⟨by decide +kernel, by decide +kernel, by decide +kernel⟩, by decide⟩
theorem tX0_readArguments : zMt mX0_readArguments 0 3 := ⟨zT5 196 rfl rfl, zTb_mem 40 rfl rfl, zT1 5 rfl rfl, zT5 197 rfl rfl, ⟨by decide +kernel, by decide +kernel, by decide +kernel⟩, ⟨TX0, 11, rfl⟩, by decide⟩
theorem tX0_readNumber : zMt mX0_readNumber 0 4 := ⟨zT5 205 rfl rfl, zTb_mem 42 rfl rfl, zT1 5 rfl rfl, zT5 206 rfl rfl, ⟨by decide +kernel, by decide +kernel, by decide +kernel⟩, ⟨TX0, 11, rfl⟩, by decide⟩
theorem tX0_readMove : zMt mX0_readMove 0 2 := ⟨zT5 200 rfl rfl, zTb_mem 41 rfl rfl, zT1 5 rfl rfl, zT5 201 rfl rfl, ⟨by decide +kernel, by decide +kernel, by decide +kernel⟩, ⟨TX0, 11, rfl⟩, by decide⟩
theorem tX0_readWho : zMt mX0_readWho 0 3 := ⟨zT5 209 rfl rfl, zTb_mem 43 rfl rfl, zT1 5 rfl rfl, zT5 210 rfl rfl, ⟨by decide +kernel, by decide +kernel, by decide +kernel⟩, ⟨TX0, 11, rfl⟩, by decide⟩
theorem tX1_init : zMi mX1_init 2 := ⟨zT2 119 rfl rfl, zT1 10 rfl rfl, zT2 120 rfl rfl, ⟨by decide +kernel, by decide +kernel, by decide +kernel⟩, by decide, rfl, rfl⟩
theorem tX1_doubtful : zMt mX1_doubtful 1 2 := ⟨zT5 130 rfl rfl, zT5 131 rfl rfl, zT1 10 rfl rfl, zT5 132 rfl rfl, ⟨by decide +kernel, by decide +kernel, by decide +kernel⟩, ⟨TX1, 7, rfl⟩, by decide⟩
theorem tX1_letVote : zMs mX1_letVote 4 := ⟨zT5 134 rfl rfl, zT1 10 rfl rfl, zT5 135 rfl rfl, ⟨by decide +kernel, by decide +kernel, by decide +kernel⟩, by decide⟩
theorem tX1_struck : zMt mX1_struck 1 2 := ⟨zT5 154 rfl rfl, zT5 155 rfl rfl, zT1 10 rfl rfl, zT5 156 rfl rfl, ⟨by decide +kernel, by decide +kernel, by decide +kernel⟩, ⟨TX1, 7, rfl⟩, by decide⟩
theorem tX1_strike : zMs mX1_strike 4 := ⟨zT5 159 rfl rfl, zT1 10 rfl rfl, zT5 160 rfl rfl, ⟨by decide +kernel, by decide +kernel, by decide +kernel⟩, by decide⟩
theorem tX1_choose : zMs mX1_choose 2 := ⟨zT5 138 rfl rfl, zT1 10 rfl rfl, zT5 139 rfl rfl, ⟨by decide +kernel, by decide +kernel, by decide +kernel⟩, by decide⟩
theorem tX1_power : zMs mX1_power 2 := ⟨zT5 141 rfl rfl, zT1 10 rfl rfl, zT5 142 rfl rfl, ⟨by decide +kernel, by decide +kernel, by decide +kernel⟩, by decide⟩
theorem tX1_tell : zMt mX1_tell 1 2 := ⟨zT5 147 rfl rfl, zTb_mem 37 rfl rfl, zT1 10 rfl rfl, zT5 148 rfl rfl, ⟨by decide +kernel, by decide +kernel, by decide +kernel⟩, ⟨TX1, 7, rfl⟩, by decide⟩
theorem tX2_init : zMi mX2_init 2 := ⟨zT1 236 rfl rfl, zT1 6 rfl rfl, zT1 237 rfl rfl, ⟨by decide +kernel, by decide +kernel, by decide +kernel⟩, by decide, rfl, rfl⟩
theorem tX2_winnerOf : zMt mX2_winnerOf 2 2 := ⟨zT4 118 rfl rfl, zT4 119 rfl rfl, zT1 6 rfl rfl, zT4 120 rfl rfl, ⟨by decide +kernel, by decide +kernel, by decide +kernel⟩, ⟨TX2, 5, rfl⟩, by decide⟩
theorem tX2_leftOf : zMt mX2_leftOf 2 3 := ⟨zT4 122 rfl rfl, zT4 123 rfl rfl, zT1 6 rfl rfl, zT4 124 rfl rfl, ⟨by decide +kernel, by decide +kernel, by decide +kernel⟩, ⟨TX2, 5, rfl⟩, by decide⟩
theorem tX2_mostPoints : zMt mX2_mostPoints 2 3 := ⟨zT4 133 rfl rfl, zTb_mem 19 rfl rfl, zT1 6 rfl rfl, zT4 134 rfl rfl, ⟨by decide +kernel, by decide +kernel, by decide +kernel⟩, ⟨TX2, 5, rfl⟩, by decide⟩
theorem tX2_withAtLeast : zMt mX2_withAtLeast 2 2 := ⟨zT4 143 rfl rfl, zTb_mem 20 rfl rfl, zT1 6 rfl rfl, zT4 144 rfl rfl, ⟨by decide +kernel, by decide +kernel, by decide +kernel⟩, ⟨TX2, 5, rfl⟩, by decide⟩
theorem tX2_tallyFirsts : zMt mX2_tallyFirsts 2 2 := ⟨zT4 151 rfl rfl, zTb_mem 22 rfl rfl, zT1 6 rfl rfl, zT4 152 rfl rfl, ⟨by decide +kernel, by decide +kernel, by decide +kernel⟩, ⟨TX2, 5, rfl⟩, by decide⟩
theorem tX2_runOff : zMt mX2_runOff 2 2 := ⟨zT4 147 rfl rfl, zTb_mem 21 rfl rfl, zT1 6 rfl rfl, zT4 148 rfl rfl, ⟨by decide +kernel, by decide +kernel, by decide +kernel⟩, ⟨TX2, 5, rfl⟩, by decide⟩
theorem tX2_beatsEach : zMt mX2_beatsEach 2 2 := ⟨zT4 155 rfl rfl, zTb_mem 23 rfl rfl, zT1 6 rfl rfl, zT4 156 rfl rfl, ⟨by decide +kernel, by decide +kernel, by decide +kernel⟩, ⟨TX2, 5, rfl⟩, by decide⟩
theorem tX2_aboveBar : zMt mX2_aboveBar 2 3 := ⟨zT4 163 rfl rfl, zTb_mem 24 rfl rfl, zT1 6 rfl rfl, zT4 164 rfl rfl, ⟨by decide +kernel, by decide +kernel, by decide +kernel⟩, ⟨TX2, 5, rfl⟩, by decide⟩
theorem tX2_firstsOf : zMt mX2_firstsOf 2 3 := ⟨zT4 170 rfl rfl, zT4 171 rfl rfl, zT1 6 rfl rfl, zT4 172 rfl rfl, ⟨by decide +kernel, by decide +kernel, by decide +kernel⟩, ⟨TX2, 5, rfl⟩, by decide⟩
theorem tX2_margin : zMt mX2_margin 2 3 := ⟨zT4 158 rfl rfl, zT4 159 rfl rfl, zT1 6 rfl rfl, zT4 160 rfl rfl, ⟨by decide +kernel, by decide +kernel, by decide +kernel⟩, ⟨TX2, 5, rfl⟩, by decide⟩
theorem tX2_partedWinner : zMt mX2_partedWinner 2 1 := ⟨zT5 68 rfl rfl, zT5 69 rfl rfl, zT1 6 rfl rfl, zT5 70 rfl rfl, ⟨by decide +kernel, by decide +kernel, by decide +kernel⟩, ⟨TX2, 5, rfl⟩, by decide⟩
theorem tX2_hallWinner : zMt mX2_hallWinner 2 1 := ⟨zT5 73 rfl rfl, zTb_mem 33 rfl rfl, zT1 6 rfl rfl, zT5 74 rfl rfl, ⟨by decide +kernel, by decide +kernel, by decide +kernel⟩, ⟨TX2, 5, rfl⟩, by decide⟩
theorem tX2_neighbours : zMt mX2_neighbours 2 2 := ⟨zT5 89 rfl rfl, zT5 90 rfl rfl, zT1 6 rfl rfl, zT5 91 rfl rfl, ⟨by decide +kernel, by decide +kernel, by decide +kernel⟩, ⟨TX2, 5, rfl⟩, by decide⟩
theorem tX3_init : zMi mX3_init 3 := ⟨zT2 149 rfl rfl, zT1 11 rfl rfl, zT2 150 rfl rfl, ⟨by decide +kernel, by decide +kernel, by decide +kernel⟩, by decide, rfl, rfl⟩
theorem tX3_run : zMt mX3_run 3 0 := ⟨zT5 223 rfl rfl, zT5 224 rfl rfl, zT1 11 rfl rfl, zT5 225 rfl rfl, ⟨by decide +kernel, by decide +kernel, by decide +kernel⟩, ⟨TX3, 9, rfl⟩, by decide⟩
theorem tX3_behindStep : zMt mX3_behindStep 3 1 := ⟨zT5 239 rfl rfl, zTb_mem 46 rfl rfl, zT1 11 rfl rfl, zT6 0 rfl rfl, ⟨by decide +kernel, by decide +kernel, by decide +kernel⟩, ⟨TX3, 9, rfl⟩, by decide⟩
theorem tX3_behindEnd : zMt mX3_behindEnd 3 2 := ⟨zT5 229 rfl rfl, zTb_mem 44 rfl rfl, zT1 11 rfl rfl, zT5 230 rfl rfl, ⟨by decide +kernel, by decide +kernel, by decide +kernel⟩, ⟨TX3, 9, rfl⟩, by decide⟩
theorem tX3_isSo : zMt mX3_isSo 3 1 := ⟨zT5 233 rfl rfl, zTb_mem 45 rfl rfl, zT1 11 rfl rfl, zT5 234 rfl rfl, ⟨by decide +kernel, by decide +kernel, by decide +kernel⟩, ⟨TX3, 9, rfl⟩, by decide⟩
theorem tX3_change : zMt mX3_change 3 3 := ⟨zT6 3 rfl rfl, zTb_mem 47 rfl rfl, zT1 11 rfl rfl, zT6 4 rfl rfl, ⟨by decide +kernel, by decide +kernel, by decide +kernel⟩, ⟨TX3, 9, rfl⟩, by decide⟩
theorem tX4_init : zMi mX4_init 0 := ⟨zT2 65 rfl rfl, zT1 8 rfl rfl, zT2 66 rfl rfl, ⟨by decide +kernel, by decide +kernel, by decide +kernel⟩, by decide, rfl, rfl⟩
theorem tX4_keepNames : zMt mX4_keepNames 4 1 := ⟨zT5 12 rfl rfl, zT5 13 rfl rfl, zT1 8 rfl rfl, zT5 14 rfl rfl, ⟨by decide +kernel, by decide +kernel, by decide +kernel⟩, ⟨TX4, 5, rfl⟩, by decide⟩
theorem tX4_keepVoters : zMt mX4_keepVoters 4 2 := ⟨zT5 40 rfl rfl, zT5 41 rfl rfl, zT1 8 rfl rfl, zT5 42 rfl rfl, ⟨by decide +kernel, by decide +kernel, by decide +kernel⟩, ⟨TX4, 5, rfl⟩, by decide⟩
theorem tX5_init : zMi mX5_init 0 := ⟨zT1 81 rfl rfl, zT1 3 rfl rfl, zT1 82 rfl rfl, ⟨by decide +kernel, by decide +kernel, by decide +kernel⟩, by decide, rfl, rfl⟩
theorem tX5_copyFrom : zMt mX5_copyFrom 5 1 := ⟨zT4 19 rfl rfl, zT4 20 rfl rfl, zT1 3 rfl rfl, zT4 21 rfl rfl, ⟨by decide +kernel, by decide +kernel, by decide +kernel⟩, ⟨TX5, 13, rfl⟩, by decide⟩
theorem tX5_clear : zMt mX5_clear 5 0 := ⟨zT3 114 rfl rfl, zTb_mem 4 rfl rfl, zT1 3 rfl rfl, zT3 115 rfl rfl, ⟨by decide +kernel, by decide +kernel, by decide +kernel⟩, ⟨TX5, 13, rfl⟩, by decide⟩
theorem tX5_allNames : zMt mX5_allNames 5 0 := ⟨zT4 238 rfl rfl, zT4 239 rfl rfl, zT1 3 rfl rfl, zT5 0 rfl rfl, ⟨by decide +kernel, by decide +kernel, by decide +kernel⟩, ⟨TX5, 13, rfl⟩, by decide⟩
theorem tX5_allSorts : zMt mX5_allSorts 5 0 := ⟨zT5 64 rfl rfl, zT5 65 rfl rfl, zT1 3 rfl rfl, zT5 66 rfl rfl, ⟨by decide +kernel, by decide +kernel, by decide +kernel⟩, ⟨TX5, 13, rfl⟩, by decide⟩
theorem tX5_votersIn : zMt mX5_votersIn 5 0 := ⟨zT4 82 rfl rfl, zT4 83 rfl rfl, zT1 3 rfl rfl, zT4 84 rfl rfl, ⟨by decide +kernel, by decide +kernel, by decide +kernel⟩, ⟨TX5, 13, rfl⟩, by decide⟩
theorem tX5_find : zMt mX5_find 5 1 := ⟨zT3 213 rfl rfl, zT3 214 rfl rfl, zT1 3 rfl rfl, zT3 215 rfl rfl, ⟨by decide +kernel, by decide +kernel, by decide +kernel⟩, ⟨TX5, 13, rfl⟩, by decide⟩
theorem tX5_isChange : zMt mX5_isChange 5 1 := ⟨zT4 192 rfl rfl, zT4 193 rfl rfl, zT1 3 rfl rfl, zT4 194 rfl rfl, ⟨by decide +kernel, by decide +kernel, by decide +kernel⟩, ⟨TX5, 13, rfl⟩, by decide⟩
theorem tX5_isThere : zMt mX5_isThere 5 2 := ⟨zT4 208 rfl rfl, zTb_mem 27 rfl rfl, zT1 3 rfl rfl, zT4 209 rfl rfl, ⟨by decide +kernel, by decide +kernel, by decide +kernel⟩, ⟨TX5, 13, rfl⟩, by decide⟩
theorem tX5_costOf : zMt mX5_costOf 5 2 := ⟨zT4 215 rfl rfl, zT4 216 rfl rfl, zT1 3 rfl rfl, zT4 217 rfl rfl, ⟨by decide +kernel, by decide +kernel, by decide +kernel⟩, ⟨TX5, 13, rfl⟩, by decide⟩
theorem tX5_change : zMt mX5_change 5 2 := ⟨zT4 203 rfl rfl, zT4 204 rfl rfl, zT1 3 rfl rfl, zT4 205 rfl rfl, ⟨by decide +kernel, by decide +kernel, by decide +kernel⟩, ⟨TX5, 13, rfl⟩, by decide⟩
theorem tX5_turn : zMt mX5_turn 5 2 := ⟨zT4 212 rfl rfl, zTb_mem 28 rfl rfl, zT1 3 rfl rfl, zT4 213 rfl rfl, ⟨by decide +kernel, by decide +kernel, by decide +kernel⟩, ⟨TX5, 13, rfl⟩, by decide⟩
theorem tX5_readFrom : zMt mX5_readFrom 5 1 := ⟨zT3 109 rfl rfl, zT3 110 rfl rfl, zT1 3 rfl rfl, zT3 111 rfl rfl, ⟨by decide +kernel, by decide +kernel, by decide +kernel⟩, ⟨TX5, 13, rfl⟩, by decide⟩
theorem tX5_readName : zMt mX5_readName 5 1 := ⟨zT3 193 rfl rfl, zTb_mem 7 rfl rfl, zT1 3 rfl rfl, zT3 194 rfl rfl, ⟨by decide +kernel, by decide +kernel, by decide +kernel⟩, ⟨TX5, 13, rfl⟩, by decide⟩
theorem tX5_readNameOptions : zMt mX5_readNameOptions 5 2 := ⟨zT3 218 rfl rfl, zTb_mem 8 rfl rfl, zT1 3 rfl rfl, zT3 219 rfl rfl, ⟨by decide +kernel, by decide +kernel, by decide +kernel⟩, ⟨TX5, 13, rfl⟩, by decide⟩
theorem tX5_isNameWord : zMs mX5_isNameWord 1 := ⟨zT3 200 rfl rfl, zT1 3 rfl rfl, zT3 201 rfl rfl, ⟨by decide +kernel, by decide +kernel, by decide +kernel⟩, by decide⟩
theorem tX5_readSort : zMt mX5_readSort 5 1 := ⟨zT4 0 rfl rfl, zTb_mem 9 rfl rfl, zT1 3 rfl rfl, zT4 1 rfl rfl, ⟨by decide +kernel, by decide +kernel, by decide +kernel⟩, ⟨TX5, 13, rfl⟩, by decide⟩
theorem tX5_readSortOptions : zMt mX5_readSortOptions 5 2 := ⟨zT4 4 rfl rfl, zTb_mem 10 rfl rfl, zT1 3 rfl rfl, zT4 5 rfl rfl, ⟨by decide +kernel, by decide +kernel, by decide +kernel⟩, ⟨TX5, 13, rfl⟩, by decide⟩
theorem tX5_readTies : zMt mX5_readTies 5 1 := ⟨zT4 12 rfl rfl, zTb_mem 12 rfl rfl, zT1 3 rfl rfl, zT4 13 rfl rfl, ⟨by decide +kernel, by decide +kernel, by decide +kernel⟩, ⟨TX5, 13, rfl⟩, by decide⟩
theorem tX5_readRow : zMt mX5_readRow 5 4 := ⟨zT4 8 rfl rfl, zTb_mem 11 rfl rfl, zT1 3 rfl rfl, zT4 9 rfl rfl, ⟨by decide +kernel, by decide +kernel, by decide +kernel⟩, ⟨TX5, 13, rfl⟩, by decide⟩
theorem tX6_init : zMi mX6_init 2 := ⟨zT2 92 rfl rfl, zT1 9 rfl rfl, zT2 93 rfl rfl, ⟨by decide +kernel, by decide +kernel, by decide +kernel⟩, by decide, rfl, rfl⟩
theorem tX6_play : zMt mX6_play 6 4 := ⟨zT5 103 rfl rfl, zT5 104 rfl rfl, zT1 9 rfl rfl, zT5 105 rfl rfl, ⟨by decide +kernel, by decide +kernel, by decide +kernel⟩, ⟨TX6, 6, rfl⟩, by decide⟩
theorem tX6_stepBack : zMt mX6_stepBack 6 2 := ⟨zT5 110 rfl rfl, zTb_mem 35 rfl rfl, zT1 9 rfl rfl, zT5 111 rfl rfl, ⟨by decide +kernel, by decide +kernel, by decide +kernel⟩, ⟨TX6, 6, rfl⟩, by decide⟩
theorem tX6_open : zMt mX6_open 6 1 := ⟨zT5 115 rfl rfl, zTb_mem 36 rfl rfl, zT1 9 rfl rfl, zT5 116 rfl rfl, ⟨by decide +kernel, by decide +kernel, by decide +kernel⟩, ⟨TX6, 6, rfl⟩, by decide⟩
theorem tX7_init : zMi mX7_init 0 := ⟨zT1 160 rfl rfl, zT1 4 rfl rfl, zT1 161 rfl rfl, ⟨by decide +kernel, by decide +kernel, by decide +kernel⟩, by decide, rfl, rfl⟩
theorem tX7_copyFrom : zMt mX7_copyFrom 7 1 := ⟨zT4 69 rfl rfl, zT4 70 rfl rfl, zT1 4 rfl rfl, zT4 71 rfl rfl, ⟨by decide +kernel, by decide +kernel, by decide +kernel⟩, ⟨TX7, 4, rfl⟩, by decide⟩
theorem tX7_readFrom : zMt mX7_readFrom 7 1 := ⟨zT4 32 rfl rfl, zT4 33 rfl rfl, zT1 4 rfl rfl, zT4 34 rfl rfl, ⟨by decide +kernel, by decide +kernel, by decide +kernel⟩, ⟨TX7, 4, rfl⟩, by decide⟩
theorem tX7_isKey : zMs mX7_isKey 1 := ⟨zT4 38 rfl rfl, zT1 4 rfl rfl, zT4 39 rfl rfl, ⟨by decide +kernel, by decide +kernel, by decide +kernel⟩, by decide⟩
theorem tX7_readClause : zMt mX7_readClause 7 2 := ⟨zT4 50 rfl rfl, zTb_mem 14 rfl rfl, zT1 4 rfl rfl, zT4 51 rfl rfl, ⟨by decide +kernel, by decide +kernel, by decide +kernel⟩, ⟨TX7, 4, rfl⟩, by decide⟩
theorem tX7_putOnes : zMt mX7_putOnes 7 2 := ⟨zT4 60 rfl rfl, zTb_mem 16 rfl rfl, zT1 4 rfl rfl, zT4 61 rfl rfl, ⟨by decide +kernel, by decide +kernel, by decide +kernel⟩, ⟨TX7, 4, rfl⟩, by decide⟩
theorem tX7_readPoints : zMt mX7_readPoints 7 2 := ⟨zT4 54 rfl rfl, zTb_mem 15 rfl rfl, zT1 4 rfl rfl, zT4 55 rfl rfl, ⟨by decide +kernel, by decide +kernel, by decide +kernel⟩, ⟨TX7, 4, rfl⟩, by decide⟩
theorem tX8_init : zMi mX8_init 2 := ⟨zT2 18 rfl rfl, zT1 7 rfl rfl, zT2 19 rfl rfl, ⟨by decide +kernel, by decide +kernel, by decide +kernel⟩, by decide, rfl, rfl⟩
theorem tX8_aim : zMt mX8_aim 8 3 := ⟨zT4 230 rfl rfl, zT4 231 rfl rfl, zT1 7 rfl rfl, zT4 232 rfl rfl, ⟨by decide +kernel, by decide +kernel, by decide +kernel⟩, ⟨TX8, 12, rfl⟩, by decide⟩
theorem tX8_byNames : zMt mX8_byNames 8 1 := ⟨zT4 234 rfl rfl, zT4 235 rfl rfl, zT1 7 rfl rfl, zT4 236 rfl rfl, ⟨by decide +kernel, by decide +kernel, by decide +kernel⟩, ⟨TX8, 12, rfl⟩, by decide⟩
theorem tX8_costOfNames : zMt mX8_costOfNames 8 1 := ⟨zT5 4 rfl rfl, zTb_mem 29 rfl rfl, zT1 7 rfl rfl, zT5 5 rfl rfl, ⟨by decide +kernel, by decide +kernel, by decide +kernel⟩, ⟨TX8, 12, rfl⟩, by decide⟩
theorem tX8_isBetter : zMt mX8_isBetter 8 3 := ⟨zT5 8 rfl rfl, zTb_mem 30 rfl rfl, zT1 7 rfl rfl, zT5 9 rfl rfl, ⟨by decide +kernel, by decide +kernel, by decide +kernel⟩, ⟨TX8, 12, rfl⟩, by decide⟩
theorem tX8_byVoters : zMt mX8_byVoters 8 2 := ⟨zT5 23 rfl rfl, zT5 24 rfl rfl, zT1 7 rfl rfl, zT5 25 rfl rfl, ⟨by decide +kernel, by decide +kernel, by decide +kernel⟩, ⟨TX8, 12, rfl⟩, by decide⟩
theorem tX8_spread : zMs mX8_spread 4 := ⟨zT5 29 rfl rfl, zT1 7 rfl rfl, zT5 30 rfl rfl, ⟨by decide +kernel, by decide +kernel, by decide +kernel⟩, by decide⟩
theorem tX8_tryMove : zMt mX8_tryMove 8 2 := ⟨zT5 37 rfl rfl, zTb_mem 32 rfl rfl, zT1 7 rfl rfl, zT5 38 rfl rfl, ⟨by decide +kernel, by decide +kernel, by decide +kernel⟩, ⟨TX8, 12, rfl⟩, by decide⟩
theorem tX8_keepTrial : zMt mX8_keepTrial 8 1 := ⟨zT5 33 rfl rfl, zTb_mem 31 rfl rfl, zT1 7 rfl rfl, zT5 34 rfl rfl, ⟨by decide +kernel, by decide +kernel, by decide +kernel⟩, ⟨TX8, 12, rfl⟩, by decide⟩
theorem tX9_init : zMi mX9_init 0 := ⟨zT1 35 rfl rfl, zT1 2 rfl rfl, zT1 36 rfl rfl, ⟨by decide +kernel, by decide +kernel, by decide +kernel⟩, by decide, rfl, rfl⟩
theorem tX9_hasRoom : zMt mX9_hasRoom 9 0 := ⟨zT3 93 rfl rfl, zT3 94 rfl rfl, zT1 2 rfl rfl, zT3 95 rfl rfl, ⟨by decide +kernel, by decide +kernel, by decide +kernel⟩, ⟨TX9, 10, rfl⟩, by decide⟩
theorem tX9_add : zMt mX9_add 9 1 := ⟨zT3 97 rfl rfl, zT3 98 rfl rfl, zT1 2 rfl rfl, zT3 99 rfl rfl, ⟨by decide +kernel, by decide +kernel, by decide +kernel⟩, ⟨TX9, 10, rfl⟩, by decide⟩
theorem tX9_open : zMt mX9_open 9 2 := ⟨zT3 105 rfl rfl, zT3 106 rfl rfl, zT1 2 rfl rfl, zT3 107 rfl rfl, ⟨by decide +kernel, by decide +kernel, by decide +kernel⟩, ⟨TX9, 10, rfl⟩, by decide⟩
theorem tX9_empty : zMt mX9_empty 9 0 := ⟨zT4 15 rfl rfl, zT4 16 rfl rfl, zT1 2 rfl rfl, zT4 17 rfl rfl, ⟨by decide +kernel, by decide +kernel, by decide +kernel⟩, ⟨TX9, 10, rfl⟩, by decide⟩
theorem tX9_advance : zMt mX9_advance 9 0 := ⟨zT3 117 rfl rfl, zT3 118 rfl rfl, zT1 2 rfl rfl, zT3 119 rfl rfl, ⟨by decide +kernel, by decide +kernel, by decide +kernel⟩, ⟨TX9, 10, rfl⟩, by decide⟩
theorem tX9_takeWord : zMt mX9_takeWord 9 0 := ⟨zT3 125 rfl rfl, zTb_mem 5 rfl rfl, zT1 2 rfl rfl, zT3 126 rfl rfl, ⟨by decide +kernel, by decide +kernel, by decide +kernel⟩, ⟨TX9, 10, rfl⟩, by decide⟩
theorem tX9_takeNumber : zMt mX9_takeNumber 9 0 := ⟨zT3 132 rfl rfl, zTb_mem 6 rfl rfl, zT1 2 rfl rfl, zT3 133 rfl rfl, ⟨by decide +kernel, by decide +kernel, by decide +kernel⟩, ⟨TX9, 10, rfl⟩, by decide⟩
theorem tX9_isLetter : zMs mX9_isLetter 1 := ⟨zT3 121 rfl rfl, zT1 2 rfl rfl, zT3 122 rfl rfl, ⟨by decide +kernel, by decide +kernel, by decide +kernel⟩, by decide⟩
theorem tX9_isDigit : zMs mX9_isDigit 1 := ⟨zT3 128 rfl rfl, zT1 2 rfl rfl, zT3 129 rfl rfl, ⟨by decide +kernel, by decide +kernel, by decide +kernel⟩, by decide⟩
theorem tX9_atEnd : zMt mX9_atEnd 9 0 := ⟨zT3 135 rfl rfl, zT3 136 rfl rfl, zT1 2 rfl rfl, zT3 137 rfl rfl, ⟨by decide +kernel, by decide +kernel, by decide +kernel⟩, ⟨TX9, 10, rfl⟩, by decide⟩
theorem tX9_atSign : zMt mX9_atSign 9 0 := ⟨zT3 235 rfl rfl, zT3 236 rfl rfl, zT1 2 rfl rfl, zT3 237 rfl rfl, ⟨by decide +kernel, by decide +kernel, by decide +kernel⟩, ⟨TX9, 10, rfl⟩, by decide⟩
theorem tX9_atNumber : zMt mX9_atNumber 9 0 := ⟨zT3 230 rfl rfl, zT3 231 rfl rfl, zT1 2 rfl rfl, zT3 232 rfl rfl, ⟨by decide +kernel, by decide +kernel, by decide +kernel⟩, ⟨TX9, 10, rfl⟩, by decide⟩
theorem tX9_atShortWord : zMt mX9_atShortWord 9 0 := ⟨zT3 209 rfl rfl, zT3 210 rfl rfl, zT1 2 rfl rfl, zT3 211 rfl rfl, ⟨by decide +kernel, by decide +kernel, by decide +kernel⟩, ⟨TX9, 10, rfl⟩, by decide⟩
theorem tX9_at : zMt mX9_at 9 1 := ⟨zT3 140 rfl rfl, zT3 141 rfl rfl, zT1 2 rfl rfl, zT3 142 rfl rfl, ⟨by decide +kernel, by decide +kernel, by decide +kernel⟩, ⟨TX9, 10, rfl⟩, by decide⟩
theorem tX9_refuse : zMt mX9_refuse 9 1 := ⟨zT3 196 rfl rfl, zT3 197 rfl rfl, zT1 2 rfl rfl, zT3 198 rfl rfl, ⟨by decide +kernel, by decide +kernel, by decide +kernel⟩, ⟨TX9, 10, rfl⟩, by decide⟩
theorem tX9_expectSign : zMt mX9_expectSign 9 0 := ⟨zT4 64 rfl rfl, zT4 65 rfl rfl, zT1 2 rfl rfl, zT4 66 rfl rfl, ⟨by decide +kernel, by decide +kernel, by decide +kernel⟩, ⟨TX9, 10, rfl⟩, by decide⟩
theorem tX9_expectNumber : zMt mX9_expectNumber 9 2 := ⟨zT3 221 rfl rfl, zT3 222 rfl rfl, zT1 2 rfl rfl, zT3 223 rfl rfl, ⟨by decide +kernel, by decide +kernel, by decide +kernel⟩, ⟨TX9, 10, rfl⟩, by decide⟩
theorem tX9_isNumber : zMt mX9_isNumber 9 2 := ⟨zT3 226 rfl rfl, zT3 227 rfl rfl, zT1 2 rfl rfl, zT3 228 rfl rfl, ⟨by decide +kernel, by decide +kernel, by decide +kernel⟩, ⟨TX9, 10, rfl⟩, by decide⟩
theorem tX10_init : zMi mX10_init 0 := ⟨zT2 187 rfl rfl, zT1 12 rfl rfl, zT2 188 rfl rfl, ⟨by decide +kernel, by decide +kernel, by decide +kernel⟩, by decide, rfl, rfl⟩
theorem tX10_become : zMt mX10_become 10 2 := ⟨zT3 47 rfl rfl, zT3 48 rfl rfl, zT1 12 rfl rfl, zT3 49 rfl rfl, ⟨by decide +kernel, by decide +kernel, by decide +kernel⟩, ⟨TX10, 4, rfl⟩, by decide⟩
theorem tX10_has : zMt mX10_has 10 2 := ⟨zT3 66 rfl rfl, zT3 67 rfl rfl, zT1 12 rfl rfl, zT3 68 rfl rfl, ⟨by decide +kernel, by decide +kernel, by decide +kernel⟩, ⟨TX10, 4, rfl⟩, by decide⟩
theorem tX10_put : zMt mX10_put 10 2 := ⟨zT3 70 rfl rfl, zT3 71 rfl rfl, zT1 12 rfl rfl, zT3 72 rfl rfl, ⟨by decide +kernel, by decide +kernel, by decide +kernel⟩, ⟨TX10, 4, rfl⟩, by decide⟩
theorem tX10_within : zMt mX10_within 10 2 := ⟨zT5 126 rfl rfl, zT5 127 rfl rfl, zT1 12 rfl rfl, zT5 128 rfl rfl, ⟨by decide +kernel, by decide +kernel, by decide +kernel⟩, ⟨TX10, 4, rfl⟩, by decide⟩
theorem tX11_init : zMi mX11_init 0 := ⟨zT1 25 rfl rfl, zT1 1 rfl rfl, zT1 26 rfl rfl, ⟨by decide +kernel, by decide +kernel, by decide +kernel⟩, by decide, rfl, rfl⟩
theorem tX11_status : zMt mX11_status 11 0 := ⟨zT3 24 rfl rfl, zT3 25 rfl rfl, zT1 1 rfl rfl, zT3 26 rfl rfl, ⟨by decide +kernel, by decide +kernel, by decide +kernel⟩, ⟨TX11, 18, rfl⟩, by decide⟩
theorem tX11_top : zMt mX11_top 11 0 := ⟨zT3 28 rfl rfl, zT3 29 rfl rfl, zT1 1 rfl rfl, zT3 30 rfl rfl, ⟨by decide +kernel, by decide +kernel, by decide +kernel⟩, ⟨TX11, 18, rfl⟩, by decide⟩
theorem tX11_bottom : zMt mX11_bottom 11 0 := ⟨zT3 32 rfl rfl, zT3 33 rfl rfl, zT1 1 rfl rfl, zT3 34 rfl rfl, ⟨by decide +kernel, by decide +kernel, by decide +kernel⟩, ⟨TX11, 18, rfl⟩, by decide⟩
theorem tX11_fail : zMt mX11_fail 11 1 := ⟨zT3 79 rfl rfl, zTb_mem 3 rfl rfl, zT1 1 rfl rfl, zT3 80 rfl rfl, ⟨by decide +kernel, by decide +kernel, by decide +kernel⟩, ⟨TX11, 18, rfl⟩, by decide⟩
theorem tX11_deny : zMt mX11_deny 11 1 := ⟨zT3 44 rfl rfl, zTb_mem 0 rfl rfl, zT1 1 rfl rfl, zT3 45 rfl rfl, ⟨by decide +kernel, by decide +kernel, by decide +kernel⟩, ⟨TX11, 18, rfl⟩, by decide⟩
theorem tX11_answer : zMt mX11_answer 11 1 := ⟨zT4 25 rfl rfl, zTb_mem 13 rfl rfl, zT1 1 rfl rfl, zT4 26 rfl rfl, ⟨by decide +kernel, by decide +kernel, by decide +kernel⟩, ⟨TX11, 18, rfl⟩, by decide⟩
theorem tX11_agree : zMt mX11_agree 11 0 := ⟨zT3 55 rfl rfl, zTb_mem 1 rfl rfl, zT1 1 rfl rfl, zT3 56 rfl rfl, ⟨by decide +kernel, by decide +kernel, by decide +kernel⟩, ⟨TX11, 18, rfl⟩, by decide⟩
theorem tX11_isName : zMt mX11_isName 11 1 := ⟨zT4 91 rfl rfl, zTb_mem 17 rfl rfl, zT1 1 rfl rfl, zT4 92 rfl rfl, ⟨by decide +kernel, by decide +kernel, by decide +kernel⟩, ⟨TX11, 18, rfl⟩, by decide⟩
theorem tX11_isSort : zMt mX11_isSort 11 1 := ⟨zT4 99 rfl rfl, zTb_mem 18 rfl rfl, zT1 1 rfl rfl, zT4 100 rfl rfl, ⟨by decide +kernel, by decide +kernel, by decide +kernel⟩, ⟨TX11, 18, rfl⟩, by decide⟩
theorem tX11_isSetOfNames : zMt mX11_isSetOfNames 11 1 := ⟨zT5 99 rfl rfl, zTb_mem 34 rfl rfl, zT1 1 rfl rfl, zT5 100 rfl rfl, ⟨by decide +kernel, by decide +kernel, by decide +kernel⟩, ⟨TX11, 18, rfl⟩, by decide⟩
theorem tX11_tray : zMt mX11_tray 11 3 := ⟨zT3 36 rfl rfl, zT3 37 rfl rfl, zT1 1 rfl rfl, zT3 38 rfl rfl, ⟨by decide +kernel, by decide +kernel, by decide +kernel⟩, ⟨TX11, 18, rfl⟩, by decide⟩
theorem tX11_write : zMt mX11_write 11 3 := ⟨zT3 58 rfl rfl, zT3 59 rfl rfl, zT1 1 rfl rfl, zT3 60 rfl rfl, ⟨by decide +kernel, by decide +kernel, by decide +kernel⟩, ⟨TX11, 18, rfl⟩, by decide⟩
theorem tX11_read : zMt mX11_read 11 2 := ⟨zT3 74 rfl rfl, zT3 75 rfl rfl, zT1 1 rfl rfl, zT3 76 rfl rfl, ⟨by decide +kernel, by decide +kernel, by decide +kernel⟩, ⟨TX11, 18, rfl⟩, by decide⟩
theorem tX11_pour : zMt mX11_pour 11 5 := ⟨zT3 82 rfl rfl, zT3 83 rfl rfl, zT1 1 rfl rfl, zT3 84 rfl rfl, ⟨by decide +kernel, by decide +kernel, by decide +kernel⟩, ⟨TX11, 18, rfl⟩, by decide⟩
theorem tX11_isTray : zMs mX11_isTray 1 := ⟨zT3 40 rfl rfl, zT1 1 rfl rfl, zT3 41 rfl rfl, ⟨by decide +kernel, by decide +kernel, by decide +kernel⟩, by decide⟩
theorem tX11_whyNoCell : zMt mX11_whyNoCell 11 2 := ⟨zT3 63 rfl rfl, zTb_mem 2 rfl rfl, zT1 1 rfl rfl, zT3 64 rfl rfl, ⟨by decide +kernel, by decide +kernel, by decide +kernel⟩, ⟨TX11, 18, rfl⟩, by decide⟩
theorem tX11_feed : zMt mX11_feed 11 5 := ⟨zT3 89 rfl rfl, zT3 90 rfl rfl, zT1 1 rfl rfl, zT3 91 rfl rfl, ⟨by decide +kernel, by decide +kernel, by decide +kernel⟩, ⟨TX11, 18, rfl⟩, by decide⟩
theorem tX11_hall : zMt mX11_hall 11 1 := ⟨zT3 101 rfl rfl, zT3 102 rfl rfl, zT1 1 rfl rfl, zT3 103 rfl rfl, ⟨by decide +kernel, by decide +kernel, by decide +kernel⟩, ⟨TX11, 18, rfl⟩, by decide⟩
theorem tX11_rule : zMt mX11_rule 11 1 := ⟨zT4 28 rfl rfl, zT4 29 rfl rfl, zT1 1 rfl rfl, zT4 30 rfl rfl, ⟨by decide +kernel, by decide +kernel, by decide +kernel⟩, ⟨TX11, 18, rfl⟩, by decide⟩
theorem tX11_fault : zMt mX11_fault 11 1 := ⟨zT4 74 rfl rfl, zT4 75 rfl rfl, zT1 1 rfl rfl, zT4 76 rfl rfl, ⟨by decide +kernel, by decide +kernel, by decide +kernel⟩, ⟨TX11, 18, rfl⟩, by decide⟩
theorem tX11_many : zMt mX11_many 11 1 := ⟨zT4 78 rfl rfl, zT4 79 rfl rfl, zT1 1 rfl rfl, zT4 80 rfl rfl, ⟨by decide +kernel, by decide +kernel, by decide +kernel⟩, ⟨TX11, 18, rfl⟩, by decide⟩
theorem tX11_name : zMt mX11_name 11 2 := ⟨zT4 86 rfl rfl, zT4 87 rfl rfl, zT1 1 rfl rfl, zT4 88 rfl rfl, ⟨by decide +kernel, by decide +kernel, by decide +kernel⟩, ⟨TX11, 18, rfl⟩, by decide⟩
theorem tX11_sort : zMt mX11_sort 11 2 := ⟨zT4 94 rfl rfl, zT4 95 rfl rfl, zT1 1 rfl rfl, zT4 96 rfl rfl, ⟨by decide +kernel, by decide +kernel, by decide +kernel⟩, ⟨TX11, 18, rfl⟩, by decide⟩
theorem tX11_order : zMt mX11_order 11 2 := ⟨zT4 102 rfl rfl, zT4 103 rfl rfl, zT1 1 rfl rfl, zT4 104 rfl rfl, ⟨by decide +kernel, by decide +kernel, by decide +kernel⟩, ⟨TX11, 18, rfl⟩, by decide⟩
theorem tX11_stand : zMt mX11_stand 11 2 := ⟨zT4 106 rfl rfl, zT4 107 rfl rfl, zT1 1 rfl rfl, zT4 108 rfl rfl, ⟨by decide +kernel, by decide +kernel, by decide +kernel⟩, ⟨TX11, 18, rfl⟩, by decide⟩
theorem tX11_voters : zMt mX11_voters 11 3 := ⟨zT4 110 rfl rfl, zT4 111 rfl rfl, zT1 1 rfl rfl, zT4 112 rfl rfl, ⟨by decide +kernel, by decide +kernel, by decide +kernel⟩, ⟨TX11, 18, rfl⟩, by decide⟩
theorem tX11_wins : zMt mX11_wins 11 0 := ⟨zT4 114 rfl rfl, zT4 115 rfl rfl, zT1 1 rfl rfl, zT4 116 rfl rfl, ⟨by decide +kernel, by decide +kernel, by decide +kernel⟩, ⟨TX11, 18, rfl⟩, by decide⟩
theorem tX11_firsts : zMt mX11_firsts 11 1 := ⟨zT4 166 rfl rfl, zT4 167 rfl rfl, zT1 1 rfl rfl, zT4 168 rfl rfl, ⟨by decide +kernel, by decide +kernel, by decide +kernel⟩, ⟨TX11, 18, rfl⟩, by decide⟩
theorem tX11_beats : zMt mX11_beats 11 2 := ⟨zT4 174 rfl rfl, zT4 175 rfl rfl, zT1 1 rfl rfl, zT4 176 rfl rfl, ⟨by decide +kernel, by decide +kernel, by decide +kernel⟩, ⟨TX11, 18, rfl⟩, by decide⟩
theorem tX11_left : zMt mX11_left 11 1 := ⟨zT4 179 rfl rfl, zT4 180 rfl rfl, zT1 1 rfl rfl, zT4 181 rfl rfl, ⟨by decide +kernel, by decide +kernel, by decide +kernel⟩, ⟨TX11, 18, rfl⟩, by decide⟩
theorem tX11_told : zMt mX11_told 11 2 := ⟨zT4 184 rfl rfl, zT4 185 rfl rfl, zT1 1 rfl rfl, zT4 186 rfl rfl, ⟨by decide +kernel, by decide +kernel, by decide +kernel⟩, ⟨TX11, 18, rfl⟩, by decide⟩
theorem tX11_cost : zMt mX11_cost 11 2 := ⟨zT4 219 rfl rfl, zT4 220 rfl rfl, zT1 1 rfl rfl, zT4 221 rfl rfl, ⟨by decide +kernel, by decide +kernel, by decide +kernel⟩, ⟨TX11, 18, rfl⟩, by decide⟩
theorem tX11_whyNotTold : zMt mX11_whyNotTold 11 2 := ⟨zT4 189 rfl rfl, zTb_mem 25 rfl rfl, zT1 1 rfl rfl, zT4 190 rfl rfl, ⟨by decide +kernel, by decide +kernel, by decide +kernel⟩, ⟨TX11, 18, rfl⟩, by decide⟩
theorem tX11_changeSpare : zMt mX11_changeSpare 11 2 := ⟨zT4 199 rfl rfl, zTb_mem 26 rfl rfl, zT1 1 rfl rfl, zT4 200 rfl rfl, ⟨by decide +kernel, by decide +kernel, by decide +kernel⟩, ⟨TX11, 18, rfl⟩, by decide⟩
theorem tX11_names : zMt mX11_names 11 4 := ⟨zT4 223 rfl rfl, zT4 224 rfl rfl, zT1 1 rfl rfl, zT4 225 rfl rfl, ⟨by decide +kernel, by decide +kernel, by decide +kernel⟩, ⟨TX11, 18, rfl⟩, by decide⟩
theorem tX11_people : zMt mX11_people 11 5 := ⟨zT5 16 rfl rfl, zT5 17 rfl rfl, zT1 1 rfl rfl, zT5 18 rfl rfl, ⟨by decide +kernel, by decide +kernel, by decide +kernel⟩, ⟨TX11, 18, rfl⟩, by decide⟩
theorem tX11_found : zMt mX11_found 11 1 := ⟨zT5 48 rfl rfl, zT5 49 rfl rfl, zT1 1 rfl rfl, zT5 50 rfl rfl, ⟨by decide +kernel, by decide +kernel, by decide +kernel⟩, ⟨TX11, 18, rfl⟩, by decide⟩
theorem tX11_moved : zMt mX11_moved 11 1 := ⟨zT5 52 rfl rfl, zT5 53 rfl rfl, zT1 1 rfl rfl, zT5 54 rfl rfl, ⟨by decide +kernel, by decide +kernel, by decide +kernel⟩, ⟨TX11, 18, rfl⟩, by decide⟩
theorem tX11_safe : zMt mX11_safe 11 1 := ⟨zT5 56 rfl rfl, zT5 57 rfl rfl, zT1 1 rfl rfl, zT5 58 rfl rfl, ⟨by decide +kernel, by decide +kernel, by decide +kernel⟩, ⟨TX11, 18, rfl⟩, by decide⟩
theorem tX11_isOfNames : zMs mX11_isOfNames 1 := ⟨zT4 227 rfl rfl, zT1 1 rfl rfl, zT4 228 rfl rfl, ⟨by decide +kernel, by decide +kernel, by decide +kernel⟩, by decide⟩
theorem tX11_isOfVoters : zMs mX11_isOfVoters 1 := ⟨zT5 20 rfl rfl, zT1 1 rfl rfl, zT5 21 rfl rfl, ⟨by decide +kernel, by decide +kernel, by decide +kernel⟩, by decide⟩
theorem tX11_parted : zMt mX11_parted 11 1 := ⟨zT5 60 rfl rfl, zT5 61 rfl rfl, zT1 1 rfl rfl, zT5 62 rfl rfl, ⟨by decide +kernel, by decide +kernel, by decide +kernel⟩, ⟨TX11, 18, rfl⟩, by decide⟩
theorem tX11_parting : zMt mX11_parting 11 1 := ⟨zT5 77 rfl rfl, zT5 78 rfl rfl, zT1 1 rfl rfl, zT5 79 rfl rfl, ⟨by decide +kernel, by decide +kernel, by decide +kernel⟩, ⟨TX11, 18, rfl⟩, by decide⟩
theorem tX11_cousins : zMt mX11_cousins 11 0 := ⟨zT5 81 rfl rfl, zT5 82 rfl rfl, zT1 1 rfl rfl, zT5 83 rfl rfl, ⟨by decide +kernel, by decide +kernel, by decide +kernel⟩, ⟨TX11, 18, rfl⟩, by decide⟩
theorem tX11_alike : zMt mX11_alike 11 2 := ⟨zT5 85 rfl rfl, zT5 86 rfl rfl, zT1 1 rfl rfl, zT5 87 rfl rfl, ⟨by decide +kernel, by decide +kernel, by decide +kernel⟩, ⟨TX11, 18, rfl⟩, by decide⟩
theorem tX11_game : zMt mX11_game 11 4 := ⟨zT5 94 rfl rfl, zT5 95 rfl rfl, zT1 1 rfl rfl, zT5 96 rfl rfl, ⟨by decide +kernel, by decide +kernel, by decide +kernel⟩, ⟨TX11, 18, rfl⟩, by decide⟩
theorem tX11_opening : zMt mX11_opening 11 0 := ⟨zT5 118 rfl rfl, zT5 119 rfl rfl, zT1 1 rfl rfl, zT5 120 rfl rfl, ⟨by decide +kernel, by decide +kernel, by decide +kernel⟩, ⟨TX11, 18, rfl⟩, by decide⟩
theorem tX11_doubt : zMt mX11_doubt 11 2 := ⟨zT5 122 rfl rfl, zT5 123 rfl rfl, zT1 1 rfl rfl, zT5 124 rfl rfl, ⟨by decide +kernel, by decide +kernel, by decide +kernel⟩, ⟨TX11, 18, rfl⟩, by decide⟩
theorem tX11_seldom : zMt mX11_seldom 11 2 := ⟨zT5 150 rfl rfl, zT5 151 rfl rfl, zT1 1 rfl rfl, zT5 152 rfl rfl, ⟨by decide +kernel, by decide +kernel, by decide +kernel⟩, ⟨TX11, 18, rfl⟩, by decide⟩
theorem tX11_acts : zMt mX11_acts 11 1 := ⟨zT5 162 rfl rfl, zT5 163 rfl rfl, zT1 1 rfl rfl, zT5 164 rfl rfl, ⟨by decide +kernel, by decide +kernel, by decide +kernel⟩, ⟨TX11, 18, rfl⟩, by decide⟩
theorem tX11_act : zMt mX11_act 11 0 := ⟨zT5 219 rfl rfl, zT5 220 rfl rfl, zT1 1 rfl rfl, zT5 221 rfl rfl, ⟨by decide +kernel, by decide +kernel, by decide +kernel⟩, ⟨TX11, 18, rfl⟩, by decide⟩
theorem tX11_acted : zMt mX11_acted 11 1 := ⟨zT6 8 rfl rfl, zT6 9 rfl rfl, zT1 1 rfl rfl, zT6 10 rfl rfl, ⟨by decide +kernel, by decide +kernel, by decide +kernel⟩, ⟨TX11, 18, rfl⟩, by decide⟩
theorem tX11_mark : zMt mX11_mark 11 0 := ⟨zT6 12 rfl rfl, zT6 13 rfl rfl, zT1 1 rfl rfl, zT6 14 rfl rfl, ⟨by decide +kernel, by decide +kernel, by decide +kernel⟩, ⟨TX11, 18, rfl⟩, by decide⟩
theorem tX11_back : zMt mX11_back 11 0 := ⟨zT6 16 rfl rfl, zT6 17 rfl rfl, zT1 1 rfl rfl, zT6 18 rfl rfl, ⟨by decide +kernel, by decide +kernel, by decide +kernel⟩, ⟨TX11, 18, rfl⟩, by decide⟩
theorem tX12_init : zMi mX12_init 0 := ⟨zT6 22 rfl rfl, zT1 13 rfl rfl, zT6 23 rfl rfl, ⟨by decide +kernel, by decide +kernel, by decide +kernel⟩, by decide, rfl, rfl⟩
theorem tX12_status : zMt mX12_status 12 0 := ⟨zT7 9 rfl rfl, zT7 10 rfl rfl, zT1 13 rfl rfl, zT7 11 rfl rfl, ⟨by decide +kernel, by decide +kernel, by decide +kernel⟩, ⟨TX12, 74, rfl⟩, by decide⟩
theorem tX12_top : zMt mX12_top 12 0 := ⟨zT7 13 rfl rfl, zT7 14 rfl rfl, zT1 13 rfl rfl, zT7 15 rfl rfl, ⟨by decide +kernel, by decide +kernel, by decide +kernel⟩, ⟨TX12, 74, rfl⟩, by decide⟩
theorem tX12_bottom : zMt mX12_bottom 12 0 := ⟨zT7 17 rfl rfl, zT7 18 rfl rfl, zT1 13 rfl rfl, zT7 19 rfl rfl, ⟨by decide +kernel, by decide +kernel, by decide +kernel⟩, ⟨TX12, 74, rfl⟩, by decide⟩
theorem tX12_refuse : zMt mX12_refuse 12 1 := ⟨zT7 197 rfl rfl, zTb_mem 78 rfl rfl, zT1 13 rfl rfl, zT7 198 rfl rfl, ⟨by decide +kernel, by decide +kernel, by decide +kernel⟩, ⟨TX12, 74, rfl⟩, by decide⟩
theorem tX12_no : zMt mX12_no 12 1 := ⟨zT7 26 rfl rfl, zTb_mem 48 rfl rfl, zT1 13 rfl rfl, zT7 27 rfl rfl, ⟨by decide +kernel, by decide +kernel, by decide +kernel⟩, ⟨TX12, 74, rfl⟩, by decide⟩
theorem tX12_isIn : zMs mX12_isIn 3 := ⟨zT7 144 rfl rfl, zT1 13 rfl rfl, zT7 145 rfl rfl, ⟨by decide +kernel, by decide +kernel, by decide +kernel⟩, by decide⟩
theorem tX12_fraction : zMt mX12_fraction 12 2 := ⟨zT8 181 rfl rfl, zTb_mem 106 rfl rfl, zT1 13 rfl rfl, zT8 182 rfl rfl, ⟨by decide +kernel, by decide +kernel, by decide +kernel⟩, ⟨TX12, 74, rfl⟩, by decide⟩
theorem tX12_cut : zMs mX12_cut 2 := ⟨zT7 41 rfl rfl, zT1 13 rfl rfl, zT7 42 rfl rfl, ⟨by decide +kernel, by decide +kernel, by decide +kernel⟩, by decide⟩
theorem tX12_tray : zMt mX12_tray 12 3 := ⟨zT7 21 rfl rfl, zT7 22 rfl rfl, zT1 13 rfl rfl, zT7 23 rfl rfl, ⟨by decide +kernel, by decide +kernel, by decide +kernel⟩, ⟨TX12, 74, rfl⟩, by decide⟩
theorem tX12_trayed : zMt mX12_trayed 12 1 := ⟨zT7 38 rfl rfl, zTb_mem 50 rfl rfl, zT1 13 rfl rfl, zT7 39 rfl rfl, ⟨by decide +kernel, by decide +kernel, by decide +kernel⟩, ⟨TX12, 74, rfl⟩, by decide⟩
theorem tX12_placed : zMt mX12_placed 12 2 := ⟨zT7 34 rfl rfl, zTb_mem 49 rfl rfl, zT1 13 rfl rfl, zT7 35 rfl rfl, ⟨by decide +kernel, by decide +kernel, by decide +kernel⟩, ⟨TX12, 74, rfl⟩, by decide⟩
theorem tX12_write : zMt mX12_write 12 3 := ⟨zT7 29 rfl rfl, zT7 30 rfl rfl, zT1 13 rfl rfl, zT7 31 rfl rfl, ⟨by decide +kernel, by decide +kernel, by decide +kernel⟩, ⟨TX12, 74, rfl⟩, by decide⟩
theorem tX12_read : zMt mX12_read 12 2 := ⟨zT7 44 rfl rfl, zT7 45 rfl rfl, zT1 13 rfl rfl, zT7 46 rfl rfl, ⟨by decide +kernel, by decide +kernel, by decide +kernel⟩, ⟨TX12, 74, rfl⟩, by decide⟩
theorem tX12_pour : zMt mX12_pour 12 5 := ⟨zT7 49 rfl rfl, zT7 50 rfl rfl, zT1 13 rfl rfl, zT7 51 rfl rfl, ⟨by decide +kernel, by decide +kernel, by decide +kernel⟩, ⟨TX12, 74, rfl⟩, by decide⟩
theorem tX12_numberOf : zMt mX12_numberOf 12 2 := ⟨zT8 65 rfl rfl, zTb_mem 94 rfl rfl, zT1 13 rfl rfl, zT8 66 rfl rfl, ⟨by decide +kernel, by decide +kernel, by decide +kernel⟩, ⟨TX12, 74, rfl⟩, by decide⟩
theorem tX12_isTray : zMt mX12_isTray 12 1 := ⟨zT8 59 rfl rfl, zTb_mem 93 rfl rfl, zT1 13 rfl rfl, zT8 60 rfl rfl, ⟨by decide +kernel, by decide +kernel, by decide +kernel⟩, ⟨TX12, 74, rfl⟩, by decide⟩
theorem tX12_look : zMt mX12_look 12 1 := ⟨zT7 74 rfl rfl, zTb_mem 54 rfl rfl, zT1 13 rfl rfl, zT7 75 rfl rfl, ⟨by decide +kernel, by decide +kernel, by decide +kernel⟩, ⟨TX12, 74, rfl⟩, by decide⟩
theorem tX12_isLetter : zMs mX12_isLetter 1 := ⟨zT7 77 rfl rfl, zT1 13 rfl rfl, zT7 78 rfl rfl, ⟨by decide +kernel, by decide +kernel, by decide +kernel⟩, by decide⟩
theorem tX12_isDigit : zMs mX12_isDigit 1 := ⟨zT7 82 rfl rfl, zT1 13 rfl rfl, zT7 83 rfl rfl, ⟨by decide +kernel, by decide +kernel, by decide +kernel⟩, by decide⟩
theorem tX12_next : zMt mX12_next 12 0 := ⟨zT7 70 rfl rfl, zTb_mem 53 rfl rfl, zT1 13 rfl rfl, zT7 71 rfl rfl, ⟨by decide +kernel, by decide +kernel, by decide +kernel⟩, ⟨TX12, 74, rfl⟩, by decide⟩
theorem tX12_spelled : zMs mX12_spelled 6 := ⟨zT7 89 rfl rfl, zT1 13 rfl rfl, zT7 90 rfl rfl, ⟨by decide +kernel, by decide +kernel, by decide +kernel⟩, by decide⟩
theorem tX12_isWord : zMt mX12_isWord 12 1 := ⟨zT7 93 rfl rfl, zTb_mem 56 rfl rfl, zT1 13 rfl rfl, zT7 94 rfl rfl, ⟨by decide +kernel, by decide +kernel, by decide +kernel⟩, ⟨TX12, 74, rfl⟩, by decide⟩
theorem tX12_isNameWord : zMt mX12_isNameWord 12 0 := ⟨zT7 86 rfl rfl, zTb_mem 55 rfl rfl, zT1 13 rfl rfl, zT7 87 rfl rfl, ⟨by decide +kernel, by decide +kernel, by decide +kernel⟩, ⟨TX12, 74, rfl⟩, by decide⟩
theorem tX12_isOffWord : zMt mX12_isOffWord 12 0 := ⟨zT7 109 rfl rfl, zTb_mem 60 rfl rfl, zT1 13 rfl rfl, zT7 110 rfl rfl, ⟨by decide +kernel, by decide +kernel, by decide +kernel⟩, ⟨TX12, 74, rfl⟩, by decide⟩
theorem tX12_isCostWord : zMt mX12_isCostWord 12 0 := ⟨zT7 113 rfl rfl, zTb_mem 61 rfl rfl, zT1 13 rfl rfl, zT7 114 rfl rfl, ⟨by decide +kernel, by decide +kernel, by decide +kernel⟩, ⟨TX12, 74, rfl⟩, by decide⟩
theorem tX12_isSortWord : zMt mX12_isSortWord 12 0 := ⟨zT7 117 rfl rfl, zTb_mem 62 rfl rfl, zT1 13 rfl rfl, zT7 118 rfl rfl, ⟨by decide +kernel, by decide +kernel, by decide +kernel⟩, ⟨TX12, 74, rfl⟩, by decide⟩
theorem tX12_isOutWord : zMt mX12_isOutWord 12 0 := ⟨zT7 121 rfl rfl, zTb_mem 63 rfl rfl, zT1 13 rfl rfl, zT7 122 rfl rfl, ⟨by decide +kernel, by decide +kernel, by decide +kernel⟩, ⟨TX12, 74, rfl⟩, by decide⟩
theorem tX12_isOrderWord : zMt mX12_isOrderWord 12 0 := ⟨zT7 125 rfl rfl, zTb_mem 64 rfl rfl, zT1 13 rfl rfl, zT7 126 rfl rfl, ⟨by decide +kernel, by decide +kernel, by decide +kernel⟩, ⟨TX12, 74, rfl⟩, by decide⟩
theorem tX12_isTiesWord : zMt mX12_isTiesWord 12 0 := ⟨zT7 129 rfl rfl, zTb_mem 65 rfl rfl, zT1 13 rfl rfl, zT7 130 rfl rfl, ⟨by decide +kernel, by decide +kernel, by decide +kernel⟩, ⟨TX12, 74, rfl⟩, by decide⟩
theorem tX12_isHallName : zMt mX12_isHallName 12 0 := ⟨zT7 105 rfl rfl, zTb_mem 59 rfl rfl, zT1 13 rfl rfl, zT7 106 rfl rfl, ⟨by decide +kernel, by decide +kernel, by decide +kernel⟩, ⟨TX12, 74, rfl⟩, by decide⟩
theorem tX12_fail : zMt mX12_fail 12 2 := ⟨zT7 101 rfl rfl, zTb_mem 58 rfl rfl, zT1 13 rfl rfl, zT7 102 rfl rfl, ⟨by decide +kernel, by decide +kernel, by decide +kernel⟩, ⟨TX12, 74, rfl⟩, by decide⟩
theorem tX12_wrong : zMt mX12_wrong 12 0 := ⟨zT7 133 rfl rfl, zTb_mem 66 rfl rfl, zT1 13 rfl rfl, zT7 134 rfl rfl, ⟨by decide +kernel, by decide +kernel, by decide +kernel⟩, ⟨TX12, 74, rfl⟩, by decide⟩
theorem tX12_must : zMt mX12_must 12 1 := ⟨zT7 148 rfl rfl, zTb_mem 69 rfl rfl, zT1 13 rfl rfl, zT7 149 rfl rfl, ⟨by decide +kernel, by decide +kernel, by decide +kernel⟩, ⟨TX12, 74, rfl⟩, by decide⟩
theorem tX12_count : zMt mX12_count 12 2 := ⟨zT7 141 rfl rfl, zTb_mem 68 rfl rfl, zT1 13 rfl rfl, zT7 142 rfl rfl, ⟨by decide +kernel, by decide +kernel, by decide +kernel⟩, ⟨TX12, 74, rfl⟩, by decide⟩
theorem tX12_feed : zMt mX12_feed 12 5 := ⟨zT7 53 rfl rfl, zT7 54 rfl rfl, zT1 13 rfl rfl, zT7 55 rfl rfl, ⟨by decide +kernel, by decide +kernel, by decide +kernel⟩, ⟨TX12, 74, rfl⟩, by decide⟩
theorem tX12_lay : zMt mX12_lay 12 1 := ⟨zT7 58 rfl rfl, zTb_mem 51 rfl rfl, zT1 13 rfl rfl, zT7 59 rfl rfl, ⟨by decide +kernel, by decide +kernel, by decide +kernel⟩, ⟨TX12, 74, rfl⟩, by decide⟩
theorem tX12_opens : zMt mX12_opens 12 2 := ⟨zT7 66 rfl rfl, zTb_mem 52 rfl rfl, zT1 13 rfl rfl, zT7 67 rfl rfl, ⟨by decide +kernel, by decide +kernel, by decide +kernel⟩, ⟨TX12, 74, rfl⟩, by decide⟩
theorem tX12_isWell : zMt mX12_isWell 12 0 := ⟨zT7 164 rfl rfl, zTb_mem 73 rfl rfl, zT1 13 rfl rfl, zT7 165 rfl rfl, ⟨by decide +kernel, by decide +kernel, by decide +kernel⟩, ⟨TX12, 74, rfl⟩, by decide⟩
theorem tX12_newName : zMt mX12_newName 12 0 := ⟨zT7 137 rfl rfl, zTb_mem 67 rfl rfl, zT1 13 rfl rfl, zT7 138 rfl rfl, ⟨by decide +kernel, by decide +kernel, by decide +kernel⟩, ⟨TX12, 74, rfl⟩, by decide⟩
theorem tX12_readName : zMt mX12_readName 12 0 := ⟨zT7 97 rfl rfl, zTb_mem 57 rfl rfl, zT1 13 rfl rfl, zT7 98 rfl rfl, ⟨by decide +kernel, by decide +kernel, by decide +kernel⟩, ⟨TX12, 74, rfl⟩, by decide⟩
theorem tX12_readOrder : zMt mX12_readOrder 12 1 := ⟨zT7 156 rfl rfl, zTb_mem 71 rfl rfl, zT1 13 rfl rfl, zT7 157 rfl rfl, ⟨by decide +kernel, by decide +kernel, by decide +kernel⟩, ⟨TX12, 74, rfl⟩, by decide⟩
theorem tX12_readSort : zMt mX12_readSort 12 0 := ⟨zT7 152 rfl rfl, zTb_mem 70 rfl rfl, zT1 13 rfl rfl, zT7 153 rfl rfl, ⟨by decide +kernel, by decide +kernel, by decide +kernel⟩, ⟨TX12, 74, rfl⟩, by decide⟩
theorem tX12_readTies : zMt mX12_readTies 12 0 := ⟨zT7 160 rfl rfl, zTb_mem 72 rfl rfl, zT1 13 rfl rfl, zT7 161 rfl rfl, ⟨by decide +kernel, by decide +kernel, by decide +kernel⟩, ⟨TX12, 74, rfl⟩, by decide⟩
theorem tX12_hall : zMt mX12_hall 12 1 := ⟨zT7 61 rfl rfl, zT7 62 rfl rfl, zT1 13 rfl rfl, zT7 63 rfl rfl, ⟨by decide +kernel, by decide +kernel, by decide +kernel⟩, ⟨TX12, 74, rfl⟩, by decide⟩
theorem tX12_clauseWord : zMt mX12_clauseWord 12 0 := ⟨zT7 176 rfl rfl, zTb_mem 75 rfl rfl, zT1 13 rfl rfl, zT7 177 rfl rfl, ⟨by decide +kernel, by decide +kernel, by decide +kernel⟩, ⟨TX12, 74, rfl⟩, by decide⟩
theorem tX12_readClause : zMt mX12_readClause 12 0 := ⟨zT7 172 rfl rfl, zTb_mem 74 rfl rfl, zT1 13 rfl rfl, zT7 173 rfl rfl, ⟨by decide +kernel, by decide +kernel, by decide +kernel⟩, ⟨TX12, 74, rfl⟩, by decide⟩
theorem tX12_readPoints : zMt mX12_readPoints 12 1 := ⟨zT7 180 rfl rfl, zTb_mem 76 rfl rfl, zT1 13 rfl rfl, zT7 181 rfl rfl, ⟨by decide +kernel, by decide +kernel, by decide +kernel⟩, ⟨TX12, 74, rfl⟩, by decide⟩
theorem tX12_rule : zMt mX12_rule 12 1 := ⟨zT7 167 rfl rfl, zT7 168 rfl rfl, zT1 13 rfl rfl, zT7 169 rfl rfl, ⟨by decide +kernel, by decide +kernel, by decide +kernel⟩, ⟨TX12, 74, rfl⟩, by decide⟩
theorem tX12_fault : zMt mX12_fault 12 1 := ⟨zT7 184 rfl rfl, zT7 185 rfl rfl, zT1 13 rfl rfl, zT7 186 rfl rfl, ⟨by decide +kernel, by decide +kernel, by decide +kernel⟩, ⟨TX12, 74, rfl⟩, by decide⟩
theorem tX12_isName : zMt mX12_isName 12 1 := ⟨zT7 205 rfl rfl, zTb_mem 79 rfl rfl, zT1 13 rfl rfl, zT7 206 rfl rfl, ⟨by decide +kernel, by decide +kernel, by decide +kernel⟩, ⟨TX12, 74, rfl⟩, by decide⟩
theorem tX12_isSort : zMt mX12_isSort 12 1 := ⟨zT7 213 rfl rfl, zTb_mem 80 rfl rfl, zT1 13 rfl rfl, zT7 214 rfl rfl, ⟨by decide +kernel, by decide +kernel, by decide +kernel⟩, ⟨TX12, 74, rfl⟩, by decide⟩
theorem tX12_allIn : zMt mX12_allIn 12 0 := ⟨zT7 193 rfl rfl, zTb_mem 77 rfl rfl, zT1 13 rfl rfl, zT7 194 rfl rfl, ⟨by decide +kernel, by decide +kernel, by decide +kernel⟩, ⟨TX12, 74, rfl⟩, by decide⟩
theorem tX12_many : zMt mX12_many 12 1 := ⟨zT7 188 rfl rfl, zT7 189 rfl rfl, zT1 13 rfl rfl, zT7 190 rfl rfl, ⟨by decide +kernel, by decide +kernel, by decide +kernel⟩, ⟨TX12, 74, rfl⟩, by decide⟩
theorem tX12_name : zMt mX12_name 12 2 := ⟨zT7 200 rfl rfl, zT7 201 rfl rfl, zT1 13 rfl rfl, zT7 202 rfl rfl, ⟨by decide +kernel, by decide +kernel, by decide +kernel⟩, ⟨TX12, 74, rfl⟩, by decide⟩
theorem tX12_sort : zMt mX12_sort 12 2 := ⟨zT7 208 rfl rfl, zT7 209 rfl rfl, zT1 13 rfl rfl, zT7 210 rfl rfl, ⟨by decide +kernel, by decide +kernel, by decide +kernel⟩, ⟨TX12, 74, rfl⟩, by decide⟩
theorem tX12_order : zMt mX12_order 12 2 := ⟨zT7 216 rfl rfl, zT7 217 rfl rfl, zT1 13 rfl rfl, zT7 218 rfl rfl, ⟨by decide +kernel, by decide +kernel, by decide +kernel⟩, ⟨TX12, 74, rfl⟩, by decide⟩
theorem tX12_stand : zMt mX12_stand 12 2 := ⟨zT7 220 rfl rfl, zT7 221 rfl rfl, zT1 13 rfl rfl, zT7 222 rfl rfl, ⟨by decide +kernel, by decide +kernel, by decide +kernel⟩, ⟨TX12, 74, rfl⟩, by decide⟩
theorem tX12_voters : zMt mX12_voters 12 3 := ⟨zT7 224 rfl rfl, zT7 225 rfl rfl, zT1 13 rfl rfl, zT7 226 rfl rfl, ⟨by decide +kernel, by decide +kernel, by decide +kernel⟩, ⟨TX12, 74, rfl⟩, by decide⟩
theorem tX12_countAll : zMt mX12_countAll 12 0 := ⟨zT7 237 rfl rfl, zTb_mem 82 rfl rfl, zT1 13 rfl rfl, zT7 238 rfl rfl, ⟨by decide +kernel, by decide +kernel, by decide +kernel⟩, ⟨TX12, 74, rfl⟩, by decide⟩
theorem tX12_setVoters : zMt mX12_setVoters 12 2 := ⟨zT8 1 rfl rfl, zTb_mem 83 rfl rfl, zT1 13 rfl rfl, zT8 2 rfl rfl, ⟨by decide +kernel, by decide +kernel, by decide +kernel⟩, ⟨TX12, 74, rfl⟩, by decide⟩
theorem tX12_sumVoters : zMt mX12_sumVoters 12 0 := ⟨zT8 71 rfl rfl, zTb_mem 95 rfl rfl, zT1 13 rfl rfl, zT8 72 rfl rfl, ⟨by decide +kernel, by decide +kernel, by decide +kernel⟩, ⟨TX12, 74, rfl⟩, by decide⟩
theorem tX12_placeIn : zMt mX12_placeIn 12 3 := ⟨zT8 26 rfl rfl, zTb_mem 89 rfl rfl, zT1 13 rfl rfl, zT8 27 rfl rfl, ⟨by decide +kernel, by decide +kernel, by decide +kernel⟩, ⟨TX12, 74, rfl⟩, by decide⟩
theorem tX12_firstsOf : zMt mX12_firstsOf 12 2 := ⟨zT8 22 rfl rfl, zTb_mem 88 rfl rfl, zT1 13 rfl rfl, zT8 23 rfl rfl, ⟨by decide +kernel, by decide +kernel, by decide +kernel⟩, ⟨TX12, 74, rfl⟩, by decide⟩
theorem tX12_greatest : zMt mX12_greatest 12 1 := ⟨zT8 34 rfl rfl, zTb_mem 91 rfl rfl, zT1 13 rfl rfl, zT8 35 rfl rfl, ⟨by decide +kernel, by decide +kernel, by decide +kernel⟩, ⟨TX12, 74, rfl⟩, by decide⟩
theorem tX12_more : zMt mX12_more 12 2 := ⟨zT8 30 rfl rfl, zTb_mem 90 rfl rfl, zT1 13 rfl rfl, zT8 31 rfl rfl, ⟨by decide +kernel, by decide +kernel, by decide +kernel⟩, ⟨TX12, 74, rfl⟩, by decide⟩
theorem tX12_runDown : zMt mX12_runDown 12 1 := ⟨zT8 17 rfl rfl, zTb_mem 87 rfl rfl, zT1 13 rfl rfl, zT8 18 rfl rfl, ⟨by decide +kernel, by decide +kernel, by decide +kernel⟩, ⟨TX12, 74, rfl⟩, by decide⟩
theorem tX12_sift : zMt mX12_sift 12 2 := ⟨zT8 13 rfl rfl, zTb_mem 86 rfl rfl, zT1 13 rfl rfl, zT8 14 rfl rfl, ⟨by decide +kernel, by decide +kernel, by decide +kernel⟩, ⟨TX12, 74, rfl⟩, by decide⟩
theorem tX12_leftOf : zMt mX12_leftOf 12 2 := ⟨zT8 9 rfl rfl, zTb_mem 85 rfl rfl, zT1 13 rfl rfl, zT8 10 rfl rfl, ⟨by decide +kernel, by decide +kernel, by decide +kernel⟩, ⟨TX12, 74, rfl⟩, by decide⟩
theorem tX12_winner : zMt mX12_winner 12 1 := ⟨zT8 5 rfl rfl, zTb_mem 84 rfl rfl, zT1 13 rfl rfl, zT8 6 rfl rfl, ⟨by decide +kernel, by decide +kernel, by decide +kernel⟩, ⟨TX12, 74, rfl⟩, by decide⟩
theorem tX12_winnerNow : zMt mX12_winnerNow 12 0 := ⟨zT7 233 rfl rfl, zTb_mem 81 rfl rfl, zT1 13 rfl rfl, zT7 234 rfl rfl, ⟨by decide +kernel, by decide +kernel, by decide +kernel⟩, ⟨TX12, 74, rfl⟩, by decide⟩
theorem tX12_wins : zMt mX12_wins 12 0 := ⟨zT7 228 rfl rfl, zT7 229 rfl rfl, zT1 13 rfl rfl, zT7 230 rfl rfl, ⟨by decide +kernel, by decide +kernel, by decide +kernel⟩, ⟨TX12, 74, rfl⟩, by decide⟩
theorem tX12_firsts : zMt mX12_firsts 12 1 := ⟨zT8 38 rfl rfl, zT8 39 rfl rfl, zT1 13 rfl rfl, zT8 40 rfl rfl, ⟨by decide +kernel, by decide +kernel, by decide +kernel⟩, ⟨TX12, 74, rfl⟩, by decide⟩
theorem tX12_beats : zMt mX12_beats 12 2 := ⟨zT8 42 rfl rfl, zT8 43 rfl rfl, zT1 13 rfl rfl, zT8 44 rfl rfl, ⟨by decide +kernel, by decide +kernel, by decide +kernel⟩, ⟨TX12, 74, rfl⟩, by decide⟩
theorem tX12_left : zMt mX12_left 12 1 := ⟨zT8 46 rfl rfl, zT8 47 rfl rfl, zT1 13 rfl rfl, zT8 48 rfl rfl, ⟨by decide +kernel, by decide +kernel, by decide +kernel⟩, ⟨TX12, 74, rfl⟩, by decide⟩
theorem tX12_toldBy : zMt mX12_toldBy 12 2 := ⟨zT8 55 rfl rfl, zTb_mem 92 rfl rfl, zT1 13 rfl rfl, zT8 56 rfl rfl, ⟨by decide +kernel, by decide +kernel, by decide +kernel⟩, ⟨TX12, 74, rfl⟩, by decide⟩
theorem tX12_told : zMt mX12_told 12 2 := ⟨zT8 50 rfl rfl, zT8 51 rfl rfl, zT1 13 rfl rfl, zT8 52 rfl rfl, ⟨by decide +kernel, by decide +kernel, by decide +kernel⟩, ⟨TX12, 74, rfl⟩, by decide⟩
theorem tX12_cost : zMt mX12_cost 12 2 := ⟨zT8 74 rfl rfl, zT8 75 rfl rfl, zT1 13 rfl rfl, zT8 76 rfl rfl, ⟨by decide +kernel, by decide +kernel, by decide +kernel⟩, ⟨TX12, 74, rfl⟩, by decide⟩
theorem tX12_isBetter : zMt mX12_isBetter 12 2 := ⟨zT8 91 rfl rfl, zTb_mem 98 rfl rfl, zT1 13 rfl rfl, zT8 92 rfl rfl, ⟨by decide +kernel, by decide +kernel, by decide +kernel⟩, ⟨TX12, 74, rfl⟩, by decide⟩
theorem tX12_isAim : zMt mX12_isAim 12 1 := ⟨zT8 95 rfl rfl, zTb_mem 99 rfl rfl, zT1 13 rfl rfl, zT8 96 rfl rfl, ⟨by decide +kernel, by decide +kernel, by decide +kernel⟩, ⟨TX12, 74, rfl⟩, by decide⟩
theorem tX12_findNames : zMt mX12_findNames 12 0 := ⟨zT8 87 rfl rfl, zTb_mem 97 rfl rfl, zT1 13 rfl rfl, zT8 88 rfl rfl, ⟨by decide +kernel, by decide +kernel, by decide +kernel⟩, ⟨TX12, 74, rfl⟩, by decide⟩
theorem tX12_movePeople : zMt mX12_movePeople 12 3 := ⟨zT8 111 rfl rfl, zTb_mem 101 rfl rfl, zT1 13 rfl rfl, zT8 112 rfl rfl, ⟨by decide +kernel, by decide +kernel, by decide +kernel⟩, ⟨TX12, 74, rfl⟩, by decide⟩
theorem tX12_findPeople : zMt mX12_findPeople 12 0 := ⟨zT8 107 rfl rfl, zTb_mem 100 rfl rfl, zT1 13 rfl rfl, zT8 108 rfl rfl, ⟨by decide +kernel, by decide +kernel, by decide +kernel⟩, ⟨TX12, 74, rfl⟩, by decide⟩
theorem tX12_aim : zMt mX12_aim 12 5 := ⟨zT8 83 rfl rfl, zTb_mem 96 rfl rfl, zT1 13 rfl rfl, zT8 84 rfl rfl, ⟨by decide +kernel, by decide +kernel, by decide +kernel⟩, ⟨TX12, 74, rfl⟩, by decide⟩
theorem tX12_isPeople : zMs mX12_isPeople 1 := ⟨zT8 102 rfl rfl, zT1 13 rfl rfl, zT8 103 rfl rfl, ⟨by decide +kernel, by decide +kernel, by decide +kernel⟩, by decide⟩
theorem tX12_names : zMt mX12_names 12 4 := ⟨zT8 78 rfl rfl, zT8 79 rfl rfl, zT1 13 rfl rfl, zT8 80 rfl rfl, ⟨by decide +kernel, by decide +kernel, by decide +kernel⟩, ⟨TX12, 74, rfl⟩, by decide⟩
theorem tX12_people : zMt mX12_people 12 5 := ⟨zT8 98 rfl rfl, zT8 99 rfl rfl, zT1 13 rfl rfl, zT8 100 rfl rfl, ⟨by decide +kernel, by decide +kernel, by decide +kernel⟩, ⟨TX12, 74, rfl⟩, by decide⟩
theorem tX12_found : zMt mX12_found 12 1 := ⟨zT8 117 rfl rfl, zT8 118 rfl rfl, zT1 13 rfl rfl, zT8 119 rfl rfl, ⟨by decide +kernel, by decide +kernel, by decide +kernel⟩, ⟨TX12, 74, rfl⟩, by decide⟩
theorem tX12_moved : zMt mX12_moved 12 1 := ⟨zT8 121 rfl rfl, zT8 122 rfl rfl, zT1 13 rfl rfl, zT8 123 rfl rfl, ⟨by decide +kernel, by decide +kernel, by decide +kernel⟩, ⟨TX12, 74, rfl⟩, by decide⟩
theorem tX12_safe : zMt mX12_safe 12 1 := ⟨zT8 125 rfl rfl, zT8 126 rfl rfl, zT1 13 rfl rfl, zT8 127 rfl rfl, ⟨by decide +kernel, by decide +kernel, by decide +kernel⟩, ⟨TX12, 74, rfl⟩, by decide⟩
theorem tX12_winnerIn : zMt mX12_winnerIn 12 1 := ⟨zT8 138 rfl rfl, zTb_mem 103 rfl rfl, zT1 13 rfl rfl, zT8 139 rfl rfl, ⟨by decide +kernel, by decide +kernel, by decide +kernel⟩, ⟨TX12, 74, rfl⟩, by decide⟩
theorem tX12_partedBy : zMt mX12_partedBy 12 1 := ⟨zT8 134 rfl rfl, zTb_mem 102 rfl rfl, zT1 13 rfl rfl, zT8 135 rfl rfl, ⟨by decide +kernel, by decide +kernel, by decide +kernel⟩, ⟨TX12, 74, rfl⟩, by decide⟩
theorem tX12_parted : zMt mX12_parted 12 1 := ⟨zT8 129 rfl rfl, zT8 130 rfl rfl, zT1 13 rfl rfl, zT8 131 rfl rfl, ⟨by decide +kernel, by decide +kernel, by decide +kernel⟩, ⟨TX12, 74, rfl⟩, by decide⟩
theorem tX12_parting : zMt mX12_parting 12 1 := ⟨zT8 141 rfl rfl, zT8 142 rfl rfl, zT1 13 rfl rfl, zT8 143 rfl rfl, ⟨by decide +kernel, by decide +kernel, by decide +kernel⟩, ⟨TX12, 74, rfl⟩, by decide⟩
theorem tX12_cousins : zMt mX12_cousins 12 0 := ⟨zT8 145 rfl rfl, zT8 146 rfl rfl, zT1 13 rfl rfl, zT8 147 rfl rfl, ⟨by decide +kernel, by decide +kernel, by decide +kernel⟩, ⟨TX12, 74, rfl⟩, by decide⟩
theorem tX12_alike : zMt mX12_alike 12 2 := ⟨zT8 149 rfl rfl, zT8 150 rfl rfl, zT1 13 rfl rfl, zT8 151 rfl rfl, ⟨by decide +kernel, by decide +kernel, by decide +kernel⟩, ⟨TX12, 74, rfl⟩, by decide⟩
theorem tX12_sure : zMt mX12_sure 12 2 := ⟨zT8 158 rfl rfl, zTb_mem 104 rfl rfl, zT1 13 rfl rfl, zT8 159 rfl rfl, ⟨by decide +kernel, by decide +kernel, by decide +kernel⟩, ⟨TX12, 74, rfl⟩, by decide⟩
theorem tX12_game : zMt mX12_game 12 4 := ⟨zT8 153 rfl rfl, zT8 154 rfl rfl, zT1 13 rfl rfl, zT8 155 rfl rfl, ⟨by decide +kernel, by decide +kernel, by decide +kernel⟩, ⟨TX12, 74, rfl⟩, by decide⟩
theorem tX12_opening : zMt mX12_opening 12 0 := ⟨zT8 161 rfl rfl, zT8 162 rfl rfl, zT1 13 rfl rfl, zT8 163 rfl rfl, ⟨by decide +kernel, by decide +kernel, by decide +kernel⟩, ⟨TX12, 74, rfl⟩, by decide⟩
theorem tX12_ways : zMs mX12_ways 2 := ⟨zT8 174 rfl rfl, zT1 13 rfl rfl, zT8 175 rfl rfl, ⟨by decide +kernel, by decide +kernel, by decide +kernel⟩, by decide⟩
theorem tX12_power : zMs mX12_power 2 := ⟨zT8 177 rfl rfl, zT1 13 rfl rfl, zT8 178 rfl rfl, ⟨by decide +kernel, by decide +kernel, by decide +kernel⟩, by decide⟩
theorem tX12_doubtFrom : zMt mX12_doubtFrom 12 3 := ⟨zT8 171 rfl rfl, zTb_mem 105 rfl rfl, zT1 13 rfl rfl, zT8 172 rfl rfl, ⟨by decide +kernel, by decide +kernel, by decide +kernel⟩, ⟨TX12, 74, rfl⟩, by decide⟩
theorem tX12_doubt : zMt mX12_doubt 12 2 := ⟨zT8 165 rfl rfl, zT8 166 rfl rfl, zT1 13 rfl rfl, zT8 167 rfl rfl, ⟨by decide +kernel, by decide +kernel, by decide +kernel⟩, ⟨TX12, 74, rfl⟩, by decide⟩
theorem tX12_seldomFrom : zMt mX12_seldomFrom 12 4 := ⟨zT8 193 rfl rfl, zTb_mem 107 rfl rfl, zT1 13 rfl rfl, zT8 194 rfl rfl, ⟨by decide +kernel, by decide +kernel, by decide +kernel⟩, ⟨TX12, 74, rfl⟩, by decide⟩
theorem tX12_seldom : zMt mX12_seldom 12 2 := ⟨zT8 187 rfl rfl, zT8 188 rfl rfl, zT1 13 rfl rfl, zT8 189 rfl rfl, ⟨by decide +kernel, by decide +kernel, by decide +kernel⟩, ⟨TX12, 74, rfl⟩, by decide⟩
theorem tX12_stepWord : zMt mX12_stepWord 12 0 := ⟨zT8 206 rfl rfl, zTb_mem 109 rfl rfl, zT1 13 rfl rfl, zT8 207 rfl rfl, ⟨by decide +kernel, by decide +kernel, by decide +kernel⟩, ⟨TX12, 74, rfl⟩, by decide⟩
theorem tX12_isNot : zMt mX12_isNot 12 0 := ⟨zT8 214 rfl rfl, zTb_mem 111 rfl rfl, zT1 13 rfl rfl, zT8 215 rfl rfl, ⟨by decide +kernel, by decide +kernel, by decide +kernel⟩, ⟨TX12, 74, rfl⟩, by decide⟩
theorem tX12_isEnd : zMt mX12_isEnd 12 0 := ⟨zT8 222 rfl rfl, zTb_mem 113 rfl rfl, zT1 13 rfl rfl, zT8 223 rfl rfl, ⟨by decide +kernel, by decide +kernel, by decide +kernel⟩, ⟨TX12, 74, rfl⟩, by decide⟩
theorem tX12_isActName : zMt mX12_isActName 12 0 := ⟨zT8 218 rfl rfl, zTb_mem 112 rfl rfl, zT1 13 rfl rfl, zT8 219 rfl rfl, ⟨by decide +kernel, by decide +kernel, by decide +kernel⟩, ⟨TX12, 74, rfl⟩, by decide⟩
theorem tX12_readWho : zMt mX12_readWho 12 2 := ⟨zT8 210 rfl rfl, zTb_mem 110 rfl rfl, zT1 13 rfl rfl, zT8 211 rfl rfl, ⟨by decide +kernel, by decide +kernel, by decide +kernel⟩, ⟨TX12, 74, rfl⟩, by decide⟩
theorem tX12_readStep : zMt mX12_readStep 12 1 := ⟨zT8 202 rfl rfl, zTb_mem 108 rfl rfl, zT1 13 rfl rfl, zT8 203 rfl rfl, ⟨by decide +kernel, by decide +kernel, by decide +kernel⟩, ⟨TX12, 74, rfl⟩, by decide⟩
theorem tX12_acts : zMt mX12_acts 12 1 := ⟨zT8 197 rfl rfl, zT8 198 rfl rfl, zT1 13 rfl rfl, zT8 199 rfl rfl, ⟨by decide +kernel, by decide +kernel, by decide +kernel⟩, ⟨TX12, 74, rfl⟩, by decide⟩
theorem tX12_named : zMt mX12_named 12 1 := ⟨zT9 2 rfl rfl, zTb_mem 117 rfl rfl, zT1 13 rfl rfl, zT9 3 rfl rfl, ⟨by decide +kernel, by decide +kernel, by decide +kernel⟩, ⟨TX12, 74, rfl⟩, by decide⟩
theorem tX12_isSo : zMt mX12_isSo 12 1 := ⟨zT9 14 rfl rfl, zTb_mem 120 rfl rfl, zT1 13 rfl rfl, zT9 15 rfl rfl, ⟨by decide +kernel, by decide +kernel, by decide +kernel⟩, ⟨TX12, 74, rfl⟩, by decide⟩
theorem tX12_pays : zMt mX12_pays 12 1 := ⟨zT9 6 rfl rfl, zTb_mem 118 rfl rfl, zT1 13 rfl rfl, zT9 7 rfl rfl, ⟨by decide +kernel, by decide +kernel, by decide +kernel⟩, ⟨TX12, 74, rfl⟩, by decide⟩
theorem tX12_changeName : zMt mX12_changeName 12 1 := ⟨zT8 238 rfl rfl, zTb_mem 116 rfl rfl, zT1 13 rfl rfl, zT8 239 rfl rfl, ⟨by decide +kernel, by decide +kernel, by decide +kernel⟩, ⟨TX12, 74, rfl⟩, by decide⟩
theorem tX12_changeVoters : zMt mX12_changeVoters 12 1 := ⟨zT9 10 rfl rfl, zTb_mem 119 rfl rfl, zT1 13 rfl rfl, zT9 11 rfl rfl, ⟨by decide +kernel, by decide +kernel, by decide +kernel⟩, ⟨TX12, 74, rfl⟩, by decide⟩
theorem tX12_doAll : zMt mX12_doAll 12 2 := ⟨zT8 230 rfl rfl, zTb_mem 114 rfl rfl, zT1 13 rfl rfl, zT8 231 rfl rfl, ⟨by decide +kernel, by decide +kernel, by decide +kernel⟩, ⟨TX12, 74, rfl⟩, by decide⟩
theorem tX12_doOne : zMt mX12_doOne 12 1 := ⟨zT8 234 rfl rfl, zTb_mem 115 rfl rfl, zT1 13 rfl rfl, zT8 235 rfl rfl, ⟨by decide +kernel, by decide +kernel, by decide +kernel⟩, ⟨TX12, 74, rfl⟩, by decide⟩
theorem tX12_act : zMt mX12_act 12 0 := ⟨zT8 225 rfl rfl, zT8 226 rfl rfl, zT1 13 rfl rfl, zT8 227 rfl rfl, ⟨by decide +kernel, by decide +kernel, by decide +kernel⟩, ⟨TX12, 74, rfl⟩, by decide⟩
theorem tX12_acted : zMt mX12_acted 12 1 := ⟨zT9 17 rfl rfl, zT9 18 rfl rfl, zT1 13 rfl rfl, zT9 19 rfl rfl, ⟨by decide +kernel, by decide +kernel, by decide +kernel⟩, ⟨TX12, 74, rfl⟩, by decide⟩
theorem tX12_copy : zMt mX12_copy 12 2 := ⟨zT9 26 rfl rfl, zTb_mem 121 rfl rfl, zT1 13 rfl rfl, zT9 27 rfl rfl, ⟨by decide +kernel, by decide +kernel, by decide +kernel⟩, ⟨TX12, 74, rfl⟩, by decide⟩
theorem tX12_mark : zMt mX12_mark 12 0 := ⟨zT9 21 rfl rfl, zT9 22 rfl rfl, zT1 13 rfl rfl, zT9 23 rfl rfl, ⟨by decide +kernel, by decide +kernel, by decide +kernel⟩, ⟨TX12, 74, rfl⟩, by decide⟩
theorem tX12_back : zMt mX12_back 12 0 := ⟨zT9 29 rfl rfl, zT9 30 rfl rfl, zT1 13 rfl rfl, zT9 31 rfl rfl, ⟨by decide +kernel, by decide +kernel, by decide +kernel⟩, ⟨TX12, 74, rfl⟩, by decide⟩
theorem tJ6_bitCount_0f7a4 : zMs mJ6_bitCount_0f7a4 1 := ⟨zT4 126 rfl rfl, zT1 20 rfl rfl, zT4 127 rfl rfl, ⟨by decide +kernel, by decide +kernel, by decide +kernel⟩, by decide⟩
theorem tJ9_abs_0f7a4 : zMs mJ9_abs_0f7a4 1 := ⟨zT8 114 rfl rfl, zT1 21 rfl rfl, zT8 115 rfl rfl, ⟨by decide +kernel, by decide +kernel, by decide +kernel⟩, by decide⟩
theorem tJ9_abs_067f4 : zMs mJ9_abs_067f4 1 := ⟨zT8 184 rfl rfl, zT1 21 rfl rfl, zT8 185 rfl rfl, ⟨by decide +kernel, by decide +kernel, by decide +kernel⟩, by decide⟩
theorem tJ9_max_7cf53 : zMs mJ9_max_7cf53 2 := ⟨zT4 139 rfl rfl, zT1 21 rfl rfl, zT4 140 rfl rfl, ⟨by decide +kernel, by decide +kernel, by decide +kernel⟩, by decide⟩
theorem tJ9_min_7cf53 : zMs mJ9_min_7cf53 2 := ⟨zT5 44 rfl rfl, zT1 21 rfl rfl, zT5 45 rfl rfl, ⟨by decide +kernel, by decide +kernel, by decide +kernel⟩, by decide⟩
-- String method J0_length_8abf5: instance 746, selects 747, code 748
-- String method J0_charAt_5068e: instance 756, selects 757, code 758
-- String method J0_coder_7d493: instance 750, selects 751, code 752
-- String method J0_isLatin1_aae02: instance 760, selects 761, code 762
theorem tJ0_checkIndex_df160 : zMs mJ0_checkIndex_df160 2 := ⟨zT3 165 rfl rfl, zT1 16 rfl rfl, zT3 166 rfl rfl, ⟨by decide +kernel, by decide +kernel, by decide +kernel⟩, by decide⟩
theorem tJ1_charAt_3b067 : zMs mJ1_charAt_3b067 2 := ⟨zT3 162 rfl rfl, zT1 17 rfl rfl, zT3 163 rfl rfl, ⟨by decide +kernel, by decide +kernel, by decide +kernel⟩, by decide⟩
theorem tJ2_getChar_3b067 : zMs mJ2_getChar_3b067 2 := ⟨zT3 183 rfl rfl, zT1 19 rfl rfl, zT3 184 rfl rfl, ⟨by decide +kernel, by decide +kernel, by decide +kernel⟩, by decide⟩
theorem tJ2_length_9d52b : zMs mJ2_length_9d52b 1 := ⟨zT3 179 rfl rfl, zT1 19 rfl rfl, zT3 180 rfl rfl, ⟨by decide +kernel, by decide +kernel, by decide +kernel⟩, by decide⟩
theorem tJ2_charAt_3b067 : zMs mJ2_charAt_3b067 2 := ⟨zT3 173 rfl rfl, zT1 19 rfl rfl, zT3 174 rfl rfl, ⟨by decide +kernel, by decide +kernel, by decide +kernel⟩, by decide⟩
theorem tJ2_checkIndex_2214a : zMs mJ2_checkIndex_2214a 2 := ⟨zT3 176 rfl rfl, zT1 19 rfl rfl, zT3 177 rfl rfl, ⟨by decide +kernel, by decide +kernel, by decide +kernel⟩, by decide⟩
theorem tJ7_fill_d0a16 : zMs mJ7_fill_d0a16 2 := ⟨zT3 51 rfl rfl, zT1 14 rfl rfl, zT3 52 rfl rfl, ⟨by decide +kernel, by decide +kernel, by decide +kernel⟩, by decide⟩
theorem tJ7_fill_53178 : zMs mJ7_fill_53178 2 := ⟨zT4 136 rfl rfl, zT1 14 rfl rfl, zT4 137 rfl rfl, ⟨by decide +kernel, by decide +kernel, by decide +kernel⟩, by decide⟩
theorem tJ3_checkIndex_8e157 : zMs mJ3_checkIndex_8e157 3 := ⟨zT3 170 rfl rfl, zT1 18 rfl rfl, zT3 171 rfl rfl, ⟨by decide +kernel, by decide +kernel, by decide +kernel⟩, by decide⟩
theorem zs0 : zSH[0]? = some (11, 18) := rfl
theorem zs1 : zSH[1]? = some (24, 4) := rfl
theorem zs2 : zSH[2]? = some (9, 10) := rfl
theorem zs3 : zSH[3]? = some (22, 700) := rfl
theorem zs4 : zSH[4]? = some (5, 13) := rfl
theorem zs5 : zSH[5]? = some (21, 8) := rfl
theorem zs6 : zSH[6]? = some (20, 8) := rfl
theorem zs7 : zSH[7]? = some (20, 8) := rfl
theorem zs8 : zSH[8]? = some (20, 8) := rfl
theorem zs9 : zSH[9]? = some (20, 20) := rfl
theorem zs10 : zSH[10]? = some (20, 20) := rfl
theorem zs11 : zSH[11]? = some (20, 20) := rfl
theorem zs12 : zSH[12]? = some (20, 160) := rfl
theorem zs13 : zSH[13]? = some (20, 160) := rfl
theorem zs14 : zSH[14]? = some (5, 13) := rfl
theorem zs15 : zSH[15]? = some (21, 8) := rfl
theorem zs16 : zSH[16]? = some (20, 8) := rfl
theorem zs17 : zSH[17]? = some (20, 8) := rfl
theorem zs18 : zSH[18]? = some (20, 8) := rfl
theorem zs19 : zSH[19]? = some (20, 20) := rfl
theorem zs20 : zSH[20]? = some (20, 20) := rfl
theorem zs21 : zSH[21]? = some (20, 20) := rfl
theorem zs22 : zSH[22]? = some (20, 160) := rfl
theorem zs23 : zSH[23]? = some (20, 160) := rfl
theorem zs24 : zSH[24]? = some (7, 4) := rfl
theorem zs25 : zSH[25]? = some (20, 4) := rfl
theorem zs26 : zSH[26]? = some (20, 4) := rfl
theorem zs27 : zSH[27]? = some (20, 32) := rfl
theorem zs28 : zSH[28]? = some (7, 4) := rfl
theorem zs29 : zSH[29]? = some (20, 4) := rfl
theorem zs30 : zSH[30]? = some (20, 4) := rfl
theorem zs31 : zSH[31]? = some (20, 32) := rfl
theorem zs32 : zSH[32]? = some (0, 11) := rfl
theorem zs33 : zSH[33]? = some (20, 80) := rfl
theorem zs34 : zSH[34]? = some (20, 80) := rfl
theorem zs35 : zSH[35]? = some (20, 80) := rfl
theorem zs36 : zSH[36]? = some (21, 80) := rfl
theorem zs37 : zSH[37]? = some (23, 80) := rfl
theorem zs38 : zSH[38]? = some (20, 80) := rfl
theorem zs39 : zSH[39]? = some (20, 3) := rfl
theorem zs40 : zSH[40]? = some (0, 11) := rfl
theorem zs41 : zSH[41]? = some (20, 80) := rfl
theorem zs42 : zSH[42]? = some (20, 80) := rfl
theorem zs43 : zSH[43]? = some (20, 80) := rfl
theorem zs44 : zSH[44]? = some (21, 80) := rfl
theorem zs45 : zSH[45]? = some (23, 80) := rfl
theorem zs46 : zSH[46]? = some (20, 80) := rfl
theorem zs47 : zSH[47]? = some (20, 3) := rfl
theorem zs48 : zSH[48]? = some (25, 3) := rfl
theorem zs49 : zSH[49]? = some (26, 3) := rfl
theorem zs50 : zSH[50]? = some (2, 5) := rfl
theorem zs51 : zSH[51]? = some (20, 8) := rfl
theorem zs52 : zSH[52]? = some (20, 20) := rfl
theorem zs53 : zSH[53]? = some (20, 20) := rfl
theorem zs54 : zSH[54]? = some (8, 12) := rfl
theorem zs55 : zSH[55]? = some (20, 12) := rfl
theorem zs56 : zSH[56]? = some (20, 20) := rfl
theorem zs57 : zSH[57]? = some (20, 12) := rfl
theorem zs58 : zSH[58]? = some (4, 5) := rfl
theorem zs59 : zSH[59]? = some (20, 12) := rfl
theorem zs60 : zSH[60]? = some (6, 6) := rfl
theorem zs61 : zSH[61]? = some (23, 256) := rfl
theorem zs62 : zSH[62]? = some (23, 256) := rfl
theorem zs63 : zSH[63]? = some (1, 7) := rfl
theorem zs64 : zSH[64]? = some (20, 20) := rfl
theorem zs65 : zSH[65]? = some (3, 9) := rfl
theorem zs66 : zSH[66]? = some (20, 80) := rfl
theorem zs67 : zSH[67]? = some (10, 4) := rfl
theorem zs68 : zSH[68]? = some (21, 60) := rfl
theorem zs69 : zSH[69]? = some (10, 4) := rfl
theorem zs70 : zSH[70]? = some (21, 60) := rfl
theorem zs71 : zSH[71]? = some (10, 4) := rfl
theorem zs72 : zSH[72]? = some (21, 60) := rfl
theorem zs73 : zSH[73]? = some (10, 4) := rfl
theorem zs74 : zSH[74]? = some (21, 60) := rfl
theorem zs75 : zSH[75]? = some (5, 13) := rfl
theorem zs76 : zSH[76]? = some (21, 8) := rfl
theorem zs77 : zSH[77]? = some (20, 8) := rfl
theorem zs78 : zSH[78]? = some (20, 8) := rfl
theorem zs79 : zSH[79]? = some (20, 8) := rfl
theorem zs80 : zSH[80]? = some (20, 20) := rfl
theorem zs81 : zSH[81]? = some (20, 20) := rfl
theorem zs82 : zSH[82]? = some (20, 20) := rfl
theorem zs83 : zSH[83]? = some (20, 160) := rfl
theorem zs84 : zSH[84]? = some (20, 160) := rfl
theorem zs85 : zSH[85]? = some (7, 4) := rfl
theorem zs86 : zSH[86]? = some (20, 4) := rfl
theorem zs87 : zSH[87]? = some (20, 4) := rfl
theorem zs88 : zSH[88]? = some (20, 32) := rfl
theorem zs89 : zSH[89]? = some (5, 13) := rfl
theorem zs90 : zSH[90]? = some (21, 8) := rfl
theorem zs91 : zSH[91]? = some (20, 8) := rfl
theorem zs92 : zSH[92]? = some (20, 8) := rfl
theorem zs93 : zSH[93]? = some (20, 8) := rfl
theorem zs94 : zSH[94]? = some (20, 20) := rfl
theorem zs95 : zSH[95]? = some (20, 20) := rfl
theorem zs96 : zSH[96]? = some (20, 20) := rfl
theorem zs97 : zSH[97]? = some (20, 160) := rfl
theorem zs98 : zSH[98]? = some (20, 160) := rfl
theorem zs99 : zSH[99]? = some (7, 4) := rfl
theorem zs100 : zSH[100]? = some (20, 4) := rfl
theorem zs101 : zSH[101]? = some (20, 4) := rfl
theorem zs102 : zSH[102]? = some (20, 32) := rfl
theorem zs103 : zSH[103]? = some (5, 13) := rfl
theorem zs104 : zSH[104]? = some (21, 8) := rfl
theorem zs105 : zSH[105]? = some (20, 8) := rfl
theorem zs106 : zSH[106]? = some (20, 8) := rfl
theorem zs107 : zSH[107]? = some (20, 8) := rfl
theorem zs108 : zSH[108]? = some (20, 20) := rfl
theorem zs109 : zSH[109]? = some (20, 20) := rfl
theorem zs110 : zSH[110]? = some (20, 20) := rfl
theorem zs111 : zSH[111]? = some (20, 160) := rfl
theorem zs112 : zSH[112]? = some (20, 160) := rfl
theorem zs113 : zSH[113]? = some (7, 4) := rfl
theorem zs114 : zSH[114]? = some (20, 4) := rfl
theorem zs115 : zSH[115]? = some (20, 4) := rfl
theorem zs116 : zSH[116]? = some (20, 32) := rfl
theorem zs117 : zSH[117]? = some (12, 74) := rfl
theorem zs118 : zSH[118]? = some (20, 4) := rfl
theorem zs119 : zSH[119]? = some (20, 4) := rfl
theorem zs120 : zSH[120]? = some (21, 240) := rfl
theorem zs121 : zSH[121]? = some (22, 700) := rfl
theorem zs122 : zSH[122]? = some (20, 1500) := rfl
theorem zs123 : zSH[123]? = some (21, 40) := rfl
theorem zs124 : zSH[124]? = some (20, 20) := rfl
theorem zs125 : zSH[125]? = some (20, 8) := rfl
theorem zs126 : zSH[126]? = some (20, 40) := rfl
theorem zs127 : zSH[127]? = some (20, 40) := rfl
theorem zs128 : zSH[128]? = some (20, 40) := rfl
theorem zs129 : zSH[129]? = some (20, 40) := rfl
theorem zs130 : zSH[130]? = some (20, 40) := rfl
theorem zs131 : zSH[131]? = some (20, 40) := rfl
theorem zs132 : zSH[132]? = some (20, 40) := rfl
theorem zs133 : zSH[133]? = some (20, 40) := rfl
theorem zs134 : zSH[134]? = some (21, 40) := rfl
theorem zs135 : zSH[135]? = some (21, 40) := rfl
theorem zs136 : zSH[136]? = some (20, 20) := rfl
theorem zs137 : zSH[137]? = some (20, 20) := rfl
theorem zs138 : zSH[138]? = some (20, 20) := rfl
theorem zs139 : zSH[139]? = some (20, 1792) := rfl
theorem zs140 : zSH[140]? = some (21, 20) := rfl
theorem zs141 : zSH[141]? = some (20, 20) := rfl
