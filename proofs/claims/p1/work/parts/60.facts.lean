section
variable {σ : am_St}
theorem F_o_0 (hF : kk_F σ) : g_o σ 0 11 := kk_o hF rfl rfl
theorem F_R_0_0 (hF : kk_F σ) : g_R σ 0 0 = some 126 := kk_fR (c := 11) hF rfl rfl rfl rfl
theorem F_R_0_1 (hF : kk_F σ) : g_R σ 0 1 = some 17 := kk_fR (c := 11) hF rfl rfl rfl rfl
theorem F_R_0_2 (hF : kk_F σ) : g_R σ 0 2 = some 133 := kk_fR (c := 11) hF rfl rfl rfl rfl
theorem F_R_0_3 (hF : kk_F σ) : g_R σ 0 3 = some 144 := kk_fR (c := 11) hF rfl rfl rfl rfl
theorem F_R_0_4 (hF : kk_F σ) : g_R σ 0 4 = some 155 := kk_fR (c := 11) hF rfl rfl rfl rfl
theorem F_R_0_5 (hF : kk_F σ) : g_R σ 0 5 = some 102 := kk_fR (c := 11) hF rfl rfl rfl rfl
theorem F_R_0_6 (hF : kk_F σ) : g_R σ 0 6 = some 114 := kk_fR (c := 11) hF rfl rfl rfl rfl
theorem F_R_0_7 (hF : kk_F σ) : g_R σ 0 7 = some 1 := kk_fR (c := 11) hF rfl rfl rfl rfl
theorem F_R_0_8 (hF : kk_F σ) : g_R σ 0 8 = some 9 := kk_fR (c := 11) hF rfl rfl rfl rfl
theorem F_I_0_9 (hF : kk_F σ) : g_I σ 0 9 = 0 := kk_fI (c := 11) hF rfl rfl rfl rfl
theorem F_I_0_10 (hF : kk_F σ) : g_I σ 0 10 = 0 := kk_fI (c := 11) hF rfl rfl rfl rfl
theorem F_R_0_11 (hF : kk_F σ) : g_R σ 0 11 = some 160 := kk_fR (c := 11) hF rfl rfl rfl rfl
theorem F_o_9 (hF : kk_F σ) : g_o σ 9 7 := kk_o hF rfl rfl
theorem F_I_9_0 (hF : kk_F σ) : g_I σ 9 0 = 0 := kk_fI (c := 7) hF rfl rfl rfl rfl
theorem F_R_9_1 (hF : kk_F σ) : g_R σ 9 1 = some 15 := kk_fR (c := 7) hF rfl rfl rfl rfl
theorem F_R_9_2 (hF : kk_F σ) : g_R σ 9 2 = some 10 := kk_fR (c := 7) hF rfl rfl rfl rfl
theorem F_R_9_3 (hF : kk_F σ) : g_R σ 9 3 = some 11 := kk_fR (c := 7) hF rfl rfl rfl rfl
theorem F_R_9_4 (hF : kk_F σ) : g_R σ 9 4 = some 12 := kk_fR (c := 7) hF rfl rfl rfl rfl
theorem F_R_9_5 (hF : kk_F σ) : g_R σ 9 5 = some 13 := kk_fR (c := 7) hF rfl rfl rfl rfl
theorem F_R_9_6 (hF : kk_F σ) : g_R σ 9 6 = some 14 := kk_fR (c := 7) hF rfl rfl rfl rfl
theorem F_I_9_7 (hF : kk_F σ) : g_I σ 9 7 = -1 := kk_fI (c := 7) hF rfl rfl rfl rfl
theorem F_R_9_8 (hF : kk_F σ) : g_R σ 9 8 = none := kk_fR (c := 7) hF rfl rfl rfl rfl
theorem F_o_15 (hF : kk_F σ) : g_o σ 15 4 := kk_o hF rfl rfl
theorem F_R_15_0 (hF : kk_F σ) : g_R σ 15 0 = some 16 := kk_fR (c := 4) hF rfl rfl rfl rfl
theorem F_I_15_1 (hF : kk_F σ) : g_I σ 15 1 = 0 := kk_fI (c := 4) hF rfl rfl rfl rfl
theorem F_I_15_2 (hF : kk_F σ) : g_I σ 15 2 = 0 := kk_fI (c := 4) hF rfl rfl rfl rfl
theorem F_o_17 (hF : kk_F σ) : g_o σ 17 5 := kk_o hF rfl rfl
theorem F_I_17_0 (hF : kk_F σ) : g_I σ 17 0 = 0 := kk_fI (c := 5) hF rfl rfl rfl rfl
theorem F_R_17_1 (hF : kk_F σ) : g_R σ 17 1 = some 18 := kk_fR (c := 5) hF rfl rfl rfl rfl
theorem F_R_17_2 (hF : kk_F σ) : g_R σ 17 2 = some 19 := kk_fR (c := 5) hF rfl rfl rfl rfl
theorem F_R_17_3 (hF : kk_F σ) : g_R σ 17 3 = some 20 := kk_fR (c := 5) hF rfl rfl rfl rfl
theorem F_R_17_4 (hF : kk_F σ) : g_R σ 17 4 = some 21 := kk_fR (c := 5) hF rfl rfl rfl rfl
theorem F_o_102 (hF : kk_F σ) : g_o σ 102 2 := kk_o hF rfl rfl
theorem F_R_102_0 (hF : kk_F σ) : g_R σ 102 0 = some 103 := kk_fR (c := 2) hF rfl rfl rfl rfl
theorem F_R_102_1 (hF : kk_F σ) : g_R σ 102 1 = some 111 := kk_fR (c := 2) hF rfl rfl rfl rfl
theorem F_R_102_2 (hF : kk_F σ) : g_R σ 102 2 = some 112 := kk_fR (c := 2) hF rfl rfl rfl rfl
theorem F_I_102_3 (hF : kk_F σ) : g_I σ 102 3 = -1 := kk_fI (c := 2) hF rfl rfl rfl rfl
theorem F_I_102_4 (hF : kk_F σ) : g_I σ 102 4 = 0 := kk_fI (c := 2) hF rfl rfl rfl rfl
theorem F_I_102_5 (hF : kk_F σ) : g_I σ 102 5 = 0 := kk_fI (c := 2) hF rfl rfl rfl rfl
theorem F_I_102_6 (hF : kk_F σ) : g_I σ 102 6 = -1 := kk_fI (c := 2) hF rfl rfl rfl rfl
theorem F_I_102_7 (hF : kk_F σ) : g_I σ 102 7 = 0 := kk_fI (c := 2) hF rfl rfl rfl rfl
theorem F_I_102_8 (hF : kk_F σ) : g_I σ 102 8 = 0 := kk_fI (c := 2) hF rfl rfl rfl rfl
theorem F_o_103 (hF : kk_F σ) : g_o σ 103 0 := kk_o hF rfl rfl
theorem F_R_103_0 (hF : kk_F σ) : g_R σ 103 0 = some 104 := kk_fR (c := 0) hF rfl rfl rfl rfl
theorem F_R_103_1 (hF : kk_F σ) : g_R σ 103 1 = some 105 := kk_fR (c := 0) hF rfl rfl rfl rfl
theorem F_R_103_2 (hF : kk_F σ) : g_R σ 103 2 = some 106 := kk_fR (c := 0) hF rfl rfl rfl rfl
theorem F_R_103_3 (hF : kk_F σ) : g_R σ 103 3 = some 107 := kk_fR (c := 0) hF rfl rfl rfl rfl
theorem F_I_103_4 (hF : kk_F σ) : g_I σ 103 4 = 0 := kk_fI (c := 0) hF rfl rfl rfl rfl
theorem F_I_103_5 (hF : kk_F σ) : g_I σ 103 5 = 0 := kk_fI (c := 0) hF rfl rfl rfl rfl
theorem F_I_103_6 (hF : kk_F σ) : g_I σ 103 6 = 0 := kk_fI (c := 0) hF rfl rfl rfl rfl
theorem F_I_103_7 (hF : kk_F σ) : g_I σ 103 7 = 0 := kk_fI (c := 0) hF rfl rfl rfl rfl
theorem F_R_103_8 (hF : kk_F σ) : g_R σ 103 8 = some 109 := kk_fR (c := 0) hF rfl rfl rfl rfl
theorem F_R_103_9 (hF : kk_F σ) : g_R σ 103 9 = some 110 := kk_fR (c := 0) hF rfl rfl rfl rfl
theorem F_o_107 (hF : kk_F σ) : g_o σ 107 4 := kk_o hF rfl rfl
theorem F_R_107_0 (hF : kk_F σ) : g_R σ 107 0 = some 108 := kk_fR (c := 4) hF rfl rfl rfl rfl
theorem F_I_107_1 (hF : kk_F σ) : g_I σ 107 1 = 0 := kk_fI (c := 4) hF rfl rfl rfl rfl
theorem F_I_107_2 (hF : kk_F σ) : g_I σ 107 2 = 0 := kk_fI (c := 4) hF rfl rfl rfl rfl
theorem F_o_112 (hF : kk_F σ) : g_o σ 112 4 := kk_o hF rfl rfl
theorem F_R_112_0 (hF : kk_F σ) : g_R σ 112 0 = some 113 := kk_fR (c := 4) hF rfl rfl rfl rfl
theorem F_I_112_1 (hF : kk_F σ) : g_I σ 112 1 = 0 := kk_fI (c := 4) hF rfl rfl rfl rfl
theorem F_I_112_2 (hF : kk_F σ) : g_I σ 112 2 = 0 := kk_fI (c := 4) hF rfl rfl rfl rfl
theorem F_o_126 (hF : kk_F σ) : g_o σ 126 3 := kk_o hF rfl rfl
theorem F_I_126_0 (hF : kk_F σ) : g_I σ 126 0 = 0 := kk_fI (c := 3) hF rfl rfl rfl rfl
theorem F_R_126_1 (hF : kk_F σ) : g_R σ 126 1 = some 129 := kk_fR (c := 3) hF rfl rfl rfl rfl
theorem F_R_126_2 (hF : kk_F σ) : g_R σ 126 2 = some 131 := kk_fR (c := 3) hF rfl rfl rfl rfl
theorem F_R_126_3 (hF : kk_F σ) : g_R σ 126 3 = some 127 := kk_fR (c := 3) hF rfl rfl rfl rfl
theorem F_R_126_4 (hF : kk_F σ) : g_R σ 126 4 = some 128 := kk_fR (c := 3) hF rfl rfl rfl rfl
theorem F_I_126_5 (hF : kk_F σ) : g_I σ 126 5 = 0 := kk_fI (c := 3) hF rfl rfl rfl rfl
theorem F_I_126_6 (hF : kk_F σ) : g_I σ 126 6 = -1 := kk_fI (c := 3) hF rfl rfl rfl rfl
theorem F_I_126_7 (hF : kk_F σ) : g_I σ 126 7 = 0 := kk_fI (c := 3) hF rfl rfl rfl rfl
theorem F_R_126_8 (hF : kk_F σ) : g_R σ 126 8 = some 9 := kk_fR (c := 3) hF rfl rfl rfl rfl
theorem F_R_126_9 (hF : kk_F σ) : g_R σ 126 9 = some 129 := kk_fR (c := 3) hF rfl rfl rfl rfl
theorem F_o_129 (hF : kk_F σ) : g_o σ 129 4 := kk_o hF rfl rfl
theorem F_R_129_0 (hF : kk_F σ) : g_R σ 129 0 = some 130 := kk_fR (c := 4) hF rfl rfl rfl rfl
theorem F_I_129_1 (hF : kk_F σ) : g_I σ 129 1 = 0 := kk_fI (c := 4) hF rfl rfl rfl rfl
theorem F_I_129_2 (hF : kk_F σ) : g_I σ 129 2 = 0 := kk_fI (c := 4) hF rfl rfl rfl rfl
theorem F_o_131 (hF : kk_F σ) : g_o σ 131 4 := kk_o hF rfl rfl
theorem F_R_131_0 (hF : kk_F σ) : g_R σ 131 0 = some 132 := kk_fR (c := 4) hF rfl rfl rfl rfl
theorem F_I_131_1 (hF : kk_F σ) : g_I σ 131 1 = 0 := kk_fI (c := 4) hF rfl rfl rfl rfl
theorem F_I_131_2 (hF : kk_F σ) : g_I σ 131 2 = 0 := kk_fI (c := 4) hF rfl rfl rfl rfl
theorem F_o_161 (hF : kk_F σ) : g_o σ 161 12 := kk_o hF rfl rfl
theorem F_I_161_0 (hF : kk_F σ) : g_I σ 161 0 = 0 := kk_fI (c := 12) hF rfl rfl rfl rfl
theorem F_R_161_1 (hF : kk_F σ) : g_R σ 161 1 = some 162 := kk_fR (c := 12) hF rfl rfl rfl rfl
theorem F_I_161_2 (hF : kk_F σ) : g_I σ 161 2 = 0 := kk_fI (c := 12) hF rfl rfl rfl rfl
theorem F_I_161_3 (hF : kk_F σ) : g_I σ 161 3 = 0 := kk_fI (c := 12) hF rfl rfl rfl rfl
theorem F_I_161_4 (hF : kk_F σ) : g_I σ 161 4 = 0 := kk_fI (c := 12) hF rfl rfl rfl rfl
theorem F_R_161_5 (hF : kk_F σ) : g_R σ 161 5 = some 163 := kk_fR (c := 12) hF rfl rfl rfl rfl
theorem F_I_161_6 (hF : kk_F σ) : g_I σ 161 6 = 0 := kk_fI (c := 12) hF rfl rfl rfl rfl
theorem F_R_161_7 (hF : kk_F σ) : g_R σ 161 7 = some 164 := kk_fR (c := 12) hF rfl rfl rfl rfl
theorem F_R_161_8 (hF : kk_F σ) : g_R σ 161 8 = some 165 := kk_fR (c := 12) hF rfl rfl rfl rfl
theorem F_I_161_9 (hF : kk_F σ) : g_I σ 161 9 = 0 := kk_fI (c := 12) hF rfl rfl rfl rfl
theorem F_I_161_10 (hF : kk_F σ) : g_I σ 161 10 = 0 := kk_fI (c := 12) hF rfl rfl rfl rfl
theorem F_R_161_11 (hF : kk_F σ) : g_R σ 161 11 = some 166 := kk_fR (c := 12) hF rfl rfl rfl rfl
theorem F_R_161_12 (hF : kk_F σ) : g_R σ 161 12 = some 167 := kk_fR (c := 12) hF rfl rfl rfl rfl
theorem F_R_161_13 (hF : kk_F σ) : g_R σ 161 13 = some 168 := kk_fR (c := 12) hF rfl rfl rfl rfl
theorem F_I_161_14 (hF : kk_F σ) : g_I σ 161 14 = 0 := kk_fI (c := 12) hF rfl rfl rfl rfl
theorem F_I_161_15 (hF : kk_F σ) : g_I σ 161 15 = 0 := kk_fI (c := 12) hF rfl rfl rfl rfl
theorem F_I_161_16 (hF : kk_F σ) : g_I σ 161 16 = 0 := kk_fI (c := 12) hF rfl rfl rfl rfl
theorem F_R_161_17 (hF : kk_F σ) : g_R σ 161 17 = some 169 := kk_fR (c := 12) hF rfl rfl rfl rfl
theorem F_R_161_18 (hF : kk_F σ) : g_R σ 161 18 = some 170 := kk_fR (c := 12) hF rfl rfl rfl rfl
theorem F_R_161_19 (hF : kk_F σ) : g_R σ 161 19 = some 171 := kk_fR (c := 12) hF rfl rfl rfl rfl
theorem F_R_161_20 (hF : kk_F σ) : g_R σ 161 20 = some 172 := kk_fR (c := 12) hF rfl rfl rfl rfl
theorem F_I_161_21 (hF : kk_F σ) : g_I σ 161 21 = 0 := kk_fI (c := 12) hF rfl rfl rfl rfl
theorem F_I_161_22 (hF : kk_F σ) : g_I σ 161 22 = 0 := kk_fI (c := 12) hF rfl rfl rfl rfl
theorem F_I_161_23 (hF : kk_F σ) : g_I σ 161 23 = 0 := kk_fI (c := 12) hF rfl rfl rfl rfl
theorem F_R_161_24 (hF : kk_F σ) : g_R σ 161 24 = some 173 := kk_fR (c := 12) hF rfl rfl rfl rfl
theorem F_I_161_25 (hF : kk_F σ) : g_I σ 161 25 = 0 := kk_fI (c := 12) hF rfl rfl rfl rfl
theorem F_I_161_26 (hF : kk_F σ) : g_I σ 161 26 = 0 := kk_fI (c := 12) hF rfl rfl rfl rfl
theorem F_I_161_27 (hF : kk_F σ) : g_I σ 161 27 = 0 := kk_fI (c := 12) hF rfl rfl rfl rfl
theorem F_I_161_28 (hF : kk_F σ) : g_I σ 161 28 = 0 := kk_fI (c := 12) hF rfl rfl rfl rfl
theorem F_I_161_29 (hF : kk_F σ) : g_I σ 161 29 = 0 := kk_fI (c := 12) hF rfl rfl rfl rfl
theorem F_I_161_30 (hF : kk_F σ) : g_I σ 161 30 = 0 := kk_fI (c := 12) hF rfl rfl rfl rfl
theorem F_I_161_31 (hF : kk_F σ) : g_I σ 161 31 = 0 := kk_fI (c := 12) hF rfl rfl rfl rfl
theorem F_I_161_32 (hF : kk_F σ) : g_I σ 161 32 = 0 := kk_fI (c := 12) hF rfl rfl rfl rfl
theorem F_I_161_33 (hF : kk_F σ) : g_I σ 161 33 = 0 := kk_fI (c := 12) hF rfl rfl rfl rfl
theorem F_R_161_34 (hF : kk_F σ) : g_R σ 161 34 = some 174 := kk_fR (c := 12) hF rfl rfl rfl rfl
theorem F_I_161_35 (hF : kk_F σ) : g_I σ 161 35 = 0 := kk_fI (c := 12) hF rfl rfl rfl rfl
theorem F_I_161_36 (hF : kk_F σ) : g_I σ 161 36 = 0 := kk_fI (c := 12) hF rfl rfl rfl rfl
theorem F_I_161_37 (hF : kk_F σ) : g_I σ 161 37 = 0 := kk_fI (c := 12) hF rfl rfl rfl rfl
theorem F_I_161_38 (hF : kk_F σ) : g_I σ 161 38 = 0 := kk_fI (c := 12) hF rfl rfl rfl rfl
theorem F_I_161_39 (hF : kk_F σ) : g_I σ 161 39 = 0 := kk_fI (c := 12) hF rfl rfl rfl rfl
theorem F_I_161_40 (hF : kk_F σ) : g_I σ 161 40 = 0 := kk_fI (c := 12) hF rfl rfl rfl rfl
theorem F_I_161_41 (hF : kk_F σ) : g_I σ 161 41 = -1 := kk_fI (c := 12) hF rfl rfl rfl rfl
theorem F_I_161_42 (hF : kk_F σ) : g_I σ 161 42 = 0 := kk_fI (c := 12) hF rfl rfl rfl rfl
theorem F_I_161_43 (hF : kk_F σ) : g_I σ 161 43 = 0 := kk_fI (c := 12) hF rfl rfl rfl rfl
theorem F_R_161_44 (hF : kk_F σ) : g_R σ 161 44 = some 175 := kk_fR (c := 12) hF rfl rfl rfl rfl
theorem F_R_161_45 (hF : kk_F σ) : g_R σ 161 45 = some 176 := kk_fR (c := 12) hF rfl rfl rfl rfl
theorem F_R_161_46 (hF : kk_F σ) : g_R σ 161 46 = some 177 := kk_fR (c := 12) hF rfl rfl rfl rfl
theorem F_R_161_47 (hF : kk_F σ) : g_R σ 161 47 = some 178 := kk_fR (c := 12) hF rfl rfl rfl rfl
theorem F_I_161_48 (hF : kk_F σ) : g_I σ 161 48 = 0 := kk_fI (c := 12) hF rfl rfl rfl rfl
theorem F_I_161_49 (hF : kk_F σ) : g_I σ 161 49 = 0 := kk_fI (c := 12) hF rfl rfl rfl rfl
theorem F_I_161_50 (hF : kk_F σ) : g_I σ 161 50 = 0 := kk_fI (c := 12) hF rfl rfl rfl rfl
theorem F_R_161_51 (hF : kk_F σ) : g_R σ 161 51 = some 179 := kk_fR (c := 12) hF rfl rfl rfl rfl
theorem F_R_161_52 (hF : kk_F σ) : g_R σ 161 52 = some 180 := kk_fR (c := 12) hF rfl rfl rfl rfl
theorem F_R_161_53 (hF : kk_F σ) : g_R σ 161 53 = some 181 := kk_fR (c := 12) hF rfl rfl rfl rfl
theorem F_R_161_54 (hF : kk_F σ) : g_R σ 161 54 = some 182 := kk_fR (c := 12) hF rfl rfl rfl rfl
theorem F_I_161_55 (hF : kk_F σ) : g_I σ 161 55 = 0 := kk_fI (c := 12) hF rfl rfl rfl rfl
theorem F_I_161_56 (hF : kk_F σ) : g_I σ 161 56 = 0 := kk_fI (c := 12) hF rfl rfl rfl rfl
theorem F_I_161_57 (hF : kk_F σ) : g_I σ 161 57 = 0 := kk_fI (c := 12) hF rfl rfl rfl rfl
theorem F_I_161_58 (hF : kk_F σ) : g_I σ 161 58 = 0 := kk_fI (c := 12) hF rfl rfl rfl rfl
theorem F_R_161_59 (hF : kk_F σ) : g_R σ 161 59 = some 183 := kk_fR (c := 12) hF rfl rfl rfl rfl
theorem F_R_161_60 (hF : kk_F σ) : g_R σ 161 60 = some 184 := kk_fR (c := 12) hF rfl rfl rfl rfl
theorem F_R_161_61 (hF : kk_F σ) : g_R σ 161 61 = some 185 := kk_fR (c := 12) hF rfl rfl rfl rfl
theorem F_R_161_62 (hF : kk_F σ) : g_R σ 161 62 = some 186 := kk_fR (c := 12) hF rfl rfl rfl rfl
theorem F_R_161_63 (hF : kk_F σ) : g_R σ 161 63 = some 187 := kk_fR (c := 12) hF rfl rfl rfl rfl
theorem F_R_161_64 (hF : kk_F σ) : g_R σ 161 64 = some 188 := kk_fR (c := 12) hF rfl rfl rfl rfl
theorem F_R_161_65 (hF : kk_F σ) : g_R σ 161 65 = some 189 := kk_fR (c := 12) hF rfl rfl rfl rfl
theorem F_R_161_66 (hF : kk_F σ) : g_R σ 161 66 = some 190 := kk_fR (c := 12) hF rfl rfl rfl rfl
theorem F_R_161_67 (hF : kk_F σ) : g_R σ 161 67 = some 191 := kk_fR (c := 12) hF rfl rfl rfl rfl
theorem F_R_161_68 (hF : kk_F σ) : g_R σ 161 68 = some 192 := kk_fR (c := 12) hF rfl rfl rfl rfl
theorem F_R_161_69 (hF : kk_F σ) : g_R σ 161 69 = some 193 := kk_fR (c := 12) hF rfl rfl rfl rfl
theorem F_I_161_70 (hF : kk_F σ) : g_I σ 161 70 = 0 := kk_fI (c := 12) hF rfl rfl rfl rfl
theorem F_I_161_71 (hF : kk_F σ) : g_I σ 161 71 = 0 := kk_fI (c := 12) hF rfl rfl rfl rfl
theorem F_I_161_72 (hF : kk_F σ) : g_I σ 161 72 = 0 := kk_fI (c := 12) hF rfl rfl rfl rfl
theorem F_I_161_73 (hF : kk_F σ) : g_I σ 161 73 = 0 := kk_fI (c := 12) hF rfl rfl rfl rfl
theorem F_o_1 (hF : kk_F σ) : g_o σ 1 7 := kk_o hF rfl rfl
theorem F_I_1_0 (hF : kk_F σ) : g_I σ 1 0 = 0 := kk_fI (c := 7) hF rfl rfl rfl rfl
theorem F_R_1_1 (hF : kk_F σ) : g_R σ 1 1 = some 7 := kk_fR (c := 7) hF rfl rfl rfl rfl
theorem F_R_1_2 (hF : kk_F σ) : g_R σ 1 2 = some 2 := kk_fR (c := 7) hF rfl rfl rfl rfl
theorem F_R_1_3 (hF : kk_F σ) : g_R σ 1 3 = some 3 := kk_fR (c := 7) hF rfl rfl rfl rfl
theorem F_R_1_4 (hF : kk_F σ) : g_R σ 1 4 = some 4 := kk_fR (c := 7) hF rfl rfl rfl rfl
theorem F_R_1_5 (hF : kk_F σ) : g_R σ 1 5 = some 5 := kk_fR (c := 7) hF rfl rfl rfl rfl
theorem F_R_1_6 (hF : kk_F σ) : g_R σ 1 6 = some 6 := kk_fR (c := 7) hF rfl rfl rfl rfl
theorem F_I_1_7 (hF : kk_F σ) : g_I σ 1 7 = -1 := kk_fI (c := 7) hF rfl rfl rfl rfl
theorem F_R_1_8 (hF : kk_F σ) : g_R σ 1 8 = none := kk_fR (c := 7) hF rfl rfl rfl rfl
theorem F_o_7 (hF : kk_F σ) : g_o σ 7 4 := kk_o hF rfl rfl
theorem F_R_7_0 (hF : kk_F σ) : g_R σ 7 0 = some 8 := kk_fR (c := 4) hF rfl rfl rfl rfl
theorem F_I_7_1 (hF : kk_F σ) : g_I σ 7 1 = 0 := kk_fI (c := 4) hF rfl rfl rfl rfl
theorem F_I_7_2 (hF : kk_F σ) : g_I σ 7 2 = 0 := kk_fI (c := 4) hF rfl rfl rfl rfl
theorem F_a_104 (hF : kk_F σ) : g_a σ 104 480 := kk_arr hF rfl rfl
theorem F_a_105 (hF : kk_F σ) : g_a σ 105 480 := kk_arr hF rfl rfl
theorem F_a_106 (hF : kk_F σ) : g_a σ 106 480 := kk_arr hF rfl rfl
theorem F_a_111 (hF : kk_F σ) : g_a σ 111 1800 := kk_arr hF rfl rfl
theorem F_a_127 (hF : kk_F σ) : g_a σ 127 300 := kk_arr hF rfl rfl
theorem F_a_128 (hF : kk_F σ) : g_a σ 128 26 := kk_arr hF rfl rfl
theorem F_a_130 (hF : kk_F σ) : g_a σ 130 300 := kk_arr hF rfl rfl
theorem F_a_132 (hF : kk_F σ) : g_a σ 132 300 := kk_arr hF rfl rfl
theorem F_a_160 (hF : kk_F σ) : g_a σ 160 3 := kk_arr hF rfl rfl
theorem F_b_162 (hF : kk_F σ) : g_b σ 162 300 := kk_byt hF rfl rfl
theorem F_a_163 (hF : kk_F σ) : g_a σ 163 8000 := kk_arr hF rfl rfl
theorem F_a_164 (hF : kk_F σ) : g_a σ 164 22 := kk_arr hF rfl rfl
theorem F_a_165 (hF : kk_F σ) : g_a σ 165 19800 := kk_arr hF rfl rfl
theorem F_a_173 (hF : kk_F σ) : g_a σ 173 1800 := kk_arr hF rfl rfl
theorem F_a_175 (hF : kk_F σ) : g_a σ 175 3 := kk_arr hF rfl rfl
theorem F_e_0 (hF : kk_F σ) : g_I σ 160 (0 : Int32).toNatClampNeg = 0 := (hF.2.2 0 (by decide)).1
theorem F_m_0 (hF : kk_F σ) : g_I σ 175 (0 : Int32).toNatClampNeg = 0 := (hF.2.2 0 (by decide)).2
theorem F_e_1 (hF : kk_F σ) : g_I σ 160 (1 : Int32).toNatClampNeg = 0 := (hF.2.2 1 (by decide)).1
theorem F_m_1 (hF : kk_F σ) : g_I σ 175 (1 : Int32).toNatClampNeg = 0 := (hF.2.2 1 (by decide)).2
theorem F_e_2 (hF : kk_F σ) : g_I σ 160 (2 : Int32).toNatClampNeg = 0 := (hF.2.2 2 (by decide)).1
theorem F_m_2 (hF : kk_F σ) : g_I σ 175 (2 : Int32).toNatClampNeg = 0 := (hF.2.2 2 (by decide)).2
end
