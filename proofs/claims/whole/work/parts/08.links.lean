/-! ===== links ===== -/
theorem flX6_10 : am_fl RX6 10 6 0 := ⟨_, _, _, rfl, by decide, mem_wok 259 (by decide +kernel) rfl⟩
theorem flX6_19 : am_fl RX6 19 6 1 := ⟨_, _, _, rfl, by decide, mem_wok 260 (by decide +kernel) rfl⟩
theorem flX6_28 : am_fl RX6 28 6 2 := ⟨_, _, _, rfl, by decide, mem_wok 261 (by decide +kernel) rfl⟩
theorem flX6_32 : am_fl RX6 32 6 3 := ⟨_, _, _, rfl, by decide, mem_wok 262 (by decide +kernel) rfl⟩
theorem flX6_35 : am_fl RX6 35 6 4 := ⟨_, _, _, rfl, by decide, mem_wok 263 (by decide +kernel) rfl⟩
theorem flX6_41 : am_fl RX6 41 6 5 := ⟨_, _, _, rfl, by decide, mem_wok 264 (by decide +kernel) rfl⟩
theorem flX6_47 : am_fl RX6 47 6 6 := ⟨_, _, _, rfl, by decide, mem_wok 265 (by decide +kernel) rfl⟩
theorem flX6_52 : am_fl RX6 52 6 7 := ⟨_, _, _, rfl, by decide, mem_wok 266 (by decide +kernel) rfl⟩
theorem flX6_68 : am_fl RX6 68 3 9 := ⟨_, _, _, rfl, by decide, mem_wok 194 (by decide +kernel) rfl⟩
theorem flX6_96 : am_fl RX6 96 1 1 := ⟨_, _, _, rfl, by decide, mem_wok 143 (by decide +kernel) rfl⟩
theorem flX6_99 : am_fl RX6 99 5 3 := ⟨_, _, _, rfl, by decide, mem_wok 125 (by decide +kernel) rfl⟩
theorem flX6_104 : am_fl RX6 104 1 2 := ⟨_, _, _, rfl, by decide, mem_wok 145 (by decide +kernel) rfl⟩
theorem flX6_110 : am_fl RX6 110 3 10 := ⟨_, _, _, rfl, by decide, mem_wok 196 (by decide +kernel) rfl⟩
theorem flX6_124 : am_fl RX6 124 3 2 := ⟨_, _, _, rfl, by decide, mem_wok 181 (by decide +kernel) rfl⟩
theorem flX6_127 : am_fl RX6 127 3 3 := ⟨_, _, _, rfl, by decide, mem_wok 183 (by decide +kernel) rfl⟩
theorem flX6_156 : am_fl RX6 156 2 2 := ⟨_, _, _, rfl, by decide, mem_wok 251 (by decide +kernel) rfl⟩
theorem flX6_157 : am_fl RX6 157 2 0 := ⟨_, _, _, rfl, by decide, mem_wok 247 (by decide +kernel) rfl⟩
theorem flX6_189 : am_fl RX6 189 3 8 := ⟨_, _, _, rfl, by decide, mem_wok 192 (by decide +kernel) rfl⟩
theorem flX6_233 : am_fl RX6 233 2 1 := ⟨_, _, _, rfl, by decide, mem_wok 249 (by decide +kernel) rfl⟩
theorem flX6_242 : am_fl RX6 242 3 5 := ⟨_, _, _, rfl, by decide, mem_wok 187 (by decide +kernel) rfl⟩
theorem flX6_248 : am_fl RX6 248 3 1 := ⟨_, _, _, rfl, by decide, mem_wok 179 (by decide +kernel) rfl⟩
theorem flX6_266 : am_fl RX6 266 3 4 := ⟨_, _, _, rfl, by decide, mem_wok 185 (by decide +kernel) rfl⟩
theorem flX0_9 : am_fl RX0 9 0 0 := ⟨_, _, _, rfl, by decide, mem_wok 226 (by decide +kernel) rfl⟩
theorem flX0_15 : am_fl RX0 15 0 1 := ⟨_, _, _, rfl, by decide, mem_wok 227 (by decide +kernel) rfl⟩
theorem flX0_18 : am_fl RX0 18 0 2 := ⟨_, _, _, rfl, by decide, mem_wok 228 (by decide +kernel) rfl⟩
theorem flX0_21 : am_fl RX0 21 0 3 := ⟨_, _, _, rfl, by decide, mem_wok 229 (by decide +kernel) rfl⟩
theorem flX0_25 : am_fl RX0 25 3 8 := ⟨_, _, _, rfl, by decide, mem_wok 191 (by decide +kernel) rfl⟩
theorem flX1_9 : am_fl RX1 9 1 0 := ⟨_, _, _, rfl, by decide, mem_wok 141 (by decide +kernel) rfl⟩
theorem flX1_15 : am_fl RX1 15 1 1 := ⟨_, _, _, rfl, by decide, mem_wok 142 (by decide +kernel) rfl⟩
theorem flX1_19 : am_fl RX1 19 1 2 := ⟨_, _, _, rfl, by decide, mem_wok 144 (by decide +kernel) rfl⟩
theorem flX1_22 : am_fl RX1 22 1 3 := ⟨_, _, _, rfl, by decide, mem_wok 146 (by decide +kernel) rfl⟩
theorem flX1_25 : am_fl RX1 25 1 4 := ⟨_, _, _, rfl, by decide, mem_wok 147 (by decide +kernel) rfl⟩
theorem flX1_28 : am_fl RX1 28 1 5 := ⟨_, _, _, rfl, by decide, mem_wok 148 (by decide +kernel) rfl⟩
theorem flX1_31 : am_fl RX1 31 1 6 := ⟨_, _, _, rfl, by decide, mem_wok 149 (by decide +kernel) rfl⟩
theorem flX1_34 : am_fl RX1 34 1 7 := ⟨_, _, _, rfl, by decide, mem_wok 150 (by decide +kernel) rfl⟩
theorem flX1_37 : am_fl RX1 37 1 8 := ⟨_, _, _, rfl, by decide, mem_wok 151 (by decide +kernel) rfl⟩
theorem flX2_9 : am_fl RX2 9 2 0 := ⟨_, _, _, rfl, by decide, mem_wok 246 (by decide +kernel) rfl⟩
theorem flX2_15 : am_fl RX2 15 2 1 := ⟨_, _, _, rfl, by decide, mem_wok 248 (by decide +kernel) rfl⟩
theorem flX2_19 : am_fl RX2 19 2 2 := ⟨_, _, _, rfl, by decide, mem_wok 250 (by decide +kernel) rfl⟩
theorem flX3_9 : am_fl RX3 9 3 1 := ⟨_, _, _, rfl, by decide, mem_wok 178 (by decide +kernel) rfl⟩
theorem flX3_15 : am_fl RX3 15 3 2 := ⟨_, _, _, rfl, by decide, mem_wok 180 (by decide +kernel) rfl⟩
theorem flX3_18 : am_fl RX3 18 3 3 := ⟨_, _, _, rfl, by decide, mem_wok 182 (by decide +kernel) rfl⟩
theorem flX3_21 : am_fl RX3 21 3 4 := ⟨_, _, _, rfl, by decide, mem_wok 184 (by decide +kernel) rfl⟩
theorem flX3_24 : am_fl RX3 24 3 5 := ⟨_, _, _, rfl, by decide, mem_wok 186 (by decide +kernel) rfl⟩
theorem flX3_27 : am_fl RX3 27 3 6 := ⟨_, _, _, rfl, by decide, mem_wok 188 (by decide +kernel) rfl⟩
theorem flX3_30 : am_fl RX3 30 3 7 := ⟨_, _, _, rfl, by decide, mem_wok 189 (by decide +kernel) rfl⟩
theorem flX3_33 : am_fl RX3 33 3 8 := ⟨_, _, _, rfl, by decide, mem_wok 190 (by decide +kernel) rfl⟩
theorem flX3_37 : am_fl RX3 37 3 9 := ⟨_, _, _, rfl, by decide, mem_wok 193 (by decide +kernel) rfl⟩
theorem flX3_40 : am_fl RX3 40 3 10 := ⟨_, _, _, rfl, by decide, mem_wok 195 (by decide +kernel) rfl⟩
theorem flX3_43 : am_fl RX3 43 3 0 := ⟨_, _, _, rfl, by decide, mem_wok 177 (by decide +kernel) rfl⟩
theorem flX4_9 : am_fl RX4 9 4 0 := ⟨_, _, _, rfl, by decide, mem_wok 109 (by decide +kernel) rfl⟩
theorem flX4_15 : am_fl RX4 15 4 1 := ⟨_, _, _, rfl, by decide, mem_wok 111 (by decide +kernel) rfl⟩
theorem flX4_19 : am_fl RX4 19 4 2 := ⟨_, _, _, rfl, by decide, mem_wok 112 (by decide +kernel) rfl⟩
theorem flX5_11 : am_fl RX5 11 5 0 := ⟨_, _, _, rfl, by decide, mem_wok 121 (by decide +kernel) rfl⟩
theorem flX5_17 : am_fl RX5 17 5 1 := ⟨_, _, _, rfl, by decide, mem_wok 122 (by decide +kernel) rfl⟩
theorem flX5_21 : am_fl RX5 21 5 2 := ⟨_, _, _, rfl, by decide, mem_wok 123 (by decide +kernel) rfl⟩
theorem flX5_24 : am_fl RX5 24 5 3 := ⟨_, _, _, rfl, by decide, mem_wok 124 (by decide +kernel) rfl⟩
theorem flX5_38 : am_fl RX5 38 4 0 := ⟨_, _, _, rfl, by decide, mem_wok 110 (by decide +kernel) rfl⟩
theorem flX7_7 : am_fl RX7 7 7 0 := ⟨_, _, _, rfl, by decide, mem_wok 848 (by decide +kernel) rfl⟩
theorem flX7_13 : am_fl RX7 13 7 1 := ⟨_, _, _, rfl, by decide, mem_wok 849 (by decide +kernel) rfl⟩
theorem flX7_16 : am_fl RX7 16 7 2 := ⟨_, _, _, rfl, by decide, mem_wok 850 (by decide +kernel) rfl⟩
theorem flX7_19 : am_fl RX7 19 7 4 := ⟨_, _, _, rfl, by decide, mem_wok 852 (by decide +kernel) rfl⟩
theorem flX7_22 : am_fl RX7 22 7 10 := ⟨_, _, _, rfl, by decide, mem_wok 858 (by decide +kernel) rfl⟩
theorem flX7_25 : am_fl RX7 25 7 11 := ⟨_, _, _, rfl, by decide, mem_wok 859 (by decide +kernel) rfl⟩
theorem flX7_32 : am_fl RX7 32 7 12 := ⟨_, _, _, rfl, by decide, mem_wok 860 (by decide +kernel) rfl⟩
theorem flX7_36 : am_fl RX7 36 7 14 := ⟨_, _, _, rfl, by decide, mem_wok 862 (by decide +kernel) rfl⟩
theorem flX7_40 : am_fl RX7 40 7 15 := ⟨_, _, _, rfl, by decide, mem_wok 863 (by decide +kernel) rfl⟩
theorem flX7_43 : am_fl RX7 43 7 17 := ⟨_, _, _, rfl, by decide, mem_wok 865 (by decide +kernel) rfl⟩
theorem flX7_46 : am_fl RX7 46 7 18 := ⟨_, _, _, rfl, by decide, mem_wok 866 (by decide +kernel) rfl⟩
theorem flX7_49 : am_fl RX7 49 7 19 := ⟨_, _, _, rfl, by decide, mem_wok 867 (by decide +kernel) rfl⟩
theorem flX7_52 : am_fl RX7 52 7 20 := ⟨_, _, _, rfl, by decide, mem_wok 868 (by decide +kernel) rfl⟩
theorem flX7_55 : am_fl RX7 55 7 21 := ⟨_, _, _, rfl, by decide, mem_wok 869 (by decide +kernel) rfl⟩
theorem flX7_58 : am_fl RX7 58 7 24 := ⟨_, _, _, rfl, by decide, mem_wok 872 (by decide +kernel) rfl⟩
theorem flX7_61 : am_fl RX7 61 7 25 := ⟨_, _, _, rfl, by decide, mem_wok 873 (by decide +kernel) rfl⟩
theorem flX7_64 : am_fl RX7 64 7 26 := ⟨_, _, _, rfl, by decide, mem_wok 874 (by decide +kernel) rfl⟩
theorem flX7_67 : am_fl RX7 67 7 27 := ⟨_, _, _, rfl, by decide, mem_wok 875 (by decide +kernel) rfl⟩
theorem flX7_70 : am_fl RX7 70 7 28 := ⟨_, _, _, rfl, by decide, mem_wok 876 (by decide +kernel) rfl⟩
theorem flX7_73 : am_fl RX7 73 7 29 := ⟨_, _, _, rfl, by decide, mem_wok 877 (by decide +kernel) rfl⟩
theorem flX7_127 : am_fl RX7 127 7 5 := ⟨_, _, _, rfl, by decide, mem_wok 853 (by decide +kernel) rfl⟩
theorem flX7_130 : am_fl RX7 130 7 6 := ⟨_, _, _, rfl, by decide, mem_wok 854 (by decide +kernel) rfl⟩
theorem flX7_133 : am_fl RX7 133 7 7 := ⟨_, _, _, rfl, by decide, mem_wok 855 (by decide +kernel) rfl⟩
theorem flX7_139 : am_fl RX7 139 7 8 := ⟨_, _, _, rfl, by decide, mem_wok 856 (by decide +kernel) rfl⟩
theorem flX7_142 : am_fl RX7 142 7 13 := ⟨_, _, _, rfl, by decide, mem_wok 861 (by decide +kernel) rfl⟩
theorem flX7_145 : am_fl RX7 145 7 16 := ⟨_, _, _, rfl, by decide, mem_wok 864 (by decide +kernel) rfl⟩
theorem flX7_158 : am_fl RX7 158 7 9 := ⟨_, _, _, rfl, by decide, mem_wok 857 (by decide +kernel) rfl⟩
theorem flX7_251 : am_fl RX7 251 7 22 := ⟨_, _, _, rfl, by decide, mem_wok 870 (by decide +kernel) rfl⟩
theorem flX7_254 : am_fl RX7 254 7 23 := ⟨_, _, _, rfl, by decide, mem_wok 871 (by decide +kernel) rfl⟩
theorem flX7_300 : am_fl RX7 300 7 3 := ⟨_, _, _, rfl, by decide, mem_wok 851 (by decide +kernel) rfl⟩
theorem fw0_0 : am_fw 0 0 true "[I" := ⟨_, _, _, rfl, rfl, rfl, rfl⟩
theorem fw0_1 : am_fw 0 1 true "[I" := ⟨_, _, _, rfl, rfl, rfl, rfl⟩
theorem fw0_2 : am_fw 0 2 true "[I" := ⟨_, _, _, rfl, rfl, rfl, rfl⟩
theorem fw0_3 : am_fw 0 3 false "I" := ⟨_, _, _, rfl, rfl, rfl, rfl⟩
theorem fw1_0 : am_fw 1 0 true "[I" := ⟨_, _, _, rfl, rfl, rfl, rfl⟩
theorem fw1_1 : am_fw 1 1 false "I" := ⟨_, _, _, rfl, rfl, rfl, rfl⟩
theorem fw1_2 : am_fw 1 2 false "I" := ⟨_, _, _, rfl, rfl, rfl, rfl⟩
theorem fw1_3 : am_fw 1 3 true "[I" := ⟨_, _, _, rfl, rfl, rfl, rfl⟩
theorem fw1_4 : am_fw 1 4 false "I" := ⟨_, _, _, rfl, rfl, rfl, rfl⟩
theorem fw1_5 : am_fw 1 5 false "I" := ⟨_, _, _, rfl, rfl, rfl, rfl⟩
theorem fw1_6 : am_fw 1 6 false "I" := ⟨_, _, _, rfl, rfl, rfl, rfl⟩
theorem fw1_7 : am_fw 1 7 false "I" := ⟨_, _, _, rfl, rfl, rfl, rfl⟩
theorem fw1_8 : am_fw 1 8 false "I" := ⟨_, _, _, rfl, rfl, rfl, rfl⟩
theorem fw2_0 : am_fw 2 0 true "[I" := ⟨_, _, _, rfl, rfl, rfl, rfl⟩
theorem fw2_1 : am_fw 2 1 false "I" := ⟨_, _, _, rfl, rfl, rfl, rfl⟩
theorem fw2_2 : am_fw 2 2 false "I" := ⟨_, _, _, rfl, rfl, rfl, rfl⟩
theorem fw3_0 : am_fw 3 0 true "LEdgesOff$Texts;" := ⟨_, _, _, rfl, rfl, rfl, rfl⟩
theorem fw3_1 : am_fw 3 1 true "[I" := ⟨_, _, _, rfl, rfl, rfl, rfl⟩
theorem fw3_2 : am_fw 3 2 true "[I" := ⟨_, _, _, rfl, rfl, rfl, rfl⟩
theorem fw3_3 : am_fw 3 3 true "[I" := ⟨_, _, _, rfl, rfl, rfl, rfl⟩
theorem fw3_4 : am_fw 3 4 true "[I" := ⟨_, _, _, rfl, rfl, rfl, rfl⟩
theorem fw3_5 : am_fw 3 5 true "[I" := ⟨_, _, _, rfl, rfl, rfl, rfl⟩
theorem fw3_6 : am_fw 3 6 true "[I" := ⟨_, _, _, rfl, rfl, rfl, rfl⟩
theorem fw3_7 : am_fw 3 7 true "[I" := ⟨_, _, _, rfl, rfl, rfl, rfl⟩
theorem fw3_8 : am_fw 3 8 false "I" := ⟨_, _, _, rfl, rfl, rfl, rfl⟩
theorem fw3_9 : am_fw 3 9 false "I" := ⟨_, _, _, rfl, rfl, rfl, rfl⟩
theorem fw3_10 : am_fw 3 10 false "I" := ⟨_, _, _, rfl, rfl, rfl, rfl⟩
theorem fw4_0 : am_fw 4 0 true "[I" := ⟨_, _, _, rfl, rfl, rfl, rfl⟩
theorem fw4_1 : am_fw 4 1 true "I" := ⟨_, _, _, rfl, rfl, rfl, rfl⟩
theorem fw4_2 : am_fw 4 2 true "I" := ⟨_, _, _, rfl, rfl, rfl, rfl⟩
theorem fw5_0 : am_fw 5 0 true "[LEdgesOff$Text;" := ⟨_, _, _, rfl, rfl, rfl, rfl⟩
theorem fw5_1 : am_fw 5 1 true "[I" := ⟨_, _, _, rfl, rfl, rfl, rfl⟩
theorem fw5_2 : am_fw 5 2 true "[I" := ⟨_, _, _, rfl, rfl, rfl, rfl⟩
theorem fw5_3 : am_fw 5 3 false "I" := ⟨_, _, _, rfl, rfl, rfl, rfl⟩
theorem fw6_0 : am_fw 6 0 true "LEdgesOff$Texts;" := ⟨_, _, _, rfl, rfl, rfl, rfl⟩
theorem fw6_1 : am_fw 6 1 true "LEdgesOff$Reader;" := ⟨_, _, _, rfl, rfl, rfl, rfl⟩
theorem fw6_2 : am_fw 6 2 true "LEdgesOff$Shore;" := ⟨_, _, _, rfl, rfl, rfl, rfl⟩
theorem fw6_3 : am_fw 6 3 true "LEdgesOff$Shore;" := ⟨_, _, _, rfl, rfl, rfl, rfl⟩
theorem fw6_4 : am_fw 6 4 true "LEdgesOff$Shore;" := ⟨_, _, _, rfl, rfl, rfl, rfl⟩
theorem fw6_5 : am_fw 6 5 true "LEdgesOff$Jars;" := ⟨_, _, _, rfl, rfl, rfl, rfl⟩
theorem fw6_6 : am_fw 6 6 true "[LEdgesOff$Row;" := ⟨_, _, _, rfl, rfl, rfl, rfl⟩
theorem fw6_7 : am_fw 6 7 false "Z" := ⟨_, _, _, rfl, rfl, rfl, rfl⟩
theorem fw7_0 : am_fw 7 0 true "[I" := ⟨_, _, _, rfl, rfl, rfl, rfl⟩
theorem fw7_1 : am_fw 7 1 true "[I" := ⟨_, _, _, rfl, rfl, rfl, rfl⟩
theorem fw7_2 : am_fw 7 2 true "[I" := ⟨_, _, _, rfl, rfl, rfl, rfl⟩
theorem fw7_3 : am_fw 7 3 false "Z" := ⟨_, _, _, rfl, rfl, rfl, rfl⟩
theorem fw7_4 : am_fw 7 4 true "[I" := ⟨_, _, _, rfl, rfl, rfl, rfl⟩
theorem fw7_5 : am_fw 7 5 false "I" := ⟨_, _, _, rfl, rfl, rfl, rfl⟩
theorem fw7_6 : am_fw 7 6 false "I" := ⟨_, _, _, rfl, rfl, rfl, rfl⟩
theorem fw7_7 : am_fw 7 7 false "I" := ⟨_, _, _, rfl, rfl, rfl, rfl⟩
theorem fw7_8 : am_fw 7 8 false "I" := ⟨_, _, _, rfl, rfl, rfl, rfl⟩
theorem fw7_9 : am_fw 7 9 false "I" := ⟨_, _, _, rfl, rfl, rfl, rfl⟩
theorem fw7_10 : am_fw 7 10 true "[I" := ⟨_, _, _, rfl, rfl, rfl, rfl⟩
theorem fw7_11 : am_fw 7 11 true "[I" := ⟨_, _, _, rfl, rfl, rfl, rfl⟩
theorem fw7_12 : am_fw 7 12 false "I" := ⟨_, _, _, rfl, rfl, rfl, rfl⟩
theorem fw7_13 : am_fw 7 13 false "I" := ⟨_, _, _, rfl, rfl, rfl, rfl⟩
theorem fw7_14 : am_fw 7 14 true "[C" := ⟨_, _, _, rfl, rfl, rfl, rfl⟩
theorem fw7_15 : am_fw 7 15 true "[I" := ⟨_, _, _, rfl, rfl, rfl, rfl⟩
theorem fw7_16 : am_fw 7 16 false "I" := ⟨_, _, _, rfl, rfl, rfl, rfl⟩
theorem fw7_17 : am_fw 7 17 true "[I" := ⟨_, _, _, rfl, rfl, rfl, rfl⟩
theorem fw7_18 : am_fw 7 18 true "[I" := ⟨_, _, _, rfl, rfl, rfl, rfl⟩
theorem fw7_19 : am_fw 7 19 true "[I" := ⟨_, _, _, rfl, rfl, rfl, rfl⟩
theorem fw7_20 : am_fw 7 20 true "[I" := ⟨_, _, _, rfl, rfl, rfl, rfl⟩
theorem fw7_21 : am_fw 7 21 true "[I" := ⟨_, _, _, rfl, rfl, rfl, rfl⟩
theorem fw7_22 : am_fw 7 22 false "I" := ⟨_, _, _, rfl, rfl, rfl, rfl⟩
theorem fw7_23 : am_fw 7 23 false "I" := ⟨_, _, _, rfl, rfl, rfl, rfl⟩
theorem fw7_24 : am_fw 7 24 true "[I" := ⟨_, _, _, rfl, rfl, rfl, rfl⟩
theorem fw7_25 : am_fw 7 25 true "[I" := ⟨_, _, _, rfl, rfl, rfl, rfl⟩
theorem fw7_26 : am_fw 7 26 true "[I" := ⟨_, _, _, rfl, rfl, rfl, rfl⟩
theorem fw7_27 : am_fw 7 27 true "[I" := ⟨_, _, _, rfl, rfl, rfl, rfl⟩
theorem fw7_28 : am_fw 7 28 true "[I" := ⟨_, _, _, rfl, rfl, rfl, rfl⟩
theorem fw7_29 : am_fw 7 29 true "[Z" := ⟨_, _, _, rfl, rfl, rfl, rfl⟩
set_option maxRecDepth 100000 in
theorem okJ0_charAt_5068e : am_ok mJ0_charAt_5068e 1 := ⟨by decide +kernel, by decide, mem_wok 427 rfl rfl, mem_wok 81 (by decide +kernel) rfl, ⟨by decide +kernel, by decide +kernel⟩, by decide +kernel⟩
theorem inJ0_charAt_5068e : Cond.instanceMethod yJ0_charAt_5068e ∈ wok := mem_wok 425 (by decide +kernel) rfl
theorem seJ0_charAt_5068e : Cond.selects yJ0_charAt_5068e.cls yJ0_charAt_5068e yJ0_charAt_5068e ∈ wok := mem_wok 426 (by decide +kernel) rfl
set_option maxRecDepth 100000 in
theorem okJ0_checkIndex_df160 : am_ok mJ0_checkIndex_df160 2 := ⟨by decide +kernel, by decide, mem_wok 439 rfl rfl, mem_wok 81 (by decide +kernel) rfl, ⟨by decide +kernel, by decide +kernel⟩, by decide +kernel⟩
theorem stJ0_checkIndex_df160 : Cond.static yJ0_checkIndex_df160 ∈ wok := mem_wok 438 (by decide +kernel) rfl
set_option maxRecDepth 100000 in
theorem okJ0_coder_7d493 : am_ok mJ0_coder_7d493 0 := ⟨by decide +kernel, by decide, mem_wok 487 rfl rfl, mem_wok 81 (by decide +kernel) rfl, ⟨by decide +kernel, by decide +kernel⟩, by decide +kernel⟩
theorem inJ0_coder_7d493 : Cond.instanceMethod yJ0_coder_7d493 ∈ wok := mem_wok 485 (by decide +kernel) rfl
theorem seJ0_coder_7d493 : Cond.selects yJ0_coder_7d493.cls yJ0_coder_7d493 yJ0_coder_7d493 ∈ wok := mem_wok 486 (by decide +kernel) rfl
set_option maxRecDepth 100000 in
theorem okJ0_indexOf_0f7a4 : am_ok mJ0_indexOf_0f7a4 1 := ⟨by decide +kernel, by decide, mem_wok 475 rfl rfl, mem_wok 81 (by decide +kernel) rfl, ⟨by decide +kernel, by decide +kernel⟩, by decide +kernel⟩
theorem inJ0_indexOf_0f7a4 : Cond.instanceMethod yJ0_indexOf_0f7a4 ∈ wok := mem_wok 473 (by decide +kernel) rfl
theorem seJ0_indexOf_0f7a4 : Cond.selects yJ0_indexOf_0f7a4.cls yJ0_indexOf_0f7a4 yJ0_indexOf_0f7a4 ∈ wok := mem_wok 474 (by decide +kernel) rfl
set_option maxRecDepth 100000 in
theorem okJ0_indexOf_7cf53 : am_ok mJ0_indexOf_7cf53 2 := ⟨by decide +kernel, by decide, mem_wok 479 rfl rfl, mem_wok 81 (by decide +kernel) rfl, ⟨by decide +kernel, by decide +kernel⟩, by decide +kernel⟩
theorem inJ0_indexOf_7cf53 : Cond.instanceMethod yJ0_indexOf_7cf53 ∈ wok := mem_wok 477 (by decide +kernel) rfl
theorem seJ0_indexOf_7cf53 : Cond.selects yJ0_indexOf_7cf53.cls yJ0_indexOf_7cf53 yJ0_indexOf_7cf53 ∈ wok := mem_wok 478 (by decide +kernel) rfl
set_option maxRecDepth 100000 in
theorem okJ0_isLatin1_aae02 : am_ok mJ0_isLatin1_aae02 0 := ⟨by decide +kernel, by decide, mem_wok 431 rfl rfl, mem_wok 81 (by decide +kernel) rfl, ⟨by decide +kernel, by decide +kernel⟩, by decide +kernel⟩
theorem inJ0_isLatin1_aae02 : Cond.instanceMethod yJ0_isLatin1_aae02 ∈ wok := mem_wok 429 (by decide +kernel) rfl
theorem seJ0_isLatin1_aae02 : Cond.selects yJ0_isLatin1_aae02.cls yJ0_isLatin1_aae02 yJ0_isLatin1_aae02 ∈ wok := mem_wok 430 (by decide +kernel) rfl
set_option maxRecDepth 100000 in
theorem okJ0_length_8abf5 : am_ok mJ0_length_8abf5 0 := ⟨by decide +kernel, by decide, mem_wok 483 rfl rfl, mem_wok 81 (by decide +kernel) rfl, ⟨by decide +kernel, by decide +kernel⟩, by decide +kernel⟩
theorem inJ0_length_8abf5 : Cond.instanceMethod yJ0_length_8abf5 ∈ wok := mem_wok 481 (by decide +kernel) rfl
theorem seJ0_length_8abf5 : Cond.selects yJ0_length_8abf5.cls yJ0_length_8abf5 yJ0_length_8abf5 ∈ wok := mem_wok 482 (by decide +kernel) rfl
set_option maxRecDepth 100000 in
theorem okJ1_canEncode_9a6ad : am_ok mJ1_canEncode_9a6ad 1 := ⟨by decide +kernel, by decide, mem_wok 493 rfl rfl, mem_wok 82 (by decide +kernel) rfl, ⟨by decide +kernel, by decide +kernel⟩, by decide +kernel⟩
theorem stJ1_canEncode_9a6ad : Cond.static yJ1_canEncode_9a6ad ∈ wok := mem_wok 492 (by decide +kernel) rfl
set_option maxRecDepth 100000 in
theorem okJ1_charAt_3b067 : am_ok mJ1_charAt_3b067 2 := ⟨by decide +kernel, by decide, mem_wok 436 rfl rfl, mem_wok 82 (by decide +kernel) rfl, ⟨by decide +kernel, by decide +kernel⟩, by decide +kernel⟩
theorem stJ1_charAt_3b067 : Cond.static yJ1_charAt_3b067 ∈ wok := mem_wok 435 (by decide +kernel) rfl
set_option maxRecDepth 100000 in
theorem okJ1_indexOfChar_4cfef : am_ok mJ1_indexOfChar_4cfef 4 := ⟨by decide +kernel, by decide, mem_wok 498 rfl rfl, mem_wok 82 (by decide +kernel) rfl, ⟨by decide +kernel, by decide +kernel⟩, by decide +kernel⟩
theorem stJ1_indexOfChar_4cfef : Cond.static yJ1_indexOfChar_4cfef ∈ wok := mem_wok 497 (by decide +kernel) rfl
set_option maxRecDepth 100000 in
theorem okJ1_indexOf_4cfef : am_ok mJ1_indexOf_4cfef 4 := ⟨by decide +kernel, by decide, mem_wok 490 rfl rfl, mem_wok 82 (by decide +kernel) rfl, ⟨by decide +kernel, by decide +kernel⟩, by decide +kernel⟩
theorem stJ1_indexOf_4cfef : Cond.static yJ1_indexOf_4cfef ∈ wok := mem_wok 489 (by decide +kernel) rfl
set_option maxRecDepth 100000 in
theorem okJ3_checkIndex_8e157 : am_ok mJ3_checkIndex_8e157 3 := ⟨by decide +kernel, by decide, mem_wok 444 rfl rfl, mem_wok 83 (by decide +kernel) rfl, ⟨by decide +kernel, by decide +kernel⟩, by decide +kernel⟩
theorem stJ3_checkIndex_8e157 : Cond.static yJ3_checkIndex_8e157 ∈ wok := mem_wok 443 (by decide +kernel) rfl
set_option maxRecDepth 100000 in
theorem okJ6_bitCount_0f7a4 : am_ok mJ6_bitCount_0f7a4 1 := ⟨by decide +kernel, by decide, mem_wok 619 rfl rfl, mem_wok 80 (by decide +kernel) rfl, ⟨by decide +kernel, by decide +kernel⟩, by decide +kernel⟩
theorem stJ6_bitCount_0f7a4 : Cond.static yJ6_bitCount_0f7a4 ∈ wok := mem_wok 618 (by decide +kernel) rfl
set_option maxRecDepth 100000 in
theorem okJ7_copyOf_59c91 : am_ok mJ7_copyOf_59c91 2 := ⟨by decide +kernel, by decide, mem_wok 560 rfl rfl, mem_wok 86 (by decide +kernel) rfl, ⟨by decide +kernel, by decide +kernel⟩, by decide +kernel⟩
theorem stJ7_copyOf_59c91 : Cond.static yJ7_copyOf_59c91 ∈ wok := mem_wok 559 (by decide +kernel) rfl
set_option maxRecDepth 100000 in
theorem okJ7_fill_53178 : am_ok mJ7_fill_53178 2 := ⟨by decide +kernel, by decide, mem_wok 673 rfl rfl, mem_wok 86 (by decide +kernel) rfl, ⟨by decide +kernel, by decide +kernel⟩, by decide +kernel⟩
theorem stJ7_fill_53178 : Cond.static yJ7_fill_53178 ∈ wok := mem_wok 672 (by decide +kernel) rfl
set_option maxRecDepth 100000 in
theorem okJ9_abs_0f7a4 : am_ok mJ9_abs_0f7a4 1 := ⟨by decide +kernel, by decide, mem_wok 383 rfl rfl, mem_wok 79 (by decide +kernel) rfl, ⟨by decide +kernel, by decide +kernel⟩, by decide +kernel⟩
theorem stJ9_abs_0f7a4 : Cond.static yJ9_abs_0f7a4 ∈ wok := mem_wok 382 (by decide +kernel) rfl
set_option maxRecDepth 100000 in
theorem okJ9_floorMod_7cf53 : am_ok mJ9_floorMod_7cf53 2 := ⟨by decide +kernel, by decide, mem_wok 595 rfl rfl, mem_wok 79 (by decide +kernel) rfl, ⟨by decide +kernel, by decide +kernel⟩, by decide +kernel⟩
theorem stJ9_floorMod_7cf53 : Cond.static yJ9_floorMod_7cf53 ∈ wok := mem_wok 594 (by decide +kernel) rfl
set_option maxRecDepth 100000 in
theorem okJ9_max_7cf53 : am_ok mJ9_max_7cf53 2 := ⟨by decide +kernel, by decide, mem_wok 357 rfl rfl, mem_wok 79 (by decide +kernel) rfl, ⟨by decide +kernel, by decide +kernel⟩, by decide +kernel⟩
theorem stJ9_max_7cf53 : Cond.static yJ9_max_7cf53 ∈ wok := mem_wok 356 (by decide +kernel) rfl
set_option maxRecDepth 100000 in
theorem okJ9_min_7cf53 : am_ok mJ9_min_7cf53 2 := ⟨by decide +kernel, by decide, mem_wok 354 rfl rfl, mem_wok 79 (by decide +kernel) rfl, ⟨by decide +kernel, by decide +kernel⟩, by decide +kernel⟩
theorem stJ9_min_7cf53 : Cond.static yJ9_min_7cf53 ∈ wok := mem_wok 353 (by decide +kernel) rfl
set_option maxRecDepth 100000 in
theorem okX0_digits : am_ok mX0_digits 0 := ⟨by decide +kernel, by decide, mem_wok 690 rfl rfl, mem_wok 76 (by decide +kernel) rfl, ⟨by decide +kernel, by decide +kernel⟩, by decide +kernel⟩
theorem inX0_digits : Cond.instanceMethod yX0_digits ∈ wok := mem_wok 688 (by decide +kernel) rfl
theorem seX0_digits : Cond.selects yX0_digits.cls yX0_digits yX0_digits ∈ wok := mem_wok 689 (by decide +kernel) rfl
set_option maxRecDepth 100000 in
theorem okX0_fewestWithout : am_ok mX0_fewestWithout 1 := ⟨by decide +kernel, by decide, mem_wok 681 rfl rfl, mem_wok 76 (by decide +kernel) rfl, ⟨by decide +kernel, by decide +kernel⟩, by decide +kernel⟩
theorem inX0_fewestWithout : Cond.instanceMethod yX0_fewestWithout ∈ wok := mem_wok 679 (by decide +kernel) rfl
theorem seX0_fewestWithout : Cond.selects yX0_fewestWithout.cls yX0_fewestWithout yX0_fewestWithout ∈ wok := mem_wok 680 (by decide +kernel) rfl
set_option maxRecDepth 100000 in
theorem okX0_fewestWithoutLeftOut : am_ok mX0_fewestWithoutLeftOut 0 := ⟨by decide +kernel, by decide, mem_wok 699 rfl rfl, mem_wok 76 (by decide +kernel) rfl, ⟨by decide +kernel, by decide +kernel⟩, by decide +kernel⟩
theorem inX0_fewestWithoutLeftOut : Cond.instanceMethod yX0_fewestWithoutLeftOut ∈ wok := mem_wok 697 (by decide +kernel) rfl
theorem seX0_fewestWithoutLeftOut : Cond.selects yX0_fewestWithoutLeftOut.cls yX0_fewestWithoutLeftOut yX0_fewestWithoutLeftOut ∈ wok := mem_wok 698 (by decide +kernel) rfl
set_option maxRecDepth 100000 in
theorem okX0_init : am_ok mX0_init 0 := ⟨by decide +kernel, by decide, mem_wok 224 rfl rfl, mem_wok 76 (by decide +kernel) rfl, ⟨by decide +kernel, by decide +kernel⟩, by decide +kernel⟩
theorem inX0_init : Cond.instanceMethod yX0_init ∈ wok := mem_wok 223 (by decide +kernel) rfl
set_option maxRecDepth 100000 in
theorem okX0_isFilled : am_ok mX0_isFilled 5 := ⟨by decide +kernel, by decide, mem_wok 684 rfl rfl, mem_wok 76 (by decide +kernel) rfl, ⟨by decide +kernel, by decide +kernel⟩, by decide +kernel⟩
theorem stX0_isFilled : Cond.static yX0_isFilled ∈ wok := mem_wok 683 (by decide +kernel) rfl
set_option maxRecDepth 100000 in
theorem okX0_leftOut : am_ok mX0_leftOut 0 := ⟨by decide +kernel, by decide, mem_wok 695 rfl rfl, mem_wok 76 (by decide +kernel) rfl, ⟨by decide +kernel, by decide +kernel⟩, by decide +kernel⟩
theorem inX0_leftOut : Cond.instanceMethod yX0_leftOut ∈ wok := mem_wok 693 (by decide +kernel) rfl
theorem seX0_leftOut : Cond.selects yX0_leftOut.cls yX0_leftOut yX0_leftOut ∈ wok := mem_wok 694 (by decide +kernel) rfl
set_option maxRecDepth 100000 in
theorem okX0_looksAt : am_ok mX0_looksAt 1 := ⟨by decide +kernel, by decide, mem_wok 670 rfl rfl, mem_wok 76 (by decide +kernel) rfl, ⟨by decide +kernel, by decide +kernel⟩, by decide +kernel⟩
theorem inX0_looksAt : Cond.instanceMethod yX0_looksAt ∈ wok := mem_wok 668 (by decide +kernel) rfl
theorem seX0_looksAt : Cond.selects yX0_looksAt.cls yX0_looksAt yX0_looksAt ∈ wok := mem_wok 669 (by decide +kernel) rfl
set_option maxRecDepth 100000 in
theorem okX1_goesOn : am_ok mX1_goesOn 0 := ⟨by decide +kernel, by decide, mem_wok 415 rfl rfl, mem_wok 74 (by decide +kernel) rfl, ⟨by decide +kernel, by decide +kernel⟩, by decide +kernel⟩
theorem inX1_goesOn : Cond.instanceMethod yX1_goesOn ∈ wok := mem_wok 414 (by decide +kernel) rfl
theorem seX1_goesOn : Cond.selects yX1_goesOn.cls yX1_goesOn yX1_goesOn ∈ wok := mem_wok 7 (by decide +kernel) rfl
set_option maxRecDepth 100000 in
theorem okX1_init : am_ok mX1_init 0 := ⟨by decide +kernel, by decide, mem_wok 139 rfl rfl, mem_wok 74 (by decide +kernel) rfl, ⟨by decide +kernel, by decide +kernel⟩, by decide +kernel⟩
theorem inX1_init : Cond.instanceMethod yX1_init ∈ wok := mem_wok 138 (by decide +kernel) rfl
set_option maxRecDepth 100000 in
theorem okX1_isDigit : am_ok mX1_isDigit 1 := ⟨by decide +kernel, by decide, mem_wok 466 rfl rfl, mem_wok 74 (by decide +kernel) rfl, ⟨by decide +kernel, by decide +kernel⟩, by decide +kernel⟩
theorem stX1_isDigit : Cond.static yX1_isDigit ∈ wok := mem_wok 465 (by decide +kernel) rfl
set_option maxRecDepth 100000 in
theorem okX1_isLetter : am_ok mX1_isLetter 1 := ⟨by decide +kernel, by decide, mem_wok 418 rfl rfl, mem_wok 74 (by decide +kernel) rfl, ⟨by decide +kernel, by decide +kernel⟩, by decide +kernel⟩
theorem stX1_isLetter : Cond.static yX1_isLetter ∈ wok := mem_wok 417 (by decide +kernel) rfl
set_option maxRecDepth 100000 in
theorem okX1_levelJoinedBy : am_ok mX1_levelJoinedBy 1 := ⟨by decide +kernel, by decide, mem_wok 556 rfl rfl, mem_wok 74 (by decide +kernel) rfl, ⟨by decide +kernel, by decide +kernel⟩, by decide +kernel⟩
theorem stX1_levelJoinedBy : Cond.static yX1_levelJoinedBy ∈ wok := mem_wok 555 (by decide +kernel) rfl
set_option maxRecDepth 100000 in
theorem okX1_numberFromStart : am_ok mX1_numberFromStart 0 := ⟨by decide +kernel, by decide, mem_wok 470 rfl rfl, mem_wok 74 (by decide +kernel) rfl, ⟨by decide +kernel, by decide +kernel⟩, by decide +kernel⟩
theorem inX1_numberFromStart : Cond.instanceMethod yX1_numberFromStart ∈ wok := mem_wok 469 (by decide +kernel) rfl
theorem seX1_numberFromStart : Cond.selects yX1_numberFromStart.cls yX1_numberFromStart yX1_numberFromStart ∈ wok := mem_wok 9 (by decide +kernel) rfl
set_option maxRecDepth 100000 in
theorem okX1_puts : am_ok mX1_puts 1 := ⟨by decide +kernel, by decide, mem_wok 549 rfl rfl, mem_wok 74 (by decide +kernel) rfl, ⟨by decide +kernel, by decide +kernel⟩, by decide +kernel⟩
theorem inX1_puts : Cond.instanceMethod yX1_puts ∈ wok := mem_wok 548 (by decide +kernel) rfl
theorem seX1_puts : Cond.selects yX1_puts.cls yX1_puts yX1_puts ∈ wok := mem_wok 13 (by decide +kernel) rfl
set_option maxRecDepth 100000 in
theorem okX1_reads : am_ok mX1_reads 0 := ⟨by decide +kernel, by decide, mem_wok 411 rfl rfl, mem_wok 74 (by decide +kernel) rfl, ⟨by decide +kernel, by decide +kernel⟩, by decide +kernel⟩
theorem inX1_reads : Cond.instanceMethod yX1_reads ∈ wok := mem_wok 409 (by decide +kernel) rfl
theorem seX1_reads : Cond.selects yX1_reads.cls yX1_reads yX1_reads ∈ wok := mem_wok 410 (by decide +kernel) rfl
set_option maxRecDepth 100000 in
theorem okX1_readsBehind : am_ok mX1_readsBehind 3 := ⟨by decide +kernel, by decide, mem_wok 553 rfl rfl, mem_wok 74 (by decide +kernel) rfl, ⟨by decide +kernel, by decide +kernel⟩, by decide +kernel⟩
theorem inX1_readsBehind : Cond.instanceMethod yX1_readsBehind ∈ wok := mem_wok 552 (by decide +kernel) rfl
theorem seX1_readsBehind : Cond.selects yX1_readsBehind.cls yX1_readsBehind yX1_readsBehind ∈ wok := mem_wok 14 (by decide +kernel) rfl
set_option maxRecDepth 100000 in
theorem okX1_readsFrom : am_ok mX1_readsFrom 2 := ⟨by decide +kernel, by decide, mem_wok 541 rfl rfl, mem_wok 74 (by decide +kernel) rfl, ⟨by decide +kernel, by decide +kernel⟩, by decide +kernel⟩
theorem inX1_readsFrom : Cond.instanceMethod yX1_readsFrom ∈ wok := mem_wok 540 (by decide +kernel) rfl
theorem seX1_readsFrom : Cond.selects yX1_readsFrom.cls yX1_readsFrom yX1_readsFrom ∈ wok := mem_wok 11 (by decide +kernel) rfl
set_option maxRecDepth 100000 in
theorem okX1_readsOne : am_ok mX1_readsOne 1 := ⟨by decide +kernel, by decide, mem_wok 545 rfl rfl, mem_wok 74 (by decide +kernel) rfl, ⟨by decide +kernel, by decide +kernel⟩, by decide +kernel⟩
theorem inX1_readsOne : Cond.instanceMethod yX1_readsOne ∈ wok := mem_wok 544 (by decide +kernel) rfl
theorem seX1_readsOne : Cond.selects yX1_readsOne.cls yX1_readsOne yX1_readsOne ∈ wok := mem_wok 12 (by decide +kernel) rfl
set_option maxRecDepth 100000 in
theorem okX1_takes : am_ok mX1_takes 1 := ⟨by decide +kernel, by decide, mem_wok 403 rfl rfl, mem_wok 74 (by decide +kernel) rfl, ⟨by decide +kernel, by decide +kernel⟩, by decide +kernel⟩
theorem inX1_takes : Cond.instanceMethod yX1_takes ∈ wok := mem_wok 401 (by decide +kernel) rfl
theorem seX1_takes : Cond.selects yX1_takes.cls yX1_takes yX1_takes ∈ wok := mem_wok 402 (by decide +kernel) rfl
set_option maxRecDepth 100000 in
theorem okX1_wants : am_ok mX1_wants 1 := ⟨by decide +kernel, by decide, mem_wok 537 rfl rfl, mem_wok 74 (by decide +kernel) rfl, ⟨by decide +kernel, by decide +kernel⟩, by decide +kernel⟩
theorem inX1_wants : Cond.instanceMethod yX1_wants ∈ wok := mem_wok 536 (by decide +kernel) rfl
theorem seX1_wants : Cond.selects yX1_wants.cls yX1_wants yX1_wants ∈ wok := mem_wok 10 (by decide +kernel) rfl
set_option maxRecDepth 100000 in
theorem okX1_wordFromStart : am_ok mX1_wordFromStart 0 := ⟨by decide +kernel, by decide, mem_wok 422 rfl rfl, mem_wok 74 (by decide +kernel) rfl, ⟨by decide +kernel, by decide +kernel⟩, by decide +kernel⟩
theorem inX1_wordFromStart : Cond.instanceMethod yX1_wordFromStart ∈ wok := mem_wok 421 (by decide +kernel) rfl
theorem seX1_wordFromStart : Cond.selects yX1_wordFromStart.cls yX1_wordFromStart yX1_wordFromStart ∈ wok := mem_wok 8 (by decide +kernel) rfl
set_option maxRecDepth 100000 in
theorem okX2_becomes : am_ok mX2_becomes 2 := ⟨by decide +kernel, by decide, mem_wok 772 rfl rfl, mem_wok 77 (by decide +kernel) rfl, ⟨by decide +kernel, by decide +kernel⟩, by decide +kernel⟩
theorem inX2_becomes : Cond.instanceMethod yX2_becomes ∈ wok := mem_wok 770 (by decide +kernel) rfl
theorem seX2_becomes : Cond.selects yX2_becomes.cls yX2_becomes yX2_becomes ∈ wok := mem_wok 771 (by decide +kernel) rfl
set_option maxRecDepth 100000 in
theorem okX2_has : am_ok mX2_has 2 := ⟨by decide +kernel, by decide, mem_wok 819 rfl rfl, mem_wok 77 (by decide +kernel) rfl, ⟨by decide +kernel, by decide +kernel⟩, by decide +kernel⟩
theorem inX2_has : Cond.instanceMethod yX2_has ∈ wok := mem_wok 817 (by decide +kernel) rfl
theorem seX2_has : Cond.selects yX2_has.cls yX2_has yX2_has ∈ wok := mem_wok 818 (by decide +kernel) rfl
set_option maxRecDepth 100000 in
theorem okX2_init : am_ok mX2_init 0 := ⟨by decide +kernel, by decide, mem_wok 244 rfl rfl, mem_wok 77 (by decide +kernel) rfl, ⟨by decide +kernel, by decide +kernel⟩, by decide +kernel⟩
theorem inX2_init : Cond.instanceMethod yX2_init ∈ wok := mem_wok 243 (by decide +kernel) rfl
set_option maxRecDepth 100000 in
theorem okX2_isAllIn : am_ok mX2_isAllIn 2 := ⟨by decide +kernel, by decide, mem_wok 657 rfl rfl, mem_wok 77 (by decide +kernel) rfl, ⟨by decide +kernel, by decide +kernel⟩, by decide +kernel⟩
theorem inX2_isAllIn : Cond.instanceMethod yX2_isAllIn ∈ wok := mem_wok 655 (by decide +kernel) rfl
theorem seX2_isAllIn : Cond.selects yX2_isAllIn.cls yX2_isAllIn yX2_isAllIn ∈ wok := mem_wok 656 (by decide +kernel) rfl
set_option maxRecDepth 100000 in
theorem okX2_isMissing : am_ok mX2_isMissing 0 := ⟨by decide +kernel, by decide, mem_wok 653 rfl rfl, mem_wok 77 (by decide +kernel) rfl, ⟨by decide +kernel, by decide +kernel⟩, by decide +kernel⟩
theorem inX2_isMissing : Cond.instanceMethod yX2_isMissing ∈ wok := mem_wok 651 (by decide +kernel) rfl
theorem seX2_isMissing : Cond.selects yX2_isMissing.cls yX2_isMissing yX2_isMissing ∈ wok := mem_wok 652 (by decide +kernel) rfl
set_option maxRecDepth 100000 in
theorem okX2_puts : am_ok mX2_puts 2 := ⟨by decide +kernel, by decide, mem_wok 777 rfl rfl, mem_wok 77 (by decide +kernel) rfl, ⟨by decide +kernel, by decide +kernel⟩, by decide +kernel⟩
theorem inX2_puts : Cond.instanceMethod yX2_puts ∈ wok := mem_wok 775 (by decide +kernel) rfl
theorem seX2_puts : Cond.selects yX2_puts.cls yX2_puts yX2_puts ∈ wok := mem_wok 776 (by decide +kernel) rfl
set_option maxRecDepth 100000 in
theorem okX3_adds : am_ok mX3_adds 4 := ⟨by decide +kernel, by decide, mem_wok 308 rfl rfl, mem_wok 75 (by decide +kernel) rfl, ⟨by decide +kernel, by decide +kernel⟩, by decide +kernel⟩
theorem inX3_adds : Cond.instanceMethod yX3_adds ∈ wok := mem_wok 306 (by decide +kernel) rfl
theorem seX3_adds : Cond.selects yX3_adds.cls yX3_adds yX3_adds ∈ wok := mem_wok 307 (by decide +kernel) rfl
set_option maxRecDepth 100000 in
theorem okX3_becomes : am_ok mX3_becomes 1 := ⟨by decide +kernel, by decide, mem_wok 607 rfl rfl, mem_wok 75 (by decide +kernel) rfl, ⟨by decide +kernel, by decide +kernel⟩, by decide +kernel⟩
theorem inX3_becomes : Cond.instanceMethod yX3_becomes ∈ wok := mem_wok 605 (by decide +kernel) rfl
theorem seX3_becomes : Cond.selects yX3_becomes.cls yX3_becomes yX3_becomes ∈ wok := mem_wok 606 (by decide +kernel) rfl
set_option maxRecDepth 100000 in
theorem okX3_carriedOn : am_ok mX3_carriedOn 1 := ⟨by decide +kernel, by decide, mem_wok 395 rfl rfl, mem_wok 75 (by decide +kernel) rfl, ⟨by decide +kernel, by decide +kernel⟩, by decide +kernel⟩
theorem inX3_carriedOn : Cond.instanceMethod yX3_carriedOn ∈ wok := mem_wok 393 (by decide +kernel) rfl
theorem seX3_carriedOn : Cond.selects yX3_carriedOn.cls yX3_carriedOn yX3_carriedOn ∈ wok := mem_wok 394 (by decide +kernel) rfl
set_option maxRecDepth 100000 in
theorem okX3_farthestOut : am_ok mX3_farthestOut 0 := ⟨by decide +kernel, by decide, mem_wok 634 rfl rfl, mem_wok 75 (by decide +kernel) rfl, ⟨by decide +kernel, by decide +kernel⟩, by decide +kernel⟩
theorem inX3_farthestOut : Cond.instanceMethod yX3_farthestOut ∈ wok := mem_wok 632 (by decide +kernel) rfl
theorem seX3_farthestOut : Cond.selects yX3_farthestOut.cls yX3_farthestOut yX3_farthestOut ∈ wok := mem_wok 633 (by decide +kernel) rfl
set_option maxRecDepth 100000 in
theorem okX3_howManyApartByClash : am_ok mX3_howManyApartByClash 0 := ⟨by decide +kernel, by decide, mem_wok 806 rfl rfl, mem_wok 75 (by decide +kernel) rfl, ⟨by decide +kernel, by decide +kernel⟩, by decide +kernel⟩
theorem inX3_howManyApartByClash : Cond.instanceMethod yX3_howManyApartByClash ∈ wok := mem_wok 804 (by decide +kernel) rfl
theorem seX3_howManyApartByClash : Cond.selects yX3_howManyApartByClash.cls yX3_howManyApartByClash yX3_howManyApartByClash ∈ wok := mem_wok 805 (by decide +kernel) rfl
set_option maxRecDepth 100000 in
theorem okX3_howManyPlaces : am_ok mX3_howManyPlaces 0 := ⟨by decide +kernel, by decide, mem_wok 616 rfl rfl, mem_wok 75 (by decide +kernel) rfl, ⟨by decide +kernel, by decide +kernel⟩, by decide +kernel⟩
theorem inX3_howManyPlaces : Cond.instanceMethod yX3_howManyPlaces ∈ wok := mem_wok 614 (by decide +kernel) rfl
theorem seX3_howManyPlaces : Cond.selects yX3_howManyPlaces.cls yX3_howManyPlaces yX3_howManyPlaces ∈ wok := mem_wok 615 (by decide +kernel) rfl
set_option maxRecDepth 100000 in
theorem okX3_howManyRound : am_ok mX3_howManyRound 0 := ⟨by decide +kernel, by decide, mem_wok 599 rfl rfl, mem_wok 75 (by decide +kernel) rfl, ⟨by decide +kernel, by decide +kernel⟩, by decide +kernel⟩
theorem inX3_howManyRound : Cond.instanceMethod yX3_howManyRound ∈ wok := mem_wok 597 (by decide +kernel) rfl
theorem seX3_howManyRound : Cond.selects yX3_howManyRound.cls yX3_howManyRound yX3_howManyRound ∈ wok := mem_wok 598 (by decide +kernel) rfl
set_option maxRecDepth 100000 in
theorem okX3_hurtsAt : am_ok mX3_hurtsAt 1 := ⟨by decide +kernel, by decide, mem_wok 662 rfl rfl, mem_wok 75 (by decide +kernel) rfl, ⟨by decide +kernel, by decide +kernel⟩, by decide +kernel⟩
theorem inX3_hurtsAt : Cond.instanceMethod yX3_hurtsAt ∈ wok := mem_wok 660 (by decide +kernel) rfl
theorem seX3_hurtsAt : Cond.selects yX3_hurtsAt.cls yX3_hurtsAt yX3_hurtsAt ∈ wok := mem_wok 661 (by decide +kernel) rfl
set_option maxRecDepth 100000 in
theorem okX3_init : am_ok mX3_init 1 := ⟨by decide +kernel, by decide, mem_wok 175 rfl rfl, mem_wok 75 (by decide +kernel) rfl, ⟨by decide +kernel, by decide +kernel⟩, by decide +kernel⟩
theorem inX3_init : Cond.instanceMethod yX3_init ∈ wok := mem_wok 174 (by decide +kernel) rfl
set_option maxRecDepth 100000 in
theorem okX3_isApartByClash : am_ok mX3_isApartByClash 2 := ⟨by decide +kernel, by decide, mem_wok 677 rfl rfl, mem_wok 75 (by decide +kernel) rfl, ⟨by decide +kernel, by decide +kernel⟩, by decide +kernel⟩
theorem inX3_isApartByClash : Cond.instanceMethod yX3_isApartByClash ∈ wok := mem_wok 675 (by decide +kernel) rfl
theorem seX3_isApartByClash : Cond.selects yX3_isApartByClash.cls yX3_isApartByClash yX3_isApartByClash ∈ wok := mem_wok 676 (by decide +kernel) rfl
set_option maxRecDepth 100000 in
theorem okX3_isClashing : am_ok mX3_isClashing 2 := ⟨by decide +kernel, by decide, mem_wok 373 rfl rfl, mem_wok 75 (by decide +kernel) rfl, ⟨by decide +kernel, by decide +kernel⟩, by decide +kernel⟩
theorem inX3_isClashing : Cond.instanceMethod yX3_isClashing ∈ wok := mem_wok 372 (by decide +kernel) rfl
theorem seX3_isClashing : Cond.selects yX3_isClashing.cls yX3_isClashing yX3_isClashing ∈ wok := mem_wok 4 (by decide +kernel) rfl
set_option maxRecDepth 100000 in
theorem okX3_isYes : am_ok mX3_isYes 2 := ⟨by decide +kernel, by decide, mem_wok 377 rfl rfl, mem_wok 75 (by decide +kernel) rfl, ⟨by decide +kernel, by decide +kernel⟩, by decide +kernel⟩
theorem inX3_isYes : Cond.instanceMethod yX3_isYes ∈ wok := mem_wok 376 (by decide +kernel) rfl
theorem seX3_isYes : Cond.selects yX3_isYes.cls yX3_isYes yX3_isYes ∈ wok := mem_wok 5 (by decide +kernel) rfl
set_option maxRecDepth 100000 in
theorem okX3_isYesAcross : am_ok mX3_isYesAcross 2 := ⟨by decide +kernel, by decide, mem_wok 387 rfl rfl, mem_wok 75 (by decide +kernel) rfl, ⟨by decide +kernel, by decide +kernel⟩, by decide +kernel⟩
theorem inX3_isYesAcross : Cond.instanceMethod yX3_isYesAcross ∈ wok := mem_wok 386 (by decide +kernel) rfl
theorem seX3_isYesAcross : Cond.selects yX3_isYesAcross.cls yX3_isYesAcross yX3_isYesAcross ∈ wok := mem_wok 6 (by decide +kernel) rfl
set_option maxRecDepth 100000 in
theorem okX3_namesAlone : am_ok mX3_namesAlone 1 := ⟨by decide +kernel, by decide, mem_wok 326 rfl rfl, mem_wok 75 (by decide +kernel) rfl, ⟨by decide +kernel, by decide +kernel⟩, by decide +kernel⟩
theorem inX3_namesAlone : Cond.instanceMethod yX3_namesAlone ∈ wok := mem_wok 325 (by decide +kernel) rfl
theorem seX3_namesAlone : Cond.selects yX3_namesAlone.cls yX3_namesAlone yX3_namesAlone ∈ wok := mem_wok 1 (by decide +kernel) rfl
set_option maxRecDepth 100000 in
theorem okX3_othersWith : am_ok mX3_othersWith 1 := ⟨by decide +kernel, by decide, mem_wok 365 rfl rfl, mem_wok 75 (by decide +kernel) rfl, ⟨by decide +kernel, by decide +kernel⟩, by decide +kernel⟩
theorem inX3_othersWith : Cond.instanceMethod yX3_othersWith ∈ wok := mem_wok 364 (by decide +kernel) rfl
theorem seX3_othersWith : Cond.selects yX3_othersWith.cls yX3_othersWith yX3_othersWith ∈ wok := mem_wok 3 (by decide +kernel) rfl
set_option maxRecDepth 100000 in
theorem okX3_passes : am_ok mX3_passes 0 := ⟨by decide +kernel, by decide, mem_wok 589 rfl rfl, mem_wok 75 (by decide +kernel) rfl, ⟨by decide +kernel, by decide +kernel⟩, by decide +kernel⟩
theorem inX3_passes : Cond.instanceMethod yX3_passes ∈ wok := mem_wok 587 (by decide +kernel) rfl
theorem seX3_passes : Cond.selects yX3_passes.cls yX3_passes yX3_passes ∈ wok := mem_wok 588 (by decide +kernel) rfl
set_option maxRecDepth 100000 in
theorem okX3_sharpTogether : am_ok mX3_sharpTogether 0 := ⟨by decide +kernel, by decide, mem_wok 612 rfl rfl, mem_wok 75 (by decide +kernel) rfl, ⟨by decide +kernel, by decide +kernel⟩, by decide +kernel⟩
theorem inX3_sharpTogether : Cond.instanceMethod yX3_sharpTogether ∈ wok := mem_wok 610 (by decide +kernel) rfl
theorem seX3_sharpTogether : Cond.selects yX3_sharpTogether.cls yX3_sharpTogether yX3_sharpTogether ∈ wok := mem_wok 611 (by decide +kernel) rfl
set_option maxRecDepth 100000 in
theorem okX3_valuesOf : am_ok mX3_valuesOf 1 := ⟨by decide +kernel, by decide, mem_wok 300 rfl rfl, mem_wok 75 (by decide +kernel) rfl, ⟨by decide +kernel, by decide +kernel⟩, by decide +kernel⟩
theorem inX3_valuesOf : Cond.instanceMethod yX3_valuesOf ∈ wok := mem_wok 298 (by decide +kernel) rfl
theorem seX3_valuesOf : Cond.selects yX3_valuesOf.cls yX3_valuesOf yX3_valuesOf ∈ wok := mem_wok 299 (by decide +kernel) rfl
set_option maxRecDepth 100000 in
theorem okX3_wereOne : am_ok mX3_wereOne 3 := ⟨by decide +kernel, by decide, mem_wok 716 rfl rfl, mem_wok 75 (by decide +kernel) rfl, ⟨by decide +kernel, by decide +kernel⟩, by decide +kernel⟩
theorem inX3_wereOne : Cond.instanceMethod yX3_wereOne ∈ wok := mem_wok 714 (by decide +kernel) rfl
theorem seX3_wereOne : Cond.selects yX3_wereOne.cls yX3_wereOne yX3_wereOne ∈ wok := mem_wok 715 (by decide +kernel) rfl
set_option maxRecDepth 100000 in
theorem okX3_whichAt : am_ok mX3_whichAt 1 := ⟨by decide +kernel, by decide, mem_wok 318 rfl rfl, mem_wok 75 (by decide +kernel) rfl, ⟨by decide +kernel, by decide +kernel⟩, by decide +kernel⟩
theorem inX3_whichAt : Cond.instanceMethod yX3_whichAt ∈ wok := mem_wok 316 (by decide +kernel) rfl
theorem seX3_whichAt : Cond.selects yX3_whichAt.cls yX3_whichAt yX3_whichAt ∈ wok := mem_wok 317 (by decide +kernel) rfl
set_option maxRecDepth 100000 in
theorem okX3_whichClash : am_ok mX3_whichClash 1 := ⟨by decide +kernel, by decide, mem_wok 369 rfl rfl, mem_wok 75 (by decide +kernel) rfl, ⟨by decide +kernel, by decide +kernel⟩, by decide +kernel⟩
theorem inX3_whichClash : Cond.instanceMethod yX3_whichClash ∈ wok := mem_wok 367 (by decide +kernel) rfl
theorem seX3_whichClash : Cond.selects yX3_whichClash.cls yX3_whichClash yX3_whichClash ∈ wok := mem_wok 368 (by decide +kernel) rfl
set_option maxRecDepth 100000 in
theorem okX3_wornByKind : am_ok mX3_wornByKind 2 := ⟨by decide +kernel, by decide, mem_wok 361 rfl rfl, mem_wok 75 (by decide +kernel) rfl, ⟨by decide +kernel, by decide +kernel⟩, by decide +kernel⟩
theorem inX3_wornByKind : Cond.instanceMethod yX3_wornByKind ∈ wok := mem_wok 360 (by decide +kernel) rfl
theorem seX3_wornByKind : Cond.selects yX3_wornByKind.cls yX3_wornByKind yX3_wornByKind ∈ wok := mem_wok 2 (by decide +kernel) rfl
set_option maxRecDepth 100000 in
theorem okX3_wornOff : am_ok mX3_wornOff 1 := ⟨by decide +kernel, by decide, mem_wok 322 rfl rfl, mem_wok 75 (by decide +kernel) rfl, ⟨by decide +kernel, by decide +kernel⟩, by decide +kernel⟩
theorem inX3_wornOff : Cond.instanceMethod yX3_wornOff ∈ wok := mem_wok 320 (by decide +kernel) rfl
theorem seX3_wornOff : Cond.selects yX3_wornOff.cls yX3_wornOff yX3_wornOff ∈ wok := mem_wok 321 (by decide +kernel) rfl
set_option maxRecDepth 100000 in
theorem okX4_endOf : am_ok mX4_endOf 1 := ⟨by decide +kernel, by decide, mem_wok 338 rfl rfl, mem_wok 73 (by decide +kernel) rfl, ⟨by decide +kernel, by decide +kernel⟩, by decide +kernel⟩
theorem inX4_endOf : Cond.instanceMethod yX4_endOf ∈ wok := mem_wok 336 (by decide +kernel) rfl
theorem seX4_endOf : Cond.selects yX4_endOf.cls yX4_endOf yX4_endOf ∈ wok := mem_wok 337 (by decide +kernel) rfl
set_option maxRecDepth 100000 in
theorem okX4_init : am_ok mX4_init 3 := ⟨by decide +kernel, by decide, mem_wok 107 rfl rfl, mem_wok 73 (by decide +kernel) rfl, ⟨by decide +kernel, by decide +kernel⟩, by decide +kernel⟩
theorem inX4_init : Cond.instanceMethod yX4_init ∈ wok := mem_wok 106 (by decide +kernel) rfl
set_option maxRecDepth 100000 in
theorem okX4_startOf : am_ok mX4_startOf 1 := ⟨by decide +kernel, by decide, mem_wok 342 rfl rfl, mem_wok 73 (by decide +kernel) rfl, ⟨by decide +kernel, by decide +kernel⟩, by decide +kernel⟩
theorem inX4_startOf : Cond.instanceMethod yX4_startOf ∈ wok := mem_wok 340 (by decide +kernel) rfl
theorem seX4_startOf : Cond.selects yX4_startOf.cls yX4_startOf yX4_startOf ∈ wok := mem_wok 341 (by decide +kernel) rfl
set_option maxRecDepth 100000 in
theorem okX5_adds : am_ok mX5_adds 1 := ⟨by decide +kernel, by decide, mem_wok 576 rfl rfl, mem_wok 72 (by decide +kernel) rfl, ⟨by decide +kernel, by decide +kernel⟩, by decide +kernel⟩
theorem inX5_adds : Cond.instanceMethod yX5_adds ∈ wok := mem_wok 574 (by decide +kernel) rfl
theorem seX5_adds : Cond.selects yX5_adds.cls yX5_adds yX5_adds ∈ wok := mem_wok 575 (by decide +kernel) rfl
set_option maxRecDepth 100000 in
theorem okX5_alone : am_ok mX5_alone 2 := ⟨by decide +kernel, by decide, mem_wok 345 rfl rfl, mem_wok 72 (by decide +kernel) rfl, ⟨by decide +kernel, by decide +kernel⟩, by decide +kernel⟩
theorem stX5_alone : Cond.static yX5_alone ∈ wok := mem_wok 344 (by decide +kernel) rfl
set_option maxRecDepth 100000 in
theorem okX5_init : am_ok mX5_init 0 := ⟨by decide +kernel, by decide, mem_wok 100 rfl rfl, mem_wok 72 (by decide +kernel) rfl, ⟨by decide +kernel, by decide +kernel⟩, by decide +kernel⟩
theorem inX5_init : Cond.instanceMethod yX5_init ∈ wok := mem_wok 99 (by decide +kernel) rfl
set_option maxRecDepth 100000 in
theorem okX5_joined : am_ok mX5_joined 3 := ⟨by decide +kernel, by decide, mem_wok 348 rfl rfl, mem_wok 72 (by decide +kernel) rfl, ⟨by decide +kernel, by decide +kernel⟩, by decide +kernel⟩
theorem stX5_joined : Cond.static yX5_joined ∈ wok := mem_wok 347 (by decide +kernel) rfl
set_option maxRecDepth 100000 in
theorem okX5_names : am_ok mX5_names 6 := ⟨by decide +kernel, by decide, mem_wok 330 rfl rfl, mem_wok 72 (by decide +kernel) rfl, ⟨by decide +kernel, by decide +kernel⟩, by decide +kernel⟩
theorem inX5_names : Cond.instanceMethod yX5_names ∈ wok := mem_wok 328 (by decide +kernel) rfl
theorem seX5_names : Cond.selects yX5_names.cls yX5_names yX5_names ∈ wok := mem_wok 329 (by decide +kernel) rfl
set_option maxRecDepth 100000 in
theorem okX5_valueOf : am_ok mX5_valueOf 2 := ⟨by decide +kernel, by decide, mem_wok 334 rfl rfl, mem_wok 72 (by decide +kernel) rfl, ⟨by decide +kernel, by decide +kernel⟩, by decide +kernel⟩
theorem inX5_valueOf : Cond.instanceMethod yX5_valueOf ∈ wok := mem_wok 332 (by decide +kernel) rfl
theorem seX5_valueOf : Cond.selects yX5_valueOf.cls yX5_valueOf yX5_valueOf ∈ wok := mem_wok 333 (by decide +kernel) rfl
set_option maxRecDepth 100000 in
theorem okX6_all : am_ok mX6_all 1 := ⟨by decide +kernel, by decide, mem_wok 626 rfl rfl, mem_wok 71 (by decide +kernel) rfl, ⟨by decide +kernel, by decide +kernel⟩, by decide +kernel⟩
theorem inX6_all : Cond.instanceMethod yX6_all ∈ wok := mem_wok 624 (by decide +kernel) rfl
theorem seX6_all : Cond.selects yX6_all.cls yX6_all yX6_all ∈ wok := mem_wok 625 (by decide +kernel) rfl
set_option maxRecDepth 100000 in
theorem okX6_apart : am_ok mX6_apart 2 := ⟨by decide +kernel, by decide, mem_wok 380 rfl rfl, mem_wok 71 (by decide +kernel) rfl, ⟨by decide +kernel, by decide +kernel⟩, by decide +kernel⟩
theorem stX6_apart : Cond.static yX6_apart ∈ wok := mem_wok 379 (by decide +kernel) rfl
set_option maxRecDepth 100000 in
theorem okX6_areTwo : am_ok mX6_areTwo 2 := ⟨by decide +kernel, by decide, mem_wok 642 rfl rfl, mem_wok 71 (by decide +kernel) rfl, ⟨by decide +kernel, by decide +kernel⟩, by decide +kernel⟩
theorem inX6_areTwo : Cond.instanceMethod yX6_areTwo ∈ wok := mem_wok 641 (by decide +kernel) rfl
theorem seX6_areTwo : Cond.selects yX6_areTwo.cls yX6_areTwo yX6_areTwo ∈ wok := mem_wok 16 (by decide +kernel) rfl
set_option maxRecDepth 100000 in
theorem okX6_back : am_ok mX6_back 0 := ⟨by decide +kernel, by decide, mem_wok 798 rfl rfl, mem_wok 71 (by decide +kernel) rfl, ⟨by decide +kernel, by decide +kernel⟩, by decide +kernel⟩
theorem inX6_back : Cond.instanceMethod yX6_back ∈ wok := mem_wok 796 (by decide +kernel) rfl
theorem seX6_back : Cond.selects yX6_back.cls yX6_back yX6_back ∈ wok := mem_wok 797 (by decide +kernel) rfl
set_option maxRecDepth 100000 in
theorem okX6_behindWhichAllAreRound : am_ok mX6_behindWhichAllAreRound 0 := ⟨by decide +kernel, by decide, mem_wok 630 rfl rfl, mem_wok 71 (by decide +kernel) rfl, ⟨by decide +kernel, by decide +kernel⟩, by decide +kernel⟩
theorem inX6_behindWhichAllAreRound : Cond.instanceMethod yX6_behindWhichAllAreRound ∈ wok := mem_wok 629 (by decide +kernel) rfl
theorem seX6_behindWhichAllAreRound : Cond.selects yX6_behindWhichAllAreRound.cls yX6_behindWhichAllAreRound yX6_behindWhichAllAreRound ∈ wok := mem_wok 15 (by decide +kernel) rfl
set_option maxRecDepth 100000 in
theorem okX6_behindWhichRoundFrom : am_ok mX6_behindWhichRoundFrom 3 := ⟨by decide +kernel, by decide, mem_wok 724 rfl rfl, mem_wok 71 (by decide +kernel) rfl, ⟨by decide +kernel, by decide +kernel⟩, by decide +kernel⟩
theorem inX6_behindWhichRoundFrom : Cond.instanceMethod yX6_behindWhichRoundFrom ∈ wok := mem_wok 723 (by decide +kernel) rfl
theorem seX6_behindWhichRoundFrom : Cond.selects yX6_behindWhichRoundFrom.cls yX6_behindWhichRoundFrom yX6_behindWhichRoundFrom ∈ wok := mem_wok 17 (by decide +kernel) rfl
set_option maxRecDepth 100000 in
theorem okX6_bounded : am_ok mX6_bounded 3 := ⟨by decide +kernel, by decide, mem_wok 351 rfl rfl, mem_wok 71 (by decide +kernel) rfl, ⟨by decide +kernel, by decide +kernel⟩, by decide +kernel⟩
theorem stX6_bounded : Cond.static yX6_bounded ∈ wok := mem_wok 350 (by decide +kernel) rfl
set_option maxRecDepth 100000 in
theorem okX6_can : am_ok mX6_can 2 := ⟨by decide +kernel, by decide, mem_wok 704 rfl rfl, mem_wok 71 (by decide +kernel) rfl, ⟨by decide +kernel, by decide +kernel⟩, by decide +kernel⟩
theorem inX6_can : Cond.instanceMethod yX6_can ∈ wok := mem_wok 702 (by decide +kernel) rfl
theorem seX6_can : Cond.selects yX6_can.cls yX6_can yX6_can ∈ wok := mem_wok 703 (by decide +kernel) rfl
set_option maxRecDepth 100000 in
theorem okX6_carried : am_ok mX6_carried 1 := ⟨by decide +kernel, by decide, mem_wok 391 rfl rfl, mem_wok 71 (by decide +kernel) rfl, ⟨by decide +kernel, by decide +kernel⟩, by decide +kernel⟩
theorem inX6_carried : Cond.instanceMethod yX6_carried ∈ wok := mem_wok 389 (by decide +kernel) rfl
theorem seX6_carried : Cond.selects yX6_carried.cls yX6_carried yX6_carried ∈ wok := mem_wok 390 (by decide +kernel) rfl
set_option maxRecDepth 100000 in
theorem okX6_cell : am_ok mX6_cell 3 := ⟨by decide +kernel, by decide, mem_wok 815 rfl rfl, mem_wok 71 (by decide +kernel) rfl, ⟨by decide +kernel, by decide +kernel⟩, by decide +kernel⟩
theorem inX6_cell : Cond.instanceMethod yX6_cell ∈ wok := mem_wok 813 (by decide +kernel) rfl
theorem seX6_cell : Cond.selects yX6_cell.cls yX6_cell yX6_cell ∈ wok := mem_wok 814 (by decide +kernel) rfl
set_option maxRecDepth 100000 in
theorem okX6_chance : am_ok mX6_chance 4 := ⟨by decide +kernel, by decide, mem_wok 790 rfl rfl, mem_wok 71 (by decide +kernel) rfl, ⟨by decide +kernel, by decide +kernel⟩, by decide +kernel⟩
theorem inX6_chance : Cond.instanceMethod yX6_chance ∈ wok := mem_wok 788 (by decide +kernel) rfl
theorem seX6_chance : Cond.selects yX6_chance.cls yX6_chance yX6_chance ∈ wok := mem_wok 789 (by decide +kernel) rfl
set_option maxRecDepth 100000 in
theorem okX6_copy : am_ok mX6_copy 5 := ⟨by decide +kernel, by decide, mem_wok 823 rfl rfl, mem_wok 71 (by decide +kernel) rfl, ⟨by decide +kernel, by decide +kernel⟩, by decide +kernel⟩
theorem inX6_copy : Cond.instanceMethod yX6_copy ∈ wok := mem_wok 821 (by decide +kernel) rfl
theorem seX6_copy : Cond.selects yX6_copy.cls yX6_copy yX6_copy ∈ wok := mem_wok 822 (by decide +kernel) rfl
set_option maxRecDepth 100000 in
theorem okX6_count : am_ok mX6_count 1 := ⟨by decide +kernel, by decide, mem_wok 802 rfl rfl, mem_wok 71 (by decide +kernel) rfl, ⟨by decide +kernel, by decide +kernel⟩, by decide +kernel⟩
theorem inX6_count : Cond.instanceMethod yX6_count ∈ wok := mem_wok 800 (by decide +kernel) rfl
theorem seX6_count : Cond.selects yX6_count.cls yX6_count yX6_count ∈ wok := mem_wok 801 (by decide +kernel) rfl
set_option maxRecDepth 100000 in
theorem okX6_drawn : am_ok mX6_drawn 2 := ⟨by decide +kernel, by decide, mem_wok 781 rfl rfl, mem_wok 71 (by decide +kernel) rfl, ⟨by decide +kernel, by decide +kernel⟩, by decide +kernel⟩
theorem inX6_drawn : Cond.instanceMethod yX6_drawn ∈ wok := mem_wok 779 (by decide +kernel) rfl
theorem seX6_drawn : Cond.selects yX6_drawn.cls yX6_drawn yX6_drawn ∈ wok := mem_wok 780 (by decide +kernel) rfl
set_option maxRecDepth 100000 in
theorem okX6_feed : am_ok mX6_feed 1 := ⟨by decide +kernel, by decide, mem_wok 399 rfl rfl, mem_wok 71 (by decide +kernel) rfl, ⟨by decide +kernel, by decide +kernel⟩, by decide +kernel⟩
theorem inX6_feed : Cond.instanceMethod yX6_feed ∈ wok := mem_wok 397 (by decide +kernel) rfl
theorem seX6_feed : Cond.selects yX6_feed.cls yX6_feed yX6_feed ∈ wok := mem_wok 398 (by decide +kernel) rfl
set_option maxRecDepth 100000 in
theorem okX6_film : am_ok mX6_film 3 := ⟨by decide +kernel, by decide, mem_wok 768 rfl rfl, mem_wok 71 (by decide +kernel) rfl, ⟨by decide +kernel, by decide +kernel⟩, by decide +kernel⟩
theorem inX6_film : Cond.instanceMethod yX6_film ∈ wok := mem_wok 766 (by decide +kernel) rfl
theorem seX6_film : Cond.selects yX6_film.cls yX6_film yX6_film ∈ wok := mem_wok 767 (by decide +kernel) rfl
set_option maxRecDepth 100000 in
theorem okX6_finds : am_ok mX6_finds 4 := ⟨by decide +kernel, by decide, mem_wok 828 rfl rfl, mem_wok 71 (by decide +kernel) rfl, ⟨by decide +kernel, by decide +kernel⟩, by decide +kernel⟩
theorem inX6_finds : Cond.instanceMethod yX6_finds ∈ wok := mem_wok 826 (by decide +kernel) rfl
theorem seX6_finds : Cond.selects yX6_finds.cls yX6_finds yX6_finds ∈ wok := mem_wok 827 (by decide +kernel) rfl
set_option maxRecDepth 100000 in
theorem okX6_firstOtherwise : am_ok mX6_firstOtherwise 2 := ⟨by decide +kernel, by decide, mem_wok 740 rfl rfl, mem_wok 71 (by decide +kernel) rfl, ⟨by decide +kernel, by decide +kernel⟩, by decide +kernel⟩
theorem inX6_firstOtherwise : Cond.instanceMethod yX6_firstOtherwise ∈ wok := mem_wok 739 (by decide +kernel) rfl
theorem seX6_firstOtherwise : Cond.selects yX6_firstOtherwise.cls yX6_firstOtherwise yX6_firstOtherwise ∈ wok := mem_wok 18 (by decide +kernel) rfl
set_option maxRecDepth 100000 in
theorem okX6_force : am_ok mX6_force 1 := ⟨by decide +kernel, by decide, mem_wok 581 rfl rfl, mem_wok 71 (by decide +kernel) rfl, ⟨by decide +kernel, by decide +kernel⟩, by decide +kernel⟩
theorem inX6_force : Cond.instanceMethod yX6_force ∈ wok := mem_wok 579 (by decide +kernel) rfl
theorem seX6_force : Cond.selects yX6_force.cls yX6_force yX6_force ∈ wok := mem_wok 580 (by decide +kernel) rfl
set_option maxRecDepth 100000 in
theorem okX6_howManyRoundBySeed : am_ok mX6_howManyRoundBySeed 2 := ⟨by decide +kernel, by decide, mem_wok 785 rfl rfl, mem_wok 71 (by decide +kernel) rfl, ⟨by decide +kernel, by decide +kernel⟩, by decide +kernel⟩
theorem inX6_howManyRoundBySeed : Cond.instanceMethod yX6_howManyRoundBySeed ∈ wok := mem_wok 784 (by decide +kernel) rfl
theorem seX6_howManyRoundBySeed : Cond.selects yX6_howManyRoundBySeed.cls yX6_howManyRoundBySeed yX6_howManyRoundBySeed ∈ wok := mem_wok 25 (by decide +kernel) rfl
set_option maxRecDepth 100000 in
theorem okX6_howManySharpsAreSo : am_ok mX6_howManySharpsAreSo 2 := ⟨by decide +kernel, by decide, mem_wok 752 rfl rfl, mem_wok 71 (by decide +kernel) rfl, ⟨by decide +kernel, by decide +kernel⟩, by decide +kernel⟩
theorem inX6_howManySharpsAreSo : Cond.instanceMethod yX6_howManySharpsAreSo ∈ wok := mem_wok 751 (by decide +kernel) rfl
theorem seX6_howManySharpsAreSo : Cond.selects yX6_howManySharpsAreSo.cls yX6_howManySharpsAreSo yX6_howManySharpsAreSo ∈ wok := mem_wok 21 (by decide +kernel) rfl
set_option maxRecDepth 100000 in
theorem okX6_image : am_ok mX6_image 0 := ⟨by decide +kernel, by decide, mem_wok 794 rfl rfl, mem_wok 71 (by decide +kernel) rfl, ⟨by decide +kernel, by decide +kernel⟩, by decide +kernel⟩
theorem inX6_image : Cond.instanceMethod yX6_image ∈ wok := mem_wok 792 (by decide +kernel) rfl
theorem seX6_image : Cond.selects yX6_image.cls yX6_image yX6_image ∈ wok := mem_wok 793 (by decide +kernel) rfl
set_option maxRecDepth 100000 in
theorem okX6_inLowestTerms : am_ok mX6_inLowestTerms 3 := ⟨by decide +kernel, by decide, mem_wok 732 rfl rfl, mem_wok 71 (by decide +kernel) rfl, ⟨by decide +kernel, by decide +kernel⟩, by decide +kernel⟩
theorem stX6_inLowestTerms : Cond.static yX6_inLowestTerms ∈ wok := mem_wok 731 (by decide +kernel) rfl
set_option maxRecDepth 100000 in
theorem okX6_init : am_ok mX6_init 0 := ⟨by decide +kernel, by decide, mem_wok 92 rfl rfl, mem_wok 71 (by decide +kernel) rfl, ⟨by decide +kernel, by decide +kernel⟩, by decide +kernel⟩
theorem inX6_init : Cond.instanceMethod yX6_init ∈ wok := mem_wok 91 (by decide +kernel) rfl
set_option maxRecDepth 100000 in
theorem okX6_isIn : am_ok mX6_isIn 3 := ⟨by decide +kernel, by decide, mem_wok 290 rfl rfl, mem_wok 71 (by decide +kernel) rfl, ⟨by decide +kernel, by decide +kernel⟩, by decide +kernel⟩
theorem stX6_isIn : Cond.static yX6_isIn ∈ wok := mem_wok 289 (by decide +kernel) rfl
set_option maxRecDepth 100000 in
theorem okX6_isOfKind : am_ok mX6_isOfKind 2 := ⟨by decide +kernel, by decide, mem_wok 835 rfl rfl, mem_wok 71 (by decide +kernel) rfl, ⟨by decide +kernel, by decide +kernel⟩, by decide +kernel⟩
theorem stX6_isOfKind : Cond.static yX6_isOfKind ∈ wok := mem_wok 834 (by decide +kernel) rfl
set_option maxRecDepth 100000 in
theorem okX6_isPiece : am_ok mX6_isPiece 1 := ⟨by decide +kernel, by decide, mem_wok 294 rfl rfl, mem_wok 71 (by decide +kernel) rfl, ⟨by decide +kernel, by decide +kernel⟩, by decide +kernel⟩
theorem inX6_isPiece : Cond.instanceMethod yX6_isPiece ∈ wok := mem_wok 293 (by decide +kernel) rfl
theorem seX6_isPiece : Cond.selects yX6_isPiece.cls yX6_isPiece yX6_isPiece ∈ wok := mem_wok 0 (by decide +kernel) rfl
set_option maxRecDepth 100000 in
theorem okX6_isSheet : am_ok mX6_isSheet 1 := ⟨by decide +kernel, by decide, mem_wok 649 rfl rfl, mem_wok 71 (by decide +kernel) rfl, ⟨by decide +kernel, by decide +kernel⟩, by decide +kernel⟩
theorem stX6_isSheet : Cond.static yX6_isSheet ∈ wok := mem_wok 648 (by decide +kernel) rfl
set_option maxRecDepth 100000 in
theorem okX6_isSoWith : am_ok mX6_isSoWith 4 := ⟨by decide +kernel, by decide, mem_wok 748 rfl rfl, mem_wok 71 (by decide +kernel) rfl, ⟨by decide +kernel, by decide +kernel⟩, by decide +kernel⟩
theorem inX6_isSoWith : Cond.instanceMethod yX6_isSoWith ∈ wok := mem_wok 747 (by decide +kernel) rfl
theorem seX6_isSoWith : Cond.selects yX6_isSoWith.cls yX6_isSoWith yX6_isSoWith ∈ wok := mem_wok 20 (by decide +kernel) rfl
set_option maxRecDepth 100000 in
theorem okX6_jars : am_ok mX6_jars 1 := ⟨by decide +kernel, by decide, mem_wok 666 rfl rfl, mem_wok 71 (by decide +kernel) rfl, ⟨by decide +kernel, by decide +kernel⟩, by decide +kernel⟩
theorem inX6_jars : Cond.instanceMethod yX6_jars ∈ wok := mem_wok 664 (by decide +kernel) rfl
theorem seX6_jars : Cond.selects yX6_jars.cls yX6_jars yX6_jars ∈ wok := mem_wok 665 (by decide +kernel) rfl
set_option maxRecDepth 100000 in
theorem okX6_leastSharpThatIsSo : am_ok mX6_leastSharpThatIsSo 2 := ⟨by decide +kernel, by decide, mem_wok 756 rfl rfl, mem_wok 71 (by decide +kernel) rfl, ⟨by decide +kernel, by decide +kernel⟩, by decide +kernel⟩
theorem inX6_leastSharpThatIsSo : Cond.instanceMethod yX6_leastSharpThatIsSo ∈ wok := mem_wok 755 (by decide +kernel) rfl
theorem seX6_leastSharpThatIsSo : Cond.selects yX6_leastSharpThatIsSo.cls yX6_leastSharpThatIsSo yX6_leastSharpThatIsSo ∈ wok := mem_wok 22 (by decide +kernel) rfl
set_option maxRecDepth 100000 in
theorem okX6_mean : am_ok mX6_mean 1 := ⟨by decide +kernel, by decide, mem_wok 728 rfl rfl, mem_wok 71 (by decide +kernel) rfl, ⟨by decide +kernel, by decide +kernel⟩, by decide +kernel⟩
theorem inX6_mean : Cond.instanceMethod yX6_mean ∈ wok := mem_wok 726 (by decide +kernel) rfl
theorem seX6_mean : Cond.selects yX6_mean.cls yX6_mean yX6_mean ∈ wok := mem_wok 727 (by decide +kernel) rfl
set_option maxRecDepth 100000 in
theorem okX6_meet : am_ok mX6_meet 2 := ⟨by decide +kernel, by decide, mem_wok 638 rfl rfl, mem_wok 71 (by decide +kernel) rfl, ⟨by decide +kernel, by decide +kernel⟩, by decide +kernel⟩
theorem inX6_meet : Cond.instanceMethod yX6_meet ∈ wok := mem_wok 636 (by decide +kernel) rfl
theorem seX6_meet : Cond.selects yX6_meet.cls yX6_meet yX6_meet ∈ wok := mem_wok 637 (by decide +kernel) rfl
set_option maxRecDepth 100000 in
theorem okX6_mostTwos : am_ok mX6_mostTwos 4 := ⟨by decide +kernel, by decide, mem_wok 712 rfl rfl, mem_wok 71 (by decide +kernel) rfl, ⟨by decide +kernel, by decide +kernel⟩, by decide +kernel⟩
theorem stX6_mostTwos : Cond.static yX6_mostTwos ∈ wok := mem_wok 711 (by decide +kernel) rfl
set_option maxRecDepth 100000 in
theorem okX6_piece : am_ok mX6_piece 4 := ⟨by decide +kernel, by decide, mem_wok 304 rfl rfl, mem_wok 71 (by decide +kernel) rfl, ⟨by decide +kernel, by decide +kernel⟩, by decide +kernel⟩
theorem inX6_piece : Cond.instanceMethod yX6_piece ∈ wok := mem_wok 302 (by decide +kernel) rfl
theorem seX6_piece : Cond.selects yX6_piece.cls yX6_piece yX6_piece ∈ wok := mem_wok 303 (by decide +kernel) rfl
set_option maxRecDepth 100000 in
theorem okX6_run : am_ok mX6_run 3 := ⟨by decide +kernel, by decide, mem_wok 603 rfl rfl, mem_wok 71 (by decide +kernel) rfl, ⟨by decide +kernel, by decide +kernel⟩, by decide +kernel⟩
theorem inX6_run : Cond.instanceMethod yX6_run ∈ wok := mem_wok 601 (by decide +kernel) rfl
theorem seX6_run : Cond.selects yX6_run.cls yX6_run yX6_run ∈ wok := mem_wok 602 (by decide +kernel) rfl
set_option maxRecDepth 100000 in
theorem okX6_set : am_ok mX6_set 3 := ⟨by decide +kernel, by decide, mem_wok 287 rfl rfl, mem_wok 71 (by decide +kernel) rfl, ⟨by decide +kernel, by decide +kernel⟩, by decide +kernel⟩
theorem inX6_set : Cond.instanceMethod yX6_set ∈ wok := mem_wok 285 (by decide +kernel) rfl
theorem seX6_set : Cond.selects yX6_set.cls yX6_set yX6_set ∈ wok := mem_wok 286 (by decide +kernel) rfl
set_option maxRecDepth 100000 in
theorem okX6_sheet : am_ok mX6_sheet 3 := ⟨by decide +kernel, by decide, mem_wok 811 rfl rfl, mem_wok 71 (by decide +kernel) rfl, ⟨by decide +kernel, by decide +kernel⟩, by decide +kernel⟩
theorem inX6_sheet : Cond.instanceMethod yX6_sheet ∈ wok := mem_wok 809 (by decide +kernel) rfl
theorem seX6_sheet : Cond.selects yX6_sheet.cls yX6_sheet yX6_sheet ∈ wok := mem_wok 810 (by decide +kernel) rfl
set_option maxRecDepth 100000 in
theorem okX6_taken : am_ok mX6_taken 2 := ⟨by decide +kernel, by decide, mem_wok 832 rfl rfl, mem_wok 71 (by decide +kernel) rfl, ⟨by decide +kernel, by decide +kernel⟩, by decide +kernel⟩
theorem inX6_taken : Cond.instanceMethod yX6_taken ∈ wok := mem_wok 830 (by decide +kernel) rfl
theorem seX6_taken : Cond.selects yX6_taken.cls yX6_taken yX6_taken ∈ wok := mem_wok 831 (by decide +kernel) rfl
set_option maxRecDepth 100000 in
theorem okX6_tells : am_ok mX6_tells 3 := ⟨by decide +kernel, by decide, mem_wok 736 rfl rfl, mem_wok 71 (by decide +kernel) rfl, ⟨by decide +kernel, by decide +kernel⟩, by decide +kernel⟩
theorem inX6_tells : Cond.instanceMethod yX6_tells ∈ wok := mem_wok 734 (by decide +kernel) rfl
theorem seX6_tells : Cond.selects yX6_tells.cls yX6_tells yX6_tells ∈ wok := mem_wok 735 (by decide +kernel) rfl
set_option maxRecDepth 100000 in
theorem okX6_text : am_ok mX6_text 0 := ⟨by decide +kernel, by decide, mem_wok 407 rfl rfl, mem_wok 71 (by decide +kernel) rfl, ⟨by decide +kernel, by decide +kernel⟩, by decide +kernel⟩
theorem inX6_text : Cond.instanceMethod yX6_text ∈ wok := mem_wok 405 (by decide +kernel) rfl
theorem seX6_text : Cond.selects yX6_text.cls yX6_text yX6_text ∈ wok := mem_wok 406 (by decide +kernel) rfl
set_option maxRecDepth 100000 in
theorem okX6_tide : am_ok mX6_tide 0 := ⟨by decide +kernel, by decide, mem_wok 585 rfl rfl, mem_wok 71 (by decide +kernel) rfl, ⟨by decide +kernel, by decide +kernel⟩, by decide +kernel⟩
theorem inX6_tide : Cond.instanceMethod yX6_tide ∈ wok := mem_wok 583 (by decide +kernel) rfl
theorem seX6_tide : Cond.selects yX6_tide.cls yX6_tide yX6_tide ∈ wok := mem_wok 584 (by decide +kernel) rfl
set_option maxRecDepth 100000 in
theorem okX6_told : am_ok mX6_told 2 := ⟨by decide +kernel, by decide, mem_wok 314 rfl rfl, mem_wok 71 (by decide +kernel) rfl, ⟨by decide +kernel, by decide +kernel⟩, by decide +kernel⟩
theorem inX6_told : Cond.instanceMethod yX6_told ∈ wok := mem_wok 312 (by decide +kernel) rfl
theorem seX6_told : Cond.selects yX6_told.cls yX6_told yX6_told ∈ wok := mem_wok 313 (by decide +kernel) rfl
set_option maxRecDepth 100000 in
theorem okX6_toss : am_ok mX6_toss 2 := ⟨by decide +kernel, by decide, mem_wok 720 rfl rfl, mem_wok 71 (by decide +kernel) rfl, ⟨by decide +kernel, by decide +kernel⟩, by decide +kernel⟩
theorem inX6_toss : Cond.instanceMethod yX6_toss ∈ wok := mem_wok 718 (by decide +kernel) rfl
theorem seX6_toss : Cond.selects yX6_toss.cls yX6_toss yX6_toss ∈ wok := mem_wok 719 (by decide +kernel) rfl
set_option maxRecDepth 100000 in
theorem okX6_twos : am_ok mX6_twos 1 := ⟨by decide +kernel, by decide, mem_wok 709 rfl rfl, mem_wok 71 (by decide +kernel) rfl, ⟨by decide +kernel, by decide +kernel⟩, by decide +kernel⟩
theorem inX6_twos : Cond.instanceMethod yX6_twos ∈ wok := mem_wok 707 (by decide +kernel) rfl
theorem seX6_twos : Cond.selects yX6_twos.cls yX6_twos yX6_twos ∈ wok := mem_wok 708 (by decide +kernel) rfl
set_option maxRecDepth 100000 in
theorem okX6_walk : am_ok mX6_walk 1 := ⟨by decide +kernel, by decide, mem_wok 646 rfl rfl, mem_wok 71 (by decide +kernel) rfl, ⟨by decide +kernel, by decide +kernel⟩, by decide +kernel⟩
theorem inX6_walk : Cond.instanceMethod yX6_walk ∈ wok := mem_wok 644 (by decide +kernel) rfl
theorem seX6_walk : Cond.selects yX6_walk.cls yX6_walk yX6_walk ∈ wok := mem_wok 645 (by decide +kernel) rfl
set_option maxRecDepth 100000 in
theorem okX6_whichAreSo : am_ok mX6_whichAreSo 3 := ⟨by decide +kernel, by decide, mem_wok 744 rfl rfl, mem_wok 71 (by decide +kernel) rfl, ⟨by decide +kernel, by decide +kernel⟩, by decide +kernel⟩
theorem inX6_whichAreSo : Cond.instanceMethod yX6_whichAreSo ∈ wok := mem_wok 743 (by decide +kernel) rfl
theorem seX6_whichAreSo : Cond.selects yX6_whichAreSo.cls yX6_whichAreSo yX6_whichAreSo ∈ wok := mem_wok 19 (by decide +kernel) rfl
set_option maxRecDepth 100000 in
theorem okX6_whichPiecesAreSo : am_ok mX6_whichPiecesAreSo 1 := ⟨by decide +kernel, by decide, mem_wok 764 rfl rfl, mem_wok 71 (by decide +kernel) rfl, ⟨by decide +kernel, by decide +kernel⟩, by decide +kernel⟩
theorem inX6_whichPiecesAreSo : Cond.instanceMethod yX6_whichPiecesAreSo ∈ wok := mem_wok 763 (by decide +kernel) rfl
theorem seX6_whichPiecesAreSo : Cond.selects yX6_whichPiecesAreSo.cls yX6_whichPiecesAreSo yX6_whichPiecesAreSo ∈ wok := mem_wok 24 (by decide +kernel) rfl
set_option maxRecDepth 100000 in
theorem okX6_whichTextsAreSo : am_ok mX6_whichTextsAreSo 2 := ⟨by decide +kernel, by decide, mem_wok 760 rfl rfl, mem_wok 71 (by decide +kernel) rfl, ⟨by decide +kernel, by decide +kernel⟩, by decide +kernel⟩
theorem inX6_whichTextsAreSo : Cond.instanceMethod yX6_whichTextsAreSo ∈ wok := mem_wok 759 (by decide +kernel) rfl
theorem seX6_whichTextsAreSo : Cond.selects yX6_whichTextsAreSo.cls yX6_whichTextsAreSo yX6_whichTextsAreSo ∈ wok := mem_wok 23 (by decide +kernel) rfl
set_option maxRecDepth 100000 in
theorem okX7_all : am_ok mX7_all 1 := ⟨by decide +kernel, by decide, mem_wok 1123 rfl rfl, mem_wok 78 (by decide +kernel) rfl, ⟨by decide +kernel, by decide +kernel⟩, by decide +kernel⟩
theorem inX7_all : Cond.instanceMethod yX7_all ∈ wok := mem_wok 1121 (by decide +kernel) rfl
theorem seX7_all : Cond.selects yX7_all.cls yX7_all yX7_all ∈ wok := mem_wok 1122 (by decide +kernel) rfl
set_option maxRecDepth 100000 in
theorem okX7_apart : am_ok mX7_apart 2 := ⟨by decide +kernel, by decide, mem_wok 990 rfl rfl, mem_wok 78 (by decide +kernel) rfl, ⟨by decide +kernel, by decide +kernel⟩, by decide +kernel⟩
theorem stX7_apart : Cond.static yX7_apart ∈ wok := mem_wok 989 (by decide +kernel) rfl
set_option maxRecDepth 100000 in
theorem okX7_await : am_ok mX7_await 1 := ⟨by decide +kernel, by decide, mem_wok 1074 rfl rfl, mem_wok 78 (by decide +kernel) rfl, ⟨by decide +kernel, by decide +kernel⟩, by decide +kernel⟩
theorem inX7_await : Cond.instanceMethod yX7_await ∈ wok := mem_wok 1073 (by decide +kernel) rfl
theorem seX7_await : Cond.selects yX7_await.cls yX7_await yX7_await ∈ wok := mem_wok 48 (by decide +kernel) rfl
set_option maxRecDepth 100000 in
theorem okX7_back : am_ok mX7_back 0 := ⟨by decide +kernel, by decide, mem_wok 1254 rfl rfl, mem_wok 78 (by decide +kernel) rfl, ⟨by decide +kernel, by decide +kernel⟩, by decide +kernel⟩
theorem inX7_back : Cond.instanceMethod yX7_back ∈ wok := mem_wok 1252 (by decide +kernel) rfl
theorem seX7_back : Cond.selects yX7_back.cls yX7_back yX7_back ∈ wok := mem_wok 1253 (by decide +kernel) rfl
set_option maxRecDepth 100000 in
theorem okX7_begin : am_ok mX7_begin 0 := ⟨by decide +kernel, by decide, mem_wok 1051 rfl rfl, mem_wok 78 (by decide +kernel) rfl, ⟨by decide +kernel, by decide +kernel⟩, by decide +kernel⟩
theorem inX7_begin : Cond.instanceMethod yX7_begin ∈ wok := mem_wok 1050 (by decide +kernel) rfl
theorem seX7_begin : Cond.selects yX7_begin.cls yX7_begin yX7_begin ∈ wok := mem_wok 43 (by decide +kernel) rfl
set_option maxRecDepth 100000 in
theorem okX7_between : am_ok mX7_between 0 := ⟨by decide +kernel, by decide, mem_wok 1082 rfl rfl, mem_wok 78 (by decide +kernel) rfl, ⟨by decide +kernel, by decide +kernel⟩, by decide +kernel⟩
theorem inX7_between : Cond.instanceMethod yX7_between ∈ wok := mem_wok 1081 (by decide +kernel) rfl
theorem seX7_between : Cond.selects yX7_between.cls yX7_between yX7_between ∈ wok := mem_wok 50 (by decide +kernel) rfl
set_option maxRecDepth 100000 in
theorem okX7_bound : am_ok mX7_bound 3 := ⟨by decide +kernel, by decide, mem_wok 1001 rfl rfl, mem_wok 78 (by decide +kernel) rfl, ⟨by decide +kernel, by decide +kernel⟩, by decide +kernel⟩
theorem stX7_bound : Cond.static yX7_bound ∈ wok := mem_wok 1000 (by decide +kernel) rfl
set_option maxRecDepth 100000 in
theorem okX7_can : am_ok mX7_can 2 := ⟨by decide +kernel, by decide, mem_wok 1170 rfl rfl, mem_wok 78 (by decide +kernel) rfl, ⟨by decide +kernel, by decide +kernel⟩, by decide +kernel⟩
theorem inX7_can : Cond.instanceMethod yX7_can ∈ wok := mem_wok 1168 (by decide +kernel) rfl
theorem seX7_can : Cond.selects yX7_can.cls yX7_can yX7_can ∈ wok := mem_wok 1169 (by decide +kernel) rfl
set_option maxRecDepth 100000 in
theorem okX7_cants : am_ok mX7_cants 0 := ⟨by decide +kernel, by decide, mem_wok 1262 rfl rfl, mem_wok 78 (by decide +kernel) rfl, ⟨by decide +kernel, by decide +kernel⟩, by decide +kernel⟩
theorem inX7_cants : Cond.instanceMethod yX7_cants ∈ wok := mem_wok 1261 (by decide +kernel) rfl
theorem seX7_cants : Cond.selects yX7_cants.cls yX7_cants yX7_cants ∈ wok := mem_wok 69 (by decide +kernel) rfl
set_option maxRecDepth 100000 in
theorem okX7_carried : am_ok mX7_carried 1 := ⟨by decide +kernel, by decide, mem_wok 1015 rfl rfl, mem_wok 78 (by decide +kernel) rfl, ⟨by decide +kernel, by decide +kernel⟩, by decide +kernel⟩
theorem inX7_carried : Cond.instanceMethod yX7_carried ∈ wok := mem_wok 1013 (by decide +kernel) rfl
theorem seX7_carried : Cond.selects yX7_carried.cls yX7_carried yX7_carried ∈ wok := mem_wok 1014 (by decide +kernel) rfl
set_option maxRecDepth 100000 in
theorem okX7_carries : am_ok mX7_carries 1 := ⟨by decide +kernel, by decide, mem_wok 1019 rfl rfl, mem_wok 78 (by decide +kernel) rfl, ⟨by decide +kernel, by decide +kernel⟩, by decide +kernel⟩
theorem inX7_carries : Cond.instanceMethod yX7_carries ∈ wok := mem_wok 1018 (by decide +kernel) rfl
theorem seX7_carries : Cond.selects yX7_carries.cls yX7_carries yX7_carries ∈ wok := mem_wok 37 (by decide +kernel) rfl
set_option maxRecDepth 100000 in
theorem okX7_cell : am_ok mX7_cell 3 := ⟨by decide +kernel, by decide, mem_wok 1202 rfl rfl, mem_wok 78 (by decide +kernel) rfl, ⟨by decide +kernel, by decide +kernel⟩, by decide +kernel⟩
theorem inX7_cell : Cond.instanceMethod yX7_cell ∈ wok := mem_wok 1200 (by decide +kernel) rfl
theorem seX7_cell : Cond.selects yX7_cell.cls yX7_cell yX7_cell ∈ wok := mem_wok 1201 (by decide +kernel) rfl
set_option maxRecDepth 100000 in
theorem okX7_chance : am_ok mX7_chance 4 := ⟨by decide +kernel, by decide, mem_wok 1245 rfl rfl, mem_wok 78 (by decide +kernel) rfl, ⟨by decide +kernel, by decide +kernel⟩, by decide +kernel⟩
theorem inX7_chance : Cond.instanceMethod yX7_chance ∈ wok := mem_wok 1243 (by decide +kernel) rfl
theorem seX7_chance : Cond.selects yX7_chance.cls yX7_chance yX7_chance ∈ wok := mem_wok 1244 (by decide +kernel) rfl
set_option maxRecDepth 100000 in
theorem okX7_change : am_ok mX7_change 3 := ⟨by decide +kernel, by decide, mem_wok 967 rfl rfl, mem_wok 78 (by decide +kernel) rfl, ⟨by decide +kernel, by decide +kernel⟩, by decide +kernel⟩
theorem inX7_change : Cond.instanceMethod yX7_change ∈ wok := mem_wok 966 (by decide +kernel) rfl
theorem seX7_change : Cond.selects yX7_change.cls yX7_change yX7_change ∈ wok := mem_wok 30 (by decide +kernel) rfl
set_option maxRecDepth 100000 in
theorem okX7_clashes : am_ok mX7_clashes 2 := ⟨by decide +kernel, by decide, mem_wok 1011 rfl rfl, mem_wok 78 (by decide +kernel) rfl, ⟨by decide +kernel, by decide +kernel⟩, by decide +kernel⟩
theorem inX7_clashes : Cond.instanceMethod yX7_clashes ∈ wok := mem_wok 1010 (by decide +kernel) rfl
theorem seX7_clashes : Cond.selects yX7_clashes.cls yX7_clashes yX7_clashes ∈ wok := mem_wok 36 (by decide +kernel) rfl
set_option maxRecDepth 100000 in
theorem okX7_clashing : am_ok mX7_clashing 1 := ⟨by decide +kernel, by decide, mem_wok 1007 rfl rfl, mem_wok 78 (by decide +kernel) rfl, ⟨by decide +kernel, by decide +kernel⟩, by decide +kernel⟩
theorem inX7_clashing : Cond.instanceMethod yX7_clashing ∈ wok := mem_wok 1006 (by decide +kernel) rfl
theorem seX7_clashing : Cond.selects yX7_clashing.cls yX7_clashing yX7_clashing ∈ wok := mem_wok 35 (by decide +kernel) rfl
set_option maxRecDepth 100000 in
theorem okX7_copy : am_ok mX7_copy 5 := ⟨by decide +kernel, by decide, mem_wok 1206 rfl rfl, mem_wok 78 (by decide +kernel) rfl, ⟨by decide +kernel, by decide +kernel⟩, by decide +kernel⟩
theorem inX7_copy : Cond.instanceMethod yX7_copy ∈ wok := mem_wok 1204 (by decide +kernel) rfl
theorem seX7_copy : Cond.selects yX7_copy.cls yX7_copy yX7_copy ∈ wok := mem_wok 1205 (by decide +kernel) rfl
set_option maxRecDepth 100000 in
theorem okX7_count : am_ok mX7_count 1 := ⟨by decide +kernel, by decide, mem_wok 1258 rfl rfl, mem_wok 78 (by decide +kernel) rfl, ⟨by decide +kernel, by decide +kernel⟩, by decide +kernel⟩
theorem inX7_count : Cond.instanceMethod yX7_count ∈ wok := mem_wok 1256 (by decide +kernel) rfl
theorem seX7_count : Cond.selects yX7_count.cls yX7_count yX7_count ∈ wok := mem_wok 1257 (by decide +kernel) rfl
set_option maxRecDepth 100000 in
theorem okX7_deed : am_ok mX7_deed 3 := ⟨by decide +kernel, by decide, mem_wok 998 rfl rfl, mem_wok 78 (by decide +kernel) rfl, ⟨by decide +kernel, by decide +kernel⟩, by decide +kernel⟩
theorem stX7_deed : Cond.static yX7_deed ∈ wok := mem_wok 997 (by decide +kernel) rfl
set_option maxRecDepth 100000 in
theorem okX7_drawn : am_ok mX7_drawn 2 := ⟨by decide +kernel, by decide, mem_wok 1240 rfl rfl, mem_wok 78 (by decide +kernel) rfl, ⟨by decide +kernel, by decide +kernel⟩, by decide +kernel⟩
theorem inX7_drawn : Cond.instanceMethod yX7_drawn ∈ wok := mem_wok 1238 (by decide +kernel) rfl
theorem seX7_drawn : Cond.selects yX7_drawn.cls yX7_drawn yX7_drawn ∈ wok := mem_wok 1239 (by decide +kernel) rfl
set_option maxRecDepth 100000 in
theorem okX7_farOut : am_ok mX7_farOut 0 := ⟨by decide +kernel, by decide, mem_wok 1131 rfl rfl, mem_wok 78 (by decide +kernel) rfl, ⟨by decide +kernel, by decide +kernel⟩, by decide +kernel⟩
theorem inX7_farOut : Cond.instanceMethod yX7_farOut ∈ wok := mem_wok 1130 (by decide +kernel) rfl
theorem seX7_farOut : Cond.selects yX7_farOut.cls yX7_farOut yX7_farOut ∈ wok := mem_wok 58 (by decide +kernel) rfl
set_option maxRecDepth 100000 in
theorem okX7_feed : am_ok mX7_feed 1 := ⟨by decide +kernel, by decide, mem_wok 1023 rfl rfl, mem_wok 78 (by decide +kernel) rfl, ⟨by decide +kernel, by decide +kernel⟩, by decide +kernel⟩
theorem inX7_feed : Cond.instanceMethod yX7_feed ∈ wok := mem_wok 1021 (by decide +kernel) rfl
theorem seX7_feed : Cond.selects yX7_feed.cls yX7_feed yX7_feed ∈ wok := mem_wok 1022 (by decide +kernel) rfl
set_option maxRecDepth 100000 in
theorem okX7_fill : am_ok mX7_fill 4 := ⟨by decide +kernel, by decide, mem_wok 1166 rfl rfl, mem_wok 78 (by decide +kernel) rfl, ⟨by decide +kernel, by decide +kernel⟩, by decide +kernel⟩
theorem inX7_fill : Cond.instanceMethod yX7_fill ∈ wok := mem_wok 1165 (by decide +kernel) rfl
theorem seX7_fill : Cond.selects yX7_fill.cls yX7_fill yX7_fill ∈ wok := mem_wok 63 (by decide +kernel) rfl
set_option maxRecDepth 100000 in
theorem okX7_film : am_ok mX7_film 3 := ⟨by decide +kernel, by decide, mem_wok 1235 rfl rfl, mem_wok 78 (by decide +kernel) rfl, ⟨by decide +kernel, by decide +kernel⟩, by decide +kernel⟩
theorem inX7_film : Cond.instanceMethod yX7_film ∈ wok := mem_wok 1233 (by decide +kernel) rfl
theorem seX7_film : Cond.selects yX7_film.cls yX7_film yX7_film ∈ wok := mem_wok 1234 (by decide +kernel) rfl
set_option maxRecDepth 100000 in
theorem okX7_finds : am_ok mX7_finds 4 := ⟨by decide +kernel, by decide, mem_wok 1210 rfl rfl, mem_wok 78 (by decide +kernel) rfl, ⟨by decide +kernel, by decide +kernel⟩, by decide +kernel⟩
theorem inX7_finds : Cond.instanceMethod yX7_finds ∈ wok := mem_wok 1208 (by decide +kernel) rfl
theorem seX7_finds : Cond.selects yX7_finds.cls yX7_finds yX7_finds ∈ wok := mem_wok 1209 (by decide +kernel) rfl
set_option maxRecDepth 100000 in
theorem okX7_firstText : am_ok mX7_firstText 0 := ⟨by decide +kernel, by decide, mem_wok 847 rfl rfl, mem_wok 78 (by decide +kernel) rfl, ⟨by decide +kernel, by decide +kernel⟩, by decide +kernel⟩
theorem inX7_firstText : Cond.instanceMethod yX7_firstText ∈ wok := mem_wok 846 (by decide +kernel) rfl
theorem seX7_firstText : Cond.selects yX7_firstText.cls yX7_firstText yX7_firstText ∈ wok := mem_wok 26 (by decide +kernel) rfl
set_option maxRecDepth 100000 in
theorem okX7_fits : am_ok mX7_fits 4 := ⟨by decide +kernel, by decide, mem_wok 1227 rfl rfl, mem_wok 78 (by decide +kernel) rfl, ⟨by decide +kernel, by decide +kernel⟩, by decide +kernel⟩
theorem inX7_fits : Cond.instanceMethod yX7_fits ∈ wok := mem_wok 1226 (by decide +kernel) rfl
theorem seX7_fits : Cond.selects yX7_fits.cls yX7_fits yX7_fits ∈ wok := mem_wok 67 (by decide +kernel) rfl
set_option maxRecDepth 100000 in
theorem okX7_force : am_ok mX7_force 1 := ⟨by decide +kernel, by decide, mem_wok 1086 rfl rfl, mem_wok 78 (by decide +kernel) rfl, ⟨by decide +kernel, by decide +kernel⟩, by decide +kernel⟩
theorem inX7_force : Cond.instanceMethod yX7_force ∈ wok := mem_wok 1084 (by decide +kernel) rfl
theorem seX7_force : Cond.selects yX7_force.cls yX7_force yX7_force ∈ wok := mem_wok 1085 (by decide +kernel) rfl
set_option maxRecDepth 100000 in
theorem okX7_gcd : am_ok mX7_gcd 2 := ⟨by decide +kernel, by decide, mem_wok 1194 rfl rfl, mem_wok 78 (by decide +kernel) rfl, ⟨by decide +kernel, by decide +kernel⟩, by decide +kernel⟩
theorem stX7_gcd : Cond.static yX7_gcd ∈ wok := mem_wok 1193 (by decide +kernel) rfl
set_option maxRecDepth 100000 in
theorem okX7_goTide : am_ok mX7_goTide 0 := ⟨by decide +kernel, by decide, mem_wok 1094 rfl rfl, mem_wok 78 (by decide +kernel) rfl, ⟨by decide +kernel, by decide +kernel⟩, by decide +kernel⟩
theorem inX7_goTide : Cond.instanceMethod yX7_goTide ∈ wok := mem_wok 1093 (by decide +kernel) rfl
theorem seX7_goTide : Cond.selects yX7_goTide.cls yX7_goTide yX7_goTide ∈ wok := mem_wok 51 (by decide +kernel) rfl
set_option maxRecDepth 100000 in
theorem okX7_hurts : am_ok mX7_hurts 1 := ⟨by decide +kernel, by decide, mem_wok 1150 rfl rfl, mem_wok 78 (by decide +kernel) rfl, ⟨by decide +kernel, by decide +kernel⟩, by decide +kernel⟩
theorem inX7_hurts : Cond.instanceMethod yX7_hurts ∈ wok := mem_wok 1149 (by decide +kernel) rfl
theorem seX7_hurts : Cond.selects yX7_hurts.cls yX7_hurts yX7_hurts ∈ wok := mem_wok 60 (by decide +kernel) rfl
set_option maxRecDepth 100000 in
theorem okX7_image : am_ok mX7_image 0 := ⟨by decide +kernel, by decide, mem_wok 1250 rfl rfl, mem_wok 78 (by decide +kernel) rfl, ⟨by decide +kernel, by decide +kernel⟩, by decide +kernel⟩
theorem inX7_image : Cond.instanceMethod yX7_image ∈ wok := mem_wok 1248 (by decide +kernel) rfl
theorem seX7_image : Cond.selects yX7_image.cls yX7_image yX7_image ∈ wok := mem_wok 1249 (by decide +kernel) rfl
set_option maxRecDepth 100000 in
theorem okX7_init : am_ok mX7_init 0 := ⟨by decide +kernel, by decide, mem_wok 842 rfl rfl, mem_wok 78 (by decide +kernel) rfl, ⟨by decide +kernel, by decide +kernel⟩, by decide +kernel⟩
theorem inX7_init : Cond.instanceMethod yX7_init ∈ wok := mem_wok 841 (by decide +kernel) rfl
set_option maxRecDepth 100000 in
theorem okX7_isE : am_ok mX7_isE 0 := ⟨by decide +kernel, by decide, mem_wok 1047 rfl rfl, mem_wok 78 (by decide +kernel) rfl, ⟨by decide +kernel, by decide +kernel⟩, by decide +kernel⟩
theorem inX7_isE : Cond.instanceMethod yX7_isE ∈ wok := mem_wok 1046 (by decide +kernel) rfl
theorem seX7_isE : Cond.selects yX7_isE.cls yX7_isE yX7_isE ∈ wok := mem_wok 42 (by decide +kernel) rfl
set_option maxRecDepth 100000 in
theorem okX7_isIn : am_ok mX7_isIn 3 := ⟨by decide +kernel, by decide, mem_wok 947 rfl rfl, mem_wok 78 (by decide +kernel) rfl, ⟨by decide +kernel, by decide +kernel⟩, by decide +kernel⟩
theorem stX7_isIn : Cond.static yX7_isIn ∈ wok := mem_wok 946 (by decide +kernel) rfl
set_option maxRecDepth 100000 in
theorem okX7_isPiece : am_ok mX7_isPiece 1 := ⟨by decide +kernel, by decide, mem_wok 955 rfl rfl, mem_wok 78 (by decide +kernel) rfl, ⟨by decide +kernel, by decide +kernel⟩, by decide +kernel⟩
theorem inX7_isPiece : Cond.instanceMethod yX7_isPiece ∈ wok := mem_wok 954 (by decide +kernel) rfl
theorem seX7_isPiece : Cond.selects yX7_isPiece.cls yX7_isPiece yX7_isPiece ∈ wok := mem_wok 28 (by decide +kernel) rfl
set_option maxRecDepth 100000 in
theorem okX7_isSheet : am_ok mX7_isSheet 1 := ⟨by decide +kernel, by decide, mem_wok 1146 rfl rfl, mem_wok 78 (by decide +kernel) rfl, ⟨by decide +kernel, by decide +kernel⟩, by decide +kernel⟩
theorem stX7_isSheet : Cond.static yX7_isSheet ∈ wok := mem_wok 1145 (by decide +kernel) rfl
set_option maxRecDepth 100000 in
theorem okX7_isSign : am_ok mX7_isSign 1 := ⟨by decide +kernel, by decide, mem_wok 1063 rfl rfl, mem_wok 78 (by decide +kernel) rfl, ⟨by decide +kernel, by decide +kernel⟩, by decide +kernel⟩
theorem inX7_isSign : Cond.instanceMethod yX7_isSign ∈ wok := mem_wok 1062 (by decide +kernel) rfl
theorem seX7_isSign : Cond.selects yX7_isSign.cls yX7_isSign yX7_isSign ∈ wok := mem_wok 46 (by decide +kernel) rfl
set_option maxRecDepth 100000 in
theorem okX7_isText : am_ok mX7_isText 0 := ⟨by decide +kernel, by decide, mem_wok 1031 rfl rfl, mem_wok 78 (by decide +kernel) rfl, ⟨by decide +kernel, by decide +kernel⟩, by decide +kernel⟩
theorem inX7_isText : Cond.instanceMethod yX7_isText ∈ wok := mem_wok 1030 (by decide +kernel) rfl
theorem seX7_isText : Cond.selects yX7_isText.cls yX7_isText yX7_isText ∈ wok := mem_wok 38 (by decide +kernel) rfl
set_option maxRecDepth 100000 in
theorem okX7_isTwo : am_ok mX7_isTwo 2 := ⟨by decide +kernel, by decide, mem_wok 1139 rfl rfl, mem_wok 78 (by decide +kernel) rfl, ⟨by decide +kernel, by decide +kernel⟩, by decide +kernel⟩
theorem inX7_isTwo : Cond.instanceMethod yX7_isTwo ∈ wok := mem_wok 1138 (by decide +kernel) rfl
theorem seX7_isTwo : Cond.selects yX7_isTwo.cls yX7_isTwo yX7_isTwo ∈ wok := mem_wok 59 (by decide +kernel) rfl
set_option maxRecDepth 100000 in
theorem okX7_isUnlike : am_ok mX7_isUnlike 2 := ⟨by decide +kernel, by decide, mem_wok 1162 rfl rfl, mem_wok 78 (by decide +kernel) rfl, ⟨by decide +kernel, by decide +kernel⟩, by decide +kernel⟩
theorem inX7_isUnlike : Cond.instanceMethod yX7_isUnlike ∈ wok := mem_wok 1161 (by decide +kernel) rfl
theorem seX7_isUnlike : Cond.selects yX7_isUnlike.cls yX7_isUnlike yX7_isUnlike ∈ wok := mem_wok 62 (by decide +kernel) rfl
set_option maxRecDepth 100000 in
theorem okX7_jars : am_ok mX7_jars 1 := ⟨by decide +kernel, by decide, mem_wok 1154 rfl rfl, mem_wok 78 (by decide +kernel) rfl, ⟨by decide +kernel, by decide +kernel⟩, by decide +kernel⟩
theorem inX7_jars : Cond.instanceMethod yX7_jars ∈ wok := mem_wok 1152 (by decide +kernel) rfl
theorem seX7_jars : Cond.selects yX7_jars.cls yX7_jars yX7_jars ∈ wok := mem_wok 1153 (by decide +kernel) rfl
set_option maxRecDepth 100000 in
theorem okX7_jarsBut : am_ok mX7_jarsBut 1 := ⟨by decide +kernel, by decide, mem_wok 1158 rfl rfl, mem_wok 78 (by decide +kernel) rfl, ⟨by decide +kernel, by decide +kernel⟩, by decide +kernel⟩
theorem inX7_jarsBut : Cond.instanceMethod yX7_jarsBut ∈ wok := mem_wok 1157 (by decide +kernel) rfl
theorem seX7_jarsBut : Cond.selects yX7_jarsBut.cls yX7_jarsBut yX7_jarsBut ∈ wok := mem_wok 61 (by decide +kernel) rfl
set_option maxRecDepth 100000 in
theorem okX7_keep : am_ok mX7_keep 1 := ⟨by decide +kernel, by decide, mem_wok 1107 rfl rfl, mem_wok 78 (by decide +kernel) rfl, ⟨by decide +kernel, by decide +kernel⟩, by decide +kernel⟩
theorem inX7_keep : Cond.instanceMethod yX7_keep ∈ wok := mem_wok 1106 (by decide +kernel) rfl
theorem seX7_keep : Cond.selects yX7_keep.cls yX7_keep yX7_keep ∈ wok := mem_wok 53 (by decide +kernel) rfl
set_option maxRecDepth 100000 in
theorem okX7_last : am_ok mX7_last 0 := ⟨by decide +kernel, by decide, mem_wok 1067 rfl rfl, mem_wok 78 (by decide +kernel) rfl, ⟨by decide +kernel, by decide +kernel⟩, by decide +kernel⟩
theorem inX7_last : Cond.instanceMethod yX7_last ∈ wok := mem_wok 1066 (by decide +kernel) rfl
theorem seX7_last : Cond.selects yX7_last.cls yX7_last yX7_last ∈ wok := mem_wok 47 (by decide +kernel) rfl
set_option maxRecDepth 100000 in
theorem okX7_lay : am_ok mX7_lay 1 := ⟨by decide +kernel, by decide, mem_wok 1119 rfl rfl, mem_wok 78 (by decide +kernel) rfl, ⟨by decide +kernel, by decide +kernel⟩, by decide +kernel⟩
theorem inX7_lay : Cond.instanceMethod yX7_lay ∈ wok := mem_wok 1118 (by decide +kernel) rfl
theorem seX7_lay : Cond.selects yX7_lay.cls yX7_lay yX7_lay ∈ wok := mem_wok 56 (by decide +kernel) rfl
set_option maxRecDepth 100000 in
theorem okX7_lying : am_ok mX7_lying 1 := ⟨by decide +kernel, by decide, mem_wok 975 rfl rfl, mem_wok 78 (by decide +kernel) rfl, ⟨by decide +kernel, by decide +kernel⟩, by decide +kernel⟩
theorem inX7_lying : Cond.instanceMethod yX7_lying ∈ wok := mem_wok 974 (by decide +kernel) rfl
theorem seX7_lying : Cond.selects yX7_lying.cls yX7_lying yX7_lying ∈ wok := mem_wok 31 (by decide +kernel) rfl
set_option maxRecDepth 100000 in
theorem okX7_many : am_ok mX7_many 0 := ⟨by decide +kernel, by decide, mem_wok 963 rfl rfl, mem_wok 78 (by decide +kernel) rfl, ⟨by decide +kernel, by decide +kernel⟩, by decide +kernel⟩
theorem inX7_many : Cond.instanceMethod yX7_many ∈ wok := mem_wok 962 (by decide +kernel) rfl
theorem seX7_many : Cond.selects yX7_many.cls yX7_many yX7_many ∈ wok := mem_wok 29 (by decide +kernel) rfl
set_option maxRecDepth 100000 in
theorem okX7_mean : am_ok mX7_mean 1 := ⟨by decide +kernel, by decide, mem_wok 1190 rfl rfl, mem_wok 78 (by decide +kernel) rfl, ⟨by decide +kernel, by decide +kernel⟩, by decide +kernel⟩
theorem inX7_mean : Cond.instanceMethod yX7_mean ∈ wok := mem_wok 1188 (by decide +kernel) rfl
theorem seX7_mean : Cond.selects yX7_mean.cls yX7_mean yX7_mean ∈ wok := mem_wok 1189 (by decide +kernel) rfl
set_option maxRecDepth 100000 in
theorem okX7_meet : am_ok mX7_meet 2 := ⟨by decide +kernel, by decide, mem_wok 1135 rfl rfl, mem_wok 78 (by decide +kernel) rfl, ⟨by decide +kernel, by decide +kernel⟩, by decide +kernel⟩
theorem inX7_meet : Cond.instanceMethod yX7_meet ∈ wok := mem_wok 1133 (by decide +kernel) rfl
theorem seX7_meet : Cond.selects yX7_meet.cls yX7_meet yX7_meet ∈ wok := mem_wok 1134 (by decide +kernel) rfl
set_option maxRecDepth 100000 in
theorem okX7_next : am_ok mX7_next 0 := ⟨by decide +kernel, by decide, mem_wok 1035 rfl rfl, mem_wok 78 (by decide +kernel) rfl, ⟨by decide +kernel, by decide +kernel⟩, by decide +kernel⟩
theorem inX7_next : Cond.instanceMethod yX7_next ∈ wok := mem_wok 1034 (by decide +kernel) rfl
theorem seX7_next : Cond.selects yX7_next.cls yX7_next yX7_next ∈ wok := mem_wok 39 (by decide +kernel) rfl
set_option maxRecDepth 100000 in
theorem okX7_numberThere : am_ok mX7_numberThere 0 := ⟨by decide +kernel, by decide, mem_wok 1059 rfl rfl, mem_wok 78 (by decide +kernel) rfl, ⟨by decide +kernel, by decide +kernel⟩, by decide +kernel⟩
theorem inX7_numberThere : Cond.instanceMethod yX7_numberThere ∈ wok := mem_wok 1058 (by decide +kernel) rfl
theorem seX7_numberThere : Cond.selects yX7_numberThere.cls yX7_numberThere yX7_numberThere ∈ wok := mem_wok 45 (by decide +kernel) rfl
set_option maxRecDepth 100000 in
theorem okX7_of : am_ok mX7_of 2 := ⟨by decide +kernel, by decide, mem_wok 979 rfl rfl, mem_wok 78 (by decide +kernel) rfl, ⟨by decide +kernel, by decide +kernel⟩, by decide +kernel⟩
theorem inX7_of : Cond.instanceMethod yX7_of ∈ wok := mem_wok 978 (by decide +kernel) rfl
theorem seX7_of : Cond.selects yX7_of.cls yX7_of yX7_of ∈ wok := mem_wok 32 (by decide +kernel) rfl
set_option maxRecDepth 100000 in
theorem okX7_otherwise : am_ok mX7_otherwise 2 := ⟨by decide +kernel, by decide, mem_wok 1223 rfl rfl, mem_wok 78 (by decide +kernel) rfl, ⟨by decide +kernel, by decide +kernel⟩, by decide +kernel⟩
theorem inX7_otherwise : Cond.instanceMethod yX7_otherwise ∈ wok := mem_wok 1222 (by decide +kernel) rfl
theorem seX7_otherwise : Cond.selects yX7_otherwise.cls yX7_otherwise yX7_otherwise ∈ wok := mem_wok 66 (by decide +kernel) rfl
set_option maxRecDepth 100000 in
theorem okX7_pair : am_ok mX7_pair 3 := ⟨by decide +kernel, by decide, mem_wok 1178 rfl rfl, mem_wok 78 (by decide +kernel) rfl, ⟨by decide +kernel, by decide +kernel⟩, by decide +kernel⟩
theorem inX7_pair : Cond.instanceMethod yX7_pair ∈ wok := mem_wok 1177 (by decide +kernel) rfl
theorem seX7_pair : Cond.selects yX7_pair.cls yX7_pair yX7_pair ∈ wok := mem_wok 64 (by decide +kernel) rfl
set_option maxRecDepth 100000 in
theorem okX7_piece : am_ok mX7_piece 4 := ⟨by decide +kernel, by decide, mem_wok 959 rfl rfl, mem_wok 78 (by decide +kernel) rfl, ⟨by decide +kernel, by decide +kernel⟩, by decide +kernel⟩
theorem inX7_piece : Cond.instanceMethod yX7_piece ∈ wok := mem_wok 957 (by decide +kernel) rfl
theorem seX7_piece : Cond.selects yX7_piece.cls yX7_piece yX7_piece ∈ wok := mem_wok 958 (by decide +kernel) rfl
set_option maxRecDepth 100000 in
theorem okX7_place : am_ok mX7_place 2 := ⟨by decide +kernel, by decide, mem_wok 951 rfl rfl, mem_wok 78 (by decide +kernel) rfl, ⟨by decide +kernel, by decide +kernel⟩, by decide +kernel⟩
theorem inX7_place : Cond.instanceMethod yX7_place ∈ wok := mem_wok 950 (by decide +kernel) rfl
theorem seX7_place : Cond.selects yX7_place.cls yX7_place yX7_place ∈ wok := mem_wok 27 (by decide +kernel) rfl
set_option maxRecDepth 100000 in
theorem okX7_places : am_ok mX7_places 0 := ⟨by decide +kernel, by decide, mem_wok 1115 rfl rfl, mem_wok 78 (by decide +kernel) rfl, ⟨by decide +kernel, by decide +kernel⟩, by decide +kernel⟩
theorem inX7_places : Cond.instanceMethod yX7_places ∈ wok := mem_wok 1114 (by decide +kernel) rfl
theorem seX7_places : Cond.selects yX7_places.cls yX7_places yX7_places ∈ wok := mem_wok 55 (by decide +kernel) rfl
set_option maxRecDepth 100000 in
theorem okX7_rank : am_ok mX7_rank 1 := ⟨by decide +kernel, by decide, mem_wok 1070 rfl rfl, mem_wok 78 (by decide +kernel) rfl, ⟨by decide +kernel, by decide +kernel⟩, by decide +kernel⟩
theorem stX7_rank : Cond.static yX7_rank ∈ wok := mem_wok 1069 (by decide +kernel) rfl
set_option maxRecDepth 100000 in
theorem okX7_rounds : am_ok mX7_rounds 0 := ⟨by decide +kernel, by decide, mem_wok 1099 rfl rfl, mem_wok 78 (by decide +kernel) rfl, ⟨by decide +kernel, by decide +kernel⟩, by decide +kernel⟩
theorem inX7_rounds : Cond.instanceMethod yX7_rounds ∈ wok := mem_wok 1098 (by decide +kernel) rfl
theorem seX7_rounds : Cond.selects yX7_rounds.cls yX7_rounds yX7_rounds ∈ wok := mem_wok 52 (by decide +kernel) rfl
set_option maxRecDepth 100000 in
theorem okX7_run : am_ok mX7_run 3 := ⟨by decide +kernel, by decide, mem_wok 1103 rfl rfl, mem_wok 78 (by decide +kernel) rfl, ⟨by decide +kernel, by decide +kernel⟩, by decide +kernel⟩
theorem inX7_run : Cond.instanceMethod yX7_run ∈ wok := mem_wok 1101 (by decide +kernel) rfl
theorem seX7_run : Cond.selects yX7_run.cls yX7_run yX7_run ∈ wok := mem_wok 1102 (by decide +kernel) rfl
set_option maxRecDepth 100000 in
theorem okX7_set : am_ok mX7_set 3 := ⟨by decide +kernel, by decide, mem_wok 944 rfl rfl, mem_wok 78 (by decide +kernel) rfl, ⟨by decide +kernel, by decide +kernel⟩, by decide +kernel⟩
theorem inX7_set : Cond.instanceMethod yX7_set ∈ wok := mem_wok 942 (by decide +kernel) rfl
theorem seX7_set : Cond.selects yX7_set.cls yX7_set yX7_set ∈ wok := mem_wok 943 (by decide +kernel) rfl
set_option maxRecDepth 100000 in
theorem okX7_settle : am_ok mX7_settle 1 := ⟨by decide +kernel, by decide, mem_wok 1078 rfl rfl, mem_wok 78 (by decide +kernel) rfl, ⟨by decide +kernel, by decide +kernel⟩, by decide +kernel⟩
theorem inX7_settle : Cond.instanceMethod yX7_settle ∈ wok := mem_wok 1077 (by decide +kernel) rfl
theorem seX7_settle : Cond.selects yX7_settle.cls yX7_settle yX7_settle ∈ wok := mem_wok 49 (by decide +kernel) rfl
set_option maxRecDepth 100000 in
theorem okX7_sharps : am_ok mX7_sharps 0 := ⟨by decide +kernel, by decide, mem_wok 1111 rfl rfl, mem_wok 78 (by decide +kernel) rfl, ⟨by decide +kernel, by decide +kernel⟩, by decide +kernel⟩
theorem inX7_sharps : Cond.instanceMethod yX7_sharps ∈ wok := mem_wok 1110 (by decide +kernel) rfl
theorem seX7_sharps : Cond.selects yX7_sharps.cls yX7_sharps yX7_sharps ∈ wok := mem_wok 54 (by decide +kernel) rfl
set_option maxRecDepth 100000 in
theorem okX7_sharpsBy : am_ok mX7_sharpsBy 3 := ⟨by decide +kernel, by decide, mem_wok 1231 rfl rfl, mem_wok 78 (by decide +kernel) rfl, ⟨by decide +kernel, by decide +kernel⟩, by decide +kernel⟩
theorem inX7_sharpsBy : Cond.instanceMethod yX7_sharpsBy ∈ wok := mem_wok 1230 (by decide +kernel) rfl
theorem seX7_sharpsBy : Cond.selects yX7_sharpsBy.cls yX7_sharpsBy yX7_sharpsBy ∈ wok := mem_wok 68 (by decide +kernel) rfl
set_option maxRecDepth 100000 in
theorem okX7_sheet : am_ok mX7_sheet 3 := ⟨by decide +kernel, by decide, mem_wok 1198 rfl rfl, mem_wok 78 (by decide +kernel) rfl, ⟨by decide +kernel, by decide +kernel⟩, by decide +kernel⟩
theorem inX7_sheet : Cond.instanceMethod yX7_sheet ∈ wok := mem_wok 1196 (by decide +kernel) rfl
theorem seX7_sheet : Cond.selects yX7_sheet.cls yX7_sheet yX7_sheet ∈ wok := mem_wok 1197 (by decide +kernel) rfl
set_option maxRecDepth 100000 in
theorem okX7_soon : am_ok mX7_soon 1 := ⟨by decide +kernel, by decide, mem_wok 1186 rfl rfl, mem_wok 78 (by decide +kernel) rfl, ⟨by decide +kernel, by decide +kernel⟩, by decide +kernel⟩
theorem inX7_soon : Cond.instanceMethod yX7_soon ∈ wok := mem_wok 1185 (by decide +kernel) rfl
theorem seX7_soon : Cond.selects yX7_soon.cls yX7_soon yX7_soon ∈ wok := mem_wok 65 (by decide +kernel) rfl
set_option maxRecDepth 100000 in
theorem okX7_sortAt : am_ok mX7_sortAt 1 := ⟨by decide +kernel, by decide, mem_wok 1039 rfl rfl, mem_wok 78 (by decide +kernel) rfl, ⟨by decide +kernel, by decide +kernel⟩, by decide +kernel⟩
theorem inX7_sortAt : Cond.instanceMethod yX7_sortAt ∈ wok := mem_wok 1038 (by decide +kernel) rfl
theorem seX7_sortAt : Cond.selects yX7_sortAt.cls yX7_sortAt yX7_sortAt ∈ wok := mem_wok 40 (by decide +kernel) rfl
set_option maxRecDepth 100000 in
theorem okX7_taken : am_ok mX7_taken 2 := ⟨by decide +kernel, by decide, mem_wok 1215 rfl rfl, mem_wok 78 (by decide +kernel) rfl, ⟨by decide +kernel, by decide +kernel⟩, by decide +kernel⟩
theorem inX7_taken : Cond.instanceMethod yX7_taken ∈ wok := mem_wok 1213 (by decide +kernel) rfl
theorem seX7_taken : Cond.selects yX7_taken.cls yX7_taken yX7_taken ∈ wok := mem_wok 1214 (by decide +kernel) rfl
set_option maxRecDepth 100000 in
theorem okX7_tell : am_ok mX7_tell 3 := ⟨by decide +kernel, by decide, mem_wok 987 rfl rfl, mem_wok 78 (by decide +kernel) rfl, ⟨by decide +kernel, by decide +kernel⟩, by decide +kernel⟩
theorem inX7_tell : Cond.instanceMethod yX7_tell ∈ wok := mem_wok 986 (by decide +kernel) rfl
theorem seX7_tell : Cond.selects yX7_tell.cls yX7_tell yX7_tell ∈ wok := mem_wok 34 (by decide +kernel) rfl
set_option maxRecDepth 100000 in
theorem okX7_tells : am_ok mX7_tells 3 := ⟨by decide +kernel, by decide, mem_wok 1219 rfl rfl, mem_wok 78 (by decide +kernel) rfl, ⟨by decide +kernel, by decide +kernel⟩, by decide +kernel⟩
theorem inX7_tells : Cond.instanceMethod yX7_tells ∈ wok := mem_wok 1217 (by decide +kernel) rfl
theorem seX7_tells : Cond.selects yX7_tells.cls yX7_tells yX7_tells ∈ wok := mem_wok 1218 (by decide +kernel) rfl
set_option maxRecDepth 100000 in
theorem okX7_text : am_ok mX7_text 0 := ⟨by decide +kernel, by decide, mem_wok 1027 rfl rfl, mem_wok 78 (by decide +kernel) rfl, ⟨by decide +kernel, by decide +kernel⟩, by decide +kernel⟩
theorem inX7_text : Cond.instanceMethod yX7_text ∈ wok := mem_wok 1025 (by decide +kernel) rfl
theorem seX7_text : Cond.selects yX7_text.cls yX7_text yX7_text ∈ wok := mem_wok 1026 (by decide +kernel) rfl
set_option maxRecDepth 100000 in
theorem okX7_tide : am_ok mX7_tide 0 := ⟨by decide +kernel, by decide, mem_wok 1090 rfl rfl, mem_wok 78 (by decide +kernel) rfl, ⟨by decide +kernel, by decide +kernel⟩, by decide +kernel⟩
theorem inX7_tide : Cond.instanceMethod yX7_tide ∈ wok := mem_wok 1088 (by decide +kernel) rfl
theorem seX7_tide : Cond.selects yX7_tide.cls yX7_tide yX7_tide ∈ wok := mem_wok 1089 (by decide +kernel) rfl
set_option maxRecDepth 100000 in
theorem okX7_told : am_ok mX7_told 2 := ⟨by decide +kernel, by decide, mem_wok 971 rfl rfl, mem_wok 78 (by decide +kernel) rfl, ⟨by decide +kernel, by decide +kernel⟩, by decide +kernel⟩
theorem inX7_told : Cond.instanceMethod yX7_told ∈ wok := mem_wok 969 (by decide +kernel) rfl
theorem seX7_told : Cond.selects yX7_told.cls yX7_told yX7_told ∈ wok := mem_wok 970 (by decide +kernel) rfl
set_option maxRecDepth 100000 in
theorem okX7_toss : am_ok mX7_toss 2 := ⟨by decide +kernel, by decide, mem_wok 1182 rfl rfl, mem_wok 78 (by decide +kernel) rfl, ⟨by decide +kernel, by decide +kernel⟩, by decide +kernel⟩
theorem inX7_toss : Cond.instanceMethod yX7_toss ∈ wok := mem_wok 1180 (by decide +kernel) rfl
theorem seX7_toss : Cond.selects yX7_toss.cls yX7_toss yX7_toss ∈ wok := mem_wok 1181 (by decide +kernel) rfl
set_option maxRecDepth 100000 in
theorem okX7_twos : am_ok mX7_twos 1 := ⟨by decide +kernel, by decide, mem_wok 1174 rfl rfl, mem_wok 78 (by decide +kernel) rfl, ⟨by decide +kernel, by decide +kernel⟩, by decide +kernel⟩
theorem inX7_twos : Cond.instanceMethod yX7_twos ∈ wok := mem_wok 1172 (by decide +kernel) rfl
theorem seX7_twos : Cond.selects yX7_twos.cls yX7_twos yX7_twos ∈ wok := mem_wok 1173 (by decide +kernel) rfl
set_option maxRecDepth 100000 in
theorem okX7_walk : am_ok mX7_walk 1 := ⟨by decide +kernel, by decide, mem_wok 1143 rfl rfl, mem_wok 78 (by decide +kernel) rfl, ⟨by decide +kernel, by decide +kernel⟩, by decide +kernel⟩
theorem inX7_walk : Cond.instanceMethod yX7_walk ∈ wok := mem_wok 1141 (by decide +kernel) rfl
theorem seX7_walk : Cond.selects yX7_walk.cls yX7_walk yX7_walk ∈ wok := mem_wok 1142 (by decide +kernel) rfl
set_option maxRecDepth 100000 in
theorem okX7_wears : am_ok mX7_wears 1 := ⟨by decide +kernel, by decide, mem_wok 983 rfl rfl, mem_wok 78 (by decide +kernel) rfl, ⟨by decide +kernel, by decide +kernel⟩, by decide +kernel⟩
theorem inX7_wears : Cond.instanceMethod yX7_wears ∈ wok := mem_wok 982 (by decide +kernel) rfl
theorem seX7_wears : Cond.selects yX7_wears.cls yX7_wears yX7_wears ∈ wok := mem_wok 33 (by decide +kernel) rfl
set_option maxRecDepth 100000 in
theorem okX7_when : am_ok mX7_when 0 := ⟨by decide +kernel, by decide, mem_wok 1127 rfl rfl, mem_wok 78 (by decide +kernel) rfl, ⟨by decide +kernel, by decide +kernel⟩, by decide +kernel⟩
theorem inX7_when : Cond.instanceMethod yX7_when ∈ wok := mem_wok 1126 (by decide +kernel) rfl
theorem seX7_when : Cond.selects yX7_when.cls yX7_when yX7_when ∈ wok := mem_wok 57 (by decide +kernel) rfl
set_option maxRecDepth 100000 in
theorem okX7_word : am_ok mX7_word 0 := ⟨by decide +kernel, by decide, mem_wok 1043 rfl rfl, mem_wok 78 (by decide +kernel) rfl, ⟨by decide +kernel, by decide +kernel⟩, by decide +kernel⟩
theorem inX7_word : Cond.instanceMethod yX7_word ∈ wok := mem_wok 1042 (by decide +kernel) rfl
theorem seX7_word : Cond.selects yX7_word.cls yX7_word yX7_word ∈ wok := mem_wok 41 (by decide +kernel) rfl
set_option maxRecDepth 100000 in
theorem okX7_write : am_ok mX7_write 1 := ⟨by decide +kernel, by decide, mem_wok 1055 rfl rfl, mem_wok 78 (by decide +kernel) rfl, ⟨by decide +kernel, by decide +kernel⟩, by decide +kernel⟩
theorem inX7_write : Cond.instanceMethod yX7_write ∈ wok := mem_wok 1054 (by decide +kernel) rfl
theorem seX7_write : Cond.selects yX7_write.cls yX7_write yX7_write ∈ wok := mem_wok 44 (by decide +kernel) rfl
set_option maxRecDepth 100000 in
theorem okX7_yes : am_ok mX7_yes 1 := ⟨by decide +kernel, by decide, mem_wok 995 rfl rfl, mem_wok 78 (by decide +kernel) rfl, ⟨by decide +kernel, by decide +kernel⟩, by decide +kernel⟩
theorem stX7_yes : Cond.static yX7_yes ∈ wok := mem_wok 994 (by decide +kernel) rfl
theorem lkX6_1 : Cond.methodLink RX6 1 Lib.objectInit ∈ wok := mem_wok 93 (by decide +kernel) rfl
theorem lkX6_9 : Cond.methodLink RX6 9 yX5_init ∈ wok := mem_wok 98 (by decide +kernel) rfl
theorem lkX6_25 : Cond.methodLink RX6 25 yX3_init ∈ wok := mem_wok 173 (by decide +kernel) rfl
theorem lkX6_56 : Cond.methodLink RX6 56 yX6_isIn ∈ wok := mem_wok 288 (by decide +kernel) rfl
theorem lkX6_60 : Cond.methodLink RX6 60 yX6_isPiece ∈ wok := mem_wok 291 (by decide +kernel) rfl
theorem lkX6_72 : Cond.methodLink RX6 72 yX3_valuesOf ∈ wok := mem_wok 297 (by decide +kernel) rfl
theorem lkX6_76 : Cond.methodLink RX6 76 yX3_adds ∈ wok := mem_wok 305 (by decide +kernel) rfl
theorem lkX6_80 : Cond.methodLink RX6 80 yX3_whichAt ∈ wok := mem_wok 315 (by decide +kernel) rfl
theorem lkX6_84 : Cond.methodLink RX6 84 yX3_wornOff ∈ wok := mem_wok 319 (by decide +kernel) rfl
theorem lkX6_87 : Cond.methodLink RX6 87 yX3_whichClash ∈ wok := mem_wok 366 (by decide +kernel) rfl
theorem lkX6_90 : Cond.methodLink RX6 90 yX3_carriedOn ∈ wok := mem_wok 392 (by decide +kernel) rfl
theorem lkX6_93 : Cond.methodLink RX6 93 yX1_takes ∈ wok := mem_wok 400 (by decide +kernel) rfl
theorem lkX6_100 : Cond.methodLink RX6 100 yX1_reads ∈ wok := mem_wok 408 (by decide +kernel) rfl
theorem lkX6_107 : Cond.methodLink RX6 107 yX5_adds ∈ wok := mem_wok 573 (by decide +kernel) rfl
theorem lkX6_113 : Cond.methodLink RX6 113 yX3_passes ∈ wok := mem_wok 586 (by decide +kernel) rfl
theorem lkX6_116 : Cond.methodLink RX6 116 yX3_howManyRound ∈ wok := mem_wok 596 (by decide +kernel) rfl
theorem lkX6_120 : Cond.methodLink RX6 120 yX3_becomes ∈ wok := mem_wok 604 (by decide +kernel) rfl
theorem lkX6_130 : Cond.methodLink RX6 130 yX3_sharpTogether ∈ wok := mem_wok 609 (by decide +kernel) rfl
theorem lkX6_133 : Cond.methodLink RX6 133 yX3_howManyPlaces ∈ wok := mem_wok 613 (by decide +kernel) rfl
theorem lkX6_136 : Cond.methodLink RX6 136 yX6_behindWhichAllAreRound ∈ wok := mem_wok 627 (by decide +kernel) rfl
theorem lkX6_139 : Cond.methodLink RX6 139 yX3_farthestOut ∈ wok := mem_wok 631 (by decide +kernel) rfl
theorem lkX6_142 : Cond.methodLink RX6 142 yX6_areTwo ∈ wok := mem_wok 639 (by decide +kernel) rfl
theorem lkX6_146 : Cond.methodLink RX6 146 yX6_isSheet ∈ wok := mem_wok 647 (by decide +kernel) rfl
theorem lkX6_149 : Cond.methodLink RX6 149 yX2_isMissing ∈ wok := mem_wok 650 (by decide +kernel) rfl
theorem lkX6_153 : Cond.methodLink RX6 153 yX2_isAllIn ∈ wok := mem_wok 654 (by decide +kernel) rfl
theorem lkX6_160 : Cond.methodLink RX6 160 yX3_hurtsAt ∈ wok := mem_wok 659 (by decide +kernel) rfl
theorem lkX6_163 : Cond.methodLink RX6 163 yX0_looksAt ∈ wok := mem_wok 667 (by decide +kernel) rfl
theorem lkX6_166 : Cond.methodLink RX6 166 yX0_fewestWithout ∈ wok := mem_wok 678 (by decide +kernel) rfl
theorem lkX6_169 : Cond.methodLink RX6 169 yX0_digits ∈ wok := mem_wok 687 (by decide +kernel) rfl
theorem lkX6_172 : Cond.methodLink RX6 172 yX0_leftOut ∈ wok := mem_wok 692 (by decide +kernel) rfl
theorem lkX6_175 : Cond.methodLink RX6 175 yX0_fewestWithoutLeftOut ∈ wok := mem_wok 696 (by decide +kernel) rfl
theorem lkX6_178 : Cond.methodLink RX6 178 yX3_isApartByClash ∈ wok := mem_wok 705 (by decide +kernel) rfl
theorem lkX6_181 : Cond.methodLink RX6 181 yX6_mostTwos ∈ wok := mem_wok 710 (by decide +kernel) rfl
theorem lkX6_185 : Cond.methodLink RX6 185 yX6_behindWhichRoundFrom ∈ wok := mem_wok 721 (by decide +kernel) rfl
theorem lkX6_192 : Cond.methodLink RX6 192 yX6_inLowestTerms ∈ wok := mem_wok 730 (by decide +kernel) rfl
theorem lkX6_196 : Cond.methodLink RX6 196 yX6_firstOtherwise ∈ wok := mem_wok 737 (by decide +kernel) rfl
theorem lkX6_200 : Cond.methodLink RX6 200 yX6_whichAreSo ∈ wok := mem_wok 741 (by decide +kernel) rfl
theorem lkX6_204 : Cond.methodLink RX6 204 yX6_howManySharpsAreSo ∈ wok := mem_wok 749 (by decide +kernel) rfl
theorem lkX6_207 : Cond.methodLink RX6 207 yX6_leastSharpThatIsSo ∈ wok := mem_wok 753 (by decide +kernel) rfl
theorem lkX6_210 : Cond.methodLink RX6 210 yX6_whichTextsAreSo ∈ wok := mem_wok 757 (by decide +kernel) rfl
theorem lkX6_213 : Cond.methodLink RX6 213 yX6_whichPiecesAreSo ∈ wok := mem_wok 761 (by decide +kernel) rfl
theorem lkX6_217 : Cond.methodLink RX6 217 yX2_becomes ∈ wok := mem_wok 769 (by decide +kernel) rfl
theorem lkX6_220 : Cond.methodLink RX6 220 yX2_puts ∈ wok := mem_wok 774 (by decide +kernel) rfl
theorem lkX6_223 : Cond.methodLink RX6 223 yX6_howManyRoundBySeed ∈ wok := mem_wok 782 (by decide +kernel) rfl
theorem lkX6_227 : Cond.methodLink RX6 227 yX3_howManyApartByClash ∈ wok := mem_wok 803 (by decide +kernel) rfl
theorem lkX6_230 : Cond.methodLink RX6 230 yX2_has ∈ wok := mem_wok 816 (by decide +kernel) rfl
theorem lkX6_236 : Cond.methodLink RX6 236 arraycopyName ∈ wok := mem_wok 824 (by decide +kernel) rfl
theorem lkX6_245 : Cond.methodLink RX6 245 yX6_isOfKind ∈ wok := mem_wok 833 (by decide +kernel) rfl
theorem lkX6_254 : Cond.methodLink RX6 254 yJ9_min_7cf53 ∈ wok := mem_wok 352 (by decide +kernel) rfl
theorem lkX6_259 : Cond.methodLink RX6 259 yJ9_max_7cf53 ∈ wok := mem_wok 355 (by decide +kernel) rfl
theorem lkX6_262 : Cond.methodLink RX6 262 yJ9_abs_0f7a4 ∈ wok := mem_wok 381 (by decide +kernel) rfl
theorem lkX6_269 : Cond.methodLink RX6 269 yX3_wereOne ∈ wok := mem_wok 713 (by decide +kernel) rfl
theorem lkX6_272 : Cond.methodLink RX6 272 yX6_isSoWith ∈ wok := mem_wok 745 (by decide +kernel) rfl
theorem lkX0_3 : Cond.methodLink RX0 3 Lib.objectInit ∈ wok := mem_wok 225 (by decide +kernel) rfl
theorem lkX0_28 : Cond.methodLink RX0 28 yJ7_fill_53178 ∈ wok := mem_wok 671 (by decide +kernel) rfl
theorem lkX0_34 : Cond.methodLink RX0 34 yX3_isApartByClash ∈ wok := mem_wok 674 (by decide +kernel) rfl
theorem lkX0_38 : Cond.methodLink RX0 38 yX0_isFilled ∈ wok := mem_wok 682 (by decide +kernel) rfl
theorem lkX0_42 : Cond.methodLink RX0 42 yJ9_min_7cf53 ∈ wok := mem_wok 685 (by decide +kernel) rfl
theorem lkX0_48 : Cond.methodLink RX0 48 yJ9_max_7cf53 ∈ wok := mem_wok 686 (by decide +kernel) rfl
theorem lkX0_51 : Cond.methodLink RX0 51 yX0_fewestWithout ∈ wok := mem_wok 691 (by decide +kernel) rfl
theorem lkX0_55 : Cond.methodLink RX0 55 yX0_leftOut ∈ wok := mem_wok 700 (by decide +kernel) rfl
theorem lkX1_3 : Cond.methodLink RX1 3 Lib.objectInit ∈ wok := mem_wok 140 (by decide +kernel) rfl
theorem lkX1_40 : Cond.methodLink RX1 40 yX1_goesOn ∈ wok := mem_wok 412 (by decide +kernel) rfl
theorem lkX1_43 : Cond.methodLink RX1 43 yX1_wants ∈ wok := mem_wok 534 (by decide +kernel) rfl
theorem lkX1_47 : Cond.methodLink RX1 47 yX1_readsFrom ∈ wok := mem_wok 538 (by decide +kernel) rfl
theorem lkX1_53 : Cond.methodLink RX1 53 yJ7_copyOf_59c91 ∈ wok := mem_wok 558 (by decide +kernel) rfl
theorem lkX1_59 : Cond.methodLink RX1 59 yX4_init ∈ wok := mem_wok 572 (by decide +kernel) rfl
theorem lkX1_62 : Cond.methodLink RX1 62 yX1_readsOne ∈ wok := mem_wok 542 (by decide +kernel) rfl
theorem lkX1_65 : Cond.methodLink RX1 65 yX1_readsBehind ∈ wok := mem_wok 550 (by decide +kernel) rfl
theorem lkX1_69 : Cond.methodLink RX1 69 yX1_levelJoinedBy ∈ wok := mem_wok 554 (by decide +kernel) rfl
theorem lkX1_73 : Cond.methodLink RX1 73 yX1_puts ∈ wok := mem_wok 546 (by decide +kernel) rfl
theorem lkX1_78 : Cond.methodLink RX1 78 yX1_isLetter ∈ wok := mem_wok 416 (by decide +kernel) rfl
theorem lkX1_82 : Cond.methodLink RX1 82 yX1_wordFromStart ∈ wok := mem_wok 419 (by decide +kernel) rfl
theorem lkX1_86 : Cond.methodLink RX1 86 yX1_isDigit ∈ wok := mem_wok 464 (by decide +kernel) rfl
theorem lkX1_89 : Cond.methodLink RX1 89 yX1_numberFromStart ∈ wok := mem_wok 467 (by decide +kernel) rfl
theorem lkX1_94 : Cond.methodLink RX1 94 yJ0_indexOf_0f7a4 ∈ wok := mem_wok 472 (by decide +kernel) rfl
theorem lkX1_101 : Cond.methodLink RX1 101 yJ0_charAt_5068e ∈ wok := mem_wok 424 (by decide +kernel) rfl
theorem lkX2_3 : Cond.methodLink RX2 3 Lib.objectInit ∈ wok := mem_wok 245 (by decide +kernel) rfl
theorem lkX2_22 : Cond.methodLink RX2 22 yJ7_fill_53178 ∈ wok := mem_wok 773 (by decide +kernel) rfl
theorem lkX3_3 : Cond.methodLink RX3 3 Lib.objectInit ∈ wok := mem_wok 176 (by decide +kernel) rfl
theorem lkX3_47 : Cond.methodLink RX3 47 arraycopyName ∈ wok := mem_wok 608 (by decide +kernel) rfl
theorem lkX3_60 : Cond.methodLink RX3 60 yX3_wornOff ∈ wok := mem_wok 590 (by decide +kernel) rfl
theorem lkX3_64 : Cond.methodLink RX3 64 yX3_carriedOn ∈ wok := mem_wok 591 (by decide +kernel) rfl
theorem lkX3_67 : Cond.methodLink RX3 67 yJ9_max_7cf53 ∈ wok := mem_wok 592 (by decide +kernel) rfl
theorem lkX3_73 : Cond.methodLink RX3 73 yJ9_floorMod_7cf53 ∈ wok := mem_wok 593 (by decide +kernel) rfl
theorem lkX3_76 : Cond.methodLink RX3 76 yX3_namesAlone ∈ wok := mem_wok 323 (by decide +kernel) rfl
theorem lkX3_80 : Cond.methodLink RX3 80 yX5_valueOf ∈ wok := mem_wok 331 (by decide +kernel) rfl
theorem lkX3_89 : Cond.methodLink RX3 89 yX3_wornByKind ∈ wok := mem_wok 358 (by decide +kernel) rfl
theorem lkX3_92 : Cond.methodLink RX3 92 yX3_othersWith ∈ wok := mem_wok 362 (by decide +kernel) rfl
theorem lkX3_95 : Cond.methodLink RX3 95 yX3_isYes ∈ wok := mem_wok 374 (by decide +kernel) rfl
theorem lkX3_99 : Cond.methodLink RX3 99 yX3_isYesAcross ∈ wok := mem_wok 384 (by decide +kernel) rfl
theorem lkX3_105 : Cond.methodLink RX3 105 yX5_names ∈ wok := mem_wok 327 (by decide +kernel) rfl
theorem lkX3_109 : Cond.methodLink RX3 109 yX3_isClashing ∈ wok := mem_wok 370 (by decide +kernel) rfl
theorem lkX3_112 : Cond.methodLink RX3 112 yX3_isApartByClash ∈ wok := mem_wok 807 (by decide +kernel) rfl
theorem lkX3_115 : Cond.methodLink RX3 115 yJ6_bitCount_0f7a4 ∈ wok := mem_wok 617 (by decide +kernel) rfl
theorem lkX4_3 : Cond.methodLink RX4 3 Lib.objectInit ∈ wok := mem_wok 108 (by decide +kernel) rfl
theorem lkX5_3 : Cond.methodLink RX5 3 Lib.objectInit ∈ wok := mem_wok 101 (by decide +kernel) rfl
theorem lkX5_28 : Cond.methodLink RX5 28 yX4_init ∈ wok := mem_wok 105 (by decide +kernel) rfl
theorem lkX5_31 : Cond.methodLink RX5 31 yX4_endOf ∈ wok := mem_wok 335 (by decide +kernel) rfl
theorem lkX5_35 : Cond.methodLink RX5 35 yX4_startOf ∈ wok := mem_wok 339 (by decide +kernel) rfl
theorem lkX5_43 : Cond.methodLink RX5 43 yX5_alone ∈ wok := mem_wok 343 (by decide +kernel) rfl
theorem lkX5_47 : Cond.methodLink RX5 47 yX5_joined ∈ wok := mem_wok 346 (by decide +kernel) rfl
theorem lkL_9 : Cond.methodLink x.cls 9 yX6_init ∈ wok := mem_wok 90 (by decide +kernel) rfl
theorem lkL_12 : Cond.methodLink x.cls 12 yX7_init ∈ wok := mem_wok 840 (by decide +kernel) rfl
theorem lkL_13 : Cond.methodLink x.cls 13 yX6_set ∈ wok := mem_wok 284 (by decide +kernel) rfl
theorem lkL_17 : Cond.methodLink x.cls 17 yX7_set ∈ wok := mem_wok 941 (by decide +kernel) rfl
theorem lkL_18 : Cond.methodLink x.cls 18 yX6_piece ∈ wok := mem_wok 301 (by decide +kernel) rfl
theorem lkL_22 : Cond.methodLink x.cls 22 yX7_piece ∈ wok := mem_wok 956 (by decide +kernel) rfl
theorem lkL_23 : Cond.methodLink x.cls 23 yX6_told ∈ wok := mem_wok 311 (by decide +kernel) rfl
theorem lkL_27 : Cond.methodLink x.cls 27 yX7_told ∈ wok := mem_wok 968 (by decide +kernel) rfl
theorem lkL_28 : Cond.methodLink x.cls 28 yX6_carried ∈ wok := mem_wok 388 (by decide +kernel) rfl
theorem lkL_32 : Cond.methodLink x.cls 32 yX7_carried ∈ wok := mem_wok 1012 (by decide +kernel) rfl
theorem lkL_33 : Cond.methodLink x.cls 33 yX6_feed ∈ wok := mem_wok 396 (by decide +kernel) rfl
theorem lkL_36 : Cond.methodLink x.cls 36 yX7_feed ∈ wok := mem_wok 1020 (by decide +kernel) rfl
theorem lkL_37 : Cond.methodLink x.cls 37 yX6_text ∈ wok := mem_wok 404 (by decide +kernel) rfl
theorem lkL_41 : Cond.methodLink x.cls 41 yX7_text ∈ wok := mem_wok 1024 (by decide +kernel) rfl
theorem lkL_42 : Cond.methodLink x.cls 42 yX6_force ∈ wok := mem_wok 578 (by decide +kernel) rfl
theorem lkL_45 : Cond.methodLink x.cls 45 yX7_force ∈ wok := mem_wok 1083 (by decide +kernel) rfl
theorem lkL_46 : Cond.methodLink x.cls 46 yX6_tide ∈ wok := mem_wok 582 (by decide +kernel) rfl
theorem lkL_49 : Cond.methodLink x.cls 49 yX7_tide ∈ wok := mem_wok 1087 (by decide +kernel) rfl
theorem lkL_50 : Cond.methodLink x.cls 50 yX6_run ∈ wok := mem_wok 600 (by decide +kernel) rfl
theorem lkL_53 : Cond.methodLink x.cls 53 yX7_run ∈ wok := mem_wok 1100 (by decide +kernel) rfl
theorem lkL_54 : Cond.methodLink x.cls 54 yX6_all ∈ wok := mem_wok 623 (by decide +kernel) rfl
theorem lkL_57 : Cond.methodLink x.cls 57 yX7_all ∈ wok := mem_wok 1120 (by decide +kernel) rfl
theorem lkL_58 : Cond.methodLink x.cls 58 yX6_meet ∈ wok := mem_wok 635 (by decide +kernel) rfl
theorem lkL_61 : Cond.methodLink x.cls 61 yX7_meet ∈ wok := mem_wok 1132 (by decide +kernel) rfl
theorem lkL_62 : Cond.methodLink x.cls 62 yX6_walk ∈ wok := mem_wok 643 (by decide +kernel) rfl
theorem lkL_65 : Cond.methodLink x.cls 65 yX7_walk ∈ wok := mem_wok 1140 (by decide +kernel) rfl
theorem lkL_66 : Cond.methodLink x.cls 66 yX6_jars ∈ wok := mem_wok 663 (by decide +kernel) rfl
theorem lkL_69 : Cond.methodLink x.cls 69 yX7_jars ∈ wok := mem_wok 1151 (by decide +kernel) rfl
theorem lkL_70 : Cond.methodLink x.cls 70 yX6_can ∈ wok := mem_wok 701 (by decide +kernel) rfl
theorem lkL_73 : Cond.methodLink x.cls 73 yX7_can ∈ wok := mem_wok 1167 (by decide +kernel) rfl
theorem lkL_74 : Cond.methodLink x.cls 74 yX6_twos ∈ wok := mem_wok 706 (by decide +kernel) rfl
theorem lkL_77 : Cond.methodLink x.cls 77 yX7_twos ∈ wok := mem_wok 1171 (by decide +kernel) rfl
theorem lkL_78 : Cond.methodLink x.cls 78 yX6_toss ∈ wok := mem_wok 717 (by decide +kernel) rfl
theorem lkL_81 : Cond.methodLink x.cls 81 yX7_toss ∈ wok := mem_wok 1179 (by decide +kernel) rfl
theorem lkL_82 : Cond.methodLink x.cls 82 yX6_mean ∈ wok := mem_wok 725 (by decide +kernel) rfl
theorem lkL_86 : Cond.methodLink x.cls 86 yX7_mean ∈ wok := mem_wok 1187 (by decide +kernel) rfl
theorem lkL_87 : Cond.methodLink x.cls 87 yX6_tells ∈ wok := mem_wok 733 (by decide +kernel) rfl
theorem lkL_90 : Cond.methodLink x.cls 90 yX7_tells ∈ wok := mem_wok 1216 (by decide +kernel) rfl
theorem lkL_91 : Cond.methodLink x.cls 91 yX6_film ∈ wok := mem_wok 765 (by decide +kernel) rfl
theorem lkL_94 : Cond.methodLink x.cls 94 yX7_film ∈ wok := mem_wok 1232 (by decide +kernel) rfl
theorem lkL_95 : Cond.methodLink x.cls 95 yX6_drawn ∈ wok := mem_wok 778 (by decide +kernel) rfl
theorem lkL_98 : Cond.methodLink x.cls 98 yX7_drawn ∈ wok := mem_wok 1237 (by decide +kernel) rfl
theorem lkL_99 : Cond.methodLink x.cls 99 yX6_chance ∈ wok := mem_wok 787 (by decide +kernel) rfl
theorem lkL_103 : Cond.methodLink x.cls 103 yX7_chance ∈ wok := mem_wok 1242 (by decide +kernel) rfl
theorem lkL_104 : Cond.methodLink x.cls 104 yX6_image ∈ wok := mem_wok 791 (by decide +kernel) rfl
theorem lkL_107 : Cond.methodLink x.cls 107 yX7_image ∈ wok := mem_wok 1247 (by decide +kernel) rfl
theorem lkL_108 : Cond.methodLink x.cls 108 yX6_back ∈ wok := mem_wok 795 (by decide +kernel) rfl
theorem lkL_111 : Cond.methodLink x.cls 111 yX7_back ∈ wok := mem_wok 1251 (by decide +kernel) rfl
theorem lkL_112 : Cond.methodLink x.cls 112 yX6_count ∈ wok := mem_wok 799 (by decide +kernel) rfl
theorem lkL_115 : Cond.methodLink x.cls 115 yX7_count ∈ wok := mem_wok 1255 (by decide +kernel) rfl
theorem lkL_116 : Cond.methodLink x.cls 116 yX6_sheet ∈ wok := mem_wok 808 (by decide +kernel) rfl
theorem lkL_119 : Cond.methodLink x.cls 119 yX7_sheet ∈ wok := mem_wok 1195 (by decide +kernel) rfl
theorem lkL_120 : Cond.methodLink x.cls 120 yX6_cell ∈ wok := mem_wok 812 (by decide +kernel) rfl
theorem lkL_123 : Cond.methodLink x.cls 123 yX7_cell ∈ wok := mem_wok 1199 (by decide +kernel) rfl
theorem lkL_124 : Cond.methodLink x.cls 124 yX6_copy ∈ wok := mem_wok 820 (by decide +kernel) rfl
theorem lkL_128 : Cond.methodLink x.cls 128 yX7_copy ∈ wok := mem_wok 1203 (by decide +kernel) rfl
theorem lkL_129 : Cond.methodLink x.cls 129 yX6_finds ∈ wok := mem_wok 825 (by decide +kernel) rfl
theorem lkL_132 : Cond.methodLink x.cls 132 yX7_finds ∈ wok := mem_wok 1207 (by decide +kernel) rfl
theorem lkL_133 : Cond.methodLink x.cls 133 yX6_taken ∈ wok := mem_wok 829 (by decide +kernel) rfl
theorem lkL_136 : Cond.methodLink x.cls 136 yX7_taken ∈ wok := mem_wok 1212 (by decide +kernel) rfl
theorem lkX7_1 : Cond.methodLink RX7 1 Lib.objectInit ∈ wok := mem_wok 843 (by decide +kernel) rfl
theorem lkX7_28 : Cond.methodLink RX7 28 yX7_firstText ∈ wok := mem_wok 844 (by decide +kernel) rfl
theorem lkX7_77 : Cond.methodLink RX7 77 yJ9_min_7cf53 ∈ wok := mem_wok 992 (by decide +kernel) rfl
theorem lkX7_83 : Cond.methodLink RX7 83 yJ9_max_7cf53 ∈ wok := mem_wok 1002 (by decide +kernel) rfl
theorem lkX7_86 : Cond.methodLink RX7 86 yX7_isIn ∈ wok := mem_wok 945 (by decide +kernel) rfl
theorem lkX7_90 : Cond.methodLink RX7 90 yJ9_abs_0f7a4 ∈ wok := mem_wok 991 (by decide +kernel) rfl
theorem lkX7_94 : Cond.methodLink RX7 94 yX7_isPiece ∈ wok := mem_wok 952 (by decide +kernel) rfl
theorem lkX7_98 : Cond.methodLink RX7 98 yX7_place ∈ wok := mem_wok 948 (by decide +kernel) rfl
theorem lkX7_101 : Cond.methodLink RX7 101 yX7_many ∈ wok := mem_wok 960 (by decide +kernel) rfl
theorem lkX7_104 : Cond.methodLink RX7 104 yX7_change ∈ wok := mem_wok 964 (by decide +kernel) rfl
theorem lkX7_108 : Cond.methodLink RX7 108 yX7_of ∈ wok := mem_wok 976 (by decide +kernel) rfl
theorem lkX7_111 : Cond.methodLink RX7 111 yX7_clashes ∈ wok := mem_wok 1008 (by decide +kernel) rfl
theorem lkX7_115 : Cond.methodLink RX7 115 yX7_lying ∈ wok := mem_wok 972 (by decide +kernel) rfl
theorem lkX7_118 : Cond.methodLink RX7 118 yX7_wears ∈ wok := mem_wok 980 (by decide +kernel) rfl
theorem lkX7_121 : Cond.methodLink RX7 121 yX7_clashing ∈ wok := mem_wok 1004 (by decide +kernel) rfl
theorem lkX7_124 : Cond.methodLink RX7 124 yX7_carries ∈ wok := mem_wok 1016 (by decide +kernel) rfl
theorem lkX7_136 : Cond.methodLink RX7 136 yX7_sortAt ∈ wok := mem_wok 1036 (by decide +kernel) rfl
theorem lkX7_148 : Cond.methodLink RX7 148 yX7_rank ∈ wok := mem_wok 1068 (by decide +kernel) rfl
theorem lkX7_151 : Cond.methodLink RX7 151 yX7_last ∈ wok := mem_wok 1064 (by decide +kernel) rfl
theorem lkX7_154 : Cond.methodLink RX7 154 yX7_write ∈ wok := mem_wok 1052 (by decide +kernel) rfl
theorem lkX7_161 : Cond.methodLink RX7 161 yX7_word ∈ wok := mem_wok 1040 (by decide +kernel) rfl
theorem lkX7_164 : Cond.methodLink RX7 164 yX7_isSign ∈ wok := mem_wok 1060 (by decide +kernel) rfl
theorem lkX7_167 : Cond.methodLink RX7 167 yX7_numberThere ∈ wok := mem_wok 1056 (by decide +kernel) rfl
theorem lkX7_170 : Cond.methodLink RX7 170 yX7_await ∈ wok := mem_wok 1071 (by decide +kernel) rfl
theorem lkX7_173 : Cond.methodLink RX7 173 yX7_begin ∈ wok := mem_wok 1048 (by decide +kernel) rfl
theorem lkX7_176 : Cond.methodLink RX7 176 yX7_next ∈ wok := mem_wok 1032 (by decide +kernel) rfl
theorem lkX7_179 : Cond.methodLink RX7 179 yX7_settle ∈ wok := mem_wok 1075 (by decide +kernel) rfl
theorem lkX7_182 : Cond.methodLink RX7 182 yX7_between ∈ wok := mem_wok 1079 (by decide +kernel) rfl
theorem lkX7_185 : Cond.methodLink RX7 185 yX7_isE ∈ wok := mem_wok 1044 (by decide +kernel) rfl
theorem lkX7_189 : Cond.methodLink RX7 189 yX7_isText ∈ wok := mem_wok 1028 (by decide +kernel) rfl
theorem lkX7_192 : Cond.methodLink RX7 192 yX7_yes ∈ wok := mem_wok 993 (by decide +kernel) rfl
theorem lkX7_196 : Cond.methodLink RX7 196 yX7_apart ∈ wok := mem_wok 988 (by decide +kernel) rfl
theorem lkX7_199 : Cond.methodLink RX7 199 yX7_deed ∈ wok := mem_wok 996 (by decide +kernel) rfl
theorem lkX7_203 : Cond.methodLink RX7 203 yX7_tell ∈ wok := mem_wok 984 (by decide +kernel) rfl
theorem lkX7_206 : Cond.methodLink RX7 206 yX7_bound ∈ wok := mem_wok 999 (by decide +kernel) rfl
theorem lkX7_209 : Cond.methodLink RX7 209 yJ6_bitCount_0f7a4 ∈ wok := mem_wok 1003 (by decide +kernel) rfl
theorem lkX7_214 : Cond.methodLink RX7 214 yJ9_floorMod_7cf53 ∈ wok := mem_wok 1095 (by decide +kernel) rfl
theorem lkX7_217 : Cond.methodLink RX7 217 yX7_goTide ∈ wok := mem_wok 1091 (by decide +kernel) rfl
theorem lkX7_220 : Cond.methodLink RX7 220 yX7_rounds ∈ wok := mem_wok 1096 (by decide +kernel) rfl
theorem lkX7_223 : Cond.methodLink RX7 223 yX7_keep ∈ wok := mem_wok 1104 (by decide +kernel) rfl
theorem lkX7_227 : Cond.methodLink RX7 227 yX7_sharps ∈ wok := mem_wok 1108 (by decide +kernel) rfl
theorem lkX7_230 : Cond.methodLink RX7 230 yX7_places ∈ wok := mem_wok 1112 (by decide +kernel) rfl
theorem lkX7_233 : Cond.methodLink RX7 233 yX7_lay ∈ wok := mem_wok 1116 (by decide +kernel) rfl
theorem lkX7_236 : Cond.methodLink RX7 236 yX7_when ∈ wok := mem_wok 1124 (by decide +kernel) rfl
theorem lkX7_239 : Cond.methodLink RX7 239 yX7_farOut ∈ wok := mem_wok 1128 (by decide +kernel) rfl
theorem lkX7_242 : Cond.methodLink RX7 242 yX7_isTwo ∈ wok := mem_wok 1136 (by decide +kernel) rfl
theorem lkX7_245 : Cond.methodLink RX7 245 yX7_isSheet ∈ wok := mem_wok 1144 (by decide +kernel) rfl
theorem lkX7_248 : Cond.methodLink RX7 248 yX7_hurts ∈ wok := mem_wok 1147 (by decide +kernel) rfl
theorem lkX7_257 : Cond.methodLink RX7 257 yX7_fill ∈ wok := mem_wok 1163 (by decide +kernel) rfl
theorem lkX7_261 : Cond.methodLink RX7 261 yX7_isUnlike ∈ wok := mem_wok 1159 (by decide +kernel) rfl
theorem lkX7_264 : Cond.methodLink RX7 264 yX7_jarsBut ∈ wok := mem_wok 1155 (by decide +kernel) rfl
theorem lkX7_267 : Cond.methodLink RX7 267 yX7_pair ∈ wok := mem_wok 1175 (by decide +kernel) rfl
theorem lkX7_270 : Cond.methodLink RX7 270 yX7_soon ∈ wok := mem_wok 1183 (by decide +kernel) rfl
theorem lkX7_273 : Cond.methodLink RX7 273 yX7_gcd ∈ wok := mem_wok 1192 (by decide +kernel) rfl
theorem lkX7_279 : Cond.methodLink RX7 279 yX7_piece ∈ wok := mem_wok 1211 (by decide +kernel) rfl
theorem lkX7_283 : Cond.methodLink RX7 283 yX7_otherwise ∈ wok := mem_wok 1220 (by decide +kernel) rfl
theorem lkX7_286 : Cond.methodLink RX7 286 yX7_fits ∈ wok := mem_wok 1224 (by decide +kernel) rfl
theorem lkX7_289 : Cond.methodLink RX7 289 yX7_sharpsBy ∈ wok := mem_wok 1228 (by decide +kernel) rfl
theorem lkX7_293 : Cond.methodLink RX7 293 yX7_sheet ∈ wok := mem_wok 1236 (by decide +kernel) rfl
theorem lkX7_297 : Cond.methodLink RX7 297 yX7_drawn ∈ wok := mem_wok 1246 (by decide +kernel) rfl
theorem lkX7_304 : Cond.methodLink RX7 304 yX7_cants ∈ wok := mem_wok 1259 (by decide +kernel) rfl
theorem lkJ0_335 : Cond.methodLink RJ0 335 yJ0_coder_7d493 ∈ wok := mem_wok 484 (by decide +kernel) rfl
theorem lkJ0_492 : Cond.methodLink RJ0 492 yJ0_isLatin1_aae02 ∈ wok := mem_wok 428 (by decide +kernel) rfl
theorem lkJ0_495 : Cond.methodLink RJ0 495 yJ1_charAt_3b067 ∈ wok := mem_wok 434 (by decide +kernel) rfl
theorem lkJ0_505 : Cond.methodLink RJ0 505 yJ0_length_8abf5 ∈ wok := mem_wok 480 (by decide +kernel) rfl
theorem lkJ0_633 : Cond.methodLink RJ0 633 yJ0_indexOf_7cf53 ∈ wok := mem_wok 476 (by decide +kernel) rfl
theorem lkJ0_637 : Cond.methodLink RJ0 637 yJ1_indexOf_4cfef ∈ wok := mem_wok 488 (by decide +kernel) rfl
theorem lkJ0_1059 : Cond.methodLink RJ0 1059 yJ3_checkIndex_8e157 ∈ wok := mem_wok 442 (by decide +kernel) rfl
theorem lkJ1_9 : Cond.methodLink RJ1 9 yJ0_checkIndex_df160 ∈ wok := mem_wok 437 (by decide +kernel) rfl
theorem lkJ1_38 : Cond.methodLink RJ1 38 yJ9_min_7cf53 ∈ wok := mem_wok 495 (by decide +kernel) rfl
theorem lkJ1_88 : Cond.methodLink RJ1 88 yJ1_canEncode_9a6ad ∈ wok := mem_wok 491 (by decide +kernel) rfl
theorem lkJ1_92 : Cond.methodLink RJ1 92 yJ9_max_7cf53 ∈ wok := mem_wok 494 (by decide +kernel) rfl
theorem lkJ1_95 : Cond.methodLink RJ1 95 yJ1_indexOfChar_4cfef ∈ wok := mem_wok 496 (by decide +kernel) rfl
theorem lkJ7_150 : Cond.methodLink RJ7 150 arraycopyName ∈ wok := mem_wok 569 (by decide +kernel) rfl
theorem lkJ7_304 : Cond.methodLink RJ7 304 yJ9_min_7cf53 ∈ wok := mem_wok 568 (by decide +kernel) rfl
