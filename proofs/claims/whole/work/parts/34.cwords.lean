set_option maxRecDepth 100000 in
theorem zw57 : Cond.methodLink RX8 1 ⟨"java/lang/Object", "<init>", "()V"⟩ ∈ zbg := zin 57 rfl rfl
set_option maxRecDepth 100000 in
theorem zw58 : Cond.instanceMethod ⟨"java/lang/Object", "<init>", "()V"⟩ ∈ zbg := zin 58 rfl rfl
set_option maxRecDepth 100000 in
theorem zw59 : Cond.code ⟨"java/lang/Object", "<init>", "()V"⟩ object_method_1_code 1 none ∈ zbg := zin 59 rfl rfl
set_option maxRecDepth 100000 in
theorem zw60 : Cond.classLink RX8 7 "FacetFigures$Sorter" ∈ zbg := zin 60 rfl rfl
set_option maxRecDepth 100000 in
theorem zw61 : Cond.instantiable RX5 1 ∈ zbg := zin 61 rfl rfl
set_option maxRecDepth 100000 in
theorem zw62 : Cond.methodLink RX8 9 yX5_init ∈ zbg := zin 62 rfl rfl
set_option maxRecDepth 100000 in
theorem zw63 : Cond.instanceMethod yX5_init ∈ zbg := zin 63 rfl rfl
set_option maxRecDepth 100000 in
theorem zw64 : Cond.code yX5_init prog_7_method_1_code 1 none ∈ zbg := zin 64 rfl rfl
set_option maxRecDepth 100000 in
theorem zw65 : Cond.methodLink RX5 1 ⟨"java/lang/Object", "<init>", "()V"⟩ ∈ zbg := zin 65 rfl rfl
set_option maxRecDepth 100000 in
theorem zw70 : Cond.arrayClass .long ∈ zbg := zin 70 rfl rfl
set_option maxRecDepth 100000 in
theorem zw71 : Cond.classLink RX8 10 "FacetFigures$Stock" ∈ zbg := zin 71 rfl rfl
set_option maxRecDepth 100000 in
theorem zw72 : Cond.instantiable RX6 4 ∈ zbg := zin 72 rfl rfl
set_option maxRecDepth 100000 in
theorem zw73 : Cond.methodLink RX8 12 yX6_init ∈ zbg := zin 73 rfl rfl
set_option maxRecDepth 100000 in
theorem zw74 : Cond.instanceMethod yX6_init ∈ zbg := zin 74 rfl rfl
set_option maxRecDepth 100000 in
theorem zw75 : Cond.code yX6_init prog_8_method_1_code 1 none ∈ zbg := zin 75 rfl rfl
set_option maxRecDepth 100000 in
theorem zw76 : Cond.methodLink RX6 3 ⟨"java/lang/Object", "<init>", "()V"⟩ ∈ zbg := zin 76 rfl rfl
set_option maxRecDepth 100000 in
theorem zw94 : Cond.arrayClass .boolean ∈ zbg := zin 94 rfl rfl
set_option maxRecDepth 100000 in
theorem zw95 : Cond.arrayClass .int ∈ zbg := zin 95 rfl rfl
set_option maxRecDepth 100000 in
theorem zw96 : Cond.classLink RX8 19 "FacetFigures$Hand" ∈ zbg := zin 96 rfl rfl
set_option maxRecDepth 100000 in
theorem zw97 : Cond.instantiable RX3 3 ∈ zbg := zin 97 rfl rfl
set_option maxRecDepth 100000 in
theorem zw98 : Cond.methodLink RX8 21 yX3_init ∈ zbg := zin 98 rfl rfl
set_option maxRecDepth 100000 in
theorem zw99 : Cond.instanceMethod yX3_init ∈ zbg := zin 99 rfl rfl
set_option maxRecDepth 100000 in
theorem zw100 : Cond.code yX3_init prog_5_method_1_code 2 none ∈ zbg := zin 100 rfl rfl
set_option maxRecDepth 100000 in
theorem zw101 : Cond.methodLink RX3 3 ⟨"java/lang/Object", "<init>", "()V"⟩ ∈ zbg := zin 101 rfl rfl
set_option maxRecDepth 100000 in
theorem zw113 : Cond.classLink RX8 28 "FacetFigures$Facet" ∈ zbg := zin 113 rfl rfl
set_option maxRecDepth 100000 in
theorem zw115 : Cond.instantiable RX1 14 ∈ zbg := zin 115 rfl rfl
set_option maxRecDepth 100000 in
theorem zw116 : Cond.methodLink RX8 34 yX1_init ∈ zbg := zin 116 rfl rfl
set_option maxRecDepth 100000 in
theorem zw117 : Cond.instanceMethod yX1_init ∈ zbg := zin 117 rfl rfl
set_option maxRecDepth 100000 in
theorem zw118 : Cond.code yX1_init prog_3_method_1_code 1 none ∈ zbg := zin 118 rfl rfl
set_option maxRecDepth 100000 in
theorem zw119 : Cond.methodLink RX1 3 ⟨"java/lang/Object", "<init>", "()V"⟩ ∈ zbg := zin 119 rfl rfl
set_option maxRecDepth 100000 in
theorem zw177 : Cond.classLink RX8 35 "FacetFigures$GroupList" ∈ zbg := zin 177 rfl rfl
set_option maxRecDepth 100000 in
theorem zw178 : Cond.instantiable RX2 9 ∈ zbg := zin 178 rfl rfl
set_option maxRecDepth 100000 in
theorem zw179 : Cond.methodLink RX8 37 yX2_init ∈ zbg := zin 179 rfl rfl
set_option maxRecDepth 100000 in
theorem zw180 : Cond.instanceMethod yX2_init ∈ zbg := zin 180 rfl rfl
set_option maxRecDepth 100000 in
theorem zw181 : Cond.code yX2_init prog_4_method_1_code 2 none ∈ zbg := zin 181 rfl rfl
set_option maxRecDepth 100000 in
theorem zw182 : Cond.methodLink RX2 3 ⟨"java/lang/Object", "<init>", "()V"⟩ ∈ zbg := zin 182 rfl rfl
set_option maxRecDepth 100000 in
theorem zw183 : Cond.classLink RX2 15 "FacetFigures$KeyRow" ∈ zbg := zin 183 rfl rfl
set_option maxRecDepth 100000 in
theorem zw184 : Cond.instantiable RX4 2 ∈ zbg := zin 184 rfl rfl
set_option maxRecDepth 100000 in
theorem zw185 : Cond.methodLink RX2 17 yX4_init ∈ zbg := zin 185 rfl rfl
set_option maxRecDepth 100000 in
theorem zw186 : Cond.instanceMethod yX4_init ∈ zbg := zin 186 rfl rfl
set_option maxRecDepth 100000 in
theorem zw187 : Cond.code yX4_init prog_6_method_1_code 1 none ∈ zbg := zin 187 rfl rfl
set_option maxRecDepth 100000 in
theorem zw188 : Cond.methodLink RX4 3 ⟨"java/lang/Object", "<init>", "()V"⟩ ∈ zbg := zin 188 rfl rfl
set_option maxRecDepth 100000 in
theorem zw227 : Cond.classLink RX8 44 "FacetFigures$ValueRow" ∈ zbg := zin 227 rfl rfl
set_option maxRecDepth 100000 in
theorem zw228 : Cond.instantiable RX7 3 ∈ zbg := zin 228 rfl rfl
set_option maxRecDepth 100000 in
theorem zw229 : Cond.methodLink RX8 46 yX7_init ∈ zbg := zin 229 rfl rfl
set_option maxRecDepth 100000 in
theorem zw230 : Cond.instanceMethod yX7_init ∈ zbg := zin 230 rfl rfl
set_option maxRecDepth 100000 in
theorem zw231 : Cond.code yX7_init prog_9_method_1_code 2 none ∈ zbg := zin 231 rfl rfl
set_option maxRecDepth 100000 in
theorem zw232 : Cond.methodLink RX7 3 ⟨"java/lang/Object", "<init>", "()V"⟩ ∈ zbg := zin 232 rfl rfl
set_option maxRecDepth 100000 in
theorem zw621 : Cond.methodLink RX9 1 ⟨"java/lang/Object", "<init>", "()V"⟩ ∈ zbg := zin 621 rfl rfl
set_option maxRecDepth 100000 in
theorem zkX4_init : zkI yX4_init cX4_init 1 0 := ⟨zw186, zw46, zw187, rfl, by decide, by decide, by decide +kernel⟩
set_option maxRecDepth 100000 in
theorem zkX5_init : zkI yX5_init cX5_init 1 0 := ⟨zw63, zw41, zw64, rfl, by decide, by decide, by decide +kernel⟩
set_option maxRecDepth 100000 in
theorem zkX6_init : zkI yX6_init cX6_init 1 0 := ⟨zw74, zw42, zw75, rfl, by decide, by decide, by decide +kernel⟩
set_option maxRecDepth 100000 in
theorem zkX3_init : zkI yX3_init cX3_init 2 1 := ⟨zw99, zw43, zw100, rfl, by decide, by decide, by decide +kernel⟩
set_option maxRecDepth 100000 in
theorem zkX1_init : zkI yX1_init cX1_init 1 0 := ⟨zw117, zw44, zw118, rfl, by decide, by decide, by decide +kernel⟩
set_option maxRecDepth 100000 in
theorem zkX2_init : zkI yX2_init cX2_init 2 1 := ⟨zw180, zw45, zw181, rfl, by decide, by decide, by decide +kernel⟩
set_option maxRecDepth 100000 in
theorem zkX7_init : zkI yX7_init cX7_init 2 1 := ⟨zw230, zw47, zw231, rfl, by decide, by decide, by decide +kernel⟩
