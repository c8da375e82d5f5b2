set_option maxRecDepth 100000 in
theorem zw0 : Cond.selects RX8 yX8_leaveAll yX8_leaveAll ∈ zbg := zin 0 rfl rfl
set_option maxRecDepth 100000 in
theorem zw1 : Cond.selects RX3 yX3_shrinkTo yX3_shrinkTo ∈ zbg := zin 1 rfl rfl
set_option maxRecDepth 100000 in
theorem zw2 : Cond.selects RX8 yX8_facetAt yX8_facetAt ∈ zbg := zin 2 rfl rfl
set_option maxRecDepth 100000 in
theorem zw3 : Cond.selects RX8 yX8_groupsOf yX8_groupsOf ∈ zbg := zin 3 rfl rfl
set_option maxRecDepth 100000 in
theorem zw4 : Cond.selects RX1 yX1_addKeysOf yX1_addKeysOf ∈ zbg := zin 4 rfl rfl
set_option maxRecDepth 100000 in
theorem zw5 : Cond.selects RX1 yX1_addRangeKeys yX1_addRangeKeys ∈ zbg := zin 5 rfl rfl
set_option maxRecDepth 100000 in
theorem zw6 : Cond.selects RX2 yX2_addPair yX2_addPair ∈ zbg := zin 6 rfl rfl
set_option maxRecDepth 100000 in
theorem zw7 : Cond.selects RX5 yX5_merge yX5_merge ∈ zbg := zin 7 rfl rfl
set_option maxRecDepth 100000 in
theorem zw8 : Cond.selects RX2 yX2_cutRun yX2_cutRun ∈ zbg := zin 8 rfl rfl
set_option maxRecDepth 100000 in
theorem zw9 : Cond.selects RX2 yX2_pairKey yX2_pairKey ∈ zbg := zin 9 rfl rfl
set_option maxRecDepth 100000 in
theorem zw10 : Cond.selects RX2 yX2_weight yX2_weight ∈ zbg := zin 10 rfl rfl
set_option maxRecDepth 100000 in
theorem zw11 : Cond.selects RX2 yX2_pairObject yX2_pairObject ∈ zbg := zin 11 rfl rfl
set_option maxRecDepth 100000 in
theorem zw12 : Cond.selects RX2 yX2_groupAt yX2_groupAt ∈ zbg := zin 12 rfl rfl
set_option maxRecDepth 100000 in
theorem zw13 : Cond.selects RX8 yX8_sampleIsTaken yX8_sampleIsTaken ∈ zbg := zin 13 rfl rfl
set_option maxRecDepth 100000 in
theorem zw14 : Cond.selects RX7 yX7_sum yX7_sum ∈ zbg := zin 14 rfl rfl
set_option maxRecDepth 100000 in
theorem zw15 : Cond.selects RX7 yX7_atPlace yX7_atPlace ∈ zbg := zin 15 rfl rfl
set_option maxRecDepth 100000 in
theorem zw16 : Cond.selects RX7 yX7_different yX7_different ∈ zbg := zin 16 rfl rfl
set_option maxRecDepth 100000 in
theorem zw17 : Cond.selects RX9 yX9_changes yX9_changes ∈ zbg := zin 17 rfl rfl
set_option maxRecDepth 100000 in
theorem zw18 : Cond.selects RX9 yX9_isObject yX9_isObject ∈ zbg := zin 18 rfl rfl
set_option maxRecDepth 100000 in
theorem zw19 : Cond.selects RX9 yX9_isFacet yX9_isFacet ∈ zbg := zin 19 rfl rfl
set_option maxRecDepth 100000 in
theorem zw20 : Cond.selects RX9 yX9_findGroups yX9_findGroups ∈ zbg := zin 20 rfl rfl
set_option maxRecDepth 100000 in
theorem zw21 : Cond.selects RX9 yX9_findKeys yX9_findKeys ∈ zbg := zin 21 rfl rfl
set_option maxRecDepth 100000 in
theorem zw22 : Cond.selects RX9 yX9_findKeysOf yX9_findKeysOf ∈ zbg := zin 22 rfl rfl
set_option maxRecDepth 100000 in
theorem zw23 : Cond.selects RX9 yX9_giveKeys yX9_giveKeys ∈ zbg := zin 23 rfl rfl
set_option maxRecDepth 100000 in
theorem zw24 : Cond.selects RX9 yX9_give yX9_give ∈ zbg := zin 24 rfl rfl
set_option maxRecDepth 100000 in
theorem zw25 : Cond.selects RX9 yX9_givePaths yX9_givePaths ∈ zbg := zin 25 rfl rfl
set_option maxRecDepth 100000 in
theorem zw26 : Cond.selects RX9 yX9_giveDays yX9_giveDays ∈ zbg := zin 26 rfl rfl
set_option maxRecDepth 100000 in
theorem zw27 : Cond.selects RX9 yX9_counts yX9_counts ∈ zbg := zin 27 rfl rfl
set_option maxRecDepth 100000 in
theorem zw28 : Cond.selects RX9 yX9_atHand yX9_atHand ∈ zbg := zin 28 rfl rfl
set_option maxRecDepth 100000 in
theorem zw29 : Cond.selects RX9 yX9_isNew yX9_isNew ∈ zbg := zin 29 rfl rfl
set_option maxRecDepth 100000 in
theorem zw30 : Cond.selects RX9 yX9_measure yX9_measure ∈ zbg := zin 30 rfl rfl
set_option maxRecDepth 100000 in
theorem zw31 : Cond.selects RX9 yX9_isIn yX9_isIn ∈ zbg := zin 31 rfl rfl
set_option maxRecDepth 100000 in
theorem zw32 : Cond.selects RX9 yX9_hasKey yX9_hasKey ∈ zbg := zin 32 rfl rfl
set_option maxRecDepth 100000 in
theorem zw33 : Cond.selects RX9 yX9_sumOf yX9_sumOf ∈ zbg := zin 33 rfl rfl
set_option maxRecDepth 100000 in
theorem zw34 : Cond.selects RX9 yX9_move yX9_move ∈ zbg := zin 34 rfl rfl
set_option maxRecDepth 100000 in
theorem zw35 : Cond.selects RX9 yX9_isBefore yX9_isBefore ∈ zbg := zin 35 rfl rfl
set_option maxRecDepth 100000 in
theorem zw36 : Cond.selects RX9 yX9_isGroup yX9_isGroup ∈ zbg := zin 36 rfl rfl
set_option maxRecDepth 100000 in
theorem zw37 : Cond.selects RX9 yX9_findRow yX9_findRow ∈ zbg := zin 37 rfl rfl
set_option maxRecDepth 100000 in
theorem zw38 : Cond.selects RX9 yX9_lay yX9_lay ∈ zbg := zin 38 rfl rfl
set_option maxRecDepth 100000 in
theorem zw40 : Cond.initialized RX8 ∈ zbg := zin 40 rfl rfl
set_option maxRecDepth 100000 in
theorem zw41 : Cond.initialized RX5 ∈ zbg := zin 41 rfl rfl
set_option maxRecDepth 100000 in
theorem zw42 : Cond.initialized RX6 ∈ zbg := zin 42 rfl rfl
set_option maxRecDepth 100000 in
theorem zw43 : Cond.initialized RX3 ∈ zbg := zin 43 rfl rfl
set_option maxRecDepth 100000 in
theorem zw44 : Cond.initialized RX1 ∈ zbg := zin 44 rfl rfl
set_option maxRecDepth 100000 in
theorem zw45 : Cond.initialized RX2 ∈ zbg := zin 45 rfl rfl
set_option maxRecDepth 100000 in
theorem zw46 : Cond.initialized RX4 ∈ zbg := zin 46 rfl rfl
set_option maxRecDepth 100000 in
theorem zw47 : Cond.initialized RX7 ∈ zbg := zin 47 rfl rfl
set_option maxRecDepth 100000 in
theorem zw48 : Cond.initialized RX9 ∈ zbg := zin 48 rfl rfl
set_option maxRecDepth 100000 in
theorem zw49 : Cond.initialized RJ9 ∈ zbg := zin 49 rfl rfl
set_option maxRecDepth 100000 in
theorem zw50 : Cond.initialized RX0 ∈ zbg := zin 50 rfl rfl
set_option maxRecDepth 100000 in
theorem zw51 : Cond.initialized RJ10 ∈ zbg := zin 51 rfl rfl
set_option maxRecDepth 100000 in
theorem zw66 : Cond.fieldLink RX5 9 "FacetFigures$Sorter" "spare" "[J" ∈ zbg := zin 66 rfl rfl
set_option maxRecDepth 100000 in
theorem zw77 : Cond.fieldLink RX6 9 "FacetFigures$Stock" "count" "I" ∈ zbg := zin 77 rfl rfl
set_option maxRecDepth 100000 in
theorem zw78 : Cond.fieldLink RX8 59 "FacetFigures$Stock" "count" "I" ∈ zbg := zin 78 rfl rfl
set_option maxRecDepth 100000 in
theorem zw79 : Cond.fieldLink RX2 46 "FacetFigures$Stock" "count" "I" ∈ zbg := zin 79 rfl rfl
set_option maxRecDepth 100000 in
theorem zw80 : Cond.fieldLink RX6 15 "FacetFigures$Stock" "matches" "[Z" ∈ zbg := zin 80 rfl rfl
set_option maxRecDepth 100000 in
theorem zw81 : Cond.fieldLink RX3 23 "FacetFigures$Stock" "matches" "[Z" ∈ zbg := zin 81 rfl rfl
set_option maxRecDepth 100000 in
theorem zw82 : Cond.fieldLink RX8 89 "FacetFigures$Stock" "matches" "[Z" ∈ zbg := zin 82 rfl rfl
set_option maxRecDepth 100000 in
theorem zw83 : Cond.fieldLink RX6 19 "FacetFigures$Stock" "values" "[I" ∈ zbg := zin 83 rfl rfl
set_option maxRecDepth 100000 in
theorem zw84 : Cond.fieldLink RX6 23 "FacetFigures$Stock" "valueCounts" "[I" ∈ zbg := zin 84 rfl rfl
set_option maxRecDepth 100000 in
theorem zw102 : Cond.fieldLink RX3 15 "FacetFigures$Hand" "entered" "I" ∈ zbg := zin 102 rfl rfl
set_option maxRecDepth 100000 in
theorem zw103 : Cond.fieldLink RX8 159 "FacetFigures$Hand" "entered" "I" ∈ zbg := zin 103 rfl rfl
set_option maxRecDepth 100000 in
theorem zw104 : Cond.fieldLink RX3 9 "FacetFigures$Hand" "stock" "LFacetFigures$Stock;" ∈ zbg := zin 104 rfl rfl
set_option maxRecDepth 100000 in
theorem zw105 : Cond.fieldLink RX3 19 "FacetFigures$Hand" "depths" "[I" ∈ zbg := zin 105 rfl rfl
set_option maxRecDepth 100000 in
theorem zw120 : Cond.fieldLink RX1 18 "FacetFigures$Facet" "kind" "I" ∈ zbg := zin 120 rfl rfl
set_option maxRecDepth 100000 in
theorem zw121 : Cond.fieldLink RX8 104 "FacetFigures$Facet" "kind" "I" ∈ zbg := zin 121 rfl rfl
set_option maxRecDepth 100000 in
theorem zw122 : Cond.fieldLink RX1 22 "FacetFigures$Facet" "column" "I" ∈ zbg := zin 122 rfl rfl
set_option maxRecDepth 100000 in
theorem zw123 : Cond.fieldLink RX1 25 "FacetFigures$Facet" "a" "I" ∈ zbg := zin 123 rfl rfl
set_option maxRecDepth 100000 in
theorem zw124 : Cond.fieldLink RX1 28 "FacetFigures$Facet" "b" "I" ∈ zbg := zin 124 rfl rfl
set_option maxRecDepth 100000 in
theorem zw125 : Cond.fieldLink RX1 32 "FacetFigures$Facet" "filterColumn" "I" ∈ zbg := zin 125 rfl rfl
set_option maxRecDepth 100000 in
theorem zw126 : Cond.fieldLink RX8 114 "FacetFigures$Facet" "filterColumn" "I" ∈ zbg := zin 126 rfl rfl
set_option maxRecDepth 100000 in
theorem zw127 : Cond.fieldLink RX1 35 "FacetFigures$Facet" "filterFrom" "I" ∈ zbg := zin 127 rfl rfl
set_option maxRecDepth 100000 in
theorem zw128 : Cond.fieldLink RX8 117 "FacetFigures$Facet" "filterFrom" "I" ∈ zbg := zin 128 rfl rfl
set_option maxRecDepth 100000 in
theorem zw129 : Cond.fieldLink RX1 38 "FacetFigures$Facet" "filterTo" "I" ∈ zbg := zin 129 rfl rfl
set_option maxRecDepth 100000 in
theorem zw130 : Cond.fieldLink RX8 120 "FacetFigures$Facet" "filterTo" "I" ∈ zbg := zin 130 rfl rfl
set_option maxRecDepth 100000 in
theorem zw131 : Cond.fieldLink RX1 41 "FacetFigures$Facet" "leastCount" "I" ∈ zbg := zin 131 rfl rfl
set_option maxRecDepth 100000 in
theorem zw132 : Cond.fieldLink RX2 93 "FacetFigures$Facet" "leastCount" "I" ∈ zbg := zin 132 rfl rfl
set_option maxRecDepth 100000 in
theorem zw133 : Cond.fieldLink RX8 123 "FacetFigures$Facet" "leastCount" "I" ∈ zbg := zin 133 rfl rfl
set_option maxRecDepth 100000 in
theorem zw134 : Cond.fieldLink RX1 44 "FacetFigures$Facet" "asksMissing" "Z" ∈ zbg := zin 134 rfl rfl
set_option maxRecDepth 100000 in
theorem zw135 : Cond.fieldLink RX2 71 "FacetFigures$Facet" "asksMissing" "Z" ∈ zbg := zin 135 rfl rfl
set_option maxRecDepth 100000 in
theorem zw136 : Cond.fieldLink RX8 126 "FacetFigures$Facet" "asksMissing" "Z" ∈ zbg := zin 136 rfl rfl
set_option maxRecDepth 100000 in
theorem zw137 : Cond.fieldLink RX1 48 "FacetFigures$Facet" "orderedBy" "I" ∈ zbg := zin 137 rfl rfl
set_option maxRecDepth 100000 in
theorem zw138 : Cond.fieldLink RX2 100 "FacetFigures$Facet" "orderedBy" "I" ∈ zbg := zin 138 rfl rfl
set_option maxRecDepth 100000 in
theorem zw139 : Cond.fieldLink RX8 130 "FacetFigures$Facet" "orderedBy" "I" ∈ zbg := zin 139 rfl rfl
set_option maxRecDepth 100000 in
theorem zw140 : Cond.fieldLink RX1 51 "FacetFigures$Facet" "sumColumn" "I" ∈ zbg := zin 140 rfl rfl
set_option maxRecDepth 100000 in
theorem zw141 : Cond.fieldLink RX2 106 "FacetFigures$Facet" "sumColumn" "I" ∈ zbg := zin 141 rfl rfl
set_option maxRecDepth 100000 in
theorem zw142 : Cond.fieldLink RX8 133 "FacetFigures$Facet" "sumColumn" "I" ∈ zbg := zin 142 rfl rfl
set_option maxRecDepth 100000 in
theorem zw143 : Cond.fieldLink RX1 54 "FacetFigures$Facet" "rangeCount" "I" ∈ zbg := zin 143 rfl rfl
set_option maxRecDepth 100000 in
theorem zw144 : Cond.fieldLink RX2 82 "FacetFigures$Facet" "rangeCount" "I" ∈ zbg := zin 144 rfl rfl
set_option maxRecDepth 100000 in
theorem zw145 : Cond.fieldLink RX8 108 "FacetFigures$Facet" "rangeCount" "I" ∈ zbg := zin 145 rfl rfl
set_option maxRecDepth 100000 in
theorem zw146 : Cond.fieldLink RX1 9 "FacetFigures$Facet" "froms" "[I" ∈ zbg := zin 146 rfl rfl
set_option maxRecDepth 100000 in
theorem zw147 : Cond.fieldLink RX1 15 "FacetFigures$Facet" "tos" "[I" ∈ zbg := zin 147 rfl rfl
set_option maxRecDepth 100000 in
theorem zw189 : Cond.fieldLink RX4 9 "FacetFigures$KeyRow" "count" "I" ∈ zbg := zin 189 rfl rfl
set_option maxRecDepth 100000 in
theorem zw190 : Cond.fieldLink RX2 65 "FacetFigures$KeyRow" "count" "I" ∈ zbg := zin 190 rfl rfl
set_option maxRecDepth 100000 in
theorem zw191 : Cond.fieldLink RX4 15 "FacetFigures$KeyRow" "keys" "[I" ∈ zbg := zin 191 rfl rfl
set_option maxRecDepth 100000 in
theorem zw192 : Cond.fieldLink RX2 66 "FacetFigures$KeyRow" "keys" "[I" ∈ zbg := zin 192 rfl rfl
set_option maxRecDepth 100000 in
theorem zw198 : Cond.fieldLink RX2 39 "FacetFigures$GroupList" "count" "I" ∈ zbg := zin 198 rfl rfl
set_option maxRecDepth 100000 in
theorem zw199 : Cond.fieldLink RX8 140 "FacetFigures$GroupList" "count" "I" ∈ zbg := zin 199 rfl rfl
set_option maxRecDepth 100000 in
theorem zw200 : Cond.fieldLink RX2 43 "FacetFigures$GroupList" "pairCount" "I" ∈ zbg := zin 200 rfl rfl
set_option maxRecDepth 100000 in
theorem zw201 : Cond.fieldLink RX2 9 "FacetFigures$GroupList" "sorter" "LFacetFigures$Sorter;" ∈ zbg := zin 201 rfl rfl
set_option maxRecDepth 100000 in
theorem zw202 : Cond.fieldLink RX2 18 "FacetFigures$GroupList" "keyRow" "LFacetFigures$KeyRow;" ∈ zbg := zin 202 rfl rfl
set_option maxRecDepth 100000 in
theorem zw203 : Cond.fieldLink RX2 22 "FacetFigures$GroupList" "pairs" "[J" ∈ zbg := zin 203 rfl rfl
set_option maxRecDepth 100000 in
theorem zw204 : Cond.fieldLink RX2 26 "FacetFigures$GroupList" "keys" "[I" ∈ zbg := zin 204 rfl rfl
set_option maxRecDepth 100000 in
theorem zw205 : Cond.fieldLink RX2 30 "FacetFigures$GroupList" "starts" "[I" ∈ zbg := zin 205 rfl rfl
set_option maxRecDepth 100000 in
theorem zw206 : Cond.fieldLink RX2 33 "FacetFigures$GroupList" "ends" "[I" ∈ zbg := zin 206 rfl rfl
set_option maxRecDepth 100000 in
theorem zw207 : Cond.fieldLink RX2 36 "FacetFigures$GroupList" "ranks" "[J" ∈ zbg := zin 207 rfl rfl
set_option maxRecDepth 100000 in
theorem zw233 : Cond.fieldLink RX7 15 "FacetFigures$ValueRow" "count" "I" ∈ zbg := zin 233 rfl rfl
set_option maxRecDepth 100000 in
theorem zw234 : Cond.fieldLink RX7 9 "FacetFigures$ValueRow" "sorter" "LFacetFigures$Sorter;" ∈ zbg := zin 234 rfl rfl
set_option maxRecDepth 100000 in
theorem zw235 : Cond.fieldLink RX7 19 "FacetFigures$ValueRow" "values" "[J" ∈ zbg := zin 235 rfl rfl
set_option maxRecDepth 100000 in
theorem zw243 : Cond.constant RX8 55 (-2000000000 : Int32) ∈ zbg := zin 243 rfl rfl
set_option maxRecDepth 100000 in
theorem zw244 : Cond.fieldLink RX8 13 "FacetFigures" "stock" "LFacetFigures$Stock;" ∈ zbg := zin 244 rfl rfl
set_option maxRecDepth 100000 in
theorem zw245 : Cond.fieldLink RX8 24 "FacetFigures" "atHand" "LFacetFigures$Hand;" ∈ zbg := zin 245 rfl rfl
set_option maxRecDepth 100000 in
theorem zw246 : Cond.fieldLink RX8 30 "FacetFigures" "facets" "[LFacetFigures$Facet;" ∈ zbg := zin 246 rfl rfl
set_option maxRecDepth 100000 in
theorem zw247 : Cond.fieldLink RX8 40 "FacetFigures" "list" "LFacetFigures$GroupList;" ∈ zbg := zin 247 rfl rfl
set_option maxRecDepth 100000 in
theorem zw248 : Cond.fieldLink RX8 47 "FacetFigures" "sample" "LFacetFigures$ValueRow;" ∈ zbg := zin 248 rfl rfl
set_option maxRecDepth 100000 in
theorem zw249 : Cond.fieldLink RX8 51 "FacetFigures" "facetCount" "I" ∈ zbg := zin 249 rfl rfl
set_option maxRecDepth 100000 in
theorem zw250 : Cond.fieldLink RX8 56 "FacetFigures" "listed" "I" ∈ zbg := zin 250 rfl rfl
set_option maxRecDepth 100000 in
theorem zw270 : Cond.constant RX8 62 (-2000000003 : Int32) ∈ zbg := zin 270 rfl rfl
set_option maxRecDepth 100000 in
theorem zw271 : Cond.methodLink RX8 63 yX8_leaveAll ∈ zbg := zin 271 rfl rfl
set_option maxRecDepth 100000 in
theorem zw273 : Cond.instanceMethod yX8_leaveAll ∈ zbg := zin 273 rfl rfl
set_option maxRecDepth 100000 in
theorem zw274 : Cond.code yX8_leaveAll prog_1_method_25_code 1 none ∈ zbg := zin 274 rfl rfl
set_option maxRecDepth 100000 in
theorem zw275 : Cond.methodLink RX8 194 yX3_widenWholly ∈ zbg := zin 275 rfl rfl
set_option maxRecDepth 100000 in
theorem zw276 : Cond.instanceMethod yX3_widenWholly ∈ zbg := zin 276 rfl rfl
set_option maxRecDepth 100000 in
theorem zw277 : Cond.selects RX3 yX3_widenWholly yX3_widenWholly ∈ zbg := zin 277 rfl rfl
set_option maxRecDepth 100000 in
theorem zw278 : Cond.code yX3_widenWholly prog_5_method_6_code 1 none ∈ zbg := zin 278 rfl rfl
set_option maxRecDepth 100000 in
theorem zw279 : Cond.methodLink RX3 29 yX3_shrinkTo ∈ zbg := zin 279 rfl rfl
set_option maxRecDepth 100000 in
theorem zw281 : Cond.instanceMethod yX3_shrinkTo ∈ zbg := zin 281 rfl rfl
set_option maxRecDepth 100000 in
theorem zw282 : Cond.code yX3_shrinkTo prog_5_method_7_code 3 none ∈ zbg := zin 282 rfl rfl
set_option maxRecDepth 100000 in
theorem zw283 : Cond.methodLink RX3 33 yJ9_min_7cf53 ∈ zbg := zin 283 rfl rfl
set_option maxRecDepth 100000 in
theorem zw284 : Cond.static yJ9_min_7cf53 ∈ zbg := zin 284 rfl rfl
set_option maxRecDepth 100000 in
theorem zw285 : Cond.code yJ9_min_7cf53 prog_12_method_69_code 2 (some .int) ∈ zbg := zin 285 rfl rfl
set_option maxRecDepth 100000 in
theorem zw286 : Cond.methodLink RX8 66 yX6_addObject ∈ zbg := zin 286 rfl rfl
set_option maxRecDepth 100000 in
theorem zw287 : Cond.instanceMethod yX6_addObject ∈ zbg := zin 287 rfl rfl
set_option maxRecDepth 100000 in
theorem zw288 : Cond.selects RX6 yX6_addObject yX6_addObject ∈ zbg := zin 288 rfl rfl
set_option maxRecDepth 100000 in
theorem zw289 : Cond.code yX6_addObject prog_8_method_3_code 3 (some .int) ∈ zbg := zin 289 rfl rfl
set_option maxRecDepth 100000 in
theorem zw294 : Cond.methodLink RX8 70 yX6_has ∈ zbg := zin 294 rfl rfl
set_option maxRecDepth 100000 in
theorem zw295 : Cond.instanceMethod yX6_has ∈ zbg := zin 295 rfl rfl
set_option maxRecDepth 100000 in
theorem zw296 : Cond.selects RX6 yX6_has yX6_has ∈ zbg := zin 296 rfl rfl
set_option maxRecDepth 100000 in
theorem zw297 : Cond.code yX6_has prog_8_method_2_code 2 (some .boolean) ∈ zbg := zin 297 rfl rfl
set_option maxRecDepth 100000 in
theorem zw298 : Cond.methodLink RX8 74 yX8_isColumn ∈ zbg := zin 298 rfl rfl
set_option maxRecDepth 100000 in
theorem zw299 : Cond.static yX8_isColumn ∈ zbg := zin 299 rfl rfl
set_option maxRecDepth 100000 in
theorem zw300 : Cond.code yX8_isColumn prog_1_method_22_code 1 (some .boolean) ∈ zbg := zin 300 rfl rfl
set_option maxRecDepth 100000 in
theorem zw301 : Cond.methodLink RX8 77 yX8_isValue ∈ zbg := zin 301 rfl rfl
set_option maxRecDepth 100000 in
theorem zw302 : Cond.static yX8_isValue ∈ zbg := zin 302 rfl rfl
set_option maxRecDepth 100000 in
theorem zw303 : Cond.code yX8_isValue prog_1_method_23_code 1 (some .boolean) ∈ zbg := zin 303 rfl rfl
set_option maxRecDepth 100000 in
theorem zw304 : Cond.constant RX8 192 (-1000000000 : Int32) ∈ zbg := zin 304 rfl rfl
set_option maxRecDepth 100000 in
theorem zw305 : Cond.constant RX8 193 (1000000000 : Int32) ∈ zbg := zin 305 rfl rfl
set_option maxRecDepth 100000 in
theorem zw306 : Cond.constant RX8 80 (-2000000001 : Int32) ∈ zbg := zin 306 rfl rfl
set_option maxRecDepth 100000 in
theorem zw307 : Cond.methodLink RX8 81 yX6_valueCount ∈ zbg := zin 307 rfl rfl
set_option maxRecDepth 100000 in
theorem zw308 : Cond.instanceMethod yX6_valueCount ∈ zbg := zin 308 rfl rfl
set_option maxRecDepth 100000 in
theorem zw309 : Cond.selects RX6 yX6_valueCount yX6_valueCount ∈ zbg := zin 309 rfl rfl
set_option maxRecDepth 100000 in
theorem zw310 : Cond.code yX6_valueCount prog_8_method_5_code 3 (some .int) ∈ zbg := zin 310 rfl rfl
set_option maxRecDepth 100000 in
theorem zw311 : Cond.methodLink RX8 85 yX6_addValue ∈ zbg := zin 311 rfl rfl
set_option maxRecDepth 100000 in
theorem zw312 : Cond.instanceMethod yX6_addValue ∈ zbg := zin 312 rfl rfl
set_option maxRecDepth 100000 in
theorem zw313 : Cond.selects RX6 yX6_addValue yX6_addValue ∈ zbg := zin 313 rfl rfl
set_option maxRecDepth 100000 in
theorem zw314 : Cond.code yX6_addValue prog_8_method_4_code 5 (some .int) ∈ zbg := zin 314 rfl rfl
set_option maxRecDepth 100000 in
theorem zw327 : Cond.constant RX8 93 (1000000 : Int32) ∈ zbg := zin 327 rfl rfl
set_option maxRecDepth 100000 in
theorem zw328 : Cond.methodLink RX8 96 yX1_startOver ∈ zbg := zin 328 rfl rfl
set_option maxRecDepth 100000 in
theorem zw329 : Cond.instanceMethod yX1_startOver ∈ zbg := zin 329 rfl rfl
set_option maxRecDepth 100000 in
theorem zw330 : Cond.selects RX1 yX1_startOver yX1_startOver ∈ zbg := zin 330 rfl rfl
set_option maxRecDepth 100000 in
theorem zw331 : Cond.code yX1_startOver prog_3_method_2_code 5 none ∈ zbg := zin 331 rfl rfl
set_option maxRecDepth 100000 in
theorem zw332 : Cond.constant RX1 31 (-2000000000 : Int32) ∈ zbg := zin 332 rfl rfl
set_option maxRecDepth 100000 in
theorem zw337 : Cond.methodLink RX8 100 yX8_facetAt ∈ zbg := zin 337 rfl rfl
set_option maxRecDepth 100000 in
theorem zw339 : Cond.instanceMethod yX8_facetAt ∈ zbg := zin 339 rfl rfl
set_option maxRecDepth 100000 in
theorem zw340 : Cond.code yX8_facetAt prog_1_method_24_code 2 (some (.object "FacetFigures$Facet")) ∈ zbg := zin 340 rfl rfl
set_option maxRecDepth 100000 in
theorem zw341 : Cond.constant RX8 107 (-2000000002 : Int32) ∈ zbg := zin 341 rfl rfl
set_option maxRecDepth 100000 in
theorem zw342 : Cond.methodLink RX8 111 yX1_addRange ∈ zbg := zin 342 rfl rfl
set_option maxRecDepth 100000 in
theorem zw343 : Cond.instanceMethod yX1_addRange ∈ zbg := zin 343 rfl rfl
set_option maxRecDepth 100000 in
theorem zw344 : Cond.selects RX1 yX1_addRange yX1_addRange ∈ zbg := zin 344 rfl rfl
set_option maxRecDepth 100000 in
theorem zw345 : Cond.code yX1_addRange prog_3_method_3_code 3 (some .int) ∈ zbg := zin 345 rfl rfl
set_option maxRecDepth 100000 in
theorem zw366 : Cond.methodLink RX8 136 yX8_groupsOf ∈ zbg := zin 366 rfl rfl
set_option maxRecDepth 100000 in
theorem zw368 : Cond.instanceMethod yX8_groupsOf ∈ zbg := zin 368 rfl rfl
set_option maxRecDepth 100000 in
theorem zw369 : Cond.code yX8_groupsOf prog_1_method_26_code 3 (some (.object "FacetFigures$GroupList")) ∈ zbg := zin 369 rfl rfl
set_option maxRecDepth 100000 in
theorem zw370 : Cond.methodLink RX8 197 yX2_gather ∈ zbg := zin 370 rfl rfl
set_option maxRecDepth 100000 in
theorem zw371 : Cond.instanceMethod yX2_gather ∈ zbg := zin 371 rfl rfl
set_option maxRecDepth 100000 in
theorem zw372 : Cond.selects RX2 yX2_gather yX2_gather ∈ zbg := zin 372 rfl rfl
set_option maxRecDepth 100000 in
theorem zw373 : Cond.code yX2_gather prog_4_method_2_code 6 none ∈ zbg := zin 373 rfl rfl
set_option maxRecDepth 100000 in
theorem zw374 : Cond.methodLink RX2 49 yX3_has ∈ zbg := zin 374 rfl rfl
set_option maxRecDepth 100000 in
theorem zw375 : Cond.instanceMethod yX3_has ∈ zbg := zin 375 rfl rfl
set_option maxRecDepth 100000 in
theorem zw376 : Cond.selects RX3 yX3_has yX3_has ∈ zbg := zin 376 rfl rfl
set_option maxRecDepth 100000 in
theorem zw377 : Cond.code yX3_has prog_5_method_2_code 2 (some .boolean) ∈ zbg := zin 377 rfl rfl
set_option maxRecDepth 100000 in
theorem zw378 : Cond.methodLink RX2 55 yX1_counts ∈ zbg := zin 378 rfl rfl
set_option maxRecDepth 100000 in
theorem zw379 : Cond.instanceMethod yX1_counts ∈ zbg := zin 379 rfl rfl
set_option maxRecDepth 100000 in
theorem zw380 : Cond.selects RX1 yX1_counts yX1_counts ∈ zbg := zin 380 rfl rfl
set_option maxRecDepth 100000 in
theorem zw381 : Cond.code yX1_counts prog_3_method_4_code 3 (some .boolean) ∈ zbg := zin 381 rfl rfl
set_option maxRecDepth 100000 in
theorem zw382 : Cond.methodLink RX1 57 yX6_hasWithin ∈ zbg := zin 382 rfl rfl
set_option maxRecDepth 100000 in
theorem zw383 : Cond.instanceMethod yX6_hasWithin ∈ zbg := zin 383 rfl rfl
set_option maxRecDepth 100000 in
theorem zw384 : Cond.selects RX6 yX6_hasWithin yX6_hasWithin ∈ zbg := zin 384 rfl rfl
set_option maxRecDepth 100000 in
theorem zw385 : Cond.code yX6_hasWithin prog_8_method_8_code 8 (some .boolean) ∈ zbg := zin 385 rfl rfl
set_option maxRecDepth 100000 in
theorem zw386 : Cond.methodLink RX6 26 yX6_valueCount ∈ zbg := zin 386 rfl rfl
set_option maxRecDepth 100000 in
theorem zw387 : Cond.methodLink RX6 30 yX6_valueAt ∈ zbg := zin 387 rfl rfl
set_option maxRecDepth 100000 in
theorem zw388 : Cond.instanceMethod yX6_valueAt ∈ zbg := zin 388 rfl rfl
set_option maxRecDepth 100000 in
theorem zw389 : Cond.selects RX6 yX6_valueAt yX6_valueAt ∈ zbg := zin 389 rfl rfl
set_option maxRecDepth 100000 in
theorem zw390 : Cond.code yX6_valueAt prog_8_method_6_code 4 (some .int) ∈ zbg := zin 390 rfl rfl
set_option maxRecDepth 100000 in
theorem zw391 : Cond.methodLink RX2 61 yX1_collectKeys ∈ zbg := zin 391 rfl rfl
set_option maxRecDepth 100000 in
theorem zw392 : Cond.instanceMethod yX1_collectKeys ∈ zbg := zin 392 rfl rfl
set_option maxRecDepth 100000 in
theorem zw393 : Cond.selects RX1 yX1_collectKeys yX1_collectKeys ∈ zbg := zin 393 rfl rfl
set_option maxRecDepth 100000 in
theorem zw394 : Cond.code yX1_collectKeys prog_3_method_5_code 6 none ∈ zbg := zin 394 rfl rfl
set_option maxRecDepth 100000 in
theorem zw395 : Cond.methodLink RX1 63 yX4_startOver ∈ zbg := zin 395 rfl rfl
set_option maxRecDepth 100000 in
theorem zw396 : Cond.instanceMethod yX4_startOver ∈ zbg := zin 396 rfl rfl
set_option maxRecDepth 100000 in
theorem zw397 : Cond.selects RX4 yX4_startOver yX4_startOver ∈ zbg := zin 397 rfl rfl
set_option maxRecDepth 100000 in
theorem zw398 : Cond.code yX4_startOver prog_6_method_2_code 1 none ∈ zbg := zin 398 rfl rfl
set_option maxRecDepth 100000 in
theorem zw399 : Cond.methodLink RX1 68 yX6_valueCount ∈ zbg := zin 399 rfl rfl
set_option maxRecDepth 100000 in
theorem zw400 : Cond.methodLink RX1 72 yX6_valueAt ∈ zbg := zin 400 rfl rfl
set_option maxRecDepth 100000 in
theorem zw401 : Cond.methodLink RX1 76 yX1_addKeysOf ∈ zbg := zin 401 rfl rfl
set_option maxRecDepth 100000 in
theorem zw403 : Cond.instanceMethod yX1_addKeysOf ∈ zbg := zin 403 rfl rfl
set_option maxRecDepth 100000 in
theorem zw404 : Cond.code yX1_addKeysOf prog_3_method_6_code 3 none ∈ zbg := zin 404 rfl rfl
set_option maxRecDepth 100000 in
theorem zw405 : Cond.methodLink RX1 80 yX4_add ∈ zbg := zin 405 rfl rfl
set_option maxRecDepth 100000 in
theorem zw406 : Cond.instanceMethod yX4_add ∈ zbg := zin 406 rfl rfl
set_option maxRecDepth 100000 in
theorem zw407 : Cond.selects RX4 yX4_add yX4_add ∈ zbg := zin 407 rfl rfl
set_option maxRecDepth 100000 in
theorem zw408 : Cond.code yX4_add prog_6_method_3_code 3 none ∈ zbg := zin 408 rfl rfl
set_option maxRecDepth 100000 in
theorem zw409 : Cond.methodLink RX1 84 yX1_addPathKeys ∈ zbg := zin 409 rfl rfl
set_option maxRecDepth 100000 in
theorem zw410 : Cond.static yX1_addPathKeys ∈ zbg := zin 410 rfl rfl
set_option maxRecDepth 100000 in
theorem zw411 : Cond.code yX1_addPathKeys prog_3_method_7_code 4 none ∈ zbg := zin 411 rfl rfl
set_option maxRecDepth 100000 in
theorem zw412 : Cond.constant RX1 102 (999999 : Int32) ∈ zbg := zin 412 rfl rfl
set_option maxRecDepth 100000 in
theorem zw413 : Cond.methodLink RX1 87 yX1_addRangeKeys ∈ zbg := zin 413 rfl rfl
set_option maxRecDepth 100000 in
theorem zw415 : Cond.instanceMethod yX1_addRangeKeys ∈ zbg := zin 415 rfl rfl
set_option maxRecDepth 100000 in
theorem zw416 : Cond.code yX1_addRangeKeys prog_3_method_8_code 4 none ∈ zbg := zin 416 rfl rfl
set_option maxRecDepth 100000 in
theorem zw417 : Cond.methodLink RX1 90 yJ9_floorMod_7cf53 ∈ zbg := zin 417 rfl rfl
set_option maxRecDepth 100000 in
theorem zw418 : Cond.static yJ9_floorMod_7cf53 ∈ zbg := zin 418 rfl rfl
set_option maxRecDepth 100000 in
theorem zw419 : Cond.code yJ9_floorMod_7cf53 prog_12_method_50_code 3 (some .int) ∈ zbg := zin 419 rfl rfl
set_option maxRecDepth 100000 in
theorem zw420 : Cond.constant RX1 95 (-1000000 : Int32) ∈ zbg := zin 420 rfl rfl
set_option maxRecDepth 100000 in
theorem zw421 : Cond.constant RX1 96 (1000000 : Int32) ∈ zbg := zin 421 rfl rfl
set_option maxRecDepth 100000 in
theorem zw422 : Cond.methodLink RX1 97 yX0_firstDay ∈ zbg := zin 422 rfl rfl
set_option maxRecDepth 100000 in
theorem zw423 : Cond.static yX0_firstDay ∈ zbg := zin 423 rfl rfl
set_option maxRecDepth 100000 in
theorem zw424 : Cond.code yX0_firstDay prog_2_method_2_code 6 (some .int) ∈ zbg := zin 424 rfl rfl
set_option maxRecDepth 100000 in
theorem zw425 : Cond.methodLink RX0 9 yJ9_floorMod_7cf53 ∈ zbg := zin 425 rfl rfl
set_option maxRecDepth 100000 in
theorem zw426 : Cond.constant RX0 15 (719528 : Int32) ∈ zbg := zin 426 rfl rfl
set_option maxRecDepth 100000 in
theorem zw427 : Cond.constant RX0 16 (146097 : Int32) ∈ zbg := zin 427 rfl rfl
set_option maxRecDepth 100000 in
theorem zw428 : Cond.constantLong RX0 17 (400 : Int64) ∈ zbg := zin 428 rfl rfl
set_option maxRecDepth 100000 in
theorem zw429 : Cond.constantLong RX0 19 (146097 : Int64) ∈ zbg := zin 429 rfl rfl
set_option maxRecDepth 100000 in
theorem zw430 : Cond.methodLink RX0 21 yX0_yearStart ∈ zbg := zin 430 rfl rfl
set_option maxRecDepth 100000 in
theorem zw431 : Cond.static yX0_yearStart ∈ zbg := zin 431 rfl rfl
set_option maxRecDepth 100000 in
theorem zw432 : Cond.code yX0_yearStart prog_2_method_3_code 1 (some .int) ∈ zbg := zin 432 rfl rfl
set_option maxRecDepth 100000 in
theorem zw433 : Cond.methodLink RX0 25 yX0_partStart ∈ zbg := zin 433 rfl rfl
set_option maxRecDepth 100000 in
theorem zw434 : Cond.static yX0_partStart ∈ zbg := zin 434 rfl rfl
set_option maxRecDepth 100000 in
theorem zw435 : Cond.code yX0_partStart prog_2_method_4_code 6 (some .int) ∈ zbg := zin 435 rfl rfl
set_option maxRecDepth 100000 in
theorem zw436 : Cond.fieldLink RX0 29 "FacetFigures$Days" "MONTH_STARTS" "[I" ∈ zbg := zin 436 rfl rfl
set_option maxRecDepth 100000 in
theorem zw438 : Cond.methodLink RX2 67 yX2_addPair ∈ zbg := zin 438 rfl rfl
set_option maxRecDepth 100000 in
theorem zw440 : Cond.instanceMethod yX2_addPair ∈ zbg := zin 440 rfl rfl
set_option maxRecDepth 100000 in
theorem zw441 : Cond.code yX2_addPair prog_4_method_3_code 3 none ∈ zbg := zin 441 rfl rfl
set_option maxRecDepth 100000 in
theorem zw442 : Cond.constant RX2 75 (2000000000 : Int32) ∈ zbg := zin 442 rfl rfl
set_option maxRecDepth 100000 in
theorem zw443 : Cond.methodLink RX2 76 yX5_sort ∈ zbg := zin 443 rfl rfl
set_option maxRecDepth 100000 in
theorem zw444 : Cond.instanceMethod yX5_sort ∈ zbg := zin 444 rfl rfl
set_option maxRecDepth 100000 in
theorem zw445 : Cond.selects RX5 yX5_sort yX5_sort ∈ zbg := zin 445 rfl rfl
set_option maxRecDepth 100000 in
theorem zw446 : Cond.code yX5_sort prog_7_method_2_code 6 none ∈ zbg := zin 446 rfl rfl
set_option maxRecDepth 100000 in
theorem zw447 : Cond.methodLink RX5 15 yJ9_min_7cf53 ∈ zbg := zin 447 rfl rfl
set_option maxRecDepth 100000 in
theorem zw448 : Cond.methodLink RX5 21 yX5_merge ∈ zbg := zin 448 rfl rfl
set_option maxRecDepth 100000 in
theorem zw450 : Cond.instanceMethod yX5_merge ∈ zbg := zin 450 rfl rfl
set_option maxRecDepth 100000 in
theorem zw451 : Cond.code yX5_merge prog_7_method_3_code 8 none ∈ zbg := zin 451 rfl rfl
set_option maxRecDepth 100000 in
theorem zw452 : Cond.methodLink RX5 25 ⟨"java/lang/System", "arraycopy", "(Ljava/lang/Object;ILjava/lang/Object;II)V"⟩ ∈ zbg := zin 452 rfl rfl
set_option maxRecDepth 100000 in
theorem zw453 : Cond.static ⟨"java/lang/System", "arraycopy", "(Ljava/lang/Object;ILjava/lang/Object;II)V"⟩ ∈ zbg := zin 453 rfl rfl
set_option maxRecDepth 100000 in
theorem zw454 : Cond.native ⟨"java/lang/System", "arraycopy", "(Ljava/lang/Object;ILjava/lang/Object;II)V"⟩ ∈ zbg := zin 454 rfl rfl
set_option maxRecDepth 100000 in
theorem zw455 : Cond.methodLink RX8 201 yX2_cut ∈ zbg := zin 455 rfl rfl
set_option maxRecDepth 100000 in
theorem zw456 : Cond.instanceMethod yX2_cut ∈ zbg := zin 456 rfl rfl
set_option maxRecDepth 100000 in
theorem zw457 : Cond.selects RX2 yX2_cut yX2_cut ∈ zbg := zin 457 rfl rfl
set_option maxRecDepth 100000 in
theorem zw458 : Cond.code yX2_cut prog_4_method_4_code 4 none ∈ zbg := zin 458 rfl rfl
set_option maxRecDepth 100000 in
theorem zw459 : Cond.methodLink RX2 85 yX2_cutRun ∈ zbg := zin 459 rfl rfl
set_option maxRecDepth 100000 in
theorem zw461 : Cond.instanceMethod yX2_cutRun ∈ zbg := zin 461 rfl rfl
set_option maxRecDepth 100000 in
theorem zw462 : Cond.code yX2_cutRun prog_4_method_5_code 5 (some .int) ∈ zbg := zin 462 rfl rfl
set_option maxRecDepth 100000 in
theorem zw463 : Cond.methodLink RX2 89 yX2_pairKey ∈ zbg := zin 463 rfl rfl
set_option maxRecDepth 100000 in
theorem zw465 : Cond.instanceMethod yX2_pairKey ∈ zbg := zin 465 rfl rfl
set_option maxRecDepth 100000 in
theorem zw466 : Cond.code yX2_pairKey prog_4_method_8_code 2 (some .int) ∈ zbg := zin 466 rfl rfl
set_option maxRecDepth 100000 in
theorem zw467 : Cond.methodLink RX8 205 yX2_rank ∈ zbg := zin 467 rfl rfl
set_option maxRecDepth 100000 in
theorem zw468 : Cond.instanceMethod yX2_rank ∈ zbg := zin 468 rfl rfl
set_option maxRecDepth 100000 in
theorem zw469 : Cond.selects RX2 yX2_rank yX2_rank ∈ zbg := zin 469 rfl rfl
set_option maxRecDepth 100000 in
theorem zw470 : Cond.code yX2_rank prog_4_method_6_code 4 none ∈ zbg := zin 470 rfl rfl
set_option maxRecDepth 100000 in
theorem zw471 : Cond.methodLink RX2 96 yX2_weight ∈ zbg := zin 471 rfl rfl
set_option maxRecDepth 100000 in
theorem zw473 : Cond.instanceMethod yX2_weight ∈ zbg := zin 473 rfl rfl
set_option maxRecDepth 100000 in
theorem zw474 : Cond.code yX2_weight prog_4_method_7_code 7 (some .long) ∈ zbg := zin 474 rfl rfl
set_option maxRecDepth 100000 in
theorem zw475 : Cond.methodLink RX2 103 yX2_pairObject ∈ zbg := zin 475 rfl rfl
set_option maxRecDepth 100000 in
theorem zw477 : Cond.instanceMethod yX2_pairObject ∈ zbg := zin 477 rfl rfl
set_option maxRecDepth 100000 in
theorem zw478 : Cond.code yX2_pairObject prog_4_method_9_code 2 (some .int) ∈ zbg := zin 478 rfl rfl
set_option maxRecDepth 100000 in
theorem zw479 : Cond.constantLong RX2 113 (127 : Int64) ∈ zbg := zin 479 rfl rfl
set_option maxRecDepth 100000 in
theorem zw480 : Cond.methodLink RX2 109 yX6_sumOf ∈ zbg := zin 480 rfl rfl
set_option maxRecDepth 100000 in
theorem zw481 : Cond.instanceMethod yX6_sumOf ∈ zbg := zin 481 rfl rfl
set_option maxRecDepth 100000 in
theorem zw482 : Cond.selects RX6 yX6_sumOf yX6_sumOf ∈ zbg := zin 482 rfl rfl
set_option maxRecDepth 100000 in
theorem zw483 : Cond.code yX6_sumOf prog_8_method_9_code 7 (some .long) ∈ zbg := zin 483 rfl rfl
set_option maxRecDepth 100000 in
theorem zw488 : Cond.methodLink RX8 141 yX2_has ∈ zbg := zin 488 rfl rfl
set_option maxRecDepth 100000 in
theorem zw489 : Cond.instanceMethod yX2_has ∈ zbg := zin 489 rfl rfl
set_option maxRecDepth 100000 in
theorem zw490 : Cond.selects RX2 yX2_has yX2_has ∈ zbg := zin 490 rfl rfl
set_option maxRecDepth 100000 in
theorem zw491 : Cond.code yX2_has prog_4_method_11_code 2 (some .boolean) ∈ zbg := zin 491 rfl rfl
set_option maxRecDepth 100000 in
theorem zw492 : Cond.methodLink RX8 142 yX2_keyOf ∈ zbg := zin 492 rfl rfl
set_option maxRecDepth 100000 in
theorem zw493 : Cond.instanceMethod yX2_keyOf ∈ zbg := zin 493 rfl rfl
set_option maxRecDepth 100000 in
theorem zw494 : Cond.selects RX2 yX2_keyOf yX2_keyOf ∈ zbg := zin 494 rfl rfl
set_option maxRecDepth 100000 in
theorem zw495 : Cond.code yX2_keyOf prog_4_method_13_code 2 (some .int) ∈ zbg := zin 495 rfl rfl
set_option maxRecDepth 100000 in
theorem zw496 : Cond.methodLink RX2 120 yX2_isMissing ∈ zbg := zin 496 rfl rfl
set_option maxRecDepth 100000 in
theorem zw497 : Cond.instanceMethod yX2_isMissing ∈ zbg := zin 497 rfl rfl
set_option maxRecDepth 100000 in
theorem zw498 : Cond.selects RX2 yX2_isMissing yX2_isMissing ∈ zbg := zin 498 rfl rfl
set_option maxRecDepth 100000 in
theorem zw499 : Cond.code yX2_isMissing prog_4_method_12_code 2 (some .boolean) ∈ zbg := zin 499 rfl rfl
set_option maxRecDepth 100000 in
theorem zw500 : Cond.methodLink RX2 117 yX2_groupAt ∈ zbg := zin 500 rfl rfl
set_option maxRecDepth 100000 in
theorem zw502 : Cond.instanceMethod yX2_groupAt ∈ zbg := zin 502 rfl rfl
set_option maxRecDepth 100000 in
theorem zw503 : Cond.code yX2_groupAt prog_4_method_10_code 2 (some .int) ∈ zbg := zin 503 rfl rfl
set_option maxRecDepth 100000 in
theorem zw504 : Cond.constantLong RX2 115 (2047 : Int64) ∈ zbg := zin 504 rfl rfl
set_option maxRecDepth 100000 in
theorem zw505 : Cond.constant RX2 123 (-2000000000 : Int32) ∈ zbg := zin 505 rfl rfl
set_option maxRecDepth 100000 in
theorem zw506 : Cond.methodLink RX8 146 yX2_sizeOf ∈ zbg := zin 506 rfl rfl
set_option maxRecDepth 100000 in
theorem zw507 : Cond.instanceMethod yX2_sizeOf ∈ zbg := zin 507 rfl rfl
set_option maxRecDepth 100000 in
theorem zw508 : Cond.selects RX2 yX2_sizeOf yX2_sizeOf ∈ zbg := zin 508 rfl rfl
set_option maxRecDepth 100000 in
theorem zw509 : Cond.code yX2_sizeOf prog_4_method_14_code 3 (some .int) ∈ zbg := zin 509 rfl rfl
set_option maxRecDepth 100000 in
theorem zw510 : Cond.methodLink RX8 149 yX2_isMissing ∈ zbg := zin 510 rfl rfl
set_option maxRecDepth 100000 in
theorem zw515 : Cond.methodLink RX8 152 yX2_numberOf ∈ zbg := zin 515 rfl rfl
set_option maxRecDepth 100000 in
theorem zw516 : Cond.instanceMethod yX2_numberOf ∈ zbg := zin 516 rfl rfl
set_option maxRecDepth 100000 in
theorem zw517 : Cond.selects RX2 yX2_numberOf yX2_numberOf ∈ zbg := zin 517 rfl rfl
set_option maxRecDepth 100000 in
theorem zw518 : Cond.code yX2_numberOf prog_4_method_17_code 3 (some .int) ∈ zbg := zin 518 rfl rfl
set_option maxRecDepth 100000 in
theorem zw519 : Cond.methodLink RX2 131 yX2_keyOf ∈ zbg := zin 519 rfl rfl
set_option maxRecDepth 100000 in
theorem zw524 : Cond.methodLink RX8 155 yX2_holds ∈ zbg := zin 524 rfl rfl
set_option maxRecDepth 100000 in
theorem zw525 : Cond.instanceMethod yX2_holds ∈ zbg := zin 525 rfl rfl
set_option maxRecDepth 100000 in
theorem zw526 : Cond.selects RX2 yX2_holds yX2_holds ∈ zbg := zin 526 rfl rfl
set_option maxRecDepth 100000 in
theorem zw527 : Cond.code yX2_holds prog_4_method_16_code 5 (some .boolean) ∈ zbg := zin 527 rfl rfl
set_option maxRecDepth 100000 in
theorem zw528 : Cond.methodLink RX2 124 yX2_sizeOf ∈ zbg := zin 528 rfl rfl
set_option maxRecDepth 100000 in
theorem zw529 : Cond.methodLink RX2 127 yX2_memberOf ∈ zbg := zin 529 rfl rfl
set_option maxRecDepth 100000 in
theorem zw530 : Cond.instanceMethod yX2_memberOf ∈ zbg := zin 530 rfl rfl
set_option maxRecDepth 100000 in
theorem zw531 : Cond.selects RX2 yX2_memberOf yX2_memberOf ∈ zbg := zin 531 rfl rfl
set_option maxRecDepth 100000 in
theorem zw532 : Cond.code yX2_memberOf prog_4_method_15_code 3 (some .int) ∈ zbg := zin 532 rfl rfl
set_option maxRecDepth 100000 in
theorem zw537 : Cond.methodLink RX8 162 yX3_startNarrowing ∈ zbg := zin 537 rfl rfl
set_option maxRecDepth 100000 in
theorem zw538 : Cond.instanceMethod yX3_startNarrowing ∈ zbg := zin 538 rfl rfl
set_option maxRecDepth 100000 in
theorem zw539 : Cond.selects RX3 yX3_startNarrowing yX3_startNarrowing ∈ zbg := zin 539 rfl rfl
set_option maxRecDepth 100000 in
theorem zw540 : Cond.code yX3_startNarrowing prog_5_method_3_code 1 none ∈ zbg := zin 540 rfl rfl
set_option maxRecDepth 100000 in
theorem zw541 : Cond.methodLink RX8 165 yX2_memberOf ∈ zbg := zin 541 rfl rfl
set_option maxRecDepth 100000 in
theorem zw542 : Cond.methodLink RX8 168 yX3_keep ∈ zbg := zin 542 rfl rfl
set_option maxRecDepth 100000 in
theorem zw543 : Cond.instanceMethod yX3_keep ∈ zbg := zin 543 rfl rfl
set_option maxRecDepth 100000 in
theorem zw544 : Cond.selects RX3 yX3_keep yX3_keep ∈ zbg := zin 544 rfl rfl
set_option maxRecDepth 100000 in
theorem zw545 : Cond.code yX3_keep prog_5_method_4_code 2 none ∈ zbg := zin 545 rfl rfl
set_option maxRecDepth 100000 in
theorem zw550 : Cond.methodLink RX8 172 yX3_widen ∈ zbg := zin 550 rfl rfl
set_option maxRecDepth 100000 in
theorem zw551 : Cond.instanceMethod yX3_widen ∈ zbg := zin 551 rfl rfl
set_option maxRecDepth 100000 in
theorem zw552 : Cond.selects RX3 yX3_widen yX3_widen ∈ zbg := zin 552 rfl rfl
set_option maxRecDepth 100000 in
theorem zw553 : Cond.code yX3_widen prog_5_method_5_code 1 none ∈ zbg := zin 553 rfl rfl
set_option maxRecDepth 100000 in
theorem zw558 : Cond.methodLink RX8 175 yX3_has ∈ zbg := zin 558 rfl rfl
set_option maxRecDepth 100000 in
theorem zw563 : Cond.methodLink RX8 176 yX8_sampleIsTaken ∈ zbg := zin 563 rfl rfl
set_option maxRecDepth 100000 in
theorem zw565 : Cond.instanceMethod yX8_sampleIsTaken ∈ zbg := zin 565 rfl rfl
set_option maxRecDepth 100000 in
theorem zw566 : Cond.code yX8_sampleIsTaken prog_1_method_27_code 7 (some .boolean) ∈ zbg := zin 566 rfl rfl
set_option maxRecDepth 100000 in
theorem zw567 : Cond.methodLink RX8 209 yX7_startOver ∈ zbg := zin 567 rfl rfl
set_option maxRecDepth 100000 in
theorem zw568 : Cond.instanceMethod yX7_startOver ∈ zbg := zin 568 rfl rfl
set_option maxRecDepth 100000 in
theorem zw569 : Cond.selects RX7 yX7_startOver yX7_startOver ∈ zbg := zin 569 rfl rfl
set_option maxRecDepth 100000 in
theorem zw570 : Cond.code yX7_startOver prog_9_method_2_code 1 none ∈ zbg := zin 570 rfl rfl
set_option maxRecDepth 100000 in
theorem zw571 : Cond.methodLink RX8 211 yX7_take ∈ zbg := zin 571 rfl rfl
set_option maxRecDepth 100000 in
theorem zw572 : Cond.instanceMethod yX7_take ∈ zbg := zin 572 rfl rfl
set_option maxRecDepth 100000 in
theorem zw573 : Cond.selects RX7 yX7_take yX7_take ∈ zbg := zin 573 rfl rfl
set_option maxRecDepth 100000 in
theorem zw574 : Cond.code yX7_take prog_9_method_3_code 6 none ∈ zbg := zin 574 rfl rfl
set_option maxRecDepth 100000 in
theorem zw575 : Cond.methodLink RX7 23 yX6_valueCount ∈ zbg := zin 575 rfl rfl
set_option maxRecDepth 100000 in
theorem zw576 : Cond.methodLink RX7 29 yX6_valueAt ∈ zbg := zin 576 rfl rfl
set_option maxRecDepth 100000 in
theorem zw577 : Cond.methodLink RX8 180 yX7_tell ∈ zbg := zin 577 rfl rfl
set_option maxRecDepth 100000 in
theorem zw578 : Cond.instanceMethod yX7_tell ∈ zbg := zin 578 rfl rfl
set_option maxRecDepth 100000 in
theorem zw579 : Cond.selects RX7 yX7_tell yX7_tell ∈ zbg := zin 579 rfl rfl
set_option maxRecDepth 100000 in
theorem zw580 : Cond.code yX7_tell prog_9_method_4_code 2 (some .long) ∈ zbg := zin 580 rfl rfl
set_option maxRecDepth 100000 in
theorem zw581 : Cond.methodLink RX7 33 yX7_sum ∈ zbg := zin 581 rfl rfl
set_option maxRecDepth 100000 in
theorem zw583 : Cond.instanceMethod yX7_sum ∈ zbg := zin 583 rfl rfl
set_option maxRecDepth 100000 in
theorem zw584 : Cond.code yX7_sum prog_9_method_7_code 4 (some .long) ∈ zbg := zin 584 rfl rfl
set_option maxRecDepth 100000 in
theorem zw585 : Cond.methodLink RX7 37 yX7_atPlace ∈ zbg := zin 585 rfl rfl
set_option maxRecDepth 100000 in
theorem zw587 : Cond.instanceMethod yX7_atPlace ∈ zbg := zin 587 rfl rfl
set_option maxRecDepth 100000 in
theorem zw588 : Cond.code yX7_atPlace prog_9_method_6_code 2 (some .int) ∈ zbg := zin 588 rfl rfl
set_option maxRecDepth 100000 in
theorem zw589 : Cond.constant RX7 52 (-2000000000 : Int32) ∈ zbg := zin 589 rfl rfl
set_option maxRecDepth 100000 in
theorem zw590 : Cond.methodLink RX7 53 yX5_sort ∈ zbg := zin 590 rfl rfl
set_option maxRecDepth 100000 in
theorem zw591 : Cond.methodLink RX7 41 yX7_different ∈ zbg := zin 591 rfl rfl
set_option maxRecDepth 100000 in
theorem zw593 : Cond.instanceMethod yX7_different ∈ zbg := zin 593 rfl rfl
set_option maxRecDepth 100000 in
theorem zw594 : Cond.code yX7_different prog_9_method_8_code 3 (some .int) ∈ zbg := zin 594 rfl rfl
set_option maxRecDepth 100000 in
theorem zw595 : Cond.constantLong RX7 45 (-2000000001 : Int64) ∈ zbg := zin 595 rfl rfl
set_option maxRecDepth 100000 in
theorem zw596 : Cond.constantLong RX8 184 (-2000000001 : Int64) ∈ zbg := zin 596 rfl rfl
set_option maxRecDepth 100000 in
theorem zw601 : Cond.methodLink RX8 186 yX7_atPercent ∈ zbg := zin 601 rfl rfl
set_option maxRecDepth 100000 in
theorem zw602 : Cond.instanceMethod yX7_atPercent ∈ zbg := zin 602 rfl rfl
set_option maxRecDepth 100000 in
theorem zw603 : Cond.selects RX7 yX7_atPercent yX7_atPercent ∈ zbg := zin 603 rfl rfl
set_option maxRecDepth 100000 in
theorem zw604 : Cond.code yX7_atPercent prog_9_method_5_code 2 (some .int) ∈ zbg := zin 604 rfl rfl
set_option maxRecDepth 100000 in
theorem zw605 : Cond.methodLink RX7 47 yJ9_max_7cf53 ∈ zbg := zin 605 rfl rfl
set_option maxRecDepth 100000 in
theorem zw606 : Cond.static yJ9_max_7cf53 ∈ zbg := zin 606 rfl rfl
set_option maxRecDepth 100000 in
theorem zw607 : Cond.code yJ9_max_7cf53 prog_12_method_65_code 2 (some .int) ∈ zbg := zin 607 rfl rfl
set_option maxRecDepth 100000 in
theorem zw612 : Cond.methodLink RX8 189 yX6_matching ∈ zbg := zin 612 rfl rfl
set_option maxRecDepth 100000 in
theorem zw613 : Cond.instanceMethod yX6_matching ∈ zbg := zin 613 rfl rfl
set_option maxRecDepth 100000 in
theorem zw614 : Cond.selects RX6 yX6_matching yX6_matching ∈ zbg := zin 614 rfl rfl
set_option maxRecDepth 100000 in
theorem zw615 : Cond.code yX6_matching prog_8_method_7_code 3 (some .int) ∈ zbg := zin 615 rfl rfl
set_option maxRecDepth 100000 in
theorem zw622 : Cond.fieldLink RX9 90 "FacetFiguresModel" "objects" "I" ∈ zbg := zin 622 rfl rfl
set_option maxRecDepth 100000 in
theorem zw623 : Cond.fieldLink RX9 7 "FacetFiguresModel" "many" "[I" ∈ zbg := zin 623 rfl rfl
set_option maxRecDepth 100000 in
theorem zw624 : Cond.fieldLink RX9 13 "FacetFiguresModel" "values" "[I" ∈ zbg := zin 624 rfl rfl
set_option maxRecDepth 100000 in
theorem zw625 : Cond.fieldLink RX9 16 "FacetFiguresModel" "matches" "[Z" ∈ zbg := zin 625 rfl rfl
set_option maxRecDepth 100000 in
theorem zw626 : Cond.fieldLink RX9 98 "FacetFiguresModel" "facets" "I" ∈ zbg := zin 626 rfl rfl
set_option maxRecDepth 100000 in
theorem zw627 : Cond.fieldLink RX9 20 "FacetFiguresModel" "kinds" "[I" ∈ zbg := zin 627 rfl rfl
set_option maxRecDepth 100000 in
theorem zw628 : Cond.fieldLink RX9 23 "FacetFiguresModel" "columns" "[I" ∈ zbg := zin 628 rfl rfl
set_option maxRecDepth 100000 in
theorem zw629 : Cond.fieldLink RX9 26 "FacetFiguresModel" "as" "[I" ∈ zbg := zin 629 rfl rfl
set_option maxRecDepth 100000 in
theorem zw630 : Cond.fieldLink RX9 29 "FacetFiguresModel" "bs" "[I" ∈ zbg := zin 630 rfl rfl
set_option maxRecDepth 100000 in
theorem zw631 : Cond.fieldLink RX9 32 "FacetFiguresModel" "ranges" "[I" ∈ zbg := zin 631 rfl rfl
set_option maxRecDepth 100000 in
theorem zw632 : Cond.fieldLink RX9 35 "FacetFiguresModel" "froms" "[I" ∈ zbg := zin 632 rfl rfl
set_option maxRecDepth 100000 in
theorem zw633 : Cond.fieldLink RX9 38 "FacetFiguresModel" "tos" "[I" ∈ zbg := zin 633 rfl rfl
set_option maxRecDepth 100000 in
theorem zw634 : Cond.fieldLink RX9 41 "FacetFiguresModel" "filters" "[I" ∈ zbg := zin 634 rfl rfl
set_option maxRecDepth 100000 in
theorem zw635 : Cond.fieldLink RX9 44 "FacetFiguresModel" "filterFrom" "[I" ∈ zbg := zin 635 rfl rfl
set_option maxRecDepth 100000 in
theorem zw636 : Cond.fieldLink RX9 47 "FacetFiguresModel" "filterTo" "[I" ∈ zbg := zin 636 rfl rfl
set_option maxRecDepth 100000 in
theorem zw637 : Cond.fieldLink RX9 50 "FacetFiguresModel" "leasts" "[I" ∈ zbg := zin 637 rfl rfl
set_option maxRecDepth 100000 in
theorem zw638 : Cond.fieldLink RX9 53 "FacetFiguresModel" "areAsked" "[Z" ∈ zbg := zin 638 rfl rfl
set_option maxRecDepth 100000 in
theorem zw639 : Cond.fieldLink RX9 56 "FacetFiguresModel" "orders" "[I" ∈ zbg := zin 639 rfl rfl
set_option maxRecDepth 100000 in
theorem zw640 : Cond.fieldLink RX9 59 "FacetFiguresModel" "orderColumns" "[I" ∈ zbg := zin 640 rfl rfl
set_option maxRecDepth 100000 in
theorem zw641 : Cond.fieldLink RX9 103 "FacetFiguresModel" "deep" "I" ∈ zbg := zin 641 rfl rfl
set_option maxRecDepth 100000 in
theorem zw642 : Cond.fieldLink RX9 62 "FacetFiguresModel" "hands" "[Z" ∈ zbg := zin 642 rfl rfl
set_option maxRecDepth 100000 in
theorem zw643 : Cond.fieldLink RX9 127 "FacetFiguresModel" "given" "I" ∈ zbg := zin 643 rfl rfl
set_option maxRecDepth 100000 in
theorem zw644 : Cond.fieldLink RX9 65 "FacetFiguresModel" "keys" "[I" ∈ zbg := zin 644 rfl rfl
set_option maxRecDepth 100000 in
theorem zw645 : Cond.fieldLink RX9 162 "FacetFiguresModel" "groups" "I" ∈ zbg := zin 645 rfl rfl
set_option maxRecDepth 100000 in
theorem zw646 : Cond.fieldLink RX9 68 "FacetFiguresModel" "groupKey" "[I" ∈ zbg := zin 646 rfl rfl
set_option maxRecDepth 100000 in
theorem zw647 : Cond.fieldLink RX9 71 "FacetFiguresModel" "groupSize" "[I" ∈ zbg := zin 647 rfl rfl
set_option maxRecDepth 100000 in
theorem zw648 : Cond.fieldLink RX9 74 "FacetFiguresModel" "groupSum" "[J" ∈ zbg := zin 648 rfl rfl
set_option maxRecDepth 100000 in
theorem zw649 : Cond.fieldLink RX9 175 "FacetFiguresModel" "hasMissing" "Z" ∈ zbg := zin 649 rfl rfl
set_option maxRecDepth 100000 in
theorem zw650 : Cond.fieldLink RX9 78 "FacetFiguresModel" "keyMany" "[I" ∈ zbg := zin 650 rfl rfl
set_option maxRecDepth 100000 in
theorem zw651 : Cond.fieldLink RX9 81 "FacetFiguresModel" "keyOf" "[I" ∈ zbg := zin 651 rfl rfl
set_option maxRecDepth 100000 in
theorem zw652 : Cond.fieldLink RX9 84 "FacetFiguresModel" "next" "[Z" ∈ zbg := zin 652 rfl rfl
set_option maxRecDepth 100000 in
theorem zw653 : Cond.fieldLink RX9 211 "FacetFiguresModel" "rows" "I" ∈ zbg := zin 653 rfl rfl
set_option maxRecDepth 100000 in
theorem zw654 : Cond.fieldLink RX9 87 "FacetFiguresModel" "row" "[I" ∈ zbg := zin 654 rfl rfl
set_option maxRecDepth 100000 in
theorem zw726 : Cond.constant RX9 106 (-2000000003 : Int32) ∈ zbg := zin 726 rfl rfl
set_option maxRecDepth 100000 in
theorem zw727 : Cond.methodLink RX9 107 yX9_changes ∈ zbg := zin 727 rfl rfl
set_option maxRecDepth 100000 in
theorem zw729 : Cond.instanceMethod yX9_changes ∈ zbg := zin 729 rfl rfl
set_option maxRecDepth 100000 in
theorem zw730 : Cond.code yX9_changes prog_11_method_7_code 1 none ∈ zbg := zin 730 rfl rfl
set_option maxRecDepth 100000 in
theorem zw735 : Cond.methodLink RX9 110 yX9_isObject ∈ zbg := zin 735 rfl rfl
set_option maxRecDepth 100000 in
theorem zw737 : Cond.instanceMethod yX9_isObject ∈ zbg := zin 737 rfl rfl
set_option maxRecDepth 100000 in
theorem zw738 : Cond.code yX9_isObject prog_11_method_3_code 2 (some .boolean) ∈ zbg := zin 738 rfl rfl
set_option maxRecDepth 100000 in
theorem zw739 : Cond.methodLink RX9 94 yX9_within ∈ zbg := zin 739 rfl rfl
set_option maxRecDepth 100000 in
theorem zw740 : Cond.static yX9_within ∈ zbg := zin 740 rfl rfl
set_option maxRecDepth 100000 in
theorem zw741 : Cond.code yX9_within prog_11_method_2_code 3 (some .boolean) ∈ zbg := zin 741 rfl rfl
set_option maxRecDepth 100000 in
theorem zw742 : Cond.methodLink RX9 114 yX9_isColumn ∈ zbg := zin 742 rfl rfl
set_option maxRecDepth 100000 in
theorem zw743 : Cond.static yX9_isColumn ∈ zbg := zin 743 rfl rfl
set_option maxRecDepth 100000 in
theorem zw744 : Cond.code yX9_isColumn prog_11_method_5_code 1 (some .boolean) ∈ zbg := zin 744 rfl rfl
set_option maxRecDepth 100000 in
theorem zw745 : Cond.methodLink RX9 117 yX9_isValue ∈ zbg := zin 745 rfl rfl
set_option maxRecDepth 100000 in
theorem zw746 : Cond.static yX9_isValue ∈ zbg := zin 746 rfl rfl
set_option maxRecDepth 100000 in
theorem zw747 : Cond.code yX9_isValue prog_11_method_6_code 1 (some .boolean) ∈ zbg := zin 747 rfl rfl
set_option maxRecDepth 100000 in
theorem zw748 : Cond.constant RX9 101 (-1000000000 : Int32) ∈ zbg := zin 748 rfl rfl
set_option maxRecDepth 100000 in
theorem zw749 : Cond.constant RX9 102 (1000000000 : Int32) ∈ zbg := zin 749 rfl rfl
set_option maxRecDepth 100000 in
theorem zw750 : Cond.constant RX9 120 (-2000000001 : Int32) ∈ zbg := zin 750 rfl rfl
set_option maxRecDepth 100000 in
theorem zw763 : Cond.constant RX9 121 (1000000 : Int32) ∈ zbg := zin 763 rfl rfl
set_option maxRecDepth 100000 in
theorem zw764 : Cond.constant RX9 122 (-2000000000 : Int32) ∈ zbg := zin 764 rfl rfl
set_option maxRecDepth 100000 in
theorem zw769 : Cond.methodLink RX9 123 yX9_isFacet ∈ zbg := zin 769 rfl rfl
set_option maxRecDepth 100000 in
theorem zw771 : Cond.instanceMethod yX9_isFacet ∈ zbg := zin 771 rfl rfl
set_option maxRecDepth 100000 in
theorem zw772 : Cond.code yX9_isFacet prog_11_method_4_code 2 (some .boolean) ∈ zbg := zin 772 rfl rfl
set_option maxRecDepth 100000 in
theorem zw773 : Cond.constant RX9 126 (-2000000002 : Int32) ∈ zbg := zin 773 rfl rfl
set_option maxRecDepth 100000 in
theorem zw794 : Cond.methodLink RX9 201 yX9_findGroups ∈ zbg := zin 794 rfl rfl
set_option maxRecDepth 100000 in
theorem zw796 : Cond.instanceMethod yX9_findGroups ∈ zbg := zin 796 rfl rfl
set_option maxRecDepth 100000 in
theorem zw797 : Cond.code yX9_findGroups prog_11_method_37_code 6 none ∈ zbg := zin 797 rfl rfl
set_option maxRecDepth 100000 in
theorem zw798 : Cond.methodLink RX9 189 yX9_findKeys ∈ zbg := zin 798 rfl rfl
set_option maxRecDepth 100000 in
theorem zw800 : Cond.instanceMethod yX9_findKeys ∈ zbg := zin 800 rfl rfl
set_option maxRecDepth 100000 in
theorem zw801 : Cond.code yX9_findKeys prog_11_method_32_code 5 none ∈ zbg := zin 801 rfl rfl
set_option maxRecDepth 100000 in
theorem zw802 : Cond.methodLink RX9 165 yX9_findKeysOf ∈ zbg := zin 802 rfl rfl
set_option maxRecDepth 100000 in
theorem zw804 : Cond.instanceMethod yX9_findKeysOf ∈ zbg := zin 804 rfl rfl
set_option maxRecDepth 100000 in
theorem zw805 : Cond.code yX9_findKeysOf prog_11_method_28_code 6 none ∈ zbg := zin 805 rfl rfl
set_option maxRecDepth 100000 in
theorem zw806 : Cond.methodLink RX9 159 yX9_giveKeys ∈ zbg := zin 806 rfl rfl
set_option maxRecDepth 100000 in
theorem zw808 : Cond.instanceMethod yX9_giveKeys ∈ zbg := zin 808 rfl rfl
set_option maxRecDepth 100000 in
theorem zw809 : Cond.code yX9_giveKeys prog_11_method_25_code 4 none ∈ zbg := zin 809 rfl rfl
set_option maxRecDepth 100000 in
theorem zw810 : Cond.methodLink RX9 131 yX9_give ∈ zbg := zin 810 rfl rfl
set_option maxRecDepth 100000 in
theorem zw812 : Cond.instanceMethod yX9_give ∈ zbg := zin 812 rfl rfl
set_option maxRecDepth 100000 in
theorem zw813 : Cond.code yX9_give prog_11_method_18_code 2 none ∈ zbg := zin 813 rfl rfl
set_option maxRecDepth 100000 in
theorem zw814 : Cond.methodLink RX9 149 yX9_givePaths ∈ zbg := zin 814 rfl rfl
set_option maxRecDepth 100000 in
theorem zw816 : Cond.instanceMethod yX9_givePaths ∈ zbg := zin 816 rfl rfl
set_option maxRecDepth 100000 in
theorem zw817 : Cond.code yX9_givePaths prog_11_method_19_code 4 none ∈ zbg := zin 817 rfl rfl
set_option maxRecDepth 100000 in
theorem zw818 : Cond.constant RX9 130 (999999 : Int32) ∈ zbg := zin 818 rfl rfl
set_option maxRecDepth 100000 in
theorem zw819 : Cond.methodLink RX9 143 yX9_modulo ∈ zbg := zin 819 rfl rfl
set_option maxRecDepth 100000 in
theorem zw820 : Cond.static yX9_modulo ∈ zbg := zin 820 rfl rfl
set_option maxRecDepth 100000 in
theorem zw821 : Cond.code yX9_modulo prog_11_method_23_code 3 (some .int) ∈ zbg := zin 821 rfl rfl
set_option maxRecDepth 100000 in
theorem zw822 : Cond.methodLink RX9 152 yX9_giveDays ∈ zbg := zin 822 rfl rfl
set_option maxRecDepth 100000 in
theorem zw824 : Cond.instanceMethod yX9_giveDays ∈ zbg := zin 824 rfl rfl
set_option maxRecDepth 100000 in
theorem zw825 : Cond.code yX9_giveDays prog_11_method_24_code 3 none ∈ zbg := zin 825 rfl rfl
set_option maxRecDepth 100000 in
theorem zw826 : Cond.constant RX9 142 (-1000000 : Int32) ∈ zbg := zin 826 rfl rfl
set_option maxRecDepth 100000 in
theorem zw827 : Cond.methodLink RX9 146 yX9_behind ∈ zbg := zin 827 rfl rfl
set_option maxRecDepth 100000 in
theorem zw828 : Cond.static yX9_behind ∈ zbg := zin 828 rfl rfl
set_option maxRecDepth 100000 in
theorem zw829 : Cond.code yX9_behind prog_11_method_22_code 7 (some .int) ∈ zbg := zin 829 rfl rfl
set_option maxRecDepth 100000 in
theorem zw830 : Cond.methodLink RX9 135 yX9_isLeap ∈ zbg := zin 830 rfl rfl
set_option maxRecDepth 100000 in
theorem zw831 : Cond.static yX9_isLeap ∈ zbg := zin 831 rfl rfl
set_option maxRecDepth 100000 in
theorem zw832 : Cond.code yX9_isLeap prog_11_method_20_code 1 (some .boolean) ∈ zbg := zin 832 rfl rfl
set_option maxRecDepth 100000 in
theorem zw833 : Cond.methodLink RX9 138 yX9_daysOf ∈ zbg := zin 833 rfl rfl
set_option maxRecDepth 100000 in
theorem zw834 : Cond.static yX9_daysOf ∈ zbg := zin 834 rfl rfl
set_option maxRecDepth 100000 in
theorem zw835 : Cond.code yX9_daysOf prog_11_method_21_code 2 (some .int) ∈ zbg := zin 835 rfl rfl
set_option maxRecDepth 100000 in
theorem zw836 : Cond.methodLink RX9 168 yX9_counts ∈ zbg := zin 836 rfl rfl
set_option maxRecDepth 100000 in
theorem zw838 : Cond.instanceMethod yX9_counts ∈ zbg := zin 838 rfl rfl
set_option maxRecDepth 100000 in
theorem zw839 : Cond.code yX9_counts prog_11_method_27_code 6 (some .boolean) ∈ zbg := zin 839 rfl rfl
set_option maxRecDepth 100000 in
theorem zw840 : Cond.methodLink RX9 156 yX9_atHand ∈ zbg := zin 840 rfl rfl
set_option maxRecDepth 100000 in
theorem zw842 : Cond.instanceMethod yX9_atHand ∈ zbg := zin 842 rfl rfl
set_option maxRecDepth 100000 in
theorem zw843 : Cond.code yX9_atHand prog_11_method_26_code 2 (some .boolean) ∈ zbg := zin 843 rfl rfl
set_option maxRecDepth 100000 in
theorem zw844 : Cond.methodLink RX9 172 yX9_isNew ∈ zbg := zin 844 rfl rfl
set_option maxRecDepth 100000 in
theorem zw846 : Cond.instanceMethod yX9_isNew ∈ zbg := zin 846 rfl rfl
set_option maxRecDepth 100000 in
theorem zw847 : Cond.code yX9_isNew prog_11_method_31_code 4 (some .boolean) ∈ zbg := zin 847 rfl rfl
set_option maxRecDepth 100000 in
theorem zw848 : Cond.methodLink RX9 192 yX9_measure ∈ zbg := zin 848 rfl rfl
set_option maxRecDepth 100000 in
theorem zw850 : Cond.instanceMethod yX9_measure ∈ zbg := zin 850 rfl rfl
set_option maxRecDepth 100000 in
theorem zw851 : Cond.code yX9_measure prog_11_method_34_code 4 none ∈ zbg := zin 851 rfl rfl
set_option maxRecDepth 100000 in
theorem zw852 : Cond.methodLink RX9 182 yX9_isIn ∈ zbg := zin 852 rfl rfl
set_option maxRecDepth 100000 in
theorem zw854 : Cond.instanceMethod yX9_isIn ∈ zbg := zin 854 rfl rfl
set_option maxRecDepth 100000 in
theorem zw855 : Cond.code yX9_isIn prog_11_method_33_code 5 (some .boolean) ∈ zbg := zin 855 rfl rfl
set_option maxRecDepth 100000 in
theorem zw856 : Cond.methodLink RX9 179 yX9_hasKey ∈ zbg := zin 856 rfl rfl
set_option maxRecDepth 100000 in
theorem zw858 : Cond.instanceMethod yX9_hasKey ∈ zbg := zin 858 rfl rfl
set_option maxRecDepth 100000 in
theorem zw859 : Cond.code yX9_hasKey prog_11_method_29_code 5 (some .boolean) ∈ zbg := zin 859 rfl rfl
set_option maxRecDepth 100000 in
theorem zw860 : Cond.methodLink RX9 185 yX9_sumOf ∈ zbg := zin 860 rfl rfl
set_option maxRecDepth 100000 in
theorem zw862 : Cond.instanceMethod yX9_sumOf ∈ zbg := zin 862 rfl rfl
set_option maxRecDepth 100000 in
theorem zw863 : Cond.code yX9_sumOf prog_11_method_30_code 6 (some .long) ∈ zbg := zin 863 rfl rfl
set_option maxRecDepth 100000 in
theorem zw864 : Cond.methodLink RX9 195 yX9_move ∈ zbg := zin 864 rfl rfl
set_option maxRecDepth 100000 in
theorem zw866 : Cond.instanceMethod yX9_move ∈ zbg := zin 866 rfl rfl
set_option maxRecDepth 100000 in
theorem zw867 : Cond.code yX9_move prog_11_method_36_code 3 none ∈ zbg := zin 867 rfl rfl
set_option maxRecDepth 100000 in
theorem zw868 : Cond.methodLink RX9 198 yX9_isBefore ∈ zbg := zin 868 rfl rfl
set_option maxRecDepth 100000 in
theorem zw870 : Cond.instanceMethod yX9_isBefore ∈ zbg := zin 870 rfl rfl
set_option maxRecDepth 100000 in
theorem zw871 : Cond.code yX9_isBefore prog_11_method_35_code 4 (some .boolean) ∈ zbg := zin 871 rfl rfl
set_option maxRecDepth 100000 in
theorem zw876 : Cond.methodLink RX9 204 yX9_isGroup ∈ zbg := zin 876 rfl rfl
set_option maxRecDepth 100000 in
theorem zw878 : Cond.instanceMethod yX9_isGroup ∈ zbg := zin 878 rfl rfl
set_option maxRecDepth 100000 in
theorem zw879 : Cond.code yX9_isGroup prog_11_method_38_code 3 (some .boolean) ∈ zbg := zin 879 rfl rfl
set_option maxRecDepth 100000 in
theorem zw892 : Cond.methodLink RX9 207 yX9_hand ∈ zbg := zin 892 rfl rfl
set_option maxRecDepth 100000 in
theorem zw893 : Cond.instanceMethod yX9_hand ∈ zbg := zin 893 rfl rfl
set_option maxRecDepth 100000 in
theorem zw894 : Cond.selects RX9 yX9_hand yX9_hand ∈ zbg := zin 894 rfl rfl
set_option maxRecDepth 100000 in
theorem zw895 : Cond.code yX9_hand prog_11_method_45_code 3 (some .int) ∈ zbg := zin 895 rfl rfl
set_option maxRecDepth 100000 in
theorem zw905 : Cond.methodLink RX9 217 yX9_findRow ∈ zbg := zin 905 rfl rfl
set_option maxRecDepth 100000 in
theorem zw907 : Cond.instanceMethod yX9_findRow ∈ zbg := zin 907 rfl rfl
set_option maxRecDepth 100000 in
theorem zw908 : Cond.code yX9_findRow prog_11_method_46_code 7 (some .boolean) ∈ zbg := zin 908 rfl rfl
set_option maxRecDepth 100000 in
theorem zw909 : Cond.methodLink RX9 214 yX9_lay ∈ zbg := zin 909 rfl rfl
set_option maxRecDepth 100000 in
theorem zw911 : Cond.instanceMethod yX9_lay ∈ zbg := zin 911 rfl rfl
set_option maxRecDepth 100000 in
theorem zw912 : Cond.code yX9_lay prog_11_method_47_code 3 none ∈ zbg := zin 912 rfl rfl
set_option maxRecDepth 100000 in
theorem zw913 : Cond.constantLong RX9 220 (-2000000001 : Int64) ∈ zbg := zin 913 rfl rfl
set_option maxRecDepth 100000 in
theorem zw914 : Cond.constantLong RX9 222 (-2000000000 : Int64) ∈ zbg := zin 914 rfl rfl
set_option maxRecDepth 100000 in
theorem zkX9_within : zkS yX9_within cX9_within 3 (some .boolean) 3 := ⟨zw740, zw48, zw741, by decide, by decide, by decide +kernel⟩
set_option maxRecDepth 100000 in
theorem zkX9_changes : zkV RX9 yX9_changes cX9_changes 1 (none) 0 := ⟨zw729, zw17, zw48, zw730, rfl, by decide, by decide, by decide +kernel⟩
set_option maxRecDepth 100000 in
theorem zkX9_isObject : zkV RX9 yX9_isObject cX9_isObject 2 (some .boolean) 1 := ⟨zw737, zw18, zw48, zw738, rfl, by decide, by decide, by decide +kernel⟩
set_option maxRecDepth 100000 in
theorem zkX9_isColumn : zkS yX9_isColumn cX9_isColumn 1 (some .boolean) 1 := ⟨zw743, zw48, zw744, by decide, by decide, by decide +kernel⟩
set_option maxRecDepth 100000 in
theorem zkX9_isValue : zkS yX9_isValue cX9_isValue 1 (some .boolean) 1 := ⟨zw746, zw48, zw747, by decide, by decide, by decide +kernel⟩
set_option maxRecDepth 100000 in
theorem zkX9_isFacet : zkV RX9 yX9_isFacet cX9_isFacet 2 (some .boolean) 1 := ⟨zw771, zw19, zw48, zw772, rfl, by decide, by decide, by decide +kernel⟩
set_option maxRecDepth 100000 in
theorem zkX9_give : zkV RX9 yX9_give cX9_give 2 (none) 1 := ⟨zw812, zw24, zw48, zw813, rfl, by decide, by decide, by decide +kernel⟩
set_option maxRecDepth 100000 in
theorem zkX9_isLeap : zkS yX9_isLeap cX9_isLeap 1 (some .boolean) 1 := ⟨zw831, zw48, zw832, by decide, by decide, by decide +kernel⟩
set_option maxRecDepth 100000 in
theorem zkX9_daysOf : zkS yX9_daysOf cX9_daysOf 2 (some .int) 2 := ⟨zw834, zw48, zw835, by decide, by decide, by decide +kernel⟩
set_option maxRecDepth 100000 in
theorem zkX9_behind : zkS yX9_behind cX9_behind 7 (some .int) 2 := ⟨zw828, zw48, zw829, by decide, by decide, by decide +kernel⟩
set_option maxRecDepth 100000 in
theorem zkX9_modulo : zkS yX9_modulo cX9_modulo 3 (some .int) 2 := ⟨zw820, zw48, zw821, by decide, by decide, by decide +kernel⟩
set_option maxRecDepth 100000 in
theorem zkX9_givePaths : zkV RX9 yX9_givePaths cX9_givePaths 4 (none) 1 := ⟨zw816, zw25, zw48, zw817, rfl, by decide, by decide, by decide +kernel⟩
set_option maxRecDepth 100000 in
theorem zkX9_giveDays : zkV RX9 yX9_giveDays cX9_giveDays 3 (none) 2 := ⟨zw824, zw26, zw48, zw825, rfl, by decide, by decide, by decide +kernel⟩
set_option maxRecDepth 100000 in
theorem zkX9_atHand : zkV RX9 yX9_atHand cX9_atHand 2 (some .boolean) 1 := ⟨zw842, zw28, zw48, zw843, rfl, by decide, by decide, by decide +kernel⟩
set_option maxRecDepth 100000 in
theorem zkX9_giveKeys : zkV RX9 yX9_giveKeys cX9_giveKeys 4 (none) 2 := ⟨zw808, zw23, zw48, zw809, rfl, by decide, by decide, by decide +kernel⟩
set_option maxRecDepth 100000 in
theorem zkX9_findKeysOf : zkV RX9 yX9_findKeysOf cX9_findKeysOf 6 (none) 2 := ⟨zw804, zw22, zw48, zw805, rfl, by decide, by decide, by decide +kernel⟩
set_option maxRecDepth 100000 in
theorem zkX9_counts : zkV RX9 yX9_counts cX9_counts 6 (some .boolean) 2 := ⟨zw838, zw27, zw48, zw839, rfl, by decide, by decide, by decide +kernel⟩
set_option maxRecDepth 100000 in
theorem zkX9_isNew : zkV RX9 yX9_isNew cX9_isNew 4 (some .boolean) 1 := ⟨zw846, zw29, zw48, zw847, rfl, by decide, by decide, by decide +kernel⟩
set_option maxRecDepth 100000 in
theorem zkX9_hasKey : zkV RX9 yX9_hasKey cX9_hasKey 5 (some .boolean) 2 := ⟨zw858, zw32, zw48, zw859, rfl, by decide, by decide, by decide +kernel⟩
set_option maxRecDepth 100000 in
theorem zkX9_isIn : zkV RX9 yX9_isIn cX9_isIn 5 (some .boolean) 3 := ⟨zw854, zw31, zw48, zw855, rfl, by decide, by decide, by decide +kernel⟩
set_option maxRecDepth 100000 in
theorem zkX9_sumOf : zkV RX9 yX9_sumOf cX9_sumOf 6 (some .long) 2 := ⟨zw862, zw33, zw48, zw863, rfl, by decide, by decide, by decide +kernel⟩
set_option maxRecDepth 100000 in
theorem zkX9_findKeys : zkV RX9 yX9_findKeys cX9_findKeys 5 (none) 1 := ⟨zw800, zw21, zw48, zw801, rfl, by decide, by decide, by decide +kernel⟩
set_option maxRecDepth 100000 in
theorem zkX9_measure : zkV RX9 yX9_measure cX9_measure 4 (none) 2 := ⟨zw850, zw30, zw48, zw851, rfl, by decide, by decide, by decide +kernel⟩
set_option maxRecDepth 100000 in
theorem zkX9_move : zkV RX9 yX9_move cX9_move 3 (none) 2 := ⟨zw866, zw34, zw48, zw867, rfl, by decide, by decide, by decide +kernel⟩
set_option maxRecDepth 100000 in
theorem zkX9_isBefore : zkV RX9 yX9_isBefore cX9_isBefore 4 (some .boolean) 3 := ⟨zw870, zw35, zw48, zw871, rfl, by decide, by decide, by decide +kernel⟩
set_option maxRecDepth 100000 in
theorem zkX9_findGroups : zkV RX9 yX9_findGroups cX9_findGroups 6 (none) 1 := ⟨zw796, zw20, zw48, zw797, rfl, by decide, by decide, by decide +kernel⟩
set_option maxRecDepth 100000 in
theorem zkX9_isGroup : zkV RX9 yX9_isGroup cX9_isGroup 3 (some .boolean) 2 := ⟨zw878, zw36, zw48, zw879, rfl, by decide, by decide, by decide +kernel⟩
set_option maxRecDepth 100000 in
theorem zkX9_hand : zkV RX9 yX9_hand cX9_hand 3 (some .int) 0 := ⟨zw893, zw894, zw48, zw895, rfl, by decide, by decide, by decide +kernel⟩
set_option maxRecDepth 100000 in
theorem zkX9_lay : zkV RX9 yX9_lay cX9_lay 3 (none) 1 := ⟨zw911, zw38, zw48, zw912, rfl, by decide, by decide, by decide +kernel⟩
set_option maxRecDepth 100000 in
theorem zkX9_findRow : zkV RX9 yX9_findRow cX9_findRow 7 (some .boolean) 3 := ⟨zw907, zw37, zw48, zw908, rfl, by decide, by decide, by decide +kernel⟩
set_option maxRecDepth 100000 in
theorem zkJ9_floorMod_7cf53 : zkS yJ9_floorMod_7cf53 cJ9_floorMod_7cf53 3 (some .int) 2 := ⟨zw418, zw49, zw419, by decide, by decide, by decide +kernel⟩
set_option maxRecDepth 100000 in
theorem zkX0_yearStart : zkS yX0_yearStart cX0_yearStart 1 (some .int) 1 := ⟨zw431, zw50, zw432, by decide, by decide, by decide +kernel⟩
set_option maxRecDepth 100000 in
theorem zkX0_partStart : zkS yX0_partStart cX0_partStart 6 (some .int) 3 := ⟨zw434, zw50, zw435, by decide, by decide, by decide +kernel⟩
set_option maxRecDepth 100000 in
theorem zkX6_valueCount : zkV RX6 yX6_valueCount cX6_valueCount 3 (some .int) 2 := ⟨zw308, zw309, zw42, zw310, rfl, by decide, by decide, by decide +kernel⟩
set_option maxRecDepth 100000 in
theorem zkX6_valueAt : zkV RX6 yX6_valueAt cX6_valueAt 4 (some .int) 3 := ⟨zw388, zw389, zw42, zw390, rfl, by decide, by decide, by decide +kernel⟩
set_option maxRecDepth 100000 in
theorem zkX6_hasWithin : zkV RX6 yX6_hasWithin cX6_hasWithin 8 (some .boolean) 4 := ⟨zw383, zw384, zw42, zw385, rfl, by decide, by decide, by decide +kernel⟩
set_option maxRecDepth 100000 in
theorem zkX4_add : zkV RX4 yX4_add cX4_add 3 (none) 1 := ⟨zw406, zw407, zw46, zw408, rfl, by decide, by decide, by decide +kernel⟩
set_option maxRecDepth 100000 in
theorem zkX1_addPathKeys : zkS yX1_addPathKeys cX1_addPathKeys 4 (none) 2 := ⟨zw410, zw44, zw411, by decide, by decide, by decide +kernel⟩
set_option maxRecDepth 100000 in
theorem zkX1_addRangeKeys : zkV RX1 yX1_addRangeKeys cX1_addRangeKeys 4 (none) 2 := ⟨zw415, zw5, zw44, zw416, rfl, by decide, by decide, by decide +kernel⟩
set_option maxRecDepth 100000 in
theorem zkX0_firstDay : zkS yX0_firstDay cX0_firstDay 6 (some .int) 2 := ⟨zw423, zw50, zw424, by decide, by decide, by decide +kernel⟩
set_option maxRecDepth 100000 in
theorem zkX4_startOver : zkV RX4 yX4_startOver cX4_startOver 1 (none) 0 := ⟨zw396, zw397, zw46, zw398, rfl, by decide, by decide, by decide +kernel⟩
set_option maxRecDepth 100000 in
theorem zkX1_addKeysOf : zkV RX1 yX1_addKeysOf cX1_addKeysOf 3 (none) 2 := ⟨zw403, zw4, zw44, zw404, rfl, by decide, by decide, by decide +kernel⟩
set_option maxRecDepth 100000 in
theorem zkJ9_min_7cf53 : zkS yJ9_min_7cf53 cJ9_min_7cf53 2 (some .int) 2 := ⟨zw284, zw49, zw285, by decide, by decide, by decide +kernel⟩
set_option maxRecDepth 100000 in
theorem zkX5_merge : zkV RX5 yX5_merge cX5_merge 8 (none) 4 := ⟨zw450, zw7, zw41, zw451, rfl, by decide, by decide, by decide +kernel⟩
set_option maxRecDepth 100000 in
theorem zkX3_has : zkV RX3 yX3_has cX3_has 2 (some .boolean) 1 := ⟨zw375, zw376, zw43, zw377, rfl, by decide, by decide, by decide +kernel⟩
set_option maxRecDepth 100000 in
theorem zkX1_counts : zkV RX1 yX1_counts cX1_counts 3 (some .boolean) 2 := ⟨zw379, zw380, zw44, zw381, rfl, by decide, by decide, by decide +kernel⟩
set_option maxRecDepth 100000 in
theorem zkX1_collectKeys : zkV RX1 yX1_collectKeys cX1_collectKeys 6 (none) 3 := ⟨zw392, zw393, zw44, zw394, rfl, by decide, by decide, by decide +kernel⟩
set_option maxRecDepth 100000 in
theorem zkX2_addPair : zkV RX2 yX2_addPair cX2_addPair 3 (none) 2 := ⟨zw440, zw6, zw45, zw441, rfl, by decide, by decide, by decide +kernel⟩
set_option maxRecDepth 100000 in
theorem zkX5_sort : zkV RX5 yX5_sort cX5_sort 6 (none) 2 := ⟨zw444, zw445, zw41, zw446, rfl, by decide, by decide, by decide +kernel⟩
set_option maxRecDepth 100000 in
theorem zkX2_pairKey : zkV RX2 yX2_pairKey cX2_pairKey 2 (some .int) 1 := ⟨zw465, zw9, zw45, zw466, rfl, by decide, by decide, by decide +kernel⟩
set_option maxRecDepth 100000 in
theorem zkX2_cutRun : zkV RX2 yX2_cutRun cX2_cutRun 5 (some .int) 3 := ⟨zw461, zw8, zw45, zw462, rfl, by decide, by decide, by decide +kernel⟩
set_option maxRecDepth 100000 in
theorem zkX2_pairObject : zkV RX2 yX2_pairObject cX2_pairObject 2 (some .int) 1 := ⟨zw477, zw11, zw45, zw478, rfl, by decide, by decide, by decide +kernel⟩
set_option maxRecDepth 100000 in
theorem zkX6_sumOf : zkV RX6 yX6_sumOf cX6_sumOf 7 (some .long) 2 := ⟨zw481, zw482, zw42, zw483, rfl, by decide, by decide, by decide +kernel⟩
set_option maxRecDepth 100000 in
theorem zkX2_weight : zkV RX2 yX2_weight cX2_weight 7 (some .long) 3 := ⟨zw473, zw10, zw45, zw474, rfl, by decide, by decide, by decide +kernel⟩
set_option maxRecDepth 100000 in
theorem zkX2_groupAt : zkV RX2 yX2_groupAt cX2_groupAt 2 (some .int) 1 := ⟨zw502, zw12, zw45, zw503, rfl, by decide, by decide, by decide +kernel⟩
set_option maxRecDepth 100000 in
theorem zkX2_isMissing : zkV RX2 yX2_isMissing cX2_isMissing 2 (some .boolean) 1 := ⟨zw497, zw498, zw45, zw499, rfl, by decide, by decide, by decide +kernel⟩
set_option maxRecDepth 100000 in
theorem zkX2_sizeOf : zkV RX2 yX2_sizeOf cX2_sizeOf 3 (some .int) 1 := ⟨zw507, zw508, zw45, zw509, rfl, by decide, by decide, by decide +kernel⟩
set_option maxRecDepth 100000 in
theorem zkX2_memberOf : zkV RX2 yX2_memberOf cX2_memberOf 3 (some .int) 2 := ⟨zw530, zw531, zw45, zw532, rfl, by decide, by decide, by decide +kernel⟩
set_option maxRecDepth 100000 in
theorem zkX2_keyOf : zkV RX2 yX2_keyOf cX2_keyOf 2 (some .int) 1 := ⟨zw493, zw494, zw45, zw495, rfl, by decide, by decide, by decide +kernel⟩
set_option maxRecDepth 100000 in
theorem zkX3_shrinkTo : zkV RX3 yX3_shrinkTo cX3_shrinkTo 3 (none) 1 := ⟨zw281, zw1, zw43, zw282, rfl, by decide, by decide, by decide +kernel⟩
set_option maxRecDepth 100000 in
theorem zkX7_sum : zkV RX7 yX7_sum cX7_sum 4 (some .long) 0 := ⟨zw583, zw14, zw47, zw584, rfl, by decide, by decide, by decide +kernel⟩
set_option maxRecDepth 100000 in
theorem zkX7_atPlace : zkV RX7 yX7_atPlace cX7_atPlace 2 (some .int) 1 := ⟨zw587, zw15, zw47, zw588, rfl, by decide, by decide, by decide +kernel⟩
set_option maxRecDepth 100000 in
theorem zkX7_different : zkV RX7 yX7_different cX7_different 3 (some .int) 0 := ⟨zw593, zw16, zw47, zw594, rfl, by decide, by decide, by decide +kernel⟩
set_option maxRecDepth 100000 in
theorem zkJ9_max_7cf53 : zkS yJ9_max_7cf53 cJ9_max_7cf53 2 (some .int) 2 := ⟨zw606, zw49, zw607, by decide, by decide, by decide +kernel⟩
set_option maxRecDepth 100000 in
theorem zkX3_widenWholly : zkV RX3 yX3_widenWholly cX3_widenWholly 1 (none) 0 := ⟨zw276, zw277, zw43, zw278, rfl, by decide, by decide, by decide +kernel⟩
set_option maxRecDepth 100000 in
theorem zkX8_leaveAll : zkV RX8 yX8_leaveAll cX8_leaveAll 1 (none) 0 := ⟨zw273, zw0, zw40, zw274, rfl, by decide, by decide, by decide +kernel⟩
set_option maxRecDepth 100000 in
theorem zkX6_addObject : zkV RX6 yX6_addObject cX6_addObject 3 (some .int) 0 := ⟨zw287, zw288, zw42, zw289, rfl, by decide, by decide, by decide +kernel⟩
set_option maxRecDepth 100000 in
theorem zkX6_has : zkV RX6 yX6_has cX6_has 2 (some .boolean) 1 := ⟨zw295, zw296, zw42, zw297, rfl, by decide, by decide, by decide +kernel⟩
set_option maxRecDepth 100000 in
theorem zkX8_isColumn : zkS yX8_isColumn cX8_isColumn 1 (some .boolean) 1 := ⟨zw299, zw40, zw300, by decide, by decide, by decide +kernel⟩
set_option maxRecDepth 100000 in
theorem zkX8_isValue : zkS yX8_isValue cX8_isValue 1 (some .boolean) 1 := ⟨zw302, zw40, zw303, by decide, by decide, by decide +kernel⟩
set_option maxRecDepth 100000 in
theorem zkX6_addValue : zkV RX6 yX6_addValue cX6_addValue 5 (some .int) 3 := ⟨zw312, zw313, zw42, zw314, rfl, by decide, by decide, by decide +kernel⟩
set_option maxRecDepth 100000 in
theorem zkX1_startOver : zkV RX1 yX1_startOver cX1_startOver 5 (none) 4 := ⟨zw329, zw330, zw44, zw331, rfl, by decide, by decide, by decide +kernel⟩
set_option maxRecDepth 100000 in
theorem zkX8_facetAt : zkV RX8 yX8_facetAt cX8_facetAt 2 (some (.object "FacetFigures$Facet")) 1 := ⟨zw339, zw2, zw40, zw340, rfl, by decide, by decide, by decide +kernel⟩
set_option maxRecDepth 100000 in
theorem zkX1_addRange : zkV RX1 yX1_addRange cX1_addRange 3 (some .int) 2 := ⟨zw343, zw344, zw44, zw345, rfl, by decide, by decide, by decide +kernel⟩
set_option maxRecDepth 100000 in
theorem zkX2_gather : zkV RX2 yX2_gather cX2_gather 6 (none) 3 := ⟨zw371, zw372, zw45, zw373, rfl, by decide, by decide, by decide +kernel⟩
set_option maxRecDepth 100000 in
theorem zkX2_cut : zkV RX2 yX2_cut cX2_cut 4 (none) 1 := ⟨zw456, zw457, zw45, zw458, rfl, by decide, by decide, by decide +kernel⟩
set_option maxRecDepth 100000 in
theorem zkX2_rank : zkV RX2 yX2_rank cX2_rank 4 (none) 2 := ⟨zw468, zw469, zw45, zw470, rfl, by decide, by decide, by decide +kernel⟩
set_option maxRecDepth 100000 in
theorem zkX8_groupsOf : zkV RX8 yX8_groupsOf cX8_groupsOf 3 (some (.object "FacetFigures$GroupList")) 1 := ⟨zw368, zw3, zw40, zw369, rfl, by decide, by decide, by decide +kernel⟩
set_option maxRecDepth 100000 in
theorem zkX2_has : zkV RX2 yX2_has cX2_has 2 (some .boolean) 1 := ⟨zw489, zw490, zw45, zw491, rfl, by decide, by decide, by decide +kernel⟩
set_option maxRecDepth 100000 in
theorem zkX2_numberOf : zkV RX2 yX2_numberOf cX2_numberOf 3 (some .int) 1 := ⟨zw516, zw517, zw45, zw518, rfl, by decide, by decide, by decide +kernel⟩
set_option maxRecDepth 100000 in
theorem zkX2_holds : zkV RX2 yX2_holds cX2_holds 5 (some .boolean) 2 := ⟨zw525, zw526, zw45, zw527, rfl, by decide, by decide, by decide +kernel⟩
set_option maxRecDepth 100000 in
theorem zkX3_startNarrowing : zkV RX3 yX3_startNarrowing cX3_startNarrowing 1 (none) 0 := ⟨zw538, zw539, zw43, zw540, rfl, by decide, by decide, by decide +kernel⟩
set_option maxRecDepth 100000 in
theorem zkX3_keep : zkV RX3 yX3_keep cX3_keep 2 (none) 1 := ⟨zw543, zw544, zw43, zw545, rfl, by decide, by decide, by decide +kernel⟩
set_option maxRecDepth 100000 in
theorem zkX3_widen : zkV RX3 yX3_widen cX3_widen 1 (none) 0 := ⟨zw551, zw552, zw43, zw553, rfl, by decide, by decide, by decide +kernel⟩
set_option maxRecDepth 100000 in
theorem zkX7_startOver : zkV RX7 yX7_startOver cX7_startOver 1 (none) 0 := ⟨zw568, zw569, zw47, zw570, rfl, by decide, by decide, by decide +kernel⟩
set_option maxRecDepth 100000 in
theorem zkX7_take : zkV RX7 yX7_take cX7_take 6 (none) 3 := ⟨zw572, zw573, zw47, zw574, rfl, by decide, by decide, by decide +kernel⟩
set_option maxRecDepth 100000 in
theorem zkX8_sampleIsTaken : zkV RX8 yX8_sampleIsTaken cX8_sampleIsTaken 7 (some .boolean) 3 := ⟨zw565, zw13, zw40, zw566, rfl, by decide, by decide, by decide +kernel⟩
set_option maxRecDepth 100000 in
theorem zkX7_tell : zkV RX7 yX7_tell cX7_tell 2 (some .long) 1 := ⟨zw578, zw579, zw47, zw580, rfl, by decide, by decide, by decide +kernel⟩
set_option maxRecDepth 100000 in
theorem zkX7_atPercent : zkV RX7 yX7_atPercent cX7_atPercent 2 (some .int) 1 := ⟨zw602, zw603, zw47, zw604, rfl, by decide, by decide, by decide +kernel⟩
set_option maxRecDepth 100000 in
theorem zkX6_matching : zkV RX6 yX6_matching cX6_matching 3 (some .int) 0 := ⟨zw613, zw614, zw42, zw615, rfl, by decide, by decide, by decide +kernel⟩
