def m_L_law_851_in18 (N : Nat) (L : Nat) (xs : Nat → Int32) (σ12 : zS × zS) (v3_12 : Int32) : Option (((zS × zS) × Int32) ⊕ ((zS × zS))) :=
  some (.inl (σ12, (v3_12 + (5 : Int32))))
def m_L_law_225_in18 (N : Nat) (L : Nat) (xs : Nat → Int32) (σ38 : zS × zS) (v3_38 : Int32) (x0_38 : Int32) (x2_38 : Int32) (x3_38 : Int32) : Option (((zS × zS) × Int32) ⊕ ((zS × zS))) :=
  (m_X9_match N σ38.2 x2_38 x3_38).bind fun p40 =>
  if x0_38 = p40.1 then
  (m_L_law_851_in18 N L xs (σ38.1, p40.2) v3_38)
  else
  (none)
def m_L_law_203_in18 (N : Nat) (L : Nat) (xs : Nat → Int32) (σ31 : zS × zS) (v3_31 : Int32) (x1_31 : Int32) (x2_31 : Int32) : Option (((zS × zS) × Int32) ⊕ ((zS × zS))) :=
  (m_X8_match N σ31.1 x1_31 x2_31).bind fun p33 =>
  (zrd L xs (v3_31 + (1 : Int32))).bind fun b35 =>
  (zrd L xs (v3_31 + (2 : Int32))).bind fun b36 =>
  if b36 = (0 : Int32) then
  (m_L_law_225_in18 N L xs (p33.2, σ31.2) v3_31 p33.1 b35 (0 : Int32))
  else
  (m_L_law_225_in18 N L xs (p33.2, σ31.2) v3_31 p33.1 b35 (1 : Int32))
def m_L_law_469_in18 (N : Nat) (L : Nat) (xs : Nat → Int32) (σ120 : zS × zS) (v3_120 : Int32) (x0_120 : Int32) (x2_120 : Int32) (x3_120 : Int32) : Option (((zS × zS) × Int32) ⊕ ((zS × zS))) :=
  (m_X9_missing N σ120.2 x2_120 x3_120).bind fun p122 =>
  if x0_120 = p122.1 then
  (m_L_law_851_in18 N L xs (σ120.1, p122.2) v3_120)
  else
  (none)
def m_L_law_447_in18 (N : Nat) (L : Nat) (xs : Nat → Int32) (σ113 : zS × zS) (v3_113 : Int32) (x1_113 : Int32) (x2_113 : Int32) : Option (((zS × zS) × Int32) ⊕ ((zS × zS))) :=
  (m_X8_missing N σ113.1 x1_113 x2_113).bind fun p115 =>
  (zrd L xs (v3_113 + (1 : Int32))).bind fun b117 =>
  (zrd L xs (v3_113 + (2 : Int32))).bind fun b118 =>
  if b118 = (0 : Int32) then
  (m_L_law_469_in18 N L xs (p115.2, σ113.2) v3_113 p115.1 b117 (0 : Int32))
  else
  (m_L_law_469_in18 N L xs (p115.2, σ113.2) v3_113 p115.1 b117 (1 : Int32))
def m_L_law_L18 (N : Nat) (L : Nat) (xs : Nat → Int32) (σ1 : zS × zS) (v3_1 : Int32) : Option (((zS × zS) × Int32) ⊕ ((zS × zS))) :=
  if ((Int32.ofNat L) - (5 : Int32)) < v3_1 then
  (some (.inr σ1))
  else
  ((zrd L xs v3_1).bind fun b3 =>
  if (b3 &&& (31 : Int32)) = (0 : Int32) then
  ((m_X8_object N σ1.1 ).bind fun p6 =>
  (m_X9_object N (p6.2, σ1.2).2 ).bind fun p9 =>
  if p6.1 = p9.1 then
  (m_L_law_851_in18 N L xs ((p6.2, σ1.2).1, p9.2) v3_1)
  else
  (none))
  else
  if (b3 &&& (31 : Int32)) = (1 : Int32) then
  ((zrd L xs (v3_1 + (1 : Int32))).bind fun b14 =>
  (zrd L xs (v3_1 + (2 : Int32))).bind fun b15 =>
  (zrd L xs (v3_1 + (3 : Int32))).bind fun b16 =>
  (m_X8_value N σ1.1 b14 b15 b16).bind fun p18 =>
  (zrd L xs (v3_1 + (1 : Int32))).bind fun b20 =>
  (zrd L xs (v3_1 + (2 : Int32))).bind fun b21 =>
  (zrd L xs (v3_1 + (3 : Int32))).bind fun b22 =>
  (m_X9_value N (p18.2, σ1.2).2 b20 b21 b22).bind fun p24 =>
  if p18.1 = p24.1 then
  (m_L_law_851_in18 N L xs ((p18.2, σ1.2).1, p24.2) v3_1)
  else
  (none))
  else
  if (b3 &&& (31 : Int32)) = (2 : Int32) then
  ((zrd L xs (v3_1 + (1 : Int32))).bind fun b28 =>
  (zrd L xs (v3_1 + (2 : Int32))).bind fun b29 =>
  if b29 = (0 : Int32) then
  (m_L_law_203_in18 N L xs σ1 v3_1 b28 (0 : Int32))
  else
  (m_L_law_203_in18 N L xs σ1 v3_1 b28 (1 : Int32)))
  else
  if (b3 &&& (31 : Int32)) = (3 : Int32) then
  ((m_X8_clear N σ1.1 ).bind fun p45 =>
  (m_X9_clear N (p45.2, σ1.2).2 ).bind fun p48 =>
  if p45.1 = p48.1 then
  (m_L_law_851_in18 N L xs ((p45.2, σ1.2).1, p48.2) v3_1)
  else
  (none))
  else
  if (b3 &&& (31 : Int32)) = (4 : Int32) then
  ((zrd L xs (v3_1 + (1 : Int32))).bind fun b52 =>
  (zrd L xs (v3_1 + (2 : Int32))).bind fun b53 =>
  (zrd L xs (v3_1 + (3 : Int32))).bind fun b54 =>
  (zrd L xs (v3_1 + (4 : Int32))).bind fun b55 =>
  (m_X8_facet N σ1.1 b52 b53 b54 b55).bind fun p57 =>
  (zrd L xs (v3_1 + (1 : Int32))).bind fun b59 =>
  (zrd L xs (v3_1 + (2 : Int32))).bind fun b60 =>
  (zrd L xs (v3_1 + (3 : Int32))).bind fun b61 =>
  (zrd L xs (v3_1 + (4 : Int32))).bind fun b62 =>
  (m_X9_facet N (p57.2, σ1.2).2 b59 b60 b61 b62).bind fun p64 =>
  if p57.1 = p64.1 then
  (m_L_law_851_in18 N L xs ((p57.2, σ1.2).1, p64.2) v3_1)
  else
  (none))
  else
  if (b3 &&& (31 : Int32)) = (5 : Int32) then
  ((zrd L xs (v3_1 + (1 : Int32))).bind fun b68 =>
  (zrd L xs (v3_1 + (2 : Int32))).bind fun b69 =>
  (zrd L xs (v3_1 + (3 : Int32))).bind fun b70 =>
  (m_X8_range N σ1.1 b68 b69 b70).bind fun p72 =>
  (zrd L xs (v3_1 + (1 : Int32))).bind fun b74 =>
  (zrd L xs (v3_1 + (2 : Int32))).bind fun b75 =>
  (zrd L xs (v3_1 + (3 : Int32))).bind fun b76 =>
  (m_X9_range N (p72.2, σ1.2).2 b74 b75 b76).bind fun p78 =>
  if p72.1 = p78.1 then
  (m_L_law_851_in18 N L xs ((p72.2, σ1.2).1, p78.2) v3_1)
  else
  (none))
  else
  if (b3 &&& (31 : Int32)) = (6 : Int32) then
  ((zrd L xs (v3_1 + (1 : Int32))).bind fun b82 =>
  (zrd L xs (v3_1 + (2 : Int32))).bind fun b83 =>
  (zrd L xs (v3_1 + (3 : Int32))).bind fun b84 =>
  (zrd L xs (v3_1 + (4 : Int32))).bind fun b85 =>
  (m_X8_filter N σ1.1 b82 b83 b84 b85).bind fun p87 =>
  (zrd L xs (v3_1 + (1 : Int32))).bind fun b89 =>
  (zrd L xs (v3_1 + (2 : Int32))).bind fun b90 =>
  (zrd L xs (v3_1 + (3 : Int32))).bind fun b91 =>
  (zrd L xs (v3_1 + (4 : Int32))).bind fun b92 =>
  (m_X9_filter N (p87.2, σ1.2).2 b89 b90 b91 b92).bind fun p94 =>
  if p87.1 = p94.1 then
  (m_L_law_851_in18 N L xs ((p87.2, σ1.2).1, p94.2) v3_1)
  else
  (none))
  else
  if (b3 &&& (31 : Int32)) = (7 : Int32) then
  ((zrd L xs (v3_1 + (1 : Int32))).bind fun b98 =>
  (zrd L xs (v3_1 + (2 : Int32))).bind fun b99 =>
  (m_X8_least N σ1.1 b98 b99).bind fun p101 =>
  (zrd L xs (v3_1 + (1 : Int32))).bind fun b103 =>
  (zrd L xs (v3_1 + (2 : Int32))).bind fun b104 =>
  (m_X9_least N (p101.2, σ1.2).2 b103 b104).bind fun p106 =>
  if p101.1 = p106.1 then
  (m_L_law_851_in18 N L xs ((p101.2, σ1.2).1, p106.2) v3_1)
  else
  (none))
  else
  if (b3 &&& (31 : Int32)) = (8 : Int32) then
  ((zrd L xs (v3_1 + (1 : Int32))).bind fun b110 =>
  (zrd L xs (v3_1 + (2 : Int32))).bind fun b111 =>
  if b111 = (0 : Int32) then
  (m_L_law_447_in18 N L xs σ1 v3_1 b110 (0 : Int32))
  else
  (m_L_law_447_in18 N L xs σ1 v3_1 b110 (1 : Int32)))
  else
  if (b3 &&& (31 : Int32)) = (9 : Int32) then
  ((zrd L xs (v3_1 + (1 : Int32))).bind fun b126 =>
  (zrd L xs (v3_1 + (2 : Int32))).bind fun b127 =>
  (zrd L xs (v3_1 + (3 : Int32))).bind fun b128 =>
  (m_X8_order N σ1.1 b126 b127 b128).bind fun p130 =>
  (zrd L xs (v3_1 + (1 : Int32))).bind fun b132 =>
  (zrd L xs (v3_1 + (2 : Int32))).bind fun b133 =>
  (zrd L xs (v3_1 + (3 : Int32))).bind fun b134 =>
  (m_X9_order N (p130.2, σ1.2).2 b132 b133 b134).bind fun p136 =>
  if p130.1 = p136.1 then
  (m_L_law_851_in18 N L xs ((p130.2, σ1.2).1, p136.2) v3_1)
  else
  (none))
  else
  if (b3 &&& (31 : Int32)) = (10 : Int32) then
  ((zrd L xs (v3_1 + (1 : Int32))).bind fun b140 =>
  (m_X8_groups N σ1.1 b140).bind fun p142 =>
  (zrd L xs (v3_1 + (1 : Int32))).bind fun b144 =>
  (m_X9_groups N (p142.2, σ1.2).2 b144).bind fun p146 =>
  if p142.1 = p146.1 then
  (m_L_law_851_in18 N L xs ((p142.2, σ1.2).1, p146.2) v3_1)
  else
  (none))
  else
  if (b3 &&& (31 : Int32)) = (11 : Int32) then
  ((zrd L xs (v3_1 + (1 : Int32))).bind fun b150 =>
  (zrd L xs (v3_1 + (2 : Int32))).bind fun b151 =>
  (zrd L xs (v3_1 + (3 : Int32))).bind fun b152 =>
  (m_X8_group N σ1.1 b150 b151 b152).bind fun p154 =>
  (zrd L xs (v3_1 + (1 : Int32))).bind fun b156 =>
  (zrd L xs (v3_1 + (2 : Int32))).bind fun b157 =>
  (zrd L xs (v3_1 + (3 : Int32))).bind fun b158 =>
  (m_X9_group N (p154.2, σ1.2).2 b156 b157 b158).bind fun p160 =>
  if p154.1 = p160.1 then
  (m_L_law_851_in18 N L xs ((p154.2, σ1.2).1, p160.2) v3_1)
  else
  (none))
  else
  if (b3 &&& (31 : Int32)) = (12 : Int32) then
  ((zrd L xs (v3_1 + (1 : Int32))).bind fun b164 =>
  (zrd L xs (v3_1 + (2 : Int32))).bind fun b165 =>
  (m_X8_find N σ1.1 b164 b165).bind fun p167 =>
  (zrd L xs (v3_1 + (1 : Int32))).bind fun b169 =>
  (zrd L xs (v3_1 + (2 : Int32))).bind fun b170 =>
  (m_X9_find N (p167.2, σ1.2).2 b169 b170).bind fun p172 =>
  if p167.1 = p172.1 then
  (m_L_law_851_in18 N L xs ((p167.2, σ1.2).1, p172.2) v3_1)
  else
  (none))
  else
  if (b3 &&& (31 : Int32)) = (13 : Int32) then
  ((zrd L xs (v3_1 + (1 : Int32))).bind fun b176 =>
  (zrd L xs (v3_1 + (2 : Int32))).bind fun b177 =>
  (zrd L xs (v3_1 + (3 : Int32))).bind fun b178 =>
  (m_X8_in N σ1.1 b176 b177 b178).bind fun p180 =>
  (zrd L xs (v3_1 + (1 : Int32))).bind fun b182 =>
  (zrd L xs (v3_1 + (2 : Int32))).bind fun b183 =>
  (zrd L xs (v3_1 + (3 : Int32))).bind fun b184 =>
  (m_X9_in N (p180.2, σ1.2).2 b182 b183 b184).bind fun p186 =>
  if p180.1 = p186.1 then
  (m_L_law_851_in18 N L xs ((p180.2, σ1.2).1, p186.2) v3_1)
  else
  (none))
  else
  if (b3 &&& (31 : Int32)) = (14 : Int32) then
  ((zrd L xs (v3_1 + (1 : Int32))).bind fun b190 =>
  (zrd L xs (v3_1 + (2 : Int32))).bind fun b191 =>
  (m_X8_enter N σ1.1 b190 b191).bind fun p193 =>
  (zrd L xs (v3_1 + (1 : Int32))).bind fun b195 =>
  (zrd L xs (v3_1 + (2 : Int32))).bind fun b196 =>
  (m_X9_enter N (p193.2, σ1.2).2 b195 b196).bind fun p198 =>
  if p193.1 = p198.1 then
  (m_L_law_851_in18 N L xs ((p193.2, σ1.2).1, p198.2) v3_1)
  else
  (none))
  else
  if (b3 &&& (31 : Int32)) = (15 : Int32) then
  ((m_X8_leave N σ1.1 ).bind fun p203 =>
  (m_X9_leave N (p203.2, σ1.2).2 ).bind fun p206 =>
  if p203.1 = p206.1 then
  (m_L_law_851_in18 N L xs ((p203.2, σ1.2).1, p206.2) v3_1)
  else
  (none))
  else
  if (b3 &&& (31 : Int32)) = (16 : Int32) then
  ((m_X8_hand N σ1.1 ).bind fun b210 =>
  (m_X9_hand N σ1.2 ).bind fun b211 =>
  if b210 = b211 then
  (m_L_law_851_in18 N L xs σ1 v3_1)
  else
  (none))
  else
  if (b3 &&& (31 : Int32)) = (17 : Int32) then
  ((zrd L xs (v3_1 + (1 : Int32))).bind fun b214 =>
  (zrd L xs (v3_1 + (2 : Int32))).bind fun b215 =>
  (zrd L xs (v3_1 + (3 : Int32))).bind fun b216 =>
  (zrd L xs (v3_1 + (4 : Int32))).bind fun b217 =>
  (m_X8_figure N σ1.1 b214 b215 b216 b217).bind fun p219 =>
  (zrd L xs (v3_1 + (1 : Int32))).bind fun b221 =>
  (zrd L xs (v3_1 + (2 : Int32))).bind fun b222 =>
  (zrd L xs (v3_1 + (3 : Int32))).bind fun b223 =>
  (zrd L xs (v3_1 + (4 : Int32))).bind fun b224 =>
  (m_X9_figure N (p219.2, σ1.2).2 b221 b222 b223 b224).bind fun p226 =>
  if (lg_cmp p219.1 p226.1) = (0 : Int32) then
  (m_L_law_851_in18 N L xs ((p219.2, σ1.2).1, p226.2) v3_1)
  else
  (none))
  else
  if (b3 &&& (31 : Int32)) = (18 : Int32) then
  ((zrd L xs (v3_1 + (1 : Int32))).bind fun b230 =>
  (zrd L xs (v3_1 + (2 : Int32))).bind fun b231 =>
  (zrd L xs (v3_1 + (3 : Int32))).bind fun b232 =>
  (zrd L xs (v3_1 + (4 : Int32))).bind fun b233 =>
  (m_X8_place N σ1.1 b230 b231 b232 b233).bind fun p235 =>
  (zrd L xs (v3_1 + (1 : Int32))).bind fun b237 =>
  (zrd L xs (v3_1 + (2 : Int32))).bind fun b238 =>
  (zrd L xs (v3_1 + (3 : Int32))).bind fun b239 =>
  (zrd L xs (v3_1 + (4 : Int32))).bind fun b240 =>
  (m_X9_place N (p235.2, σ1.2).2 b237 b238 b239 b240).bind fun p242 =>
  if p235.1 = p242.1 then
  (m_L_law_851_in18 N L xs ((p235.2, σ1.2).1, p242.2) v3_1)
  else
  (none))
  else
  if (b3 &&& (31 : Int32)) = (19 : Int32) then
  ((zrd L xs (v3_1 + (1 : Int32))).bind fun b246 =>
  (m_X8_told N σ1.1 b246).bind fun b247 =>
  (zrd L xs (v3_1 + (1 : Int32))).bind fun b248 =>
  (m_X9_told N σ1.2 b248).bind fun b249 =>
  if b247 = b249 then
  (m_L_law_851_in18 N L xs σ1 v3_1)
  else
  (none))
  else
  (m_L_law_851_in18 N L xs σ1 v3_1))
