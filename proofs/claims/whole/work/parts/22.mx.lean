def m_J9_floorMod_7cf53 (N : Nat) (σ : zS) (v0 : Int32) (v1 : Int32) : Option Int32 :=
  (zrm v0 v1).bind fun b1 =>
  if (0 : Int32) ≤ (v0 ^^^ v1) then
  (some b1)
  else
  (if b1 = (0 : Int32) then
  (some b1)
  else
  (some (b1 + v1)))
def m_X0_yearStart (N : Nat) (σ : zS) (v0 : Int32) : Option Int32 :=
  some (((((365 : Int32) * v0) + ((v0 + (3 : Int32)) / (4 : Int32))) - ((v0 + (99 : Int32)) / (100 : Int32))) + ((v0 + (399 : Int32)) / (400 : Int32)))
def m_X0_partStart_54_in5 (N : Nat) (σ : zS) (v0 : Int32) (v1 : Int32) (v2 : Int32) (v3_8 : Int32) (v4_8 : Int32) : Option ((Int32 × Int32) ⊕ (Int32)) :=
  some (.inl (v3_8, (v4_8 + (1 : Int32))))
def m_X0_partStart_35_in5 (N : Nat) (σ : zS) (v0 : Int32) (v1 : Int32) (v2 : Int32) (v3_6 : Int32) (v4_6 : Int32) (x0_6 : Int32) (x1_6 : Int32) : Option ((Int32 × Int32) ⊕ (Int32)) :=
  if v0 < (x0_6 + x1_6) then
  (m_X0_partStart_54_in5 N σ v0 v1 v2 v3_6 v4_6)
  else
  ((zrm v4_6 v2).bind fun b9 =>
  if b9 = (0 : Int32) then
  (m_X0_partStart_54_in5 N σ v0 v1 v2 (x0_6 + x1_6) v4_6)
  else
  (m_X0_partStart_54_in5 N σ v0 v1 v2 v3_6 v4_6))
def m_X0_partStart_34_in5 (N : Nat) (σ : zS) (v0 : Int32) (v1 : Int32) (v2 : Int32) (v3_5 : Int32) (v4_5 : Int32) (x0_5 : Int32) : Option ((Int32 × Int32) ⊕ (Int32)) :=
  m_X0_partStart_35_in5 N σ v0 v1 v2 v3_5 v4_5 x0_5 (0 : Int32)
def m_X0_partStart_L5 (N : Nat) (σ : zS) (v0 : Int32) (v1 : Int32) (v2 : Int32) (v3_1 : Int32) (v4_1 : Int32) : Option ((Int32 × Int32) ⊕ (Int32)) :=
  if (12 : Int32) ≤ v4_1 then
  (some (.inr v3_1))
  else
  ((zrd 12 zmi v4_1).bind fun b3 =>
  if v1 = (0 : Int32) then
  (m_X0_partStart_34_in5 N σ v0 v1 v2 v3_1 v4_1 b3)
  else
  (if v4_1 ≤ (1 : Int32) then
  (m_X0_partStart_34_in5 N σ v0 v1 v2 v3_1 v4_1 b3)
  else
  (m_X0_partStart_35_in5 N σ v0 v1 v2 v3_1 v4_1 b3 (1 : Int32))))
def m_X0_partStart_60 (N : Nat) (σ : zS) (v0 : Int32) (v1 : Int32) (v2 : Int32) (v3_14 : Int32) : Option Int32 :=
  some v3_14
def m_X0_partStart (N : Nat) (σ : zS) (v0 : Int32) (v1 : Int32) (v2 : Int32) : Option Int32 :=
  (ziter (fun q : Int32 × Int32 => m_X0_partStart_L5 N σ v0 v1 v2 q.1 q.2) N ((0 : Int32), (0 : Int32))).bind (fun y : Int32 => m_X0_partStart_60 N σ v0 v1 v2 y)
def m_X0_firstDay_111 (N : Nat) (σ : zS) (v0 : Int32) (v1 : Int32) (v4_14 : Int32) (x0_14 : Int32) : Option Int32 :=
  if v1 = (3 : Int32) then
  ((m_X0_partStart N σ v4_14 x0_14 (3 : Int32)).bind fun b17 =>
  some ((v0 - v4_14) + b17))
  else
  ((m_X0_partStart N σ v4_14 x0_14 (1 : Int32)).bind fun b16 =>
  some ((v0 - v4_14) + b16))
def m_X0_firstDay_71 (N : Nat) (σ : zS) (v0 : Int32) (v1 : Int32) (v2_8 : Int32) (v3_8 : Int32) : Option Int32 :=
  (m_X0_yearStart N σ v3_8).bind fun b9 =>
  if v1 = (4 : Int32) then
  (some (v0 - (v2_8 - b9)))
  else
  ((m_X0_yearStart N σ (v3_8 + (1 : Int32))).bind fun b11 =>
  (m_X0_yearStart N σ v3_8).bind fun b12 =>
  if (b11 - b12) = (366 : Int32) then
  (m_X0_firstDay_111 N σ v0 v1 (v2_8 - b9) (1 : Int32))
  else
  (m_X0_firstDay_111 N σ v0 v1 (v2_8 - b9) (0 : Int32)))
def m_X0_firstDay (N : Nat) (σ : zS) (v0 : Int32) (v1 : Int32) : Option Int32 :=
  if v1 = (0 : Int32) then
  (some v0)
  else
  (if v1 = (1 : Int32) then
  ((m_J9_floorMod_7cf53 N σ (v0 + (3 : Int32)) (7 : Int32)).bind fun b18 =>
  some (v0 - b18))
  else
  ((m_J9_floorMod_7cf53 N σ (v0 + (719528 : Int32)) (146097 : Int32)).bind fun b3 =>
  (m_X0_yearStart N σ ((b3.toInt64 * (400 : Int64)) / (146097 : Int64)).toInt32).bind fun b4 =>
  if b4 ≤ b3 then
  ((m_X0_yearStart N σ (((b3.toInt64 * (400 : Int64)) / (146097 : Int64)).toInt32 + (1 : Int32))).bind fun b6 =>
  if b3 < b6 then
  (m_X0_firstDay_71 N σ v0 v1 b3 ((b3.toInt64 * (400 : Int64)) / (146097 : Int64)).toInt32)
  else
  (m_X0_firstDay_71 N σ v0 v1 b3 (((b3.toInt64 * (400 : Int64)) / (146097 : Int64)).toInt32 + (1 : Int32))))
  else
  (m_X0_firstDay_71 N σ v0 v1 b3 (((b3.toInt64 * (400 : Int64)) / (146097 : Int64)).toInt32 + (-1 : Int32)))))
def m_X1_startOver (N : Nat) (σ : zS) (k : Nat) (v1 : Int32) (v2 : Int32) (v3 : Int32) (v4 : Int32) : Option zS :=
  (some (zsI σ (8 + 12 * k) v1)).bind fun σ1 =>
  (some (zsI σ1 (9 + 12 * k) v2)).bind fun σ2 =>
  (some (zsI σ2 (10 + 12 * k) v3)).bind fun σ3 =>
  (some (zsI σ3 (11 + 12 * k) v4)).bind fun σ4 =>
  (some (zsI σ4 (12 + 12 * k) (-2000000000 : Int32))).bind fun σ5 =>
  (some (zsI σ5 (13 + 12 * k) (0 : Int32))).bind fun σ6 =>
  (some (zsI σ6 (14 + 12 * k) (0 : Int32))).bind fun σ7 =>
  (some (zsI σ7 (15 + 12 * k) (1 : Int32))).bind fun σ8 =>
  (some (zsI σ8 (16 + 12 * k) (0 : Int32))).bind fun σ9 =>
  (some (zsI σ9 (17 + 12 * k) (0 : Int32))).bind fun σ10 =>
  (some (zsI σ10 (18 + 12 * k) (0 : Int32))).bind fun σ11 =>
  (some (zsI σ11 (19 + 12 * k) (0 : Int32))).bind fun σ12 =>
  some σ12
def m_X1_addRange (N : Nat) (σ : zS) (k : Nat) (v1 : Int32) (v2 : Int32) : Option (Int32 × zS) :=
  (zwA 6 (8 + k) σ (σ.1 (19 + 12 * k)) v1).bind fun σ1 =>
  (zwA 6 (18 + k) σ1 (σ1.1 (19 + 12 * k)) v2).bind fun σ2 =>
  (some (zsI σ2 (19 + 12 * k) ((σ2.1 (19 + 12 * k)) + (1 : Int32)))).bind fun σ3 =>
  some (((σ3.1 (19 + 12 * k)) - (1 : Int32)), σ3)
def m_X6_valueCount (N : Nat) (σ : zS) (v1 : Int32) (v2 : Int32) : Option Int32 :=
  (zrd 720 (σ.2.1 2) ((v1 * (6 : Int32)) + v2)).bind fun b1 =>
  some b1
def m_X6_valueAt (N : Nat) (σ : zS) (v1 : Int32) (v2 : Int32) (v3 : Int32) : Option Int32 :=
  (zrd 2160 (σ.2.1 1) ((((v1 * (6 : Int32)) + v2) * (3 : Int32)) + v3)).bind fun b1 =>
  some b1
def m_X6_hasWithin_43_in11 (N : Nat) (σ : zS) (v1 : Int32) (v2 : Int32) (v3 : Int32) (v4 : Int32) (v5_2 : Int32) (v6_6 : Int32) : Option ((Int32) ⊕ ((Unit) ⊕ (Unit))) :=
  some (.inl (v6_6 + (1 : Int32)))
def m_X6_hasWithin_L11 (N : Nat) (σ : zS) (v1 : Int32) (v2 : Int32) (v3 : Int32) (v4 : Int32) (v5_2 : Int32) (v6_2 : Int32) : Option ((Int32) ⊕ ((Unit) ⊕ (Unit))) :=
  if v5_2 ≤ v6_2 then
  (some (.inr (.inr ())))
  else
  ((m_X6_valueAt N σ v1 v2 v6_2).bind fun b4 =>
  if b4 < v3 then
  (m_X6_hasWithin_43_in11 N σ v1 v2 v3 v4 v5_2 v6_2)
  else
  (if v4 < b4 then
  (m_X6_hasWithin_43_in11 N σ v1 v2 v3 v4 v5_2 v6_2)
  else
  (some (.inr (.inl ())))))
def m_X6_hasWithin_41 (N : Nat) (σ : zS) (v1 : Int32) (v2 : Int32) (v3 : Int32) (v4 : Int32)  : Option Int32 :=
  some (1 : Int32)
def m_X6_hasWithin_49 (N : Nat) (σ : zS) (v1 : Int32) (v2 : Int32) (v3 : Int32) (v4 : Int32)  : Option Int32 :=
  some (0 : Int32)
def m_X6_hasWithin (N : Nat) (σ : zS) (v1 : Int32) (v2 : Int32) (v3 : Int32) (v4 : Int32) : Option Int32 :=
  (m_X6_valueCount N σ v1 v2).bind fun b1 =>
  (ziter (fun q : Int32 => m_X6_hasWithin_L11 N σ v1 v2 v3 v4 b1 q) N (0 : Int32)).bind (Sum.elim (fun _ => m_X6_hasWithin_41 N σ v1 v2 v3 v4) (fun _ => m_X6_hasWithin_49 N σ v1 v2 v3 v4))
def m_X1_counts (N : Nat) (σ : zS) (k : Nat) (v2 : Int32) : Option Int32 :=
  if (σ.1 (12 + 12 * k)) = (-2000000000 : Int32) then
  (some (1 : Int32))
  else
  ((m_X6_hasWithin N σ v2 (σ.1 (12 + 12 * k)) (σ.1 (13 + 12 * k)) (σ.1 (14 + 12 * k))).bind fun b2 =>
  if b2 = (0 : Int32) then
  (some (0 : Int32))
  else
  (some (1 : Int32)))
def m_X4_startOver (N : Nat) (σ : zS)  : Option zS :=
  (some (zsI σ 4 (0 : Int32))).bind fun σ1 =>
  some σ1
def m_X4_add_L2 (N : Nat) (v1 : Int32) (σ1 : zS) (v2_1 : Int32) : Option ((Int32) ⊕ ((Unit) ⊕ (Unit))) :=
  if (σ1.1 4) ≤ v2_1 then
  (some (.inr (.inr ())))
  else
  ((zrd 18 (σ1.2.1 4) v2_1).bind fun b3 =>
  if b3 = v1 then
  (some (.inr (.inl ())))
  else
  (some (.inl (v2_1 + (1 : Int32)))))
def m_X4_add_20 (N : Nat) (v1 : Int32) (σ7 : zS) : Option zS :=
  some σ7
def m_X4_add_27 (N : Nat) (v1 : Int32) (σ9 : zS) : Option zS :=
  if (18 : Int32) ≤ (σ9.1 4) then
  (some σ9)
  else
  ((zwA 18 4 σ9 (σ9.1 4) v1).bind fun σ11 =>
  (some (zsI σ11 4 ((σ11.1 4) + (1 : Int32)))).bind fun σ12 =>
  some σ12)
def m_X4_add (N : Nat) (σ : zS) (v1 : Int32) : Option zS :=
  (ziter (fun q : Int32 => m_X4_add_L2 N v1 σ q) N (0 : Int32)).bind (Sum.elim (fun _ => m_X4_add_20 N v1 σ) (fun _ => m_X4_add_27 N v1 σ))
def m_X1_addPathKeys_77 (N : Nat) (v0 : Int32) (σ11 : zS) (v3_11 : Int32) : Option zS :=
  if v3_11 = (0 : Int32) then
  (some σ11)
  else
  ((m_X4_add N σ11 v0).bind fun σ13 =>
  some σ13)
def m_X1_addPathKeys_52 (N : Nat) (v0 : Int32) (σ8 : zS) (v2_8 : Int32) (v3_8 : Int32) : Option zS :=
  (m_X4_add N σ8 (v0 - (v0 - v0 / (10000 : Int32) * (10000 : Int32)))).bind fun σ9 =>
  if v2_8 = (0 : Int32) then
  (m_X1_addPathKeys_77 N v0 σ9 v3_8)
  else
  ((m_X4_add N σ9 (v0 - (v0 - v0 / (100 : Int32) * (100 : Int32)))).bind fun σ14 =>
  m_X1_addPathKeys_77 N v0 σ14 v3_8)
def m_X1_addPathKeys_42 (N : Nat) (v0 : Int32) (σ6 : zS) (v2_6 : Int32) (x0_6 : Int32) : Option zS :=
  if x0_6 = (0 : Int32) then
  (m_X1_addPathKeys_52 N v0 σ6 v2_6 x0_6)
  else
  (if v2_6 = (0 : Int32) then
  (some σ6)
  else
  (m_X1_addPathKeys_52 N v0 σ6 v2_6 x0_6))
def m_X1_addPathKeys_29 (N : Nat) (v0 : Int32) (σ4 : zS) (x0_4 : Int32) : Option zS :=
  if (v0 - v0 / (100 : Int32) * (100 : Int32)) = (0 : Int32) then
  (m_X1_addPathKeys_42 N v0 σ4 x0_4 (0 : Int32))
  else
  (m_X1_addPathKeys_42 N v0 σ4 x0_4 (1 : Int32))
def m_X1_addPathKeys (N : Nat) (σ : zS) (v0 : Int32) : Option zS :=
  if v0 < (10000 : Int32) then
  (some σ)
  else
  (if v0 ≤ (999999 : Int32) then
  (if ((v0 / (100 : Int32)) - (v0 / (100 : Int32)) / (100 : Int32) * (100 : Int32)) = (0 : Int32) then
  (m_X1_addPathKeys_29 N v0 σ (0 : Int32))
  else
  (m_X1_addPathKeys_29 N v0 σ (1 : Int32)))
  else
  (some σ))
def m_X1_addRangeKeys_35_in2 (N : Nat) (k : Nat) (v1 : Int32) (σ5 : zS) (v3_5 : Int32) : Option ((zS × Int32) ⊕ (zS)) :=
  some (.inl (σ5, (v3_5 + (1 : Int32))))
def m_X1_addRangeKeys_L2 (N : Nat) (k : Nat) (v1 : Int32) (σ1 : zS) (v3_1 : Int32) : Option ((zS × Int32) ⊕ (zS)) :=
  if (σ1.1 (19 + 12 * k)) ≤ v3_1 then
  (some (.inr σ1))
  else
  ((zrd 6 (σ1.2.1 (8 + k)) v3_1).bind fun b3 =>
  if v1 < b3 then
  (m_X1_addRangeKeys_35_in2 N k v1 σ1 v3_1)
  else
  ((zrd 6 (σ1.2.1 (18 + k)) v3_1).bind fun b6 =>
  if b6 < v1 then
  (m_X1_addRangeKeys_35_in2 N k v1 σ1 v3_1)
  else
  ((m_X4_add N σ1 v3_1).bind fun σ8 =>
  m_X1_addRangeKeys_35_in2 N k v1 σ8 v3_1)))
def m_X1_addRangeKeys_41 (N : Nat) (k : Nat) (v1 : Int32) (σ11 : zS) : Option zS :=
  some σ11
def m_X1_addRangeKeys (N : Nat) (σ : zS) (k : Nat) (v1 : Int32) : Option zS :=
  (ziter (fun q : zS × Int32 => m_X1_addRangeKeys_L2 N k v1 q.1 q.2) N (σ, (0 : Int32))).bind (fun y : zS => m_X1_addRangeKeys_41 N k v1 y)
def m_X1_addKeysOf (N : Nat) (σ : zS) (k : Nat) (v1 : Int32) : Option zS :=
  if (σ.1 (8 + 12 * k)) = (0 : Int32) then
  ((m_X4_add N σ v1).bind fun σ2 =>
  some σ2)
  else
  if (σ.1 (8 + 12 * k)) = (1 : Int32) then
  ((m_X1_addPathKeys N σ v1).bind fun σ4 =>
  some σ4)
  else
  if (σ.1 (8 + 12 * k)) = (2 : Int32) then
  ((m_X1_addRangeKeys N σ k v1).bind fun σ6 =>
  some σ6)
  else
  if (σ.1 (8 + 12 * k)) = (3 : Int32) then
  (if (σ.1 (10 + 12 * k)) ≤ (0 : Int32) then
  (some σ)
  else
  ((m_J9_floorMod_7cf53 N σ (v1 - (σ.1 (11 + 12 * k))) (σ.1 (10 + 12 * k))).bind fun b9 =>
  (m_X4_add N σ (v1 - b9)).bind fun σ10 =>
  some σ10))
  else
  if (σ.1 (8 + 12 * k)) = (4 : Int32) then
  (if v1 < (-1000000 : Int32) then
  (some σ)
  else
  (if (1000000 : Int32) < v1 then
  (some σ)
  else
  ((m_X0_firstDay N σ v1 (σ.1 (10 + 12 * k))).bind fun b14 =>
  (m_X4_add N σ b14).bind fun σ15 =>
  some σ15)))
  else
  (some σ)
def m_X1_collectKeys_L18 (N : Nat) (k : Nat) (v2 : Int32) (v4_3 : Int32) (σ3 : zS) (v5_3 : Int32) : Option ((zS × Int32) ⊕ (zS)) :=
  if v4_3 ≤ v5_3 then
  (some (.inr σ3))
  else
  ((m_X6_valueAt N σ3 v2 (σ3.1 (9 + 12 * k)) v5_3).bind fun b5 =>
  (m_X1_addKeysOf N σ3 k b5).bind fun σ6 =>
  some (.inl (σ6, (v5_3 + (1 : Int32)))))
def m_X1_collectKeys_47 (N : Nat) (k : Nat) (v2 : Int32) (σ9 : zS) : Option zS :=
  some σ9
def m_X1_collectKeys (N : Nat) (σ : zS) (k : Nat) (v2 : Int32) : Option zS :=
  (m_X4_startOver N σ ).bind fun σ1 =>
  (m_X6_valueCount N σ1 v2 (σ1.1 (9 + 12 * k))).bind fun b2 =>
  (ziter (fun q : zS × Int32 => m_X1_collectKeys_L18 N k v2 b2 q.1 q.2) N (σ1, (0 : Int32))).bind (fun y : zS => m_X1_collectKeys_47 N k v2 y)
def m_X3_has (N : Nat) (σ : zS) (v1 : Int32) : Option Int32 :=
  (zrd 120 (σ.2.1 0) v1).bind fun b1 =>
  if b1 = (0 : Int32) then
  (some (0 : Int32))
  else
  ((zrd 120 (σ.2.1 3) v1).bind fun b3 =>
  if b3 < (σ.1 3) then
  (some (0 : Int32))
  else
  (some (1 : Int32)))
def m_X2_addPair (N : Nat) (σ : zS) (v1 : Int32) (v2 : Int32) : Option zS :=
  if (1080 : Int32) ≤ (σ.1 6) then
  (some σ)
  else
  ((zwL 1080 1 σ (σ.1 6) ((v1.toInt64 <<< ((7 : Int32).toInt64 &&& 63)) + v2.toInt64)).bind fun σ2 =>
  (some (zsI σ2 6 ((σ2.1 6) + (1 : Int32)))).bind fun σ3 =>
  some σ3)
def m_J9_min_7cf53 (N : Nat) (σ : zS) (v0 : Int32) (v1 : Int32) : Option Int32 :=
  if v1 < v0 then
  (some v1)
  else
  (some v0)
def m_X5_merge_72_in9 (N : Nat) (j : Nat) (v2 : Int32) (v3 : Int32) (v4 : Int32) (σ7 : zS) (v5_7 : Int32) (v6_7 : Int32) (v7_7 : Int32) : Option ((zS × Int32 × Int32 × Int32) ⊕ (zS)) :=
  some (.inl (σ7, v5_7, v6_7, (v7_7 + (1 : Int32))))
def m_X5_merge_58_in9 (N : Nat) (j : Nat) (v2 : Int32) (v3 : Int32) (v4 : Int32) (σ4 : zS) (v5_4 : Int32) (v6_4 : Int32) (v7_4 : Int32) : Option ((zS × Int32 × Int32 × Int32) ⊕ (zS)) :=
  (zrd (zln j) (σ4.2.2 j) v6_4).bind fun b5 =>
  (zwL 1080 0 σ4 v7_4 b5).bind fun σ6 =>
  m_X5_merge_72_in9 N j v2 v3 v4 σ6 v5_4 (v6_4 + (1 : Int32)) v7_4
def m_X5_merge_41_in9 (N : Nat) (j : Nat) (v2 : Int32) (v3 : Int32) (v4 : Int32) (σ9 : zS) (v5_9 : Int32) (v6_9 : Int32) (v7_9 : Int32) : Option ((zS × Int32 × Int32 × Int32) ⊕ (zS)) :=
  (zrd (zln j) (σ9.2.2 j) v5_9).bind fun b10 =>
  (zwL 1080 0 σ9 v7_9 b10).bind fun σ11 =>
  m_X5_merge_72_in9 N j v2 v3 v4 σ11 (v5_9 + (1 : Int32)) v6_9 v7_9
def m_X5_merge_L9 (N : Nat) (j : Nat) (v2 : Int32) (v3 : Int32) (v4 : Int32) (σ1 : zS) (v5_1 : Int32) (v6_1 : Int32) (v7_1 : Int32) : Option ((zS × Int32 × Int32 × Int32) ⊕ (zS)) :=
  if v4 ≤ v7_1 then
  (some (.inr σ1))
  else
  (if v3 ≤ v5_1 then
  (m_X5_merge_58_in9 N j v2 v3 v4 σ1 v5_1 v6_1 v7_1)
  else
  (if v4 ≤ v6_1 then
  (m_X5_merge_41_in9 N j v2 v3 v4 σ1 v5_1 v6_1 v7_1)
  else
  ((zrd (zln j) (σ1.2.2 j) v5_1).bind fun b12 =>
  (zrd (zln j) (σ1.2.2 j) v6_1).bind fun b13 =>
  if (0 : Int32) < (lg_cmp b12 b13) then
  (m_X5_merge_58_in9 N j v2 v3 v4 σ1 v5_1 v6_1 v7_1)
  else
  (m_X5_merge_41_in9 N j v2 v3 v4 σ1 v5_1 v6_1 v7_1))))
def m_X5_merge_78 (N : Nat) (j : Nat) (v2 : Int32) (v3 : Int32) (v4 : Int32) (σ17 : zS) : Option zS :=
  some σ17
def m_X5_merge (N : Nat) (σ : zS) (j : Nat) (v2 : Int32) (v3 : Int32) (v4 : Int32) : Option zS :=
  (ziter (fun q : zS × Int32 × Int32 × Int32 => m_X5_merge_L9 N j v2 v3 v4 q.1 q.2.1 q.2.2.1 q.2.2.2) N (σ, v2, v3, v2)).bind (fun y : zS => m_X5_merge_78 N j v2 v3 v4 y)
def m_X5_sort_L27 (N : Nat) (j : Nat) (v2 : Int32) (v3_3 : Int32) (v4_5 : Int32) (σ5 : zS) (v5_5 : Int32) : Option ((zS × Int32) ⊕ (zS)) :=
  if v3_3 ≤ v5_5 then
  (some (.inr σ5))
  else
  ((m_J9_min_7cf53 N σ5 (v5_5 + v4_5) v3_3).bind fun b7 =>
  (m_J9_min_7cf53 N σ5 (v5_5 + ((2 : Int32) * v4_5)) v3_3).bind fun b8 =>
  (m_X5_merge N σ5 j v5_5 b7 b8).bind fun σ9 =>
  some (.inl (σ9, (v5_5 + ((2 : Int32) * v4_5)))))
def m_X5_sort_72_in18 (N : Nat) (j : Nat) (v2 : Int32) (v3_3 : Int32) (σ12 : zS) (v4_12 : Int32) : Option ((zS × Int32) ⊕ (zS)) :=
  (zcpy 1080 (zln j) 0 j σ12 v3_3).bind fun σ13 =>
  some (.inl (σ13, (v4_12 * (2 : Int32))))
def m_X5_sort_L18 (N : Nat) (j : Nat) (v2 : Int32) (v3_3 : Int32) (σ3 : zS) (v4_3 : Int32) : Option ((zS × Int32) ⊕ (zS)) :=
  if v3_3 ≤ v4_3 then
  (some (.inr σ3))
  else
  ((ziter (fun q : zS × Int32 => m_X5_sort_L27 N j v2 v3_3 v4_3 q.1 q.2) N (σ3, (0 : Int32))).bind (fun y : zS => m_X5_sort_72_in18 N j v2 v3_3 y v4_3))
def m_X5_sort_92 (N : Nat) (j : Nat) (v2 : Int32) (σ17 : zS) : Option zS :=
  some σ17
def m_X5_sort (N : Nat) (σ : zS) (j : Nat) (v2 : Int32) : Option zS :=
  (m_J9_min_7cf53 N σ (Int32.ofNat (zln j)) (1080 : Int32)).bind fun b1 =>
  (m_J9_min_7cf53 N σ v2 b1).bind fun b2 =>
  (ziter (fun q : zS × Int32 => m_X5_sort_L18 N j v2 b2 q.1 q.2) N (σ, (1 : Int32))).bind (fun y : zS => m_X5_sort_92 N j v2 y)
def m_X2_gather_109_in8 (N : Nat) (k : Nat) (σ6 : zS) (v4_6 : Int32) : Option ((zS × Int32) ⊕ (zS)) :=
  some (.inl (σ6, (v4_6 + (1 : Int32))))
def m_X2_gather_L50 (N : Nat) (k : Nat) (v4_10 : Int32) (σ10 : zS) (v5_10 : Int32) : Option ((zS × Int32) ⊕ (zS)) :=
  if (σ10.1 4) ≤ v5_10 then
  (some (.inr σ10))
  else
  ((zrd 18 (σ10.2.1 4) v5_10).bind fun b12 =>
  (m_X2_addPair N σ10 b12 v4_10).bind fun σ13 =>
  some (.inl (σ13, (v5_10 + (1 : Int32)))))
def m_X2_gather_84_in8 (N : Nat) (k : Nat) (σ16 : zS) (v4_16 : Int32) : Option ((zS × Int32) ⊕ (zS)) :=
  if (σ16.1 4) = (0 : Int32) then
  (if (σ16.1 (16 + 12 * k)) = (0 : Int32) then
  (m_X2_gather_109_in8 N k σ16 v4_16)
  else
  ((m_X2_addPair N σ16 (2000000000 : Int32) v4_16).bind fun σ19 =>
  m_X2_gather_109_in8 N k σ19 v4_16))
  else
  (m_X2_gather_109_in8 N k σ16 v4_16)
def m_X2_gather_L8 (N : Nat) (k : Nat) (σ2 : zS) (v4_2 : Int32) : Option ((zS × Int32) ⊕ (zS)) :=
  if (σ2.1 2) ≤ v4_2 then
  (some (.inr σ2))
  else
  ((m_X3_has N σ2 v4_2).bind fun b4 =>
  if b4 = (0 : Int32) then
  (m_X2_gather_109_in8 N k σ2 v4_2)
  else
  ((m_X1_counts N σ2 k v4_2).bind fun b7 =>
  if b7 = (0 : Int32) then
  (m_X2_gather_109_in8 N k σ2 v4_2)
  else
  ((m_X1_collectKeys N σ2 k v4_2).bind fun σ9 =>
  (ziter (fun q : zS × Int32 => m_X2_gather_L50 N k v4_2 q.1 q.2) N (σ9, (0 : Int32))).bind (fun y : zS => m_X2_gather_84_in8 N k y v4_2))))
def m_X2_gather_115 (N : Nat) (k : Nat) (σ23 : zS) : Option zS :=
  (m_X5_sort N σ23 1 (σ23.1 6)).bind fun σ24 =>
  some σ24
def m_X2_gather (N : Nat) (σ : zS) (k : Nat) : Option zS :=
  (some (zsI σ 6 (0 : Int32))).bind fun σ1 =>
  (ziter (fun q : zS × Int32 => m_X2_gather_L8 N k q.1 q.2) N (σ1, (0 : Int32))).bind (fun y : zS => m_X2_gather_115 N k y)
def m_X2_pairKey (N : Nat) (σ : zS) (v1 : Int32) : Option Int32 :=
  (zrd 1080 (σ.2.2 1) v1).bind fun b1 =>
  some (b1 >>> ((7 : Int32).toInt64 &&& 63)).toInt32
def m_X2_cutRun_L3 (N : Nat) (k : Nat) (v2 : Int32) (v3 : Int32) (σ1 : zS) (v4_1 : Int32) : Option ((Int32) ⊕ (Int32)) :=
  if (σ1.1 6) ≤ v4_1 then
  (some (.inr v4_1))
  else
  ((m_X2_pairKey N σ1 v4_1).bind fun b3 =>
  if b3 = v2 then
  (some (.inl (v4_1 + (1 : Int32))))
  else
  (some (.inr v4_1)))
def m_X2_cutRun_28 (N : Nat) (k : Nat) (v2 : Int32) (v3 : Int32) (σ7 : zS) (v4_7 : Int32) : Option (Int32 × zS) :=
  if (v4_7 - v3) < (σ7.1 (15 + 12 * k)) then
  (some (v4_7, σ7))
  else
  (if (1080 : Int32) ≤ (σ7.1 5) then
  (some (v4_7, σ7))
  else
  ((zwA 1080 5 σ7 (σ7.1 5) v2).bind fun σ10 =>
  (zwA 1080 6 σ10 (σ10.1 5) v3).bind fun σ11 =>
  (zwA 1080 7 σ11 (σ11.1 5) v4_7).bind fun σ12 =>
  (some (zsI σ12 5 ((σ12.1 5) + (1 : Int32)))).bind fun σ13 =>
  some (v4_7, σ13)))
def m_X2_cutRun (N : Nat) (σ : zS) (k : Nat) (v2 : Int32) (v3 : Int32) : Option (Int32 × zS) :=
  (ziter (fun q : Int32 => m_X2_cutRun_L3 N k v2 v3 σ q) N v3).bind (fun y : Int32 => m_X2_cutRun_28 N k v2 v3 σ y)
def m_X2_cut_L9 (N : Nat) (k : Nat) (σ2 : zS) (v2_2 : Int32) (v3_2 : Int32) : Option ((zS × Int32 × Int32) ⊕ (zS × Int32)) :=
  if (σ2.1 (19 + 12 * k)) ≤ v3_2 then
  (some (.inr (σ2, v2_2)))
  else
  ((m_X2_cutRun N σ2 k v3_2 v2_2).bind fun p5 =>
  some (.inl (p5.2, p5.1, (v3_2 + (1 : Int32)))))
def m_X2_cut_58_in33 (N : Nat) (k : Nat) (σ13 : zS) (v2_13 : Int32) (v3_13 : Int32) : Option ((zS × Int32 × Int32) ⊕ (zS)) :=
  some (.inl (σ13, v2_13, (v3_13 + (1 : Int32))))
def m_X2_cut_L33 (N : Nat) (k : Nat) (σ10 : zS) (v2_10 : Int32) (v3_10 : Int32) : Option ((zS × Int32 × Int32) ⊕ (zS)) :=
  if (σ10.1 6) ≤ v3_10 then
  (some (.inr σ10))
  else
  (if v3_10 = v2_10 then
  ((m_X2_pairKey N σ10 v3_10).bind fun b14 =>
  (m_X2_cutRun N σ10 k b14 v2_10).bind fun p16 =>
  m_X2_cut_58_in33 N k p16.2 p16.1 v3_10)
  else
  (m_X2_cut_58_in33 N k σ10 v2_10 v3_10))
def m_X2_cut_64 (N : Nat) (k : Nat) (σ20 : zS) : Option zS :=
  some σ20
def m_X2_cut_31 (N : Nat) (k : Nat) (σ9 : zS) (v2_9 : Int32) : Option zS :=
  (ziter (fun q : zS × Int32 × Int32 => m_X2_cut_L33 N k q.1 q.2.1 q.2.2) N (σ9, v2_9, v2_9)).bind (fun y : zS => m_X2_cut_64 N k y)
def m_X2_cut (N : Nat) (σ : zS) (k : Nat) : Option zS :=
  (some (zsI σ 5 (0 : Int32))).bind fun σ1 =>
  (ziter (fun q : zS × Int32 × Int32 => m_X2_cut_L9 N k q.1 q.2.1 q.2.2) N (σ1, (0 : Int32), (0 : Int32))).bind (fun y : zS × Int32 => m_X2_cut_31 N k y.1 y.2)
def m_X2_pairObject (N : Nat) (σ : zS) (v1 : Int32) : Option Int32 :=
  (zrd 1080 (σ.2.2 1) v1).bind fun b1 =>
  some (b1 &&& (127 : Int64)).toInt32
def m_X6_sumOf_L13 (N : Nat) (σ : zS) (v1 : Int32) (v2 : Int32) (v5_2 : Int32) (v3_2 : Int64) (v6_2 : Int32) : Option ((Int64 × Int32) ⊕ (Int64)) :=
  if v5_2 ≤ v6_2 then
  (some (.inr v3_2))
  else
  ((m_X6_valueAt N σ v1 v2 v6_2).bind fun b4 =>
  some (.inl ((v3_2 + b4.toInt64), (v6_2 + (1 : Int32)))))
def m_X6_sumOf_38 (N : Nat) (σ : zS) (v1 : Int32) (v2 : Int32) (v3_7 : Int64) : Option Int64 :=
  some v3_7
def m_X6_sumOf (N : Nat) (σ : zS) (v1 : Int32) (v2 : Int32) : Option Int64 :=
  (m_X6_valueCount N σ v1 v2).bind fun b1 =>
  (ziter (fun q : Int64 × Int32 => m_X6_sumOf_L13 N σ v1 v2 b1 q.1 q.2) N ((0 : Int64), (0 : Int32))).bind (fun y : Int64 => m_X6_sumOf_38 N σ v1 v2 y)
def m_X2_weight_L41 (N : Nat) (σ : zS) (k : Nat) (v3 : Int32) (v4_4 : Int64) (v6_4 : Int32) : Option ((Int64 × Int32) ⊕ (Int64)) :=
  (zrd 1080 (σ.2.1 7) v3).bind fun b5 =>
  if b5 ≤ v6_4 then
  (some (.inr v4_4))
  else
  ((m_X2_pairObject N σ v6_4).bind fun b7 =>
  (m_X6_sumOf N σ b7 (σ.1 (18 + 12 * k))).bind fun b8 =>
  some (.inl ((v4_4 + b8), (v6_4 + (1 : Int32)))))
def m_X2_weight_77 (N : Nat) (σ : zS) (k : Nat) (v3 : Int32) (v4_11 : Int64) : Option Int64 :=
  some v4_11
def m_X2_weight (N : Nat) (σ : zS) (k : Nat) (v3 : Int32) : Option Int64 :=
  if (σ.1 (17 + 12 * k)) = (0 : Int32) then
  ((zrd 1080 (σ.2.1 7) v3).bind fun b13 =>
  (zrd 1080 (σ.2.1 6) v3).bind fun b14 =>
  some (b13 - b14).toInt64)
  else
  (if (σ.1 (17 + 12 * k)) = (2 : Int32) then
  ((zrd 1080 (σ.2.1 6) v3).bind fun b3 =>
  (ziter (fun q : Int64 × Int32 => m_X2_weight_L41 N σ k v3 q.1 q.2) N ((0 : Int64), b3)).bind (fun y : Int64 => m_X2_weight_77 N σ k v3 y))
  else
  (some (0 : Int64)))
def m_X2_rank_L2 (N : Nat) (k : Nat) (σ1 : zS) (v3_1 : Int32) : Option ((zS × Int32) ⊕ (zS)) :=
  if (σ1.1 5) ≤ v3_1 then
  (some (.inr σ1))
  else
  ((m_X2_weight N σ1 k v3_1).bind fun b3 =>
  (zwL 1080 2 σ1 v3_1 (v3_1.toInt64 - (b3 <<< ((11 : Int32).toInt64 &&& 63)))).bind fun σ4 =>
  some (.inl (σ4, (v3_1 + (1 : Int32)))))
def m_X2_rank_63 (N : Nat) (k : Nat) (σ10 : zS) (x0_10 : Int32) : Option zS :=
  if x0_10 = (0 : Int32) then
  ((m_X5_sort N σ10 2 (σ10.1 5)).bind fun σ12 =>
  some σ12)
  else
  ((m_X5_sort N σ10 2 ((σ10.1 5) - (1 : Int32))).bind fun σ13 =>
  some σ13)
def m_X2_rank_62 (N : Nat) (k : Nat) (σ9 : zS) : Option zS :=
  m_X2_rank_63 N k σ9 (0 : Int32)
def m_X2_rank_35 (N : Nat) (k : Nat) (σ7 : zS) : Option zS :=
  if (σ7.1 5) ≤ (0 : Int32) then
  (m_X2_rank_62 N k σ7)
  else
  ((zrd 1080 (σ7.2.1 5) ((σ7.1 5) - (1 : Int32))).bind fun b14 =>
  if b14 = (2000000000 : Int32) then
  (m_X2_rank_63 N k σ7 (1 : Int32))
  else
  (m_X2_rank_62 N k σ7))
def m_X2_rank (N : Nat) (σ : zS) (k : Nat) : Option zS :=
  (ziter (fun q : zS × Int32 => m_X2_rank_L2 N k q.1 q.2) N (σ, (0 : Int32))).bind (fun y : zS => m_X2_rank_35 N k y)
def m_X2_groupAt (N : Nat) (σ : zS) (v1 : Int32) : Option Int32 :=
  (zrd 1080 (σ.2.2 2) v1).bind fun b1 =>
  some (b1 &&& (2047 : Int64)).toInt32
def m_X2_has (N : Nat) (σ : zS) (v1 : Int32) : Option Int32 :=
  if v1 < (0 : Int32) then
  (some (0 : Int32))
  else
  (if (σ.1 5) ≤ v1 then
  (some (0 : Int32))
  else
  (some (1 : Int32)))
def m_X2_isMissing (N : Nat) (σ : zS) (v1 : Int32) : Option Int32 :=
  (m_X2_groupAt N σ v1).bind fun b1 =>
  (zrd 1080 (σ.2.1 5) b1).bind fun b2 =>
  if b2 = (2000000000 : Int32) then
  (some (1 : Int32))
  else
  (some (0 : Int32))
def m_X2_keyOf (N : Nat) (σ : zS) (v1 : Int32) : Option Int32 :=
  (m_X2_isMissing N σ v1).bind fun b1 =>
  if b1 = (0 : Int32) then
  ((m_X2_groupAt N σ v1).bind fun b3 =>
  (zrd 1080 (σ.2.1 5) b3).bind fun b4 =>
  some b4)
  else
  (some (-2000000000 : Int32))
def m_X2_sizeOf (N : Nat) (σ : zS) (v1 : Int32) : Option Int32 :=
  (m_X2_groupAt N σ v1).bind fun b1 =>
  (zrd 1080 (σ.2.1 7) b1).bind fun b2 =>
  (zrd 1080 (σ.2.1 6) b1).bind fun b3 =>
  some (b2 - b3)
def m_X2_memberOf (N : Nat) (σ : zS) (v1 : Int32) (v2 : Int32) : Option Int32 :=
  (m_X2_groupAt N σ v1).bind fun b1 =>
  (zrd 1080 (σ.2.1 6) b1).bind fun b2 =>
  (m_X2_pairObject N σ (b2 + v2)).bind fun b3 =>
  some b3
def m_X2_holds_L9 (N : Nat) (σ : zS) (v1 : Int32) (v2 : Int32) (v3_2 : Int32) (v4_2 : Int32) : Option ((Int32) ⊕ ((Unit) ⊕ (Unit))) :=
  if v3_2 ≤ v4_2 then
  (some (.inr (.inr ())))
  else
  ((m_X2_memberOf N σ v1 v4_2).bind fun b4 =>
  if b4 = v2 then
  (some (.inr (.inl ())))
  else
  (some (.inl (v4_2 + (1 : Int32)))))
def m_X2_holds_26 (N : Nat) (σ : zS) (v1 : Int32) (v2 : Int32)  : Option Int32 :=
  some (1 : Int32)
def m_X2_holds_34 (N : Nat) (σ : zS) (v1 : Int32) (v2 : Int32)  : Option Int32 :=
  some (0 : Int32)
def m_X2_holds (N : Nat) (σ : zS) (v1 : Int32) (v2 : Int32) : Option Int32 :=
  (m_X2_sizeOf N σ v1).bind fun b1 =>
  (ziter (fun q : Int32 => m_X2_holds_L9 N σ v1 v2 b1 q) N (0 : Int32)).bind (Sum.elim (fun _ => m_X2_holds_26 N σ v1 v2) (fun _ => m_X2_holds_34 N σ v1 v2))
def m_X2_numberOf_29_in2 (N : Nat) (σ : zS) (v1 : Int32) (v2_5 : Int32) : Option ((Int32) ⊕ ((Int32) ⊕ (Unit))) :=
  some (.inl (v2_5 + (1 : Int32)))
def m_X2_numberOf_L2 (N : Nat) (σ : zS) (v1 : Int32) (v2_1 : Int32) : Option ((Int32) ⊕ ((Int32) ⊕ (Unit))) :=
  if (σ.1 5) ≤ v2_1 then
  (some (.inr (.inr ())))
  else
  ((m_X2_isMissing N σ v2_1).bind fun b3 =>
  if b3 = (0 : Int32) then
  ((m_X2_keyOf N σ v2_1).bind fun b6 =>
  if b6 = v1 then
  (some (.inr (.inl v2_1)))
  else
  (m_X2_numberOf_29_in2 N σ v1 v2_1))
  else
  (m_X2_numberOf_29_in2 N σ v1 v2_1))
def m_X2_numberOf_27 (N : Nat) (σ : zS) (v1 : Int32) (v2_10 : Int32) : Option Int32 :=
  some v2_10
def m_X2_numberOf_35 (N : Nat) (σ : zS) (v1 : Int32)  : Option Int32 :=
  some (-2000000000 : Int32)
def m_X2_numberOf (N : Nat) (σ : zS) (v1 : Int32) : Option Int32 :=
  (ziter (fun q : Int32 => m_X2_numberOf_L2 N σ v1 q) N (0 : Int32)).bind (Sum.elim (fun y : Int32 => m_X2_numberOf_27 N σ v1 y) (fun _ => m_X2_numberOf_35 N σ v1))
def m_X3_startNarrowing (N : Nat) (σ : zS)  : Option zS :=
  (some (zsI σ 3 ((σ.1 3) + (1 : Int32)))).bind fun σ1 =>
  some σ1
def m_X3_keep (N : Nat) (σ : zS) (v1 : Int32) : Option zS :=
  (zwA 120 3 σ v1 (σ.1 3)).bind fun σ1 =>
  some σ1
def m_X3_shrinkTo_L7 (N : Nat) (v1 : Int32) (σ2 : zS) (v2_2 : Int32) : Option ((zS × Int32) ⊕ (zS)) :=
  if (120 : Int32) ≤ v2_2 then
  (some (.inr σ2))
  else
  ((zrd 120 (σ2.2.1 3) v2_2).bind fun b4 =>
  (m_J9_min_7cf53 N σ2 b4 v1).bind fun b5 =>
  (zwA 120 3 σ2 v2_2 b5).bind fun σ6 =>
  some (.inl (σ6, (v2_2 + (1 : Int32)))))
def m_X3_shrinkTo_35 (N : Nat) (v1 : Int32) (σ9 : zS) : Option zS :=
  some σ9
def m_X3_shrinkTo (N : Nat) (σ : zS) (v1 : Int32) : Option zS :=
  (some (zsI σ 3 v1)).bind fun σ1 =>
  (ziter (fun q : zS × Int32 => m_X3_shrinkTo_L7 N v1 q.1 q.2) N (σ1, (0 : Int32))).bind (fun y : zS => m_X3_shrinkTo_35 N v1 y)
def m_X3_widen (N : Nat) (σ : zS)  : Option zS :=
  if (σ.1 3) ≤ (0 : Int32) then
  (some σ)
  else
  ((m_X3_shrinkTo N σ ((σ.1 3) - (1 : Int32))).bind fun σ2 =>
  some σ2)
def m_X3_widenWholly (N : Nat) (σ : zS)  : Option zS :=
  if (σ.1 3) ≤ (0 : Int32) then
  (some σ)
  else
  ((m_X3_shrinkTo N σ (0 : Int32)).bind fun σ2 =>
  some σ2)
def m_X6_has (N : Nat) (σ : zS) (v1 : Int32) : Option Int32 :=
  if v1 < (0 : Int32) then
  (some (0 : Int32))
  else
  (if (σ.1 2) ≤ v1 then
  (some (0 : Int32))
  else
  (some (1 : Int32)))
def m_X6_addObject_L14 (N : Nat) (v1_2 : Int32) (σ2 : zS) (v2_2 : Int32) : Option ((zS × Int32) ⊕ (zS)) :=
  if (6 : Int32) ≤ v2_2 then
  (some (.inr σ2))
  else
  ((zwA 720 2 σ2 ((v1_2 * (6 : Int32)) + v2_2) (0 : Int32)).bind fun σ4 =>
  some (.inl (σ4, (v2_2 + (1 : Int32)))))
def m_X6_addObject_38 (N : Nat) (σ7 : zS) (v1_7 : Int32) : Option (Int32 × zS) :=
  (some (zsI σ7 2 ((σ7.1 2) + (1 : Int32)))).bind fun σ8 =>
  some (v1_7, σ8)
def m_X6_addObject (N : Nat) (σ : zS)  : Option (Int32 × zS) :=
  (zwA 120 0 σ (σ.1 2) (0 : Int32)).bind fun σ1 =>
  (ziter (fun q : zS × Int32 => m_X6_addObject_L14 N (σ.1 2) q.1 q.2) N (σ1, (0 : Int32))).bind (fun y : zS => m_X6_addObject_38 N y (σ.1 2))
def m_X6_addValue (N : Nat) (σ : zS) (v1 : Int32) (v2 : Int32) (v3 : Int32) : Option (Int32 × zS) :=
  (zrd 720 (σ.2.1 2) ((v1 * (6 : Int32)) + v2)).bind fun b1 =>
  (zwA 2160 1 σ ((((v1 * (6 : Int32)) + v2) * (3 : Int32)) + b1) v3).bind fun σ2 =>
  (zrd 720 (σ2.2.1 2) ((v1 * (6 : Int32)) + v2)).bind fun b3 =>
  (zwA 720 2 σ2 ((v1 * (6 : Int32)) + v2) (b3 + (1 : Int32))).bind fun σ4 =>
  (zrd 720 (σ4.2.1 2) ((v1 * (6 : Int32)) + v2)).bind fun b5 =>
  some (b5, σ4)
def m_X6_matching_24_in4 (N : Nat) (σ : zS) (v1_5 : Int32) (v2_5 : Int32) : Option ((Int32 × Int32) ⊕ (Int32)) :=
  some (.inl (v1_5, (v2_5 + (1 : Int32))))
def m_X6_matching_L4 (N : Nat) (σ : zS) (v1_1 : Int32) (v2_1 : Int32) : Option ((Int32 × Int32) ⊕ (Int32)) :=
  if (σ.1 2) ≤ v2_1 then
  (some (.inr v1_1))
  else
  ((zrd 120 (σ.2.1 0) v2_1).bind fun b3 =>
  if b3 = (0 : Int32) then
  (m_X6_matching_24_in4 N σ v1_1 v2_1)
  else
  (m_X6_matching_24_in4 N σ (v1_1 + (1 : Int32)) v2_1))
def m_X6_matching_30 (N : Nat) (σ : zS) (v1_8 : Int32) : Option Int32 :=
  some v1_8
def m_X6_matching (N : Nat) (σ : zS)  : Option Int32 :=
  (ziter (fun q : Int32 × Int32 => m_X6_matching_L4 N σ q.1 q.2) N ((0 : Int32), (0 : Int32))).bind (fun y : Int32 => m_X6_matching_30 N σ y)
def m_X7_startOver (N : Nat) (σ : zS)  : Option zS :=
  (some (zsI σ 7 (0 : Int32))).bind fun σ1 =>
  some σ1
def m_X7_take_L11 (N : Nat) (v2 : Int32) (v3 : Int32) (v4_2 : Int32) (σ2 : zS) (v5_2 : Int32) : Option ((zS × Int32) ⊕ (zS)) :=
  if v4_2 ≤ v5_2 then
  (some (.inr σ2))
  else
  (if (360 : Int32) ≤ (σ2.1 7) then
  (some (.inr σ2))
  else
  ((m_X6_valueAt N σ2 v2 v3 v5_2).bind fun b5 =>
  (zwL 360 3 σ2 (σ2.1 7) b5.toInt64).bind fun σ6 =>
  (some (zsI σ6 7 ((σ6.1 7) + (1 : Int32)))).bind fun σ7 =>
  some (.inl (σ7, (v5_2 + (1 : Int32))))))
def m_X7_take_62 (N : Nat) (v2 : Int32) (v3 : Int32) (σ10 : zS) : Option zS :=
  some σ10
def m_X7_take (N : Nat) (σ : zS) (v2 : Int32) (v3 : Int32) : Option zS :=
  (m_X6_valueCount N σ v2 v3).bind fun b1 =>
  (ziter (fun q : zS × Int32 => m_X7_take_L11 N v2 v3 b1 q.1 q.2) N (σ, (0 : Int32))).bind (fun y : zS => m_X7_take_62 N v2 v3 y)
def m_X7_sum_L4 (N : Nat) (σ : zS) (v1_1 : Int64) (v3_1 : Int32) : Option ((Int64 × Int32) ⊕ (Int64)) :=
  if (σ.1 7) ≤ v3_1 then
  (some (.inr v1_1))
  else
  ((zrd 360 (σ.2.2 3) v3_1).bind fun b3 =>
  some (.inl ((v1_1 + b3), (v3_1 + (1 : Int32)))))
def m_X7_sum_27 (N : Nat) (σ : zS) (v1_6 : Int64) : Option Int64 :=
  some v1_6
def m_X7_sum (N : Nat) (σ : zS)  : Option Int64 :=
  (ziter (fun q : Int64 × Int32 => m_X7_sum_L4 N σ q.1 q.2) N ((0 : Int64), (0 : Int32))).bind (fun y : Int64 => m_X7_sum_27 N σ y)
def m_X7_atPlace (N : Nat) (σ : zS) (v1 : Int32) : Option (Int32 × zS) :=
  if v1 < (1 : Int32) then
  (some ((-2000000000 : Int32), σ))
  else
  (if v1 ≤ (σ.1 7) then
  ((m_X5_sort N σ 3 (σ.1 7)).bind fun σ3 =>
  (zrd 360 (σ3.2.2 3) (v1 - (1 : Int32))).bind fun b4 =>
  some (b4.toInt32, σ3))
  else
  (some ((-2000000000 : Int32), σ)))
def m_X7_different_52_in19 (N : Nat) (σ2 : zS) (v1_6 : Int32) (v2_6 : Int32) : Option ((Int32 × Int32) ⊕ (Int32)) :=
  some (.inl (v1_6, (v2_6 + (1 : Int32))))
def m_X7_different_49_in19 (N : Nat) (σ2 : zS) (v1_5 : Int32) (v2_5 : Int32) : Option ((Int32 × Int32) ⊕ (Int32)) :=
  m_X7_different_52_in19 N σ2 (v1_5 + (1 : Int32)) v2_5
def m_X7_different_L19 (N : Nat) (σ2 : zS) (v1_2 : Int32) (v2_2 : Int32) : Option ((Int32 × Int32) ⊕ (Int32)) :=
  if (σ2.1 7) ≤ v2_2 then
  (some (.inr v1_2))
  else
  (if v2_2 = (0 : Int32) then
  (m_X7_different_49_in19 N σ2 v1_2 v2_2)
  else
  ((zrd 360 (σ2.2.2 3) v2_2).bind fun b7 =>
  (zrd 360 (σ2.2.2 3) (v2_2 - (1 : Int32))).bind fun b8 =>
  if (lg_cmp b7 b8) = (0 : Int32) then
  (m_X7_different_52_in19 N σ2 v1_2 v2_2)
  else
  (m_X7_different_49_in19 N σ2 v1_2 v2_2)))
def m_X7_different_58 (N : Nat) (σ12 : zS) (v1_12 : Int32) : Option (Int32 × zS) :=
  some (v1_12, σ12)
def m_X7_different (N : Nat) (σ : zS)  : Option (Int32 × zS) :=
  (m_X5_sort N σ 3 (σ.1 7)).bind fun σ1 =>
  (ziter (fun q : Int32 × Int32 => m_X7_different_L19 N σ1 q.1 q.2) N ((0 : Int32), (0 : Int32))).bind (fun y : Int32 => m_X7_different_58 N σ1 y)
def m_X7_tell (N : Nat) (σ : zS) (v1 : Int32) : Option (Int64 × zS) :=
  if v1 = (0 : Int32) then
  (some ((σ.1 7).toInt64, σ))
  else
  if v1 = (1 : Int32) then
  ((m_X7_sum N σ ).bind fun b3 =>
  some (b3, σ))
  else
  if v1 = (2 : Int32) then
  ((m_X7_atPlace N σ (1 : Int32)).bind fun p6 =>
  some (p6.1.toInt64, p6.2))
  else
  if v1 = (3 : Int32) then
  ((m_X7_atPlace N σ (σ.1 7)).bind fun p10 =>
  some (p10.1.toInt64, p10.2))
  else
  if v1 = (4 : Int32) then
  ((m_X7_different N σ ).bind fun p14 =>
  some (p14.1.toInt64, p14.2))
  else
  (some ((-2000000001 : Int64), σ))
def m_J9_max_7cf53 (N : Nat) (σ : zS) (v0 : Int32) (v1 : Int32) : Option Int32 :=
  if v0 < v1 then
  (some v1)
  else
  (some v0)
def m_X7_atPercent (N : Nat) (σ : zS) (v1 : Int32) : Option (Int32 × zS) :=
  (m_J9_max_7cf53 N σ (1 : Int32) (((v1 * (σ.1 7)) + (99 : Int32)) / (100 : Int32))).bind fun b1 =>
  (m_X7_atPlace N σ b1).bind fun p3 =>
  some (p3.1, p3.2)
def m_X8_facetAt (N : Nat) (σ : zS) (v1 : Int32) : Option (Option Nat) :=
  if v1 < (0 : Int32) then
  (some (none : Option Nat))
  else
  (if (σ.1 0) ≤ v1 then
  (some (none : Option Nat))
  else
  ((zrd 10 (fun n => n) v1).bind fun k3 =>
  some (some k3)))
