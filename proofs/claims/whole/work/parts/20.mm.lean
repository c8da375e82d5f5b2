def m_X9_within (N : Nat) (σ : zS) (v0 : Int32) (v1 : Int32) (v2 : Int32) : Option Int32 :=
  if v0 < v1 then
  (some (0 : Int32))
  else
  (if v2 < v0 then
  (some (0 : Int32))
  else
  (some (1 : Int32)))
def m_X9_isObject (N : Nat) (σ : zS) (v1 : Int32) : Option Int32 :=
  (m_X9_within N σ v1 (0 : Int32) ((σ.1 0) - (1 : Int32))).bind fun b1 =>
  (zcz b1).bind fun b2 =>
  some b2
def m_X9_isFacet (N : Nat) (σ : zS) (v1 : Int32) : Option Int32 :=
  (m_X9_within N σ v1 (0 : Int32) ((σ.1 1) - (1 : Int32))).bind fun b1 =>
  (zcz b1).bind fun b2 =>
  some b2
def m_X9_isColumn (N : Nat) (σ : zS) (v0 : Int32) : Option Int32 :=
  (m_X9_within N σ v0 (0 : Int32) (5 : Int32)).bind fun b1 =>
  (zcz b1).bind fun b2 =>
  some b2
def m_X9_isValue (N : Nat) (σ : zS) (v0 : Int32) : Option Int32 :=
  (m_X9_within N σ v0 (-1000000000 : Int32) (1000000000 : Int32)).bind fun b1 =>
  (zcz b1).bind fun b2 =>
  some b2
def m_X9_changes (N : Nat) (σ : zS)  : Option zS :=
  (some (zsI σ 2 (0 : Int32))).bind fun σ1 =>
  some σ1
def m_X9_object_L14 (N : Nat) (σ2 : zS) (v1_2 : Int32) : Option ((zS × Int32) ⊕ (zS)) :=
  if (6 : Int32) ≤ v1_2 then
  (some (.inr σ2))
  else
  ((zwA 720 0 σ2 (((6 : Int32) * (σ2.1 0)) + v1_2) (0 : Int32)).bind fun σ4 =>
  some (.inl (σ4, (v1_2 + (1 : Int32)))))
def m_X9_object_41 (N : Nat) (σ7 : zS) : Option (Int32 × zS) :=
  (zwA 120 2 σ7 (σ7.1 0) (0 : Int32)).bind fun σ8 =>
  (some (zsI σ8 0 ((σ8.1 0) + (1 : Int32)))).bind fun σ9 =>
  (m_X9_changes N σ9 ).bind fun σ10 =>
  some (((σ10.1 0) - (1 : Int32)), σ10)
def m_X9_object (N : Nat) (σ : zS)  : Option (Int32 × zS) :=
  if (σ.1 0) = (120 : Int32) then
  (some ((-2000000003 : Int32), σ))
  else
  ((ziter (fun q : zS × Int32 => m_X9_object_L14 N q.1 q.2) N (σ, (0 : Int32))).bind (fun y : zS => m_X9_object_41 N y))
def m_X9_value (N : Nat) (σ : zS) (v1 : Int32) (v2 : Int32) (v3 : Int32) : Option (Int32 × zS) :=
  (m_X9_isObject N σ v1).bind fun b1 =>
  if b1 = (0 : Int32) then
  (some ((-2000000001 : Int32), σ))
  else
  ((m_X9_isColumn N σ v2).bind fun b3 =>
  if b3 = (0 : Int32) then
  (some ((-2000000001 : Int32), σ))
  else
  ((m_X9_isValue N σ v3).bind fun b5 =>
  if b5 = (0 : Int32) then
  (some ((-2000000001 : Int32), σ))
  else
  ((zrd 720 (σ.2.1 0) (((6 : Int32) * v1) + v2)).bind fun b7 =>
  if b7 = (3 : Int32) then
  (some ((-2000000003 : Int32), σ))
  else
  ((zrd 720 (σ.2.1 0) (((6 : Int32) * v1) + v2)).bind fun b9 =>
  (zwA 2160 1 σ (((3 : Int32) * (((6 : Int32) * v1) + v2)) + b9) v3).bind fun σ10 =>
  (zrd 720 (σ10.2.1 0) (((6 : Int32) * v1) + v2)).bind fun b11 =>
  (zwA 720 0 σ10 (((6 : Int32) * v1) + v2) (b11 + (1 : Int32))).bind fun σ12 =>
  (m_X9_changes N σ12 ).bind fun σ13 =>
  (zrd 720 (σ13.2.1 0) (((6 : Int32) * v1) + v2)).bind fun b14 =>
  some (b14, σ13)))))
def m_X9_match_25 (N : Nat) (v1 : Int32) (v2 : Int32) (σ5 : zS) (x0_5 : Int32) : Option (Int32 × zS) :=
  (zcz v2).bind fun b6 =>
  (zwA 120 2 σ5 v1 b6).bind fun σ7 =>
  (m_X9_changes N σ7 ).bind fun σ8 =>
  some (x0_5, σ8)
def m_X9_match (N : Nat) (σ : zS) (v1 : Int32) (v2 : Int32) : Option (Int32 × zS) :=
  (m_X9_isObject N σ v1).bind fun b1 =>
  if b1 = (0 : Int32) then
  (some ((-2000000001 : Int32), σ))
  else
  ((zrd 120 (σ.2.1 2) v1).bind fun b3 =>
  if b3 = (0 : Int32) then
  (m_X9_match_25 N v1 v2 σ (0 : Int32))
  else
  (m_X9_match_25 N v1 v2 σ (1 : Int32)))
def m_X9_clear (N : Nat) (σ : zS)  : Option (Int32 × zS) :=
  (some (zsI σ 0 (0 : Int32))).bind fun σ1 =>
  (some (zsI σ1 1 (0 : Int32))).bind fun σ2 =>
  (m_X9_changes N σ2 ).bind fun σ3 =>
  some ((σ.1 0), σ3)
def m_X9_facet_72 (N : Nat) (v1 : Int32) (v2 : Int32) (v3 : Int32) (v4 : Int32) (σ10 : zS) : Option (Int32 × zS) :=
  if (σ10.1 1) = (10 : Int32) then
  (some ((-2000000003 : Int32), σ10))
  else
  ((zwA 10 3 σ10 (σ10.1 1) v1).bind fun σ12 =>
  (zwA 10 4 σ12 (σ12.1 1) v2).bind fun σ13 =>
  (zwA 10 5 σ13 (σ13.1 1) v3).bind fun σ14 =>
  (zwA 10 6 σ14 (σ14.1 1) v4).bind fun σ15 =>
  (zwA 10 7 σ15 (σ15.1 1) (0 : Int32)).bind fun σ16 =>
  (zwA 10 10 σ16 (σ16.1 1) (-2000000000 : Int32)).bind fun σ17 =>
  (zwA 10 13 σ17 (σ17.1 1) (1 : Int32)).bind fun σ18 =>
  (zwA 10 14 σ18 (σ18.1 1) (0 : Int32)).bind fun σ19 =>
  (zwA 10 15 σ19 (σ19.1 1) (0 : Int32)).bind fun σ20 =>
  (some (zsI σ20 1 ((σ20.1 1) + (1 : Int32)))).bind fun σ21 =>
  (m_X9_changes N σ21 ).bind fun σ22 =>
  some (((σ22.1 1) - (1 : Int32)), σ22))
def m_X9_facet_32 (N : Nat) (v1 : Int32) (v2 : Int32) (v3 : Int32) (v4 : Int32) (σ3 : zS) (x0_3 : Int32) : Option (Int32 × zS) :=
  (m_X9_within N σ3 v1 (0 : Int32) (4 : Int32)).bind fun b4 =>
  if b4 = (0 : Int32) then
  (some ((-2000000001 : Int32), σ3))
  else
  ((m_X9_isColumn N σ3 v2).bind fun b6 =>
  if b6 = (0 : Int32) then
  (some ((-2000000001 : Int32), σ3))
  else
  (if x0_3 = (0 : Int32) then
  (some ((-2000000001 : Int32), σ3))
  else
  (if v1 = (4 : Int32) then
  ((m_X9_within N σ3 v3 (0 : Int32) (4 : Int32)).bind fun b23 =>
  if b23 = (0 : Int32) then
  (some ((-2000000001 : Int32), σ3))
  else
  (m_X9_facet_72 N v1 v2 v3 v4 σ3))
  else
  (m_X9_facet_72 N v1 v2 v3 v4 σ3))))
def m_X9_facet_27 (N : Nat) (v1 : Int32) (v2 : Int32) (v3 : Int32) (v4 : Int32) (σ2 : zS) : Option (Int32 × zS) :=
  m_X9_facet_32 N v1 v2 v3 v4 σ2 (1 : Int32)
def m_X9_facet_31 (N : Nat) (v1 : Int32) (v2 : Int32) (v3 : Int32) (v4 : Int32) (σ27 : zS) : Option (Int32 × zS) :=
  m_X9_facet_32 N v1 v2 v3 v4 σ27 (0 : Int32)
def m_X9_facet (N : Nat) (σ : zS) (v1 : Int32) (v2 : Int32) (v3 : Int32) (v4 : Int32) : Option (Int32 × zS) :=
  if v1 = (3 : Int32) then
  ((m_X9_within N σ v3 (1 : Int32) (1000000 : Int32)).bind fun b25 =>
  if b25 = (0 : Int32) then
  (m_X9_facet_31 N v1 v2 v3 v4 σ)
  else
  ((m_X9_within N σ v4 (0 : Int32) (v3 - (1 : Int32))).bind fun b28 =>
  if b28 = (0 : Int32) then
  (m_X9_facet_31 N v1 v2 v3 v4 σ)
  else
  (m_X9_facet_27 N v1 v2 v3 v4 σ)))
  else
  (m_X9_facet_27 N v1 v2 v3 v4 σ)
def m_X9_range (N : Nat) (σ : zS) (v1 : Int32) (v2 : Int32) (v3 : Int32) : Option (Int32 × zS) :=
  (m_X9_isFacet N σ v1).bind fun b1 =>
  if b1 = (0 : Int32) then
  (some ((-2000000001 : Int32), σ))
  else
  ((m_X9_isValue N σ v2).bind fun b3 =>
  if b3 = (0 : Int32) then
  (some ((-2000000001 : Int32), σ))
  else
  ((m_X9_isValue N σ v3).bind fun b5 =>
  if b5 = (0 : Int32) then
  (some ((-2000000001 : Int32), σ))
  else
  (if v2 ≤ v3 then
  ((zrd 10 (σ.2.1 3) v1).bind fun b8 =>
  if b8 = (2 : Int32) then
  ((zrd 10 (σ.2.1 7) v1).bind fun b10 =>
  if b10 = (6 : Int32) then
  (some ((-2000000003 : Int32), σ))
  else
  ((zrd 10 (σ.2.1 7) v1).bind fun b12 =>
  (zwA 60 8 σ (((6 : Int32) * v1) + b12) v2).bind fun σ13 =>
  (zrd 10 (σ13.2.1 7) v1).bind fun b14 =>
  (zwA 60 9 σ13 (((6 : Int32) * v1) + b14) v3).bind fun σ15 =>
  (zrd 10 (σ15.2.1 7) v1).bind fun b16 =>
  (zwA 10 7 σ15 v1 (b16 + (1 : Int32))).bind fun σ17 =>
  (m_X9_changes N σ17 ).bind fun σ18 =>
  (zrd 10 (σ18.2.1 7) v1).bind fun b19 =>
  some ((b19 - (1 : Int32)), σ18)))
  else
  (some ((-2000000002 : Int32), σ)))
  else
  (some ((-2000000001 : Int32), σ)))))
def m_X9_filter_46 (N : Nat) (v1 : Int32) (v2 : Int32) (v3 : Int32) (v4 : Int32) (σ7 : zS) (x0_7 : Int32) : Option (Int32 × zS) :=
  (zwA 10 10 σ7 v1 v2).bind fun σ8 =>
  (zwA 10 11 σ8 v1 v3).bind fun σ9 =>
  (zwA 10 12 σ9 v1 v4).bind fun σ10 =>
  (m_X9_changes N σ10 ).bind fun σ11 =>
  some (x0_7, σ11)
def m_X9_filter_30 (N : Nat) (v1 : Int32) (v2 : Int32) (v3 : Int32) (v4 : Int32) (σ4 : zS) : Option (Int32 × zS) :=
  (zrd 10 (σ4.2.1 10) v1).bind fun b5 =>
  if b5 = (-2000000000 : Int32) then
  (m_X9_filter_46 N v1 v2 v3 v4 σ4 (0 : Int32))
  else
  (m_X9_filter_46 N v1 v2 v3 v4 σ4 (1 : Int32))
def m_X9_filter (N : Nat) (σ : zS) (v1 : Int32) (v2 : Int32) (v3 : Int32) (v4 : Int32) : Option (Int32 × zS) :=
  (m_X9_isFacet N σ v1).bind fun b1 =>
  if b1 = (0 : Int32) then
  (some ((-2000000001 : Int32), σ))
  else
  (if v2 = (-2000000000 : Int32) then
  (m_X9_filter_30 N v1 v2 v3 v4 σ)
  else
  ((m_X9_isColumn N σ v2).bind fun b12 =>
  if b12 = (0 : Int32) then
  (some ((-2000000001 : Int32), σ))
  else
  (if v3 ≤ v4 then
  (m_X9_filter_30 N v1 v2 v3 v4 σ)
  else
  (some ((-2000000001 : Int32), σ)))))
def m_X9_least (N : Nat) (σ : zS) (v1 : Int32) (v2 : Int32) : Option (Int32 × zS) :=
  (m_X9_isFacet N σ v1).bind fun b1 =>
  if b1 = (0 : Int32) then
  (some ((-2000000001 : Int32), σ))
  else
  ((m_X9_within N σ v2 (0 : Int32) (120 : Int32)).bind fun b3 =>
  if b3 = (0 : Int32) then
  (some ((-2000000001 : Int32), σ))
  else
  ((zrd 10 (σ.2.1 13) v1).bind fun b5 =>
  (zwA 10 13 σ v1 v2).bind fun σ6 =>
  (m_X9_changes N σ6 ).bind fun σ7 =>
  some (b5, σ7)))
def m_X9_missing_25 (N : Nat) (v1 : Int32) (v2 : Int32) (σ5 : zS) (x0_5 : Int32) : Option (Int32 × zS) :=
  (zcz v2).bind fun b6 =>
  (zwA 10 14 σ5 v1 b6).bind fun σ7 =>
  (m_X9_changes N σ7 ).bind fun σ8 =>
  some (x0_5, σ8)
def m_X9_missing (N : Nat) (σ : zS) (v1 : Int32) (v2 : Int32) : Option (Int32 × zS) :=
  (m_X9_isFacet N σ v1).bind fun b1 =>
  if b1 = (0 : Int32) then
  (some ((-2000000001 : Int32), σ))
  else
  ((zrd 10 (σ.2.1 14) v1).bind fun b3 =>
  if b3 = (0 : Int32) then
  (m_X9_missing_25 N v1 v2 σ (0 : Int32))
  else
  (m_X9_missing_25 N v1 v2 σ (1 : Int32)))
def m_X9_order_32 (N : Nat) (v1 : Int32) (v2 : Int32) (v3 : Int32) (σ6 : zS) : Option (Int32 × zS) :=
  (zrd 10 (σ6.2.1 15) v1).bind fun b7 =>
  (zwA 10 15 σ6 v1 v2).bind fun σ8 =>
  (zwA 10 16 σ8 v1 v3).bind fun σ9 =>
  (m_X9_changes N σ9 ).bind fun σ10 =>
  some (b7, σ10)
def m_X9_order (N : Nat) (σ : zS) (v1 : Int32) (v2 : Int32) (v3 : Int32) : Option (Int32 × zS) :=
  (m_X9_isFacet N σ v1).bind fun b1 =>
  if b1 = (0 : Int32) then
  (some ((-2000000001 : Int32), σ))
  else
  ((m_X9_within N σ v2 (0 : Int32) (2 : Int32)).bind fun b3 =>
  if b3 = (0 : Int32) then
  (some ((-2000000001 : Int32), σ))
  else
  (if v2 = (2 : Int32) then
  ((m_X9_isColumn N σ v3).bind fun b11 =>
  if b11 = (0 : Int32) then
  (some ((-2000000001 : Int32), σ))
  else
  (m_X9_order_32 N v1 v2 v3 σ))
  else
  (m_X9_order_32 N v1 v2 v3 σ)))
def m_X9_give (N : Nat) (σ : zS) (v1 : Int32) : Option zS :=
  (zwA 6 18 σ (σ.1 3) v1).bind fun σ1 =>
  (some (zsI σ1 3 ((σ1.1 3) + (1 : Int32)))).bind fun σ2 =>
  some σ2
def m_X9_givePaths_63 (N : Nat) (v1 : Int32) (σ7 : zS) (v3_7 : Int32) : Option zS :=
  if v3_7 = (0 : Int32) then
  (some σ7)
  else
  ((m_X9_give N σ7 v1).bind fun σ9 =>
  some σ9)
def m_X9_givePaths_35 (N : Nat) (v1 : Int32) (σ4 : zS) (v2_4 : Int32) (v3_4 : Int32) : Option zS :=
  (m_X9_give N σ4 ((v1 / (10000 : Int32)) * (10000 : Int32))).bind fun σ5 =>
  if v2_4 = (0 : Int32) then
  (m_X9_givePaths_63 N v1 σ5 v3_4)
  else
  ((m_X9_give N σ5 ((v1 / (100 : Int32)) * (100 : Int32))).bind fun σ10 =>
  m_X9_givePaths_63 N v1 σ10 v3_4)
def m_X9_givePaths (N : Nat) (σ : zS) (v1 : Int32) : Option zS :=
  (m_X9_within N σ v1 (10000 : Int32) (999999 : Int32)).bind fun b1 =>
  if b1 = (0 : Int32) then
  (some σ)
  else
  (if ((v1 / (100 : Int32)) - (v1 / (100 : Int32)) / (100 : Int32) * (100 : Int32)) = (0 : Int32) then
  (if (v1 - v1 / (100 : Int32) * (100 : Int32)) = (0 : Int32) then
  (m_X9_givePaths_35 N v1 σ ((v1 / (100 : Int32)) - (v1 / (100 : Int32)) / (100 : Int32) * (100 : Int32)) (v1 - v1 / (100 : Int32) * (100 : Int32)))
  else
  (some σ))
  else
  (m_X9_givePaths_35 N v1 σ ((v1 / (100 : Int32)) - (v1 / (100 : Int32)) / (100 : Int32) * (100 : Int32)) (v1 - v1 / (100 : Int32) * (100 : Int32))))
def m_X9_isLeap (N : Nat) (σ : zS) (v0 : Int32) : Option Int32 :=
  if (v0 - v0 / (4 : Int32) * (4 : Int32)) = (0 : Int32) then
  (if (v0 - v0 / (100 : Int32) * (100 : Int32)) = (0 : Int32) then
  (if (v0 - v0 / (400 : Int32) * (400 : Int32)) = (0 : Int32) then
  (some (1 : Int32))
  else
  (some (0 : Int32)))
  else
  (some (1 : Int32)))
  else
  (some (0 : Int32))
def m_X9_daysOf (N : Nat) (σ : zS) (v0 : Int32) (v1 : Int32) : Option Int32 :=
  if v1 = (2 : Int32) then
  ((m_X9_isLeap N σ v0).bind fun b6 =>
  if b6 = (0 : Int32) then
  (some (28 : Int32))
  else
  (some (29 : Int32)))
  else
  (if v1 = (4 : Int32) then
  (some (30 : Int32))
  else
  (if v1 = (6 : Int32) then
  (some (30 : Int32))
  else
  (if v1 = (9 : Int32) then
  (some (30 : Int32))
  else
  (if v1 = (11 : Int32) then
  (some (30 : Int32))
  else
  (some (31 : Int32))))))
def m_X9_behind_30_in6 (N : Nat) (σ : zS) (v0 : Int32) (v1 : Int32) (v3_5 : Int32) (x0_5 : Int32) (x1_5 : Int32) : Option ((Int32 × Int32) ⊕ (Int32 × Int32)) :=
  some (.inl ((x0_5 + x1_5), v3_5))
def m_X9_behind_L6 (N : Nat) (σ : zS) (v0 : Int32) (v1 : Int32) (v2_1 : Int32) (v3_1 : Int32) : Option ((Int32 × Int32) ⊕ (Int32 × Int32)) :=
  if (0 : Int32) ≤ v2_1 then
  (some (.inr (v2_1, v3_1)))
  else
  ((m_X9_isLeap N σ (v3_1 + (-1 : Int32))).bind fun b3 =>
  if b3 = (0 : Int32) then
  (m_X9_behind_30_in6 N σ v0 v1 (v3_1 + (-1 : Int32)) v2_1 (365 : Int32))
  else
  (m_X9_behind_30_in6 N σ v0 v1 (v3_1 + (-1 : Int32)) v2_1 (366 : Int32)))
def m_X9_behind_72_in35 (N : Nat) (σ : zS) (v0 : Int32) (v1 : Int32) (v3_15 : Int32) (x0_15 : Int32) (x1_15 : Int32) : Option ((Int32 × Int32) ⊕ (Int32 × Int32)) :=
  some (.inl ((x0_15 - x1_15), (v3_15 + (1 : Int32))))
def m_X9_behind_52_in35 (N : Nat) (σ : zS) (v0 : Int32) (v1 : Int32) (v2_11 : Int32) (v3_11 : Int32) (x0_11 : Int32) (x1_11 : Int32) : Option ((Int32 × Int32) ⊕ (Int32 × Int32)) :=
  if x0_11 < x1_11 then
  (some (.inr (v2_11, v3_11)))
  else
  ((m_X9_isLeap N σ v3_11).bind fun b13 =>
  if b13 = (0 : Int32) then
  (m_X9_behind_72_in35 N σ v0 v1 v3_11 v2_11 (365 : Int32))
  else
  (m_X9_behind_72_in35 N σ v0 v1 v3_11 v2_11 (366 : Int32)))
def m_X9_behind_L35 (N : Nat) (σ : zS) (v0 : Int32) (v1 : Int32) (v2_8 : Int32) (v3_8 : Int32) : Option ((Int32 × Int32) ⊕ (Int32 × Int32)) :=
  (m_X9_isLeap N σ v3_8).bind fun b9 =>
  if b9 = (0 : Int32) then
  (m_X9_behind_52_in35 N σ v0 v1 v2_8 v3_8 v2_8 (365 : Int32))
  else
  (m_X9_behind_52_in35 N σ v0 v1 v2_8 v3_8 v2_8 (366 : Int32))
def m_X9_behind_135_in89 (N : Nat) (σ : zS) (v0 : Int32) (v1 : Int32) (v2_19 : Int32) (v3_19 : Int32) (v4_25 : Int32) (v5_25 : Int32) (x0_25 : Int32) : Option ((Int32 × Int32 × Int32) ⊕ (Int32 × Int32)) :=
  some (.inl (v4_25, (v5_25 + (1 : Int32)), x0_25))
def m_X9_behind_L89 (N : Nat) (σ : zS) (v0 : Int32) (v1 : Int32) (v2_19 : Int32) (v3_19 : Int32) (v4_19 : Int32) (v5_19 : Int32) (v6_19 : Int32) : Option ((Int32 × Int32 × Int32) ⊕ (Int32 × Int32)) :=
  (m_X9_daysOf N σ v3_19 v5_19).bind fun b20 =>
  if v4_19 < b20 then
  (some (.inr (v4_19, v6_19)))
  else
  ((m_X9_daysOf N σ v3_19 v5_19).bind fun b22 =>
  (m_X9_daysOf N σ v3_19 v5_19).bind fun b23 =>
  if (v5_19 - v5_19 / (3 : Int32) * (3 : Int32)) = (0 : Int32) then
  (m_X9_behind_135_in89 N σ v0 v1 v2_19 v3_19 (v4_19 - b22) v5_19 (0 : Int32))
  else
  (m_X9_behind_135_in89 N σ v0 v1 v2_19 v3_19 (v4_19 - b22) v5_19 (v6_19 + b23)))
def m_X9_behind_143 (N : Nat) (σ : zS) (v0 : Int32) (v1 : Int32) (v2_28 : Int32) (v4_28 : Int32) (v6_28 : Int32) : Option Int32 :=
  if v1 = (2 : Int32) then
  (some v4_28)
  else
  (if v1 = (3 : Int32) then
  (some (v4_28 + v6_28))
  else
  (some v2_28))
def m_X9_behind_80 (N : Nat) (σ : zS) (v0 : Int32) (v1 : Int32) (v2_18 : Int32) (v3_18 : Int32) : Option Int32 :=
  (ziter (fun q : Int32 × Int32 × Int32 => m_X9_behind_L89 N σ v0 v1 v2_18 v3_18 q.1 q.2.1 q.2.2) N (v2_18, (1 : Int32), (0 : Int32))).bind (fun y : Int32 × Int32 => m_X9_behind_143 N σ v0 v1 v2_18 y.1 y.2)
def m_X9_behind (N : Nat) (σ : zS) (v0 : Int32) (v1 : Int32) : Option Int32 :=
  (ziter (fun q : Int32 × Int32 => m_X9_behind_L6 N σ v0 v1 q.1 q.2) N (v0, (1970 : Int32))).bind (fun y : Int32 × Int32 => (ziter (fun q : Int32 × Int32 => m_X9_behind_L35 N σ v0 v1 q.1 q.2) N (y.1, y.2)).bind (fun y : Int32 × Int32 => m_X9_behind_80 N σ v0 v1 y.1 y.2))
def m_X9_modulo (N : Nat) (σ : zS) (v0 : Int32) (v1 : Int32) : Option Int32 :=
  (zrm v0 v1).bind fun b1 =>
  if (0 : Int32) ≤ b1 then
  (some b1)
  else
  (some (b1 + v1))
def m_X9_giveDays (N : Nat) (σ : zS) (v1 : Int32) (v2 : Int32) : Option zS :=
  (m_X9_within N σ v1 (-1000000 : Int32) (1000000 : Int32)).bind fun b1 =>
  if b1 = (0 : Int32) then
  (some σ)
  else
  (if v2 = (0 : Int32) then
  ((m_X9_give N σ v1).bind fun σ9 =>
  some σ9)
  else
  (if v2 = (1 : Int32) then
  ((m_X9_modulo N σ (v1 + (3 : Int32)) (7 : Int32)).bind fun b7 =>
  (m_X9_give N σ (v1 - b7)).bind fun σ8 =>
  some σ8)
  else
  ((m_X9_behind N σ v1 v2).bind fun b5 =>
  (m_X9_give N σ (v1 - b5)).bind fun σ6 =>
  some σ6)))
def m_X9_giveKeys_102_in58 (N : Nat) (v1 : Int32) (v2 : Int32) (σ15 : zS) (v3_15 : Int32) : Option ((zS × Int32) ⊕ (zS)) :=
  some (.inl (σ15, (v3_15 + (1 : Int32))))
def m_X9_giveKeys_L58 (N : Nat) (v1 : Int32) (v2 : Int32) (σ8 : zS) (v3_8 : Int32) : Option ((zS × Int32) ⊕ (zS)) :=
  (zrd 10 (σ8.2.1 7) v1).bind fun b9 =>
  if b9 ≤ v3_8 then
  (some (.inr σ8))
  else
  ((zrd 60 (σ8.2.1 8) (((6 : Int32) * v1) + v3_8)).bind fun b11 =>
  (zrd 60 (σ8.2.1 9) (((6 : Int32) * v1) + v3_8)).bind fun b12 =>
  (m_X9_within N σ8 v2 b11 b12).bind fun b13 =>
  if b13 = (0 : Int32) then
  (m_X9_giveKeys_102_in58 N v1 v2 σ8 v3_8)
  else
  ((m_X9_give N σ8 v3_8).bind fun σ16 =>
  m_X9_giveKeys_102_in58 N v1 v2 σ16 v3_8))
def m_X9_giveKeys_108 (N : Nat) (v1 : Int32) (v2 : Int32) (σ19 : zS) : Option zS :=
  some σ19
def m_X9_giveKeys (N : Nat) (σ : zS) (v1 : Int32) (v2 : Int32) : Option zS :=
  (some (zsI σ 3 (0 : Int32))).bind fun σ1 =>
  (zrd 10 (σ1.2.1 3) v1).bind fun b2 =>
  if b2 = (0 : Int32) then
  ((m_X9_give N σ1 v2).bind fun σ4 =>
  some σ4)
  else
  if b2 = (1 : Int32) then
  ((m_X9_givePaths N σ1 v2).bind fun σ6 =>
  some σ6)
  else
  if b2 = (2 : Int32) then
  ((ziter (fun q : zS × Int32 => m_X9_giveKeys_L58 N v1 v2 q.1 q.2) N (σ1, (0 : Int32))).bind (fun y : zS => m_X9_giveKeys_108 N v1 v2 y))
  else
  if b2 = (3 : Int32) then
  ((zrd 10 (σ1.2.1 6) v1).bind fun b22 =>
  (zrd 10 (σ1.2.1 5) v1).bind fun b23 =>
  (m_X9_modulo N σ1 (v2 - b22) b23).bind fun b24 =>
  (m_X9_give N σ1 (v2 - b24)).bind fun σ25 =>
  some σ25)
  else
  ((zrd 10 (σ1.2.1 5) v1).bind fun b26 =>
  (m_X9_giveDays N σ1 v2 b26).bind fun σ27 =>
  some σ27)
def m_X9_atHand (N : Nat) (σ : zS) (v1 : Int32) : Option Int32 :=
  if (σ.1 2) = (0 : Int32) then
  ((zrd 120 (σ.2.1 2) v1).bind fun b4 =>
  (zcz b4).bind fun b5 =>
  some b5)
  else
  ((zrd 840 (σ.2.1 17) (((120 : Int32) * ((σ.1 2) - (1 : Int32))) + v1)).bind fun b2 =>
  (zcz b2).bind fun b3 =>
  some b3)
def m_X9_counts_L51 (N : Nat) (σ : zS) (v1 : Int32) (v2 : Int32) (v4_9 : Int32) (v3_9 : Int32) (v5_9 : Int32) : Option ((Int32 × Int32) ⊕ (Int32)) :=
  (zrd 720 (σ.2.1 0) v4_9).bind fun b10 =>
  if b10 ≤ v5_9 then
  (some (.inr v3_9))
  else
  (if v3_9 = (0 : Int32) then
  ((zrd 2160 (σ.2.1 1) (((3 : Int32) * v4_9) + v5_9)).bind fun b13 =>
  (zrd 10 (σ.2.1 11) v1).bind fun b14 =>
  (zrd 10 (σ.2.1 12) v1).bind fun b15 =>
  (m_X9_within N σ b13 b14 b15).bind fun b16 =>
  some (.inl (b16, (v5_9 + (1 : Int32)))))
  else
  (some (.inr v3_9)))
def m_X9_counts_101 (N : Nat) (σ : zS) (v1 : Int32) (v2 : Int32) (v3_19 : Int32) : Option Int32 :=
  (zcz v3_19).bind fun b20 =>
  some b20
def m_X9_counts_45 (N : Nat) (σ : zS) (v1 : Int32) (v2 : Int32) (v3_8 : Int32) (x0_8 : Int32) (x1_8 : Int32) : Option Int32 :=
  (ziter (fun q : Int32 × Int32 => m_X9_counts_L51 N σ v1 v2 (x0_8 + x1_8) q.1 q.2) N (v3_8, (0 : Int32))).bind (fun y : Int32 => m_X9_counts_101 N σ v1 v2 y)
def m_X9_counts_26 (N : Nat) (σ : zS) (v1 : Int32) (v2 : Int32) (x0_5 : Int32) : Option Int32 :=
  if x0_5 = (0 : Int32) then
  ((zrd 10 (σ.2.1 10) v1).bind fun b7 =>
  m_X9_counts_45 N σ v1 v2 x0_5 ((6 : Int32) * v2) b7)
  else
  (m_X9_counts_45 N σ v1 v2 x0_5 ((6 : Int32) * v2) (0 : Int32))
def m_X9_counts (N : Nat) (σ : zS) (v1 : Int32) (v2 : Int32) : Option Int32 :=
  (m_X9_atHand N σ v2).bind fun b1 =>
  if b1 = (0 : Int32) then
  (some (0 : Int32))
  else
  ((zrd 10 (σ.2.1 10) v1).bind fun b3 =>
  if b3 = (-2000000000 : Int32) then
  (m_X9_counts_26 N σ v1 v2 (1 : Int32))
  else
  (m_X9_counts_26 N σ v1 v2 (0 : Int32)))
def m_X9_findKeysOf_L52 (N : Nat) (v1 : Int32) (v2 : Int32) (v3_3 : Int32) (v4_8 : Int32) (σ8 : zS) (v5_8 : Int32) : Option ((zS × Int32) ⊕ (zS)) :=
  if (σ8.1 3) ≤ v5_8 then
  (some (.inr σ8))
  else
  ((zrd 120 (σ8.2.1 21) v2).bind fun b10 =>
  (zrd 6 (σ8.2.1 18) v5_8).bind fun b11 =>
  (zwA 2160 22 σ8 (((18 : Int32) * v2) + b10) b11).bind fun σ12 =>
  (zrd 120 (σ12.2.1 21) v2).bind fun b13 =>
  (zwA 120 21 σ12 v2 (b13 + (1 : Int32))).bind fun σ14 =>
  some (.inl (σ14, (v5_8 + (1 : Int32)))))
def m_X9_findKeysOf_100_in22 (N : Nat) (v1 : Int32) (v2 : Int32) (v3_3 : Int32) (σ17 : zS) (v4_17 : Int32) : Option ((zS × Int32) ⊕ (zS)) :=
  some (.inl (σ17, (v4_17 + (1 : Int32))))
def m_X9_findKeysOf_L22 (N : Nat) (v1 : Int32) (v2 : Int32) (v3_3 : Int32) (σ3 : zS) (v4_3 : Int32) : Option ((zS × Int32) ⊕ (zS)) :=
  (zrd 720 (σ3.2.1 0) v3_3).bind fun b4 =>
  if b4 ≤ v4_3 then
  (some (.inr σ3))
  else
  ((zrd 2160 (σ3.2.1 1) (((3 : Int32) * v3_3) + v4_3)).bind fun b6 =>
  (m_X9_giveKeys N σ3 v1 b6).bind fun σ7 =>
  (ziter (fun q : zS × Int32 => m_X9_findKeysOf_L52 N v1 v2 v3_3 v4_3 q.1 q.2) N (σ7, (0 : Int32))).bind (fun y : zS => m_X9_findKeysOf_100_in22 N v1 v2 v3_3 y v4_3))
def m_X9_findKeysOf_106 (N : Nat) (v1 : Int32) (v2 : Int32) (σ21 : zS) : Option zS :=
  some σ21
def m_X9_findKeysOf (N : Nat) (σ : zS) (v1 : Int32) (v2 : Int32) : Option zS :=
  (zrd 10 (σ.2.1 4) v1).bind fun b1 =>
  (zwA 120 21 σ v2 (0 : Int32)).bind fun σ2 =>
  (ziter (fun q : zS × Int32 => m_X9_findKeysOf_L22 N v1 v2 (((6 : Int32) * v2) + b1) q.1 q.2) N (σ2, (0 : Int32))).bind (fun y : zS => m_X9_findKeysOf_106 N v1 v2 y)
def m_X9_hasKey_41_in5 (N : Nat) (σ : zS) (v1 : Int32) (v2 : Int32) (v4_6 : Int32) (x0_6 : Int32) : Option ((Int32 × Int32) ⊕ (Int32)) :=
  some (.inl (x0_6, (v4_6 + (1 : Int32))))
def m_X9_hasKey_36_in5 (N : Nat) (σ : zS) (v1 : Int32) (v2 : Int32) (v4_5 : Int32) : Option ((Int32 × Int32) ⊕ (Int32)) :=
  m_X9_hasKey_41_in5 N σ v1 v2 v4_5 (1 : Int32)
def m_X9_hasKey_L5 (N : Nat) (σ : zS) (v1 : Int32) (v2 : Int32) (v3_1 : Int32) (v4_1 : Int32) : Option ((Int32 × Int32) ⊕ (Int32)) :=
  (zrd 120 (σ.2.1 21) v1).bind fun b2 =>
  if b2 ≤ v4_1 then
  (some (.inr v3_1))
  else
  (if v3_1 = (0 : Int32) then
  ((zrd 2160 (σ.2.1 22) (((18 : Int32) * v1) + v4_1)).bind fun b7 =>
  if b7 = v2 then
  (m_X9_hasKey_36_in5 N σ v1 v2 v4_1)
  else
  (m_X9_hasKey_41_in5 N σ v1 v2 v4_1 (0 : Int32)))
  else
  (m_X9_hasKey_36_in5 N σ v1 v2 v4_1))
def m_X9_hasKey_48 (N : Nat) (σ : zS) (v1 : Int32) (v2 : Int32) (v3_11 : Int32) : Option Int32 :=
  (zcz v3_11).bind fun b12 =>
  some b12
def m_X9_hasKey (N : Nat) (σ : zS) (v1 : Int32) (v2 : Int32) : Option Int32 :=
  (ziter (fun q : Int32 × Int32 => m_X9_hasKey_L5 N σ v1 v2 q.1 q.2) N ((0 : Int32), (0 : Int32))).bind (fun y : Int32 => m_X9_hasKey_48 N σ v1 v2 y)
def m_X9_sumOf_L5 (N : Nat) (σ : zS) (v1 : Int32) (v2 : Int32) (v3_1 : Int64) (v5_1 : Int32) : Option ((Int64 × Int32) ⊕ (Int64)) :=
  (zrd 720 (σ.2.1 0) (((6 : Int32) * v1) + v2)).bind fun b2 =>
  if b2 ≤ v5_1 then
  (some (.inr v3_1))
  else
  ((zrd 2160 (σ.2.1 1) (((3 : Int32) * (((6 : Int32) * v1) + v2)) + v5_1)).bind fun b4 =>
  some (.inl ((v3_1 + b4.toInt64), (v5_1 + (1 : Int32)))))
def m_X9_sumOf_47 (N : Nat) (σ : zS) (v1 : Int32) (v2 : Int32) (v3_7 : Int64) : Option Int64 :=
  some v3_7
def m_X9_sumOf (N : Nat) (σ : zS) (v1 : Int32) (v2 : Int32) : Option Int64 :=
  (ziter (fun q : Int64 × Int32 => m_X9_sumOf_L5 N σ v1 v2 q.1 q.2) N ((0 : Int64), (0 : Int32))).bind (fun y : Int64 => m_X9_sumOf_47 N σ v1 v2 y)
def m_X9_isNew_31_in4 (N : Nat) (σ : zS) (v1 : Int32) (v3_5 : Int32) (x0_5 : Int32) : Option ((Int32 × Int32) ⊕ (Int32)) :=
  some (.inl (x0_5, (v3_5 + (1 : Int32))))
def m_X9_isNew_30_in4 (N : Nat) (σ : zS) (v1 : Int32) (v3_4 : Int32) : Option ((Int32 × Int32) ⊕ (Int32)) :=
  m_X9_isNew_31_in4 N σ v1 v3_4 (0 : Int32)
def m_X9_isNew_L4 (N : Nat) (σ : zS) (v1 : Int32) (v2_1 : Int32) (v3_1 : Int32) : Option ((Int32 × Int32) ⊕ (Int32)) :=
  if (σ.1 4) ≤ v3_1 then
  (some (.inr v2_1))
  else
  (if v2_1 = (0 : Int32) then
  (m_X9_isNew_30_in4 N σ v1 v3_1)
  else
  ((zrd 1100 (σ.2.1 19) v3_1).bind fun b6 =>
  if b6 = v1 then
  (m_X9_isNew_30_in4 N σ v1 v3_1)
  else
  (m_X9_isNew_31_in4 N σ v1 v3_1 (1 : Int32))))
def m_X9_isNew_38 (N : Nat) (σ : zS) (v1 : Int32) (v2_10 : Int32) : Option Int32 :=
  (zcz v2_10).bind fun b11 =>
  some b11
def m_X9_isNew (N : Nat) (σ : zS) (v1 : Int32) : Option Int32 :=
  (ziter (fun q : Int32 × Int32 => m_X9_isNew_L4 N σ v1 q.1 q.2) N ((1 : Int32), (0 : Int32))).bind (fun y : Int32 => m_X9_isNew_38 N σ v1 y)
def m_X9_findKeys_L7 (N : Nat) (v1 : Int32) (σ2 : zS) (v2_2 : Int32) : Option ((zS × Int32) ⊕ (zS)) :=
  (zrd 10 (σ2.2.1 7) v1).bind fun b3 =>
  if b3 ≤ v2_2 then
  (some (.inr σ2))
  else
  ((zwA 1100 19 σ2 (σ2.1 4) v2_2).bind fun σ5 =>
  (some (zsI σ5 4 ((σ5.1 4) + (1 : Int32)))).bind fun σ6 =>
  some (.inl (σ6, (v2_2 + (1 : Int32)))))
def m_X9_findKeys_134_in69 (N : Nat) (v1 : Int32) (v2_14 : Int32) (v3_14 : Int32) (σ21 : zS) (v4_21 : Int32) : Option ((zS × Int32) ⊕ (zS)) :=
  some (.inl (σ21, (v4_21 + (1 : Int32))))
def m_X9_findKeys_L69 (N : Nat) (v1 : Int32) (v2_14 : Int32) (v3_14 : Int32) (σ14 : zS) (v4_14 : Int32) : Option ((zS × Int32) ⊕ (zS)) :=
  (zrd 120 (σ14.2.1 21) v2_14).bind fun b15 =>
  if b15 ≤ v4_14 then
  (some (.inr σ14))
  else
  (if v3_14 = (0 : Int32) then
  (some (.inr σ14))
  else
  ((zrd 2160 (σ14.2.1 22) (((18 : Int32) * v2_14) + v4_14)).bind fun b18 =>
  (m_X9_isNew N σ14 b18).bind fun b19 =>
  if b19 = (0 : Int32) then
  (m_X9_findKeys_134_in69 N v1 v2_14 v3_14 σ14 v4_14)
  else
  ((zrd 2160 (σ14.2.1 22) (((18 : Int32) * v2_14) + v4_14)).bind fun b22 =>
  (zwA 1100 19 σ14 (σ14.1 4) b22).bind fun σ23 =>
  (some (zsI σ23 4 ((σ23.1 4) + (1 : Int32)))).bind fun σ24 =>
  m_X9_findKeys_134_in69 N v1 v2_14 v3_14 σ24 v4_14)))
def m_X9_findKeys_140_in45 (N : Nat) (v1 : Int32) (σ27 : zS) (v2_27 : Int32) : Option ((zS × Int32) ⊕ (zS)) :=
  some (.inl (σ27, (v2_27 + (1 : Int32))))
def m_X9_findKeys_L45 (N : Nat) (v1 : Int32) (σ10 : zS) (v2_10 : Int32) : Option ((zS × Int32) ⊕ (zS)) :=
  if (σ10.1 0) ≤ v2_10 then
  (some (.inr σ10))
  else
  ((m_X9_findKeysOf N σ10 v1 v2_10).bind fun σ12 =>
  (m_X9_counts N σ12 v1 v2_10).bind fun b13 =>
  (ziter (fun q : zS × Int32 => m_X9_findKeys_L69 N v1 v2_10 b13 q.1 q.2) N (σ12, (0 : Int32))).bind (fun y : zS => m_X9_findKeys_140_in45 N v1 y v2_10))
def m_X9_findKeys_146 (N : Nat) (v1 : Int32) (σ31 : zS) : Option zS :=
  some σ31
def m_X9_findKeys_43 (N : Nat) (v1 : Int32) (σ9 : zS) : Option zS :=
  (ziter (fun q : zS × Int32 => m_X9_findKeys_L45 N v1 q.1 q.2) N (σ9, (0 : Int32))).bind (fun y : zS => m_X9_findKeys_146 N v1 y)
def m_X9_findKeys (N : Nat) (σ : zS) (v1 : Int32) : Option zS :=
  (some (zsI σ 4 (0 : Int32))).bind fun σ1 =>
  (ziter (fun q : zS × Int32 => m_X9_findKeys_L7 N v1 q.1 q.2) N (σ1, (0 : Int32))).bind (fun y : zS => m_X9_findKeys_43 N v1 y)
def m_X9_isIn_22 (N : Nat) (σ : zS) (v1 : Int32) (v2 : Int32) (v3 : Int32) (x0_3 : Int32) : Option Int32 :=
  (m_X9_counts N σ v1 v3).bind fun b4 =>
  if b4 = (0 : Int32) then
  (some (0 : Int32))
  else
  (if x0_3 = (0 : Int32) then
  ((zrd 1100 (σ.2.1 19) v2).bind fun b7 =>
  (m_X9_hasKey N σ v3 b7).bind fun b8 =>
  if b8 = (0 : Int32) then
  (some (0 : Int32))
  else
  (some (1 : Int32)))
  else
  ((zrd 120 (σ.2.1 21) v3).bind fun b10 =>
  if b10 = (0 : Int32) then
  (some (1 : Int32))
  else
  (some (0 : Int32))))
def m_X9_isIn_21 (N : Nat) (σ : zS) (v1 : Int32) (v2 : Int32) (v3 : Int32)  : Option Int32 :=
  m_X9_isIn_22 N σ v1 v2 v3 (0 : Int32)
def m_X9_isIn (N : Nat) (σ : zS) (v1 : Int32) (v2 : Int32) (v3 : Int32) : Option Int32 :=
  if (σ.1 5) = (0 : Int32) then
  (m_X9_isIn_21 N σ v1 v2 v3)
  else
  (if v2 = ((σ.1 4) - (1 : Int32)) then
  (m_X9_isIn_22 N σ v1 v2 v3 (1 : Int32))
  else
  (m_X9_isIn_21 N σ v1 v2 v3))
def m_X9_measure_78_in16 (N : Nat) (v1 : Int32) (v2 : Int32) (σ7 : zS) (v3_7 : Int32) : Option ((zS × Int32) ⊕ (zS)) :=
  some (.inl (σ7, (v3_7 + (1 : Int32))))
def m_X9_measure_76_in16 (N : Nat) (v1 : Int32) (v2 : Int32) (σ13 : zS) (v3_13 : Int32) (x1_13 : Int32) (x2_13 : Int64) (x3_13 : Int64) : Option ((zS × Int32) ⊕ (zS)) :=
  (zwL 1100 0 σ13 x1_13 (x2_13 + x3_13)).bind fun σ14 =>
  m_X9_measure_78_in16 N v1 v2 σ14 v3_13
def m_X9_measure_L16 (N : Nat) (v1 : Int32) (v2 : Int32) (σ3 : zS) (v3_3 : Int32) : Option ((zS × Int32) ⊕ (zS)) :=
  if (σ3.1 0) ≤ v3_3 then
  (some (.inr σ3))
  else
  ((m_X9_isIn N σ3 v1 v2 v3_3).bind fun b5 =>
  if b5 = (0 : Int32) then
  (m_X9_measure_78_in16 N v1 v2 σ3 v3_3)
  else
  ((zrd 1100 (σ3.2.1 20) v2).bind fun b8 =>
  (zwA 1100 20 σ3 v2 (b8 + (1 : Int32))).bind fun σ9 =>
  (zrd 1100 (σ9.2.2 0) v2).bind fun b10 =>
  (zrd 10 (σ9.2.1 15) v1).bind fun b11 =>
  if b11 = (2 : Int32) then
  ((zrd 10 (σ9.2.1 16) v1).bind fun b15 =>
  (m_X9_sumOf N σ9 v3_3 b15).bind fun b16 =>
  m_X9_measure_76_in16 N v1 v2 σ9 v3_3 v2 b10 b16)
  else
  (m_X9_measure_76_in16 N v1 v2 σ9 v3_3 v2 b10 (0 : Int64))))
def m_X9_measure_84 (N : Nat) (v1 : Int32) (v2 : Int32) (σ19 : zS) : Option zS :=
  some σ19
def m_X9_measure (N : Nat) (σ : zS) (v1 : Int32) (v2 : Int32) : Option zS :=
  (zwA 1100 20 σ v2 (0 : Int32)).bind fun σ1 =>
  (zwL 1100 0 σ1 v2 (0 : Int64)).bind fun σ2 =>
  (ziter (fun q : zS × Int32 => m_X9_measure_L16 N v1 v2 q.1 q.2) N (σ2, (0 : Int32))).bind (fun y : zS => m_X9_measure_84 N v1 v2 y)
def m_X9_isBefore_93 (N : Nat) (σ : zS) (v1 : Int32) (v2 : Int32) (v3 : Int32)  : Option Int32 :=
  (zrd 1100 (σ.2.1 19) v2).bind fun b7 =>
  (zrd 1100 (σ.2.1 19) v3).bind fun b8 =>
  if b8 ≤ b7 then
  (some (0 : Int32))
  else
  (some (1 : Int32))
def m_X9_isBefore_45 (N : Nat) (σ : zS) (v1 : Int32) (v2 : Int32) (v3 : Int32)  : Option Int32 :=
  (zrd 10 (σ.2.1 15) v1).bind fun b4 =>
  if b4 = (2 : Int32) then
  ((zrd 1100 (σ.2.2 0) v2).bind fun b10 =>
  (zrd 1100 (σ.2.2 0) v3).bind fun b11 =>
  if (lg_cmp b10 b11) = (0 : Int32) then
  (m_X9_isBefore_93 N σ v1 v2 v3)
  else
  ((zrd 1100 (σ.2.2 0) v2).bind fun b13 =>
  (zrd 1100 (σ.2.2 0) v3).bind fun b14 =>
  if (lg_cmp b13 b14) ≤ (0 : Int32) then
  (some (0 : Int32))
  else
  (some (1 : Int32))))
  else
  (m_X9_isBefore_93 N σ v1 v2 v3)
def m_X9_isBefore (N : Nat) (σ : zS) (v1 : Int32) (v2 : Int32) (v3 : Int32) : Option Int32 :=
  (zrd 10 (σ.2.1 15) v1).bind fun b1 =>
  if b1 = (0 : Int32) then
  ((zrd 1100 (σ.2.1 20) v2).bind fun b16 =>
  (zrd 1100 (σ.2.1 20) v3).bind fun b17 =>
  if b16 = b17 then
  (m_X9_isBefore_45 N σ v1 v2 v3)
  else
  ((zrd 1100 (σ.2.1 20) v2).bind fun b19 =>
  (zrd 1100 (σ.2.1 20) v3).bind fun b20 =>
  if b19 ≤ b20 then
  (some (0 : Int32))
  else
  (some (1 : Int32))))
  else
  (m_X9_isBefore_45 N σ v1 v2 v3)
def m_X9_move (N : Nat) (σ : zS) (v1 : Int32) (v2 : Int32) : Option zS :=
  (zrd 1100 (σ.2.1 19) v1).bind fun b1 =>
  (zwA 1100 19 σ v2 b1).bind fun σ2 =>
  (zrd 1100 (σ2.2.1 20) v1).bind fun b3 =>
  (zwA 1100 20 σ2 v2 b3).bind fun σ4 =>
  (zrd 1100 (σ4.2.2 0) v1).bind fun b5 =>
  (zwL 1100 0 σ4 v2 b5).bind fun σ6 =>
  some σ6
def m_X9_findGroups_109_in20 (N : Nat) (v1 : Int32) (v2_3 : Int32) (σ9 : zS) (v3_9 : Int32) (v4_9 : Int32) : Option ((zS × Int32 × Int32) ⊕ (zS × Int32)) :=
  some (.inl (σ9, v3_9, (v4_9 + (1 : Int32))))
def m_X9_findGroups_L61 (N : Nat) (v1 : Int32) (v2_3 : Int32) (v3_11 : Int32) (v4_11 : Int32) (σ11 : zS) (v5_11 : Int32) : Option ((zS × Int32) ⊕ (zS × Int32)) :=
  if v5_11 ≤ (0 : Int32) then
  (some (.inr (σ11, v5_11)))
  else
  ((m_X9_isBefore N σ11 v1 (1099 : Int32) (v5_11 - (1 : Int32))).bind fun b13 =>
  if b13 = (0 : Int32) then
  (some (.inr (σ11, v5_11)))
  else
  ((m_X9_move N σ11 (v5_11 - (1 : Int32)) v5_11).bind fun σ15 =>
  some (.inl (σ15, (v5_11 + (-1 : Int32))))))
def m_X9_findGroups_97_in20 (N : Nat) (v1 : Int32) (v2_3 : Int32) (σ18 : zS) (v3_18 : Int32) (v4_18 : Int32) (v5_18 : Int32) : Option ((zS × Int32 × Int32) ⊕ (zS × Int32)) :=
  (m_X9_move N σ18 (1099 : Int32) v5_18).bind fun σ19 =>
  m_X9_findGroups_109_in20 N v1 v2_3 σ19 (v3_18 + (1 : Int32)) v4_18
def m_X9_findGroups_L20 (N : Nat) (v1 : Int32) (v2_3 : Int32) (σ3 : zS) (v3_3 : Int32) (v4_3 : Int32) : Option ((zS × Int32 × Int32) ⊕ (zS × Int32)) :=
  if v2_3 ≤ v4_3 then
  (some (.inr (σ3, v3_3)))
  else
  ((m_X9_measure N σ3 v1 v4_3).bind fun σ5 =>
  (zrd 1100 (σ5.2.1 20) v4_3).bind fun b6 =>
  (zrd 10 (σ5.2.1 13) v1).bind fun b7 =>
  if b6 < b7 then
  (m_X9_findGroups_109_in20 N v1 v2_3 σ5 v3_3 v4_3)
  else
  ((m_X9_move N σ5 v4_3 (1099 : Int32)).bind fun σ10 =>
  (ziter (fun q : zS × Int32 => m_X9_findGroups_L61 N v1 v2_3 v3_3 v4_3 q.1 q.2) N (σ10, v3_3)).bind (fun y : zS × Int32 => m_X9_findGroups_97_in20 N v1 v2_3 y.1 v3_3 v4_3 y.2)))
def m_X9_findGroups_188 (N : Nat) (v1 : Int32) (σ34 : zS) (v3_34 : Int32) (x1_34 : Int32) : Option zS :=
  (zcz x1_34).bind fun b35 =>
  (some (zsI σ34 5 b35)).bind fun σ36 =>
  if (σ36.1 5) = (0 : Int32) then
  ((some (zsI σ36 4 v3_34)).bind fun σ38 =>
  some σ38)
  else
  ((some (zsI σ36 4 (σ36.1 4))).bind fun σ39 =>
  some σ39)
def m_X9_findGroups_187 (N : Nat) (v1 : Int32) (σ33 : zS) (v3_33 : Int32) : Option zS :=
  m_X9_findGroups_188 N v1 σ33 v3_33 (0 : Int32)
def m_X9_findGroups_115 (N : Nat) (v1 : Int32) (σ23 : zS) (v3_23 : Int32) : Option zS :=
  (some (zsI σ23 4 v3_23)).bind fun σ24 =>
  (zrd 10 (σ24.2.1 14) v1).bind fun b25 =>
  if b25 = (0 : Int32) then
  (some σ24)
  else
  ((some (zsI σ24 5 (1 : Int32))).bind fun σ27 =>
  (some (zsI σ27 4 ((σ27.1 4) + (1 : Int32)))).bind fun σ28 =>
  (zwA 1100 19 σ28 v3_23 (-2000000000 : Int32)).bind fun σ29 =>
  (m_X9_measure N σ29 v1 v3_23).bind fun σ30 =>
  (zrd 1100 (σ30.2.1 20) v3_23).bind fun b31 =>
  if b31 ≤ (0 : Int32) then
  (m_X9_findGroups_187 N v1 σ30 v3_23)
  else
  ((zrd 1100 (σ30.2.1 20) v3_23).bind fun b40 =>
  (zrd 10 (σ30.2.1 13) v1).bind fun b41 =>
  if b40 < b41 then
  (m_X9_findGroups_187 N v1 σ30 v3_23)
  else
  (m_X9_findGroups_188 N v1 σ30 v3_23 (1 : Int32))))
def m_X9_findGroups (N : Nat) (σ : zS) (v1 : Int32) : Option zS :=
  (some (zsI σ 5 (0 : Int32))).bind fun σ1 =>
  (m_X9_findKeys N σ1 v1).bind fun σ2 =>
  (ziter (fun q : zS × Int32 × Int32 => m_X9_findGroups_L20 N v1 (σ2.1 4) q.1 q.2.1 q.2.2) N (σ2, (0 : Int32), (0 : Int32))).bind (fun y : zS × Int32 => m_X9_findGroups_115 N v1 y.1 y.2)
def m_X9_isGroup (N : Nat) (σ : zS) (v1 : Int32) (v2 : Int32) : Option (Int32 × zS) :=
  (m_X9_isFacet N σ v1).bind fun b1 =>
  if b1 = (0 : Int32) then
  (some ((0 : Int32), σ))
  else
  ((m_X9_findGroups N σ v1).bind fun σ3 =>
  (m_X9_within N σ3 v2 (0 : Int32) ((σ3.1 4) - (1 : Int32))).bind fun b4 =>
  (zcz b4).bind fun b5 =>
  some (b5, σ3))
def m_X9_groups (N : Nat) (σ : zS) (v1 : Int32) : Option (Int32 × zS) :=
  (m_X9_isFacet N σ v1).bind fun b1 =>
  if b1 = (0 : Int32) then
  (some ((-2000000001 : Int32), σ))
  else
  ((m_X9_findGroups N σ v1).bind fun σ3 =>
  some ((σ3.1 4), σ3))
def m_X9_group (N : Nat) (σ : zS) (v1 : Int32) (v2 : Int32) (v3 : Int32) : Option (Int32 × zS) :=
  (m_X9_isGroup N σ v1 v2).bind fun p2 =>
  if p2.1 = (0 : Int32) then
  (some ((-2000000001 : Int32), p2.2))
  else
  ((m_X9_within N p2.2 v3 (0 : Int32) (2 : Int32)).bind fun b5 =>
  if b5 = (0 : Int32) then
  (some ((-2000000001 : Int32), p2.2))
  else
  (if v3 = (0 : Int32) then
  ((zrd 1100 (p2.2.2.1 19) v2).bind fun b12 =>
  some (b12, p2.2))
  else
  (if v3 = (1 : Int32) then
  ((zrd 1100 (p2.2.2.1 20) v2).bind fun b11 =>
  some (b11, p2.2))
  else
  (if (p2.2.1 5) = (0 : Int32) then
  (some ((0 : Int32), p2.2))
  else
  (if v2 = ((p2.2.1 4) - (1 : Int32)) then
  (some ((1 : Int32), p2.2))
  else
  (some ((0 : Int32), p2.2)))))))
def m_X9_find_35_in18 (N : Nat) (v1 : Int32) (v2 : Int32) (σ4 : zS) (v3_6 : Int32) (x0_6 : Int32) (x1_6 : Int32) (x2_6 : Int32) : Option ((Int32) ⊕ ((Int32) ⊕ (Unit))) :=
  if (x1_6 - x2_6) ≤ x0_6 then
  (some (.inr (.inr ())))
  else
  ((zrd 1100 (σ4.2.1 19) v3_6).bind fun b8 =>
  if b8 = v2 then
  (some (.inr (.inl v3_6)))
  else
  (some (.inl (v3_6 + (1 : Int32)))))
def m_X9_find_L18 (N : Nat) (v1 : Int32) (v2 : Int32) (σ4 : zS) (v3_4 : Int32) : Option ((Int32) ⊕ ((Int32) ⊕ (Unit))) :=
  if (σ4.1 5) = (0 : Int32) then
  (m_X9_find_35_in18 N v1 v2 σ4 v3_4 v3_4 (σ4.1 4) (0 : Int32))
  else
  (m_X9_find_35_in18 N v1 v2 σ4 v3_4 v3_4 (σ4.1 4) (1 : Int32))
def m_X9_find_49 (N : Nat) (v1 : Int32) (v2 : Int32) (σ12 : zS) (v3_12 : Int32) : Option (Int32 × zS) :=
  some (v3_12, σ12)
def m_X9_find_57 (N : Nat) (v1 : Int32) (v2 : Int32) (σ14 : zS) : Option (Int32 × zS) :=
  some ((-2000000000 : Int32), σ14)
def m_X9_find (N : Nat) (σ : zS) (v1 : Int32) (v2 : Int32) : Option (Int32 × zS) :=
  (m_X9_isFacet N σ v1).bind fun b1 =>
  if b1 = (0 : Int32) then
  (some ((-2000000001 : Int32), σ))
  else
  ((m_X9_findGroups N σ v1).bind fun σ3 =>
  (ziter (fun q : Int32 => m_X9_find_L18 N v1 v2 σ3 q) N (0 : Int32)).bind (Sum.elim (fun y : Int32 => m_X9_find_49 N v1 v2 σ3 y) (fun _ => m_X9_find_57 N v1 v2 σ3)))
def m_X9_in (N : Nat) (σ : zS) (v1 : Int32) (v2 : Int32) (v3 : Int32) : Option (Int32 × zS) :=
  (m_X9_isObject N σ v3).bind fun b1 =>
  if b1 = (0 : Int32) then
  (some ((-2000000001 : Int32), σ))
  else
  ((m_X9_isGroup N σ v1 v2).bind fun p4 =>
  if p4.1 = (0 : Int32) then
  (some ((-2000000001 : Int32), p4.2))
  else
  ((m_X9_isIn N p4.2 v1 v2 v3).bind fun b7 =>
  if b7 = (0 : Int32) then
  (some ((0 : Int32), p4.2))
  else
  (some ((1 : Int32), p4.2))))
def m_X9_hand_26_in4 (N : Nat) (σ : zS) (v2_5 : Int32) (x0_5 : Int32) (x1_5 : Int32) : Option ((Int32 × Int32) ⊕ (Int32)) :=
  some (.inl ((x0_5 + x1_5), (v2_5 + (1 : Int32))))
def m_X9_hand_L4 (N : Nat) (σ : zS) (v1_1 : Int32) (v2_1 : Int32) : Option ((Int32 × Int32) ⊕ (Int32)) :=
  if (σ.1 0) ≤ v2_1 then
  (some (.inr v1_1))
  else
  ((m_X9_atHand N σ v2_1).bind fun b3 =>
  if b3 = (0 : Int32) then
  (m_X9_hand_26_in4 N σ v2_1 v1_1 (0 : Int32))
  else
  (m_X9_hand_26_in4 N σ v2_1 v1_1 (1 : Int32)))
def m_X9_hand_34 (N : Nat) (σ : zS) (v1_8 : Int32) : Option Int32 :=
  some v1_8
def m_X9_hand (N : Nat) (σ : zS)  : Option Int32 :=
  (ziter (fun q : Int32 × Int32 => m_X9_hand_L4 N σ q.1 q.2) N ((0 : Int32), (0 : Int32))).bind (fun y : Int32 => m_X9_hand_34 N σ y)
def m_X9_enter_L26 (N : Nat) (v1 : Int32) (v2 : Int32) (σ6 : zS) (v3_6 : Int32) : Option ((zS × Int32) ⊕ (zS)) :=
  if (σ6.1 0) ≤ v3_6 then
  (some (.inr σ6))
  else
  ((m_X9_isIn N σ6 v1 v2 v3_6).bind fun b8 =>
  (zcz b8).bind fun b9 =>
  (zwA 120 23 σ6 v3_6 b9).bind fun σ10 =>
  some (.inl (σ10, (v3_6 + (1 : Int32)))))
def m_X9_enter_L55 (N : Nat) (v1 : Int32) (v2 : Int32) (σ14 : zS) (v3_14 : Int32) : Option ((zS × Int32) ⊕ (zS)) :=
  if (σ14.1 0) ≤ v3_14 then
  (some (.inr σ14))
  else
  ((zrd 120 (σ14.2.1 23) v3_14).bind fun b16 =>
  (zcz b16).bind fun b17 =>
  (zwA 840 17 σ14 (((120 : Int32) * (σ14.1 2)) + v3_14) b17).bind fun σ18 =>
  some (.inl (σ18, (v3_14 + (1 : Int32)))))
def m_X9_enter_89 (N : Nat) (v1 : Int32) (v2 : Int32) (σ21 : zS) : Option (Int32 × zS) :=
  (some (zsI σ21 2 ((σ21.1 2) + (1 : Int32)))).bind fun σ22 =>
  (m_X9_hand N σ22 ).bind fun b23 =>
  some (b23, σ22)
def m_X9_enter_53 (N : Nat) (v1 : Int32) (v2 : Int32) (σ13 : zS) : Option (Int32 × zS) :=
  (ziter (fun q : zS × Int32 => m_X9_enter_L55 N v1 v2 q.1 q.2) N (σ13, (0 : Int32))).bind (fun y : zS => m_X9_enter_89 N v1 v2 y)
def m_X9_enter (N : Nat) (σ : zS) (v1 : Int32) (v2 : Int32) : Option (Int32 × zS) :=
  (m_X9_isGroup N σ v1 v2).bind fun p2 =>
  if p2.1 = (0 : Int32) then
  (some ((-2000000001 : Int32), p2.2))
  else
  (if (p2.2.1 2) = (6 : Int32) then
  (some ((-2000000003 : Int32), p2.2))
  else
  ((ziter (fun q : zS × Int32 => m_X9_enter_L26 N v1 v2 q.1 q.2) N (p2.2, (0 : Int32))).bind (fun y : zS => m_X9_enter_53 N v1 v2 y)))
def m_X9_leave (N : Nat) (σ : zS)  : Option (Int32 × zS) :=
  if (σ.1 2) = (0 : Int32) then
  (some ((-2000000002 : Int32), σ))
  else
  ((some (zsI σ 2 ((σ.1 2) - (1 : Int32)))).bind fun σ2 =>
  some ((σ2.1 2), σ2))
def m_X9_lay_L5 (N : Nat) (v1 : Int32) (σ1 : zS) (v2_1 : Int32) : Option ((zS × Int32) ⊕ (zS × Int32)) :=
  if v2_1 ≤ (0 : Int32) then
  (some (.inr (σ1, v2_1)))
  else
  ((zrd 360 (σ1.2.1 24) (v2_1 - (1 : Int32))).bind fun b3 =>
  if b3 ≤ v1 then
  (some (.inr (σ1, v2_1)))
  else
  ((zrd 360 (σ1.2.1 24) (v2_1 - (1 : Int32))).bind fun b5 =>
  (zwA 360 24 σ1 v2_1 b5).bind fun σ6 =>
  some (.inl (σ6, (v2_1 + (-1 : Int32))))))
def m_X9_lay_41 (N : Nat) (v1 : Int32) (σ9 : zS) (v2_9 : Int32) : Option zS :=
  (zwA 360 24 σ9 v2_9 v1).bind fun σ10 =>
  (some (zsI σ10 6 ((σ10.1 6) + (1 : Int32)))).bind fun σ11 =>
  some σ11
def m_X9_lay (N : Nat) (σ : zS) (v1 : Int32) : Option zS :=
  (ziter (fun q : zS × Int32 => m_X9_lay_L5 N v1 q.1 q.2) N (σ, (σ.1 6))).bind (fun y : zS × Int32 => m_X9_lay_41 N v1 y.1 y.2)
def m_X9_findRow_L62 (N : Nat) (v1 : Int32) (v2 : Int32) (v3 : Int32) (v4_9 : Int32) (v5_9 : Int32) (σ9 : zS) (v6_9 : Int32) : Option ((zS × Int32) ⊕ (zS)) :=
  (zrd 720 (σ9.2.1 0) (((6 : Int32) * v4_9) + v3)).bind fun b10 =>
  if b10 ≤ v6_9 then
  (some (.inr σ9))
  else
  (if v5_9 = (0 : Int32) then
  (some (.inr σ9))
  else
  ((zrd 2160 (σ9.2.1 1) (((3 : Int32) * (((6 : Int32) * v4_9) + v3)) + v6_9)).bind fun b13 =>
  (m_X9_lay N σ9 b13).bind fun σ14 =>
  some (.inl (σ14, (v6_9 + (1 : Int32))))))
def m_X9_findRow_111_in25 (N : Nat) (v1 : Int32) (v2 : Int32) (v3 : Int32) (σ17 : zS) (v4_17 : Int32) : Option ((zS × Int32) ⊕ (zS)) :=
  some (.inl (σ17, (v4_17 + (1 : Int32))))
def m_X9_findRow_57_in25 (N : Nat) (v1 : Int32) (v2 : Int32) (v3 : Int32) (σ8 : zS) (v4_8 : Int32) (x0_8 : Int32) : Option ((zS × Int32) ⊕ (zS)) :=
  (ziter (fun q : zS × Int32 => m_X9_findRow_L62 N v1 v2 v3 v4_8 x0_8 q.1 q.2) N (σ8, (0 : Int32))).bind (fun y : zS => m_X9_findRow_111_in25 N v1 v2 v3 y v4_8)
def m_X9_findRow_L25 (N : Nat) (v1 : Int32) (v2 : Int32) (v3 : Int32) (σ4 : zS) (v4_4 : Int32) : Option ((zS × Int32) ⊕ (zS)) :=
  if (σ4.1 0) ≤ v4_4 then
  (some (.inr σ4))
  else
  (if v2 = (-2000000000 : Int32) then
  ((m_X9_atHand N σ4 v4_4).bind fun b19 =>
  m_X9_findRow_57_in25 N v1 v2 v3 σ4 v4_4 b19)
  else
  ((m_X9_isIn N σ4 v1 v2 v4_4).bind fun b7 =>
  m_X9_findRow_57_in25 N v1 v2 v3 σ4 v4_4 b7))
def m_X9_findRow_117 (N : Nat) (v1 : Int32) (v2 : Int32) (v3 : Int32) (σ22 : zS) : Option (Int32 × zS) :=
  some ((1 : Int32), σ22)
def m_X9_findRow_17 (N : Nat) (v1 : Int32) (v2 : Int32) (v3 : Int32) (σ2 : zS) : Option (Int32 × zS) :=
  (some (zsI σ2 6 (0 : Int32))).bind fun σ3 =>
  (ziter (fun q : zS × Int32 => m_X9_findRow_L25 N v1 v2 v3 q.1 q.2) N (σ3, (0 : Int32))).bind (fun y : zS => m_X9_findRow_117 N v1 v2 v3 y)
def m_X9_findRow (N : Nat) (σ : zS) (v1 : Int32) (v2 : Int32) (v3 : Int32) : Option (Int32 × zS) :=
  if v2 = (-2000000000 : Int32) then
  (m_X9_findRow_17 N v1 v2 v3 σ)
  else
  ((m_X9_isGroup N σ v1 v2).bind fun p25 =>
  if p25.1 = (0 : Int32) then
  (some ((0 : Int32), p25.2))
  else
  (m_X9_findRow_17 N v1 v2 v3 p25.2))
def m_X9_figure_93_in40 (N : Nat) (v1 : Int32) (v2 : Int32) (v3 : Int32) (v4 : Int32) (σ9 : zS) (v5_14 : Int64) (v8_14 : Int32) (x0_14 : Int32) (x1_14 : Int32) : Option ((Int64 × Int32 × Int32) ⊕ (Int64 × Int32)) :=
  some (.inl (v5_14, (x0_14 + x1_14), (v8_14 + (1 : Int32))))
def m_X9_figure_88_in40 (N : Nat) (v1 : Int32) (v2 : Int32) (v3 : Int32) (v4 : Int32) (σ9 : zS) (v5_13 : Int64) (v8_13 : Int32) (x0_13 : Int32) : Option ((Int64 × Int32 × Int32) ⊕ (Int64 × Int32)) :=
  m_X9_figure_93_in40 N v1 v2 v3 v4 σ9 v5_13 v8_13 x0_13 (1 : Int32)
def m_X9_figure_L40 (N : Nat) (v1 : Int32) (v2 : Int32) (v3 : Int32) (v4 : Int32) (σ9 : zS) (v5_9 : Int64) (v7_9 : Int32) (v8_9 : Int32) : Option ((Int64 × Int32 × Int32) ⊕ (Int64 × Int32)) :=
  if (σ9.1 6) ≤ v8_9 then
  (some (.inr (v5_9, v7_9)))
  else
  ((zrd 360 (σ9.2.1 24) v8_9).bind fun b11 =>
  if v8_9 = (0 : Int32) then
  (m_X9_figure_88_in40 N v1 v2 v3 v4 σ9 (v5_9 + b11.toInt64) v8_9 v7_9)
  else
  ((zrd 360 (σ9.2.1 24) v8_9).bind fun b15 =>
  (zrd 360 (σ9.2.1 24) (v8_9 - (1 : Int32))).bind fun b16 =>
  if b15 = b16 then
  (m_X9_figure_93_in40 N v1 v2 v3 v4 σ9 (v5_9 + b11.toInt64) v8_9 v7_9 (0 : Int32))
  else
  (m_X9_figure_88_in40 N v1 v2 v3 v4 σ9 (v5_9 + b11.toInt64) v8_9 v7_9)))
def m_X9_figure_102 (N : Nat) (v1 : Int32) (v2 : Int32) (v3 : Int32) (v4 : Int32) (σ20 : zS) (v5_20 : Int64) (v7_20 : Int32) : Option (Int64 × zS) :=
  if v4 = (0 : Int32) then
  (some ((σ20.1 6).toInt64, σ20))
  else
  (if v4 = (1 : Int32) then
  (some (v5_20, σ20))
  else
  (if v4 = (4 : Int32) then
  (some (v7_20.toInt64, σ20))
  else
  (if (σ20.1 6) = (0 : Int32) then
  (some ((-2000000000 : Int64), σ20))
  else
  (if v4 = (2 : Int32) then
  ((zrd 360 (σ20.2.1 24) (0 : Int32)).bind fun b27 =>
  some (b27.toInt64, σ20))
  else
  ((zrd 360 (σ20.2.1 24) ((σ20.1 6) - (1 : Int32))).bind fun b26 =>
  some (b26.toInt64, σ20))))))
def m_X9_figure (N : Nat) (σ : zS) (v1 : Int32) (v2 : Int32) (v3 : Int32) (v4 : Int32) : Option (Int64 × zS) :=
  (m_X9_isColumn N σ v3).bind fun b1 =>
  if b1 = (0 : Int32) then
  (some ((-2000000001 : Int64), σ))
  else
  ((m_X9_within N σ v4 (0 : Int32) (4 : Int32)).bind fun b3 =>
  if b3 = (0 : Int32) then
  (some ((-2000000001 : Int64), σ))
  else
  ((m_X9_findRow N σ v1 v2 v3).bind fun p6 =>
  if p6.1 = (0 : Int32) then
  (some ((-2000000001 : Int64), p6.2))
  else
  ((ziter (fun q : Int64 × Int32 × Int32 => m_X9_figure_L40 N v1 v2 v3 v4 p6.2 q.1 q.2.1 q.2.2) N ((0 : Int64), (0 : Int32), (0 : Int32))).bind (fun y : Int64 × Int32 => m_X9_figure_102 N v1 v2 v3 v4 p6.2 y.1 y.2))))
def m_X9_place (N : Nat) (σ : zS) (v1 : Int32) (v2 : Int32) (v3 : Int32) (v4 : Int32) : Option (Int32 × zS) :=
  (m_X9_isColumn N σ v3).bind fun b1 =>
  if b1 = (0 : Int32) then
  (some ((-2000000001 : Int32), σ))
  else
  ((m_X9_within N σ v4 (0 : Int32) (100 : Int32)).bind fun b3 =>
  if b3 = (0 : Int32) then
  (some ((-2000000001 : Int32), σ))
  else
  ((m_X9_findRow N σ v1 v2 v3).bind fun p6 =>
  if p6.1 = (0 : Int32) then
  (some ((-2000000001 : Int32), p6.2))
  else
  (if (p6.2.1 6) = (0 : Int32) then
  (some ((-2000000000 : Int32), p6.2))
  else
  (if (((v4 * (p6.2.1 6)) + (99 : Int32)) / (100 : Int32)) = (0 : Int32) then
  ((zrd 360 (p6.2.2.1 24) (0 : Int32)).bind fun b12 =>
  some (b12, p6.2))
  else
  ((zrd 360 (p6.2.2.1 24) ((((v4 * (p6.2.1 6)) + (99 : Int32)) / (100 : Int32)) - (1 : Int32))).bind fun b11 =>
  some (b11, p6.2))))))
def m_X9_told_27_in4 (N : Nat) (σ : zS) (v1 : Int32) (v3_5 : Int32) (x0_5 : Int32) (x1_5 : Int32) : Option ((Int32 × Int32) ⊕ (Int32)) :=
  some (.inl ((x0_5 + x1_5), (v3_5 + (1 : Int32))))
def m_X9_told_L4 (N : Nat) (σ : zS) (v1 : Int32) (v2_1 : Int32) (v3_1 : Int32) : Option ((Int32 × Int32) ⊕ (Int32)) :=
  if (σ.1 0) ≤ v3_1 then
  (some (.inr v2_1))
  else
  ((zrd 120 (σ.2.1 2) v3_1).bind fun b3 =>
  if b3 = (0 : Int32) then
  (m_X9_told_27_in4 N σ v1 v3_1 v2_1 (0 : Int32))
  else
  (m_X9_told_27_in4 N σ v1 v3_1 v2_1 (1 : Int32)))
def m_X9_told_35 (N : Nat) (σ : zS) (v1 : Int32) (v2_8 : Int32) : Option Int32 :=
  if v1 = (0 : Int32) then
  (some (σ.1 0))
  else
  (if v1 = (1 : Int32) then
  (some v2_8)
  else
  (if v1 = (2 : Int32) then
  (some (σ.1 1))
  else
  (if v1 = (3 : Int32) then
  (some (σ.1 2))
  else
  (some (-2000000001 : Int32)))))
def m_X9_told (N : Nat) (σ : zS) (v1 : Int32) : Option Int32 :=
  (ziter (fun q : Int32 × Int32 => m_X9_told_L4 N σ v1 q.1 q.2) N ((0 : Int32), (0 : Int32))).bind (fun y : Int32 => m_X9_told_35 N σ v1 y)
