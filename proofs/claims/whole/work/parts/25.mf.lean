def m_X8_leaveAll (N : Nat) (σ : zS)  : Option zS :=
  (m_X3_widenWholly N σ ).bind fun σ1 =>
  (some (zsI σ1 1 (-2000000000 : Int32))).bind fun σ2 =>
  some σ2
def m_X8_object (N : Nat) (σ : zS)  : Option (Int32 × zS) :=
  if (σ.1 2) < (120 : Int32) then
  ((m_X8_leaveAll N σ ).bind fun σ2 =>
  (m_X6_addObject N σ2 ).bind fun p4 =>
  some (p4.1, p4.2))
  else
  (some ((-2000000003 : Int32), σ))
def m_X8_isColumn (N : Nat) (σ : zS) (v0 : Int32) : Option Int32 :=
  if v0 < (0 : Int32) then
  (some (0 : Int32))
  else
  (if (6 : Int32) ≤ v0 then
  (some (0 : Int32))
  else
  (some (1 : Int32)))
def m_X8_isValue (N : Nat) (σ : zS) (v0 : Int32) : Option Int32 :=
  if v0 < (-1000000000 : Int32) then
  (some (0 : Int32))
  else
  (if (1000000000 : Int32) < v0 then
  (some (0 : Int32))
  else
  (some (1 : Int32)))
def m_X8_value (N : Nat) (σ : zS) (v1 : Int32) (v2 : Int32) (v3 : Int32) : Option (Int32 × zS) :=
  (m_X6_has N σ v1).bind fun b1 =>
  if b1 = (0 : Int32) then
  (some ((-2000000001 : Int32), σ))
  else
  ((m_X8_isColumn N σ v2).bind fun b3 =>
  if b3 = (0 : Int32) then
  (some ((-2000000001 : Int32), σ))
  else
  ((m_X8_isValue N σ v3).bind fun b5 =>
  if b5 = (0 : Int32) then
  (some ((-2000000001 : Int32), σ))
  else
  ((m_X6_valueCount N σ v1 v2).bind fun b7 =>
  if b7 < (3 : Int32) then
  ((m_X8_leaveAll N σ ).bind fun σ9 =>
  (m_X6_addValue N σ9 v1 v2 v3).bind fun p11 =>
  some (p11.1, p11.2))
  else
  (some ((-2000000003 : Int32), σ)))))
def m_X8_match (N : Nat) (σ : zS) (v1 : Int32) (v2 : Int32) : Option (Int32 × zS) :=
  (m_X6_has N σ v1).bind fun b1 =>
  if b1 = (0 : Int32) then
  (some ((-2000000001 : Int32), σ))
  else
  ((m_X8_leaveAll N σ ).bind fun σ3 =>
  (zrd 120 (σ3.2.1 0) v1).bind fun b4 =>
  (zcz v2).bind fun b5 =>
  (zwA 120 0 σ3 v1 b5).bind fun σ6 =>
  if b4 = (0 : Int32) then
  (some ((0 : Int32), σ6))
  else
  (some ((1 : Int32), σ6)))
def m_X8_clear (N : Nat) (σ : zS)  : Option (Int32 × zS) :=
  (m_X8_leaveAll N σ ).bind fun σ1 =>
  (some (zsI σ1 2 (0 : Int32))).bind fun σ2 =>
  (some (zsI σ2 0 (0 : Int32))).bind fun σ3 =>
  some ((σ.1 2), σ3)
def m_X8_facet_66 (N : Nat) (v1 : Int32) (v2 : Int32) (v3 : Int32) (v4 : Int32) (σ8 : zS) : Option (Int32 × zS) :=
  if (σ8.1 0) < (10 : Int32) then
  ((m_X8_leaveAll N σ8 ).bind fun σ10 =>
  (zrd 10 (fun n => n) (σ10.1 0)).bind fun k11 =>
  (m_X1_startOver N σ10 k11 v1 v2 v3 v4).bind fun σ12 =>
  (some (zsI σ12 0 ((σ12.1 0) + (1 : Int32)))).bind fun σ13 =>
  some (((σ13.1 0) - (1 : Int32)), σ13))
  else
  (some ((-2000000003 : Int32), σ8))
def m_X8_facet_49 (N : Nat) (v1 : Int32) (v2 : Int32) (v3 : Int32) (v4 : Int32) (σ6 : zS) : Option (Int32 × zS) :=
  if v1 = (4 : Int32) then
  (if v3 < (0 : Int32) then
  (some ((-2000000001 : Int32), σ6))
  else
  (if v3 ≤ (4 : Int32) then
  (m_X8_facet_66 N v1 v2 v3 v4 σ6)
  else
  (some ((-2000000001 : Int32), σ6))))
  else
  (m_X8_facet_66 N v1 v2 v3 v4 σ6)
def m_X8_facet (N : Nat) (σ : zS) (v1 : Int32) (v2 : Int32) (v3 : Int32) (v4 : Int32) : Option (Int32 × zS) :=
  if v1 < (0 : Int32) then
  (some ((-2000000001 : Int32), σ))
  else
  (if (4 : Int32) < v1 then
  (some ((-2000000001 : Int32), σ))
  else
  ((m_X8_isColumn N σ v2).bind fun b3 =>
  if b3 = (0 : Int32) then
  (some ((-2000000001 : Int32), σ))
  else
  (if v1 = (3 : Int32) then
  (if v3 < (1 : Int32) then
  (some ((-2000000001 : Int32), σ))
  else
  (if (1000000 : Int32) < v3 then
  (some ((-2000000001 : Int32), σ))
  else
  (if v4 < (0 : Int32) then
  (some ((-2000000001 : Int32), σ))
  else
  (if v4 < v3 then
  (m_X8_facet_49 N v1 v2 v3 v4 σ)
  else
  (some ((-2000000001 : Int32), σ))))))
  else
  (m_X8_facet_49 N v1 v2 v3 v4 σ))))
def m_X8_range (N : Nat) (σ : zS) (v1 : Int32) (v2 : Int32) (v3 : Int32) : Option (Int32 × zS) :=
  (m_X8_facetAt N σ v1).bind fun o1 =>
  o1.elim
  (some ((-2000000001 : Int32), σ))
  (fun k2 => (m_X8_isValue N σ v2).bind fun b3 =>
  if b3 = (0 : Int32) then
  (some ((-2000000001 : Int32), σ))
  else
  ((m_X8_isValue N σ v3).bind fun b5 =>
  if b5 = (0 : Int32) then
  (some ((-2000000001 : Int32), σ))
  else
  (if v2 ≤ v3 then
  (if (σ.1 (8 + 12 * k2)) = (2 : Int32) then
  (if (σ.1 (19 + 12 * k2)) < (6 : Int32) then
  ((m_X8_leaveAll N σ ).bind fun σ10 =>
  (m_X1_addRange N σ10 k2 v2 v3).bind fun p12 =>
  some (p12.1, p12.2))
  else
  (some ((-2000000003 : Int32), σ)))
  else
  (some ((-2000000002 : Int32), σ)))
  else
  (some ((-2000000001 : Int32), σ)))))
def m_X8_filter_53 (N : Nat) (v1 : Int32) (v2 : Int32) (v3 : Int32) (v4 : Int32) (σ7 : zS) (k5_7 : Nat) (x0_7 : Int32) : Option (Int32 × zS) :=
  (some (zsI σ7 (12 + 12 * k5_7) v2)).bind fun σ8 =>
  (some (zsI σ8 (13 + 12 * k5_7) v3)).bind fun σ9 =>
  (some (zsI σ9 (14 + 12 * k5_7) v4)).bind fun σ10 =>
  some (x0_7, σ10)
def m_X8_filter_34 (N : Nat) (v1 : Int32) (v2 : Int32) (v3 : Int32) (v4 : Int32) (σ4 : zS) (k5_4 : Nat) : Option (Int32 × zS) :=
  (m_X8_leaveAll N σ4 ).bind fun σ5 =>
  if (σ5.1 (12 + 12 * k5_4)) = (-2000000000 : Int32) then
  (m_X8_filter_53 N v1 v2 v3 v4 σ5 k5_4 (0 : Int32))
  else
  (m_X8_filter_53 N v1 v2 v3 v4 σ5 k5_4 (1 : Int32))
def m_X8_filter (N : Nat) (σ : zS) (v1 : Int32) (v2 : Int32) (v3 : Int32) (v4 : Int32) : Option (Int32 × zS) :=
  (m_X8_facetAt N σ v1).bind fun o1 =>
  o1.elim
  (some ((-2000000001 : Int32), σ))
  (fun k2 => if v2 = (-2000000000 : Int32) then
  (m_X8_filter_34 N v1 v2 v3 v4 σ k2)
  else
  ((m_X8_isColumn N σ v2).bind fun b11 =>
  if b11 = (0 : Int32) then
  (some ((-2000000001 : Int32), σ))
  else
  (if v3 ≤ v4 then
  (m_X8_filter_34 N v1 v2 v3 v4 σ k2)
  else
  (some ((-2000000001 : Int32), σ)))))
def m_X8_least (N : Nat) (σ : zS) (v1 : Int32) (v2 : Int32) : Option (Int32 × zS) :=
  (m_X8_facetAt N σ v1).bind fun o1 =>
  o1.elim
  (some ((-2000000001 : Int32), σ))
  (fun k2 => if v2 < (0 : Int32) then
  (some ((-2000000001 : Int32), σ))
  else
  (if v2 ≤ (120 : Int32) then
  ((m_X8_leaveAll N σ ).bind fun σ5 =>
  (some (zsI σ5 (15 + 12 * k2) v2)).bind fun σ6 =>
  some ((σ5.1 (15 + 12 * k2)), σ6))
  else
  (some ((-2000000001 : Int32), σ))))
def m_X8_missing (N : Nat) (σ : zS) (v1 : Int32) (v2 : Int32) : Option (Int32 × zS) :=
  (m_X8_facetAt N σ v1).bind fun o1 =>
  o1.elim
  (some ((-2000000001 : Int32), σ))
  (fun k2 => (m_X8_leaveAll N σ ).bind fun σ3 =>
  (zcz v2).bind fun b4 =>
  (some (zsI σ3 (16 + 12 * k2) b4)).bind fun σ5 =>
  if (σ3.1 (16 + 12 * k2)) = (0 : Int32) then
  (some ((0 : Int32), σ5))
  else
  (some ((1 : Int32), σ5)))
def m_X8_order_36 (N : Nat) (v1 : Int32) (v2 : Int32) (v3 : Int32) (σ6 : zS) (k4_6 : Nat) : Option (Int32 × zS) :=
  (m_X8_leaveAll N σ6 ).bind fun σ7 =>
  (some (zsI σ7 (17 + 12 * k4_6) v2)).bind fun σ8 =>
  if v2 = (2 : Int32) then
  ((some (zsI σ8 (18 + 12 * k4_6) v3)).bind fun σ11 =>
  some ((σ7.1 (17 + 12 * k4_6)), σ11))
  else
  ((some (zsI σ8 (18 + 12 * k4_6) (0 : Int32))).bind fun σ10 =>
  some ((σ7.1 (17 + 12 * k4_6)), σ10))
def m_X8_order (N : Nat) (σ : zS) (v1 : Int32) (v2 : Int32) (v3 : Int32) : Option (Int32 × zS) :=
  (m_X8_facetAt N σ v1).bind fun o1 =>
  o1.elim
  (some ((-2000000001 : Int32), σ))
  (fun k2 => if v2 < (0 : Int32) then
  (some ((-2000000001 : Int32), σ))
  else
  (if (2 : Int32) < v2 then
  (some ((-2000000001 : Int32), σ))
  else
  (if v2 = (2 : Int32) then
  ((m_X8_isColumn N σ v3).bind fun b12 =>
  if b12 = (0 : Int32) then
  (some ((-2000000001 : Int32), σ))
  else
  (m_X8_order_36 N v1 v2 v3 σ k2))
  else
  (m_X8_order_36 N v1 v2 v3 σ k2))))
def m_X8_groupsOf_59n2 (N : Nat) (v1 : Int32) (σ2 : zS) : Option ((Option Nat) × zS) :=
  some ((none : Option Nat), σ2)
def m_X8_groupsOf_59 (N : Nat) (v1 : Int32) (σ5 : zS) (k2_5 : Nat) : Option ((Option Nat) × zS) :=
  some ((some 4), σ5)
def m_X8_groupsOf (N : Nat) (σ : zS) (v1 : Int32) : Option ((Option Nat) × zS) :=
  (m_X8_facetAt N σ v1).bind fun o1 =>
  o1.elim
  (m_X8_groupsOf_59n2 N v1 σ)
  (fun k3 => if (σ.1 1) = v1 then
  (m_X8_groupsOf_59 N v1 σ k3)
  else
  ((m_X2_gather N σ k3).bind fun σ6 =>
  (m_X2_cut N σ6 k3).bind fun σ7 =>
  (m_X2_rank N σ7 k3).bind fun σ8 =>
  (some (zsI σ8 1 v1)).bind fun σ9 =>
  m_X8_groupsOf_59 N v1 σ9 k3))
def m_X8_groups (N : Nat) (σ : zS) (v1 : Int32) : Option (Int32 × zS) :=
  (m_X8_groupsOf N σ v1).bind fun p2 =>
  p2.1.elim
  (some ((-2000000001 : Int32), p2.2))
  (fun k4 => some ((p2.2.1 5), p2.2))
def m_X8_group (N : Nat) (σ : zS) (v1 : Int32) (v2 : Int32) (v3 : Int32) : Option (Int32 × zS) :=
  (m_X8_groupsOf N σ v1).bind fun p2 =>
  p2.1.elim
  (some ((-2000000001 : Int32), p2.2))
  (fun k4 => (m_X2_has N p2.2 v2).bind fun b5 =>
  if b5 = (0 : Int32) then
  (some ((-2000000001 : Int32), p2.2))
  else
  (if v3 = (0 : Int32) then
  ((m_X2_keyOf N p2.2 v2).bind fun b8 =>
  some (b8, p2.2))
  else
  if v3 = (1 : Int32) then
  ((m_X2_sizeOf N p2.2 v2).bind fun b10 =>
  some (b10, p2.2))
  else
  if v3 = (2 : Int32) then
  ((m_X2_isMissing N p2.2 v2).bind fun b12 =>
  if b12 = (0 : Int32) then
  (some ((0 : Int32), p2.2))
  else
  (some ((1 : Int32), p2.2)))
  else
  (some ((-2000000001 : Int32), p2.2))))
def m_X8_find (N : Nat) (σ : zS) (v1 : Int32) (v2 : Int32) : Option (Int32 × zS) :=
  (m_X8_groupsOf N σ v1).bind fun p2 =>
  p2.1.elim
  (some ((-2000000001 : Int32), p2.2))
  (fun k4 => (m_X2_numberOf N p2.2 v2).bind fun b5 =>
  some (b5, p2.2))
def m_X8_in (N : Nat) (σ : zS) (v1 : Int32) (v2 : Int32) (v3 : Int32) : Option (Int32 × zS) :=
  (m_X8_groupsOf N σ v1).bind fun p2 =>
  p2.1.elim
  (some ((-2000000001 : Int32), p2.2))
  (fun k4 => (m_X2_has N p2.2 v2).bind fun b5 =>
  if b5 = (0 : Int32) then
  (some ((-2000000001 : Int32), p2.2))
  else
  ((m_X6_has N p2.2 v3).bind fun b7 =>
  if b7 = (0 : Int32) then
  (some ((-2000000001 : Int32), p2.2))
  else
  ((m_X2_holds N p2.2 v2 v3).bind fun b9 =>
  if b9 = (0 : Int32) then
  (some ((0 : Int32), p2.2))
  else
  (some ((1 : Int32), p2.2)))))
def m_X8_enter_L53 (N : Nat) (v1 : Int32) (v2 : Int32) (v4_10 : Int32) (σ10 : zS) (v5_10 : Int32) : Option ((zS × Int32) ⊕ (zS)) :=
  if v4_10 ≤ v5_10 then
  (some (.inr σ10))
  else
  ((m_X2_memberOf N σ10 v2 v5_10).bind fun b12 =>
  (m_X3_keep N σ10 b12).bind fun σ13 =>
  some (.inl (σ13, (v5_10 + (1 : Int32)))))
def m_X8_enter_80 (N : Nat) (v1 : Int32) (v2 : Int32) (σ16 : zS) (v4_16 : Int32) : Option (Int32 × zS) :=
  (some (zsI σ16 1 (-2000000000 : Int32))).bind fun σ17 =>
  some (v4_16, σ17)
def m_X8_enter (N : Nat) (σ : zS) (v1 : Int32) (v2 : Int32) : Option (Int32 × zS) :=
  (m_X8_groupsOf N σ v1).bind fun p2 =>
  p2.1.elim
  (some ((-2000000001 : Int32), p2.2))
  (fun k4 => (m_X2_has N p2.2 v2).bind fun b5 =>
  if b5 = (0 : Int32) then
  (some ((-2000000001 : Int32), p2.2))
  else
  (if (p2.2.1 3) < (6 : Int32) then
  ((m_X2_sizeOf N p2.2 v2).bind fun b8 =>
  (m_X3_startNarrowing N p2.2 ).bind fun σ9 =>
  (ziter (fun q : zS × Int32 => m_X8_enter_L53 N v1 v2 b8 q.1 q.2) N (σ9, (0 : Int32))).bind (fun y : zS => m_X8_enter_80 N v1 v2 y b8))
  else
  (some ((-2000000003 : Int32), p2.2))))
def m_X8_leave (N : Nat) (σ : zS)  : Option (Int32 × zS) :=
  if (σ.1 3) = (0 : Int32) then
  (some ((-2000000002 : Int32), σ))
  else
  ((m_X3_widen N σ ).bind fun σ2 =>
  (some (zsI σ2 1 (-2000000000 : Int32))).bind fun σ3 =>
  some ((σ3.1 3), σ3))
def m_X8_hand_29_in4 (N : Nat) (σ : zS) (v1_5 : Int32) (v2_5 : Int32) : Option ((Int32 × Int32) ⊕ (Int32)) :=
  some (.inl (v1_5, (v2_5 + (1 : Int32))))
def m_X8_hand_L4 (N : Nat) (σ : zS) (v1_1 : Int32) (v2_1 : Int32) : Option ((Int32 × Int32) ⊕ (Int32)) :=
  if (σ.1 2) ≤ v2_1 then
  (some (.inr v1_1))
  else
  ((m_X3_has N σ v2_1).bind fun b3 =>
  if b3 = (0 : Int32) then
  (m_X8_hand_29_in4 N σ v1_1 v2_1)
  else
  (m_X8_hand_29_in4 N σ (v1_1 + (1 : Int32)) v2_1))
def m_X8_hand_35 (N : Nat) (σ : zS) (v1_8 : Int32) : Option Int32 :=
  some v1_8
def m_X8_hand (N : Nat) (σ : zS)  : Option Int32 :=
  (ziter (fun q : Int32 × Int32 => m_X8_hand_L4 N σ q.1 q.2) N ((0 : Int32), (0 : Int32))).bind (fun y : Int32 => m_X8_hand_35 N σ y)
def m_X8_sampleIsTaken_L105 (N : Nat) (v1 : Int32) (v2 : Int32) (v3 : Int32) (v5_12 : Int32) (σ12 : zS) (v6_12 : Int32) : Option ((zS × Int32) ⊕ (zS)) :=
  if v5_12 ≤ v6_12 then
  (some (.inr σ12))
  else
  ((m_X2_memberOf N σ12 v2 v6_12).bind fun b14 =>
  (m_X7_take N σ12 b14 v3).bind fun σ15 =>
  some (.inl (σ15, (v6_12 + (1 : Int32)))))
def m_X8_sampleIsTaken_138 (N : Nat) (v1 : Int32) (v2 : Int32) (v3 : Int32) (σ18 : zS) : Option (Int32 × zS) :=
  some ((1 : Int32), σ18)
def m_X8_sampleIsTaken_63_in25 (N : Nat) (v1 : Int32) (v2 : Int32) (v3 : Int32) (σ24 : zS) (v4_24 : Int32) : Option ((zS × Int32) ⊕ (zS)) :=
  some (.inl (σ24, (v4_24 + (1 : Int32))))
def m_X8_sampleIsTaken_L25 (N : Nat) (v1 : Int32) (v2 : Int32) (v3 : Int32) (σ20 : zS) (v4_20 : Int32) : Option ((zS × Int32) ⊕ (zS)) :=
  if (σ20.1 2) ≤ v4_20 then
  (some (.inr σ20))
  else
  ((m_X3_has N σ20 v4_20).bind fun b22 =>
  if b22 = (0 : Int32) then
  (m_X8_sampleIsTaken_63_in25 N v1 v2 v3 σ20 v4_20)
  else
  ((m_X7_take N σ20 v4_20 v3).bind fun σ25 =>
  m_X8_sampleIsTaken_63_in25 N v1 v2 v3 σ25 v4_20))
def m_X8_sampleIsTaken_69 (N : Nat) (v1 : Int32) (v2 : Int32) (v3 : Int32) (σ28 : zS) : Option (Int32 × zS) :=
  some ((1 : Int32), σ28)
def m_X8_sampleIsTaken (N : Nat) (σ : zS) (v1 : Int32) (v2 : Int32) (v3 : Int32) : Option (Int32 × zS) :=
  (m_X8_isColumn N σ v3).bind fun b1 =>
  if b1 = (0 : Int32) then
  (some ((0 : Int32), σ))
  else
  ((m_X7_startOver N σ ).bind fun σ3 =>
  if v2 = (-2000000000 : Int32) then
  ((ziter (fun q : zS × Int32 => m_X8_sampleIsTaken_L25 N v1 v2 v3 q.1 q.2) N (σ3, (0 : Int32))).bind (fun y : zS => m_X8_sampleIsTaken_69 N v1 v2 v3 y))
  else
  ((m_X8_groupsOf N σ3 v1).bind fun p6 =>
  p6.1.elim
  (some ((0 : Int32), p6.2))
  (fun k8 => (m_X2_has N p6.2 v2).bind fun b9 =>
  if b9 = (0 : Int32) then
  (some ((0 : Int32), p6.2))
  else
  ((m_X2_sizeOf N p6.2 v2).bind fun b11 =>
  (ziter (fun q : zS × Int32 => m_X8_sampleIsTaken_L105 N v1 v2 v3 b11 q.1 q.2) N (p6.2, (0 : Int32))).bind (fun y : zS => m_X8_sampleIsTaken_138 N v1 v2 v3 y)))))
def m_X8_figure (N : Nat) (σ : zS) (v1 : Int32) (v2 : Int32) (v3 : Int32) (v4 : Int32) : Option (Int64 × zS) :=
  (m_X8_sampleIsTaken N σ v1 v2 v3).bind fun p2 =>
  if p2.1 = (0 : Int32) then
  (some ((-2000000001 : Int64), p2.2))
  else
  ((m_X7_tell N p2.2 v4).bind fun p6 =>
  some (p6.1, p6.2))
def m_X8_place (N : Nat) (σ : zS) (v1 : Int32) (v2 : Int32) (v3 : Int32) (v4 : Int32) : Option (Int32 × zS) :=
  if v4 < (0 : Int32) then
  (some ((-2000000001 : Int32), σ))
  else
  (if (100 : Int32) < v4 then
  (some ((-2000000001 : Int32), σ))
  else
  ((m_X8_sampleIsTaken N σ v1 v2 v3).bind fun p4 =>
  if p4.1 = (0 : Int32) then
  (some ((-2000000001 : Int32), p4.2))
  else
  ((m_X7_atPercent N p4.2 v4).bind fun p8 =>
  some (p8.1, p8.2))))
def m_X8_told (N : Nat) (σ : zS) (v1 : Int32) : Option Int32 :=
  if v1 = (0 : Int32) then
  (some (σ.1 2))
  else
  if v1 = (1 : Int32) then
  ((m_X6_matching N σ ).bind fun b3 =>
  some b3)
  else
  if v1 = (2 : Int32) then
  (some (σ.1 0))
  else
  if v1 = (3 : Int32) then
  (some (σ.1 3))
  else
  (some (-2000000001 : Int32))
