noncomputable def fX3_isPrivateLink (v1 : Int32) (n_privates : (Nat → Int32)) : Option (Int32) :=
  if v1 < (16 : Int32) then
  some (0 : Int32)
  else
  if (32 : Int32) ≤ v1 then
  some (0 : Int32)
  else
  gd (vp_in (v1 - (16 : Int32)) 16) (
  if (n_privates (v1 - (16 : Int32)).toNatClampNeg) = (1 : Int32) then
  some (1 : Int32)
  else
  some (0 : Int32))
noncomputable def fX3_isPrivateOf (v1 : Int32) (v2 : Int32) (n_areas : (Nat → Int32)) (n_firsts : (Nat → Int32)) (n_privates : (Nat → Int32)) : Option (Int32) :=
  gd (vp_in v1 16) (
  if (n_privates (v1).toNatClampNeg) = (1 : Int32) then
  gd (vp_in v1 16) (
  gd (vp_in (n_firsts (v1).toNatClampNeg) 10) (
  if (n_areas (n_firsts (v1).toNatClampNeg).toNatClampNeg) = v2 then
  some (1 : Int32)
  else
  some (0 : Int32)))
  else
  some (0 : Int32))
noncomputable def fX3_owner (v1 : Int32) (n_areas : (Nat → Int32)) (n_firsts : (Nat → Int32)) : Option (Int32) :=
  gd (vp_in v1 16) (
  gd (vp_in (n_firsts (v1).toNatClampNeg) 10) (
  some (n_areas (n_firsts (v1).toNatClampNeg).toNatClampNeg)))
noncomputable def uX3_isEnd_20  : Option (Int32) :=
  some (1 : Int32)
noncomputable def fX3_isEnd (v1 : Int32) (v2 : Int32) (n_firsts : (Nat → Int32)) (n_seconds : (Nat → Int32)) : Option (Int32) :=
  gd (vp_in v2 16) (
  if (n_firsts (v2).toNatClampNeg) = v1 then
  uX3_isEnd_20 
  else
  gd (vp_in v2 16) (
  if (n_seconds (v2).toNatClampNeg) = v1 then
  uX3_isEnd_20 
  else
  some (0 : Int32)))
noncomputable def fX3_isUp (v1 : Int32) (n_truth : (Nat → Int32)) : Option (Int32) :=
  gd (vp_in v1 35) (
  (fX0_state (n_truth (v1).toNatClampNeg)).bind (fun y2 =>
  if y2 = (1 : Int32) then
  some (1 : Int32)
  else
  some (0 : Int32)))
noncomputable def uX3_ownersOpenTo_37 (v3 : Int32) (v4 : Int32) : Option ((Int32 × Int32) ⊕ (Int32)) :=
  nm (v4 + (1 : Int32)) (fun w6 =>
  some (.inl (v3, w6)))
noncomputable def sX3_ownersOpenTo_7 (v0 : Int32) (v2 : Int32) (w_f : (Nat → Int32)) (nw : Nat) (v3 : Int32) (v4 : Int32) : Option ((Int32 × Int32) ⊕ (Int32)) :=
  if (4 : Int32) ≤ v4 then
  oi (some v3)
  else
  (fX6_grantItem v4 v0).bind (fun y3 =>
  gd (vp_in (v2 + y3) nw) (
  (fX0_state (w_f (v2 + y3).toNatClampNeg)).bind (fun y5 =>
  if y5 = (1 : Int32) then
  nm (v3 ||| ((1 : Int32) <<< (v4 &&& 31))) (fun w7 =>
  uX3_ownersOpenTo_37 w7 v4)
  else
  uX3_ownersOpenTo_37 v3 v4)))
noncomputable abbrev lX3_ownersOpenTo_7 (v0 : Int32) (v2 : Int32) (w_f : (Nat → Int32)) (nw : Nat) (v3 : Int32) (v4 : Int32) : Option (Int32) :=
  wh (fun b : Int32 × Int32 => sX3_ownersOpenTo_7 v0 v2 w_f nw b.1 b.2) (v3, v4)
noncomputable def fX3_ownersOpenTo (v0 : Int32) (v2 : Int32) (w_f : (Nat → Int32)) (nw : Nat) : Option (Int32) :=
  nm ((1 : Int32) <<< (v0 &&& 31)) (fun w1 =>
  lX3_ownersOpenTo_7 v0 v2 w_f nw w1 (0 : Int32))
noncomputable def fX3_entitlements (v1 : Int32) (n_truth : (Nat → Int32)) : Option (Int32) :=
  (fX3_ownersOpenTo v1 (0 : Int32) n_truth 35).bind (fun y1 =>
  some y1)
noncomputable def fX3_disclosures (v1 : Int32) (v2 : Int32) (n_facts : (Nat → Int32)) : Option (Int32) :=
  (fX6_place v1 (0 : Int32)).bind (fun y1 =>
  (fX3_ownersOpenTo v2 y1 n_facts 350).bind (fun y2 =>
  some y2))
noncomputable def fX3_has (v0 : Int32) (v1 : Int32) : Option (Int32) :=
  if ((v0 >>> (v1 &&& 31)) &&& (1 : Int32)) = (1 : Int32) then
  some (1 : Int32)
  else
  some (0 : Int32)
noncomputable def fX3_isNews (v1 : Int32) (v2 : Int32) (n_news : (Nat → Int64)) : Option (Int32) :=
  gd (vp_in v1 10) (
  if (lg_cmp (((n_news (v1).toNatClampNeg) >>> ((v2).toInt64 &&& 63)) &&& (1 : Int64)) (1 : Int64)) = 0 then
  some (1 : Int32)
  else
  some (0 : Int32))
noncomputable def sX3_isQuiet_2 (n_nodes : Int32) (n_news : (Nat → Int64)) (v1 : Int32) : Option ((Int32) ⊕ (Int32)) :=
  if n_nodes ≤ v1 then
  oi (some (1 : Int32))
  else
  gd (vp_in v1 10) (
  if (lg_cmp (n_news (v1).toNatClampNeg) (0 : Int64)) = 0 then
  nm (v1 + (1 : Int32)) (fun w3 =>
  some (.inl w3))
  else
  oi (some (0 : Int32)))
noncomputable abbrev lX3_isQuiet_2 (n_nodes : Int32) (n_news : (Nat → Int64)) (v1 : Int32) : Option (Int32) :=
  wh (fun b : Int32 => sX3_isQuiet_2 n_nodes n_news b) v1
noncomputable def fX3_isQuiet (n_nodes : Int32) (n_news : (Nat → Int64)) : Option (Int32) :=
  lX3_isQuiet_2 n_nodes n_news (0 : Int32)
noncomputable def sX3_countGrants_4 (n_truth : (Nat → Int32)) (v1 : Int32) (v2 : Int32) : Option ((Int32 × Int32) ⊕ (Int32)) :=
  if (16 : Int32) ≤ v2 then
  oi (some v1)
  else
  gd (vp_in v2 35) (
  (fX0_state (n_truth (v2).toNatClampNeg)).bind (fun y3 =>
  nm (v1 + y3) (fun w4 =>
  nm (v2 + (1 : Int32)) (fun w5 =>
  some (.inl (w4, w5))))))
noncomputable abbrev lX3_countGrants_4 (n_truth : (Nat → Int32)) (v1 : Int32) (v2 : Int32) : Option (Int32) :=
  wh (fun b : Int32 × Int32 => sX3_countGrants_4 n_truth b.1 b.2) (v1, v2)
noncomputable def fX3_countGrants (n_truth : (Nat → Int32)) : Option (Int32) :=
  lX3_countGrants_4 n_truth (0 : Int32) (0 : Int32)
noncomputable def uX3_countFacts_26 (v2 : Int32) (v3 : Int32) : Option ((Int32 × Int32) ⊕ (Int32)) :=
  nm (v3 + (1 : Int32)) (fun w4 =>
  some (.inl (v2, w4)))
noncomputable def sX3_countFacts_4 (v1 : Int32) (n_facts : (Nat → Int32)) (v2 : Int32) (v3 : Int32) : Option ((Int32 × Int32) ⊕ (Int32)) :=
  if (35 : Int32) ≤ v3 then
  oi (some v2)
  else
  (fX6_place v1 v3).bind (fun y2 =>
  gd (vp_in y2 350) (
  if (n_facts (y2).toNatClampNeg) = 0 then
  uX3_countFacts_26 v2 v3
  else
  nm (v2 + (1 : Int32)) (fun w5 =>
  uX3_countFacts_26 w5 v3)))
noncomputable abbrev lX3_countFacts_4 (v1 : Int32) (n_facts : (Nat → Int32)) (v2 : Int32) (v3 : Int32) : Option (Int32) :=
  wh (fun b : Int32 × Int32 => sX3_countFacts_4 v1 n_facts b.1 b.2) (v2, v3)
noncomputable def fX3_countFacts (v1 : Int32) (n_facts : (Nat → Int32)) : Option (Int32) :=
  lX3_countFacts_4 v1 n_facts (0 : Int32) (0 : Int32)
noncomputable def fX3_isHidden (v1 : Int32) (v2 : Int32) (n_areas : (Nat → Int32)) (n_firsts : (Nat → Int32)) (n_seconds : (Nat → Int32)) (n_privates : (Nat → Int32)) (n_truth : (Nat → Int32)) : Option (Int32) :=
  (fX3_isPrivateLink v2 n_privates).bind (fun y1 =>
  if y1 = 0 then
  some (0 : Int32)
  else
  nm (v2 - (16 : Int32)) (fun w2 =>
  (fX3_isEnd v1 w2 n_firsts n_seconds).bind (fun y3 =>
  if y3 = 0 then
  gd (vp_in v1 10) (
  (fX3_entitlements (n_areas (v1).toNatClampNeg) n_truth).bind (fun y5 =>
  (fX3_owner w2 n_areas n_firsts).bind (fun y6 =>
  (fX3_has y5 y6).bind (fun y7 =>
  if y7 = 0 then
  some (1 : Int32)
  else
  some (0 : Int32)))))
  else
  some (0 : Int32))))
noncomputable def uX3_countBehind_59 (v2 : Int32) (v3 : Int32) : Option ((Int32 × Int32) ⊕ (Int32)) :=
  nm (v3 + (1 : Int32)) (fun w7 =>
  some (.inl (v2, w7)))
noncomputable def uX3_countBehind_40 (v1 : Int32) (v2 : Int32) (v3 : Int32) (k0 : Int32) (n_areas : (Nat → Int32)) (n_firsts : (Nat → Int32)) (n_seconds : (Nat → Int32)) (n_privates : (Nat → Int32)) (n_truth : (Nat → Int32)) : Option ((Int32 × Int32) ⊕ (Int32)) :=
  if k0 = 0 then
  uX3_countBehind_59 v2 v3
  else
  (fX3_isHidden v1 v3 n_areas n_firsts n_seconds n_privates n_truth).bind (fun y8 =>
  if y8 = 0 then
  nm (v2 + (1 : Int32)) (fun w9 =>
  uX3_countBehind_59 w9 v3)
  else
  uX3_countBehind_59 v2 v3)
noncomputable def sX3_countBehind_4 (v1 : Int32) (n_areas : (Nat → Int32)) (n_firsts : (Nat → Int32)) (n_seconds : (Nat → Int32)) (n_privates : (Nat → Int32)) (n_truth : (Nat → Int32)) (n_facts : (Nat → Int32)) (v2 : Int32) (v3 : Int32) : Option ((Int32 × Int32) ⊕ (Int32)) :=
  if (35 : Int32) ≤ v3 then
  oi (some v2)
  else
  gd (vp_in v3 35) (
  (fX0_version (n_truth (v3).toNatClampNeg)).bind (fun y3 =>
  (fX6_place v1 v3).bind (fun y4 =>
  gd (vp_in y4 350) (
  (fX0_version (n_facts (y4).toNatClampNeg)).bind (fun y6 =>
  if y3 ≤ y6 then
  uX3_countBehind_40 v1 v2 v3 (0 : Int32) n_areas n_firsts n_seconds n_privates n_truth
  else
  uX3_countBehind_40 v1 v2 v3 (1 : Int32) n_areas n_firsts n_seconds n_privates n_truth)))))
noncomputable abbrev lX3_countBehind_4 (v1 : Int32) (n_areas : (Nat → Int32)) (n_firsts : (Nat → Int32)) (n_seconds : (Nat → Int32)) (n_privates : (Nat → Int32)) (n_truth : (Nat → Int32)) (n_facts : (Nat → Int32)) (v2 : Int32) (v3 : Int32) : Option (Int32) :=
  wh (fun b : Int32 × Int32 => sX3_countBehind_4 v1 n_areas n_firsts n_seconds n_privates n_truth n_facts b.1 b.2) (v2, v3)
noncomputable def fX3_countBehind (v1 : Int32) (n_areas : (Nat → Int32)) (n_firsts : (Nat → Int32)) (n_seconds : (Nat → Int32)) (n_privates : (Nat → Int32)) (n_truth : (Nat → Int32)) (n_facts : (Nat → Int32)) : Option (Int32) :=
  lX3_countBehind_4 v1 n_areas n_firsts n_seconds n_privates n_truth n_facts (0 : Int32) (0 : Int32)
noncomputable def uX3_countSecrets_36 (v2 : Int32) (v3 : Int32) : Option ((Int32 × Int32) ⊕ (Int32)) :=
  nm (v3 + (1 : Int32)) (fun w4 =>
  some (.inl (v2, w4)))
noncomputable def sX3_countSecrets_5 (v1 : Int32) (n_areas : (Nat → Int32)) (n_firsts : (Nat → Int32)) (n_seconds : (Nat → Int32)) (n_privates : (Nat → Int32)) (n_truth : (Nat → Int32)) (n_facts : (Nat → Int32)) (v2 : Int32) (v3 : Int32) : Option ((Int32 × Int32) ⊕ (Int32)) :=
  if (32 : Int32) ≤ v3 then
  oi (some v2)
  else
  (fX6_place v1 v3).bind (fun y2 =>
  gd (vp_in y2 350) (
  if (n_facts (y2).toNatClampNeg) = 0 then
  uX3_countSecrets_36 v2 v3
  else
  (fX3_isHidden v1 v3 n_areas n_firsts n_seconds n_privates n_truth).bind (fun y5 =>
  if y5 = 0 then
  uX3_countSecrets_36 v2 v3
  else
  nm (v2 + (1 : Int32)) (fun w6 =>
  uX3_countSecrets_36 w6 v3))))
noncomputable abbrev lX3_countSecrets_5 (v1 : Int32) (n_areas : (Nat → Int32)) (n_firsts : (Nat → Int32)) (n_seconds : (Nat → Int32)) (n_privates : (Nat → Int32)) (n_truth : (Nat → Int32)) (n_facts : (Nat → Int32)) (v2 : Int32) (v3 : Int32) : Option (Int32) :=
  wh (fun b : Int32 × Int32 => sX3_countSecrets_5 v1 n_areas n_firsts n_seconds n_privates n_truth n_facts b.1 b.2) (v2, v3)
noncomputable def fX3_countSecrets (v1 : Int32) (n_areas : (Nat → Int32)) (n_firsts : (Nat → Int32)) (n_seconds : (Nat → Int32)) (n_privates : (Nat → Int32)) (n_truth : (Nat → Int32)) (n_facts : (Nat → Int32)) : Option (Int32) :=
  lX3_countSecrets_5 v1 n_areas n_firsts n_seconds n_privates n_truth n_facts (0 : Int32) (16 : Int32)
noncomputable def uX3_mayKnow_73  : Option (Int32) :=
  some (1 : Int32)
noncomputable def fX3_mayKnow (v1 : Int32) (v2 : Int32) (n_areas : (Nat → Int32)) (n_firsts : (Nat → Int32)) (n_seconds : (Nat → Int32)) (n_privates : (Nat → Int32)) (n_facts : (Nat → Int32)) : Option (Int32) :=
  (fX3_isPrivateLink v2 n_privates).bind (fun y1 =>
  if y1 = 0 then
  some (1 : Int32)
  else
  nm (v2 - (16 : Int32)) (fun w2 =>
  (fX3_owner w2 n_areas n_firsts).bind (fun y3 =>
  gd (vp_in v1 10) (
  (fX6_grantItem y3 (n_areas (v1).toNatClampNeg)).bind (fun y5 =>
  (fX3_isEnd v1 w2 n_firsts n_seconds).bind (fun y6 =>
  if y6 = 0 then
  gd (vp_in v1 10) (
  if (n_areas (v1).toNatClampNeg) = y3 then
  uX3_mayKnow_73 
  else
  (fX6_place v1 y5).bind (fun y8 =>
  gd (vp_in y8 350) (
  (fX0_state (n_facts (y8).toNatClampNeg)).bind (fun y10 =>
  if y10 = (1 : Int32) then
  uX3_mayKnow_73 
  else
  some (0 : Int32)))))
  else
  uX3_mayKnow_73 ))))))
noncomputable def uX3_makeAllNews_33 (v2 : Int32) (n_news : (Nat → Int64)) : Option ((Int32 × (Nat → Int64)) ⊕ ((Nat → Int64))) :=
  nm (v2 + (1 : Int32)) (fun w4 =>
  some (.inl (w4, n_news)))
noncomputable def sX3_makeAllNews_2 (v1 : Int32) (n_facts : (Nat → Int32)) (v2 : Int32) (n_news : (Nat → Int64)) : Option ((Int32 × (Nat → Int64)) ⊕ ((Nat → Int64))) :=
  if (35 : Int32) ≤ v2 then
  oi (some n_news)
  else
  (fX6_place v1 v2).bind (fun y2 =>
  gd (vp_in y2 350) (
  if (n_facts (y2).toNatClampNeg) = 0 then
  uX3_makeAllNews_33 v2 n_news
  else
  gd (vp_in v1 10) (
  gd (vp_in v1 10) (
  uX3_makeAllNews_33 v2 (vp_updL n_news (v1).toNatClampNeg ((n_news (v1).toNatClampNeg) ||| ((1 : Int64) <<< ((v2).toInt64 &&& 63))))))))
noncomputable abbrev lX3_makeAllNews_2 (v1 : Int32) (n_facts : (Nat → Int32)) (v2 : Int32) (n_news : (Nat → Int64)) : Option ((Nat → Int64)) :=
  wh (fun b : Int32 × (Nat → Int64) => sX3_makeAllNews_2 v1 n_facts b.1 b.2) (v2, n_news)
noncomputable def fX3_makeAllNews (v1 : Int32) (n_facts : (Nat → Int32)) (n_news : (Nat → Int64)) : Option ((Nat → Int64)) :=
  lX3_makeAllNews_2 v1 n_facts (0 : Int32) n_news
noncomputable def uX3_makePrivateLinksNews_52 (v3 : Int32) (n_news : (Nat → Int64)) : Option ((Int32 × (Nat → Int64)) ⊕ ((Nat → Int64))) :=
  nm (v3 + (1 : Int32)) (fun w4 =>
  some (.inl (w4, n_news)))
noncomputable def sX3_makePrivateLinksNews_2 (v1 : Int32) (v2 : Int32) (n_links : Int32) (n_areas : (Nat → Int32)) (n_firsts : (Nat → Int32)) (n_privates : (Nat → Int32)) (n_facts : (Nat → Int32)) (v3 : Int32) (n_news : (Nat → Int64)) : Option ((Int32 × (Nat → Int64)) ⊕ ((Nat → Int64))) :=
  if n_links ≤ v3 then
  oi (some n_news)
  else
  nm ((16 : Int32) + v3) (fun w2 =>
  (fX3_isPrivateOf v3 v2 n_areas n_firsts n_privates).bind (fun y3 =>
  if y3 = 0 then
  uX3_makePrivateLinksNews_52 v3 n_news
  else
  (fX6_place v1 w2).bind (fun y5 =>
  gd (vp_in y5 350) (
  if (n_facts (y5).toNatClampNeg) = 0 then
  uX3_makePrivateLinksNews_52 v3 n_news
  else
  gd (vp_in v1 10) (
  gd (vp_in v1 10) (
  uX3_makePrivateLinksNews_52 v3 (vp_updL n_news (v1).toNatClampNeg ((n_news (v1).toNatClampNeg) ||| ((1 : Int64) <<< ((w2).toInt64 &&& 63))))))))))
noncomputable abbrev lX3_makePrivateLinksNews_2 (v1 : Int32) (v2 : Int32) (n_links : Int32) (n_areas : (Nat → Int32)) (n_firsts : (Nat → Int32)) (n_privates : (Nat → Int32)) (n_facts : (Nat → Int32)) (v3 : Int32) (n_news : (Nat → Int64)) : Option ((Nat → Int64)) :=
  wh (fun b : Int32 × (Nat → Int64) => sX3_makePrivateLinksNews_2 v1 v2 n_links n_areas n_firsts n_privates n_facts b.1 b.2) (v3, n_news)
noncomputable def fX3_makePrivateLinksNews (v1 : Int32) (v2 : Int32) (n_links : Int32) (n_areas : (Nat → Int32)) (n_firsts : (Nat → Int32)) (n_privates : (Nat → Int32)) (n_facts : (Nat → Int32)) (n_news : (Nat → Int64)) : Option ((Nat → Int64)) :=
  lX3_makePrivateLinksNews_2 v1 v2 n_links n_areas n_firsts n_privates n_facts (0 : Int32) n_news
noncomputable def uX3_forgetPrivateLinks_63 (v3 : Int32) (n_facts : (Nat → Int32)) (n_news : (Nat → Int64)) : Option ((Int32 × (Nat → Int32) × (Nat → Int64)) ⊕ ((Nat → Int32) × (Nat → Int64))) :=
  nm (v3 + (1 : Int32)) (fun w4 =>
  some (.inl (w4, n_facts, n_news)))
noncomputable def sX3_forgetPrivateLinks_2 (v1 : Int32) (v2 : Int32) (n_links : Int32) (n_areas : (Nat → Int32)) (n_firsts : (Nat → Int32)) (n_seconds : (Nat → Int32)) (n_privates : (Nat → Int32)) (v3 : Int32) (n_facts : (Nat → Int32)) (n_news : (Nat → Int64)) : Option ((Int32 × (Nat → Int32) × (Nat → Int64)) ⊕ ((Nat → Int32) × (Nat → Int64))) :=
  if n_links ≤ v3 then
  oi (some (n_facts, n_news))
  else
  nm ((16 : Int32) + v3) (fun w2 =>
  (fX3_isPrivateOf v3 v2 n_areas n_firsts n_privates).bind (fun y3 =>
  if y3 = 0 then
  uX3_forgetPrivateLinks_63 v3 n_facts n_news
  else
  (fX3_isEnd v1 v3 n_firsts n_seconds).bind (fun y5 =>
  if y5 = 0 then
  (fX6_place v1 w2).bind (fun y6 =>
  gd (vp_in y6 350) (
  gd (vp_in v1 10) (
  gd (vp_in v1 10) (
  uX3_forgetPrivateLinks_63 v3 (upd n_facts (y6).toNatClampNeg (0 : Int32)) (vp_updL n_news (v1).toNatClampNeg ((n_news (v1).toNatClampNeg) &&& (((1 : Int64) <<< ((w2).toInt64 &&& 63)) ^^^ (-1 : Int64))))))))
  else
  uX3_forgetPrivateLinks_63 v3 n_facts n_news)))
noncomputable abbrev lX3_forgetPrivateLinks_2 (v1 : Int32) (v2 : Int32) (n_links : Int32) (n_areas : (Nat → Int32)) (n_firsts : (Nat → Int32)) (n_seconds : (Nat → Int32)) (n_privates : (Nat → Int32)) (v3 : Int32) (n_facts : (Nat → Int32)) (n_news : (Nat → Int64)) : Option ((Nat → Int32) × (Nat → Int64)) :=
  wh (fun b : Int32 × (Nat → Int32) × (Nat → Int64) => sX3_forgetPrivateLinks_2 v1 v2 n_links n_areas n_firsts n_seconds n_privates b.1 b.2.1 b.2.2) (v3, n_facts, n_news)
noncomputable def fX3_forgetPrivateLinks (v1 : Int32) (v2 : Int32) (n_links : Int32) (n_areas : (Nat → Int32)) (n_firsts : (Nat → Int32)) (n_seconds : (Nat → Int32)) (n_privates : (Nat → Int32)) (n_facts : (Nat → Int32)) (n_news : (Nat → Int64)) : Option ((Nat → Int32) × (Nat → Int64)) :=
  lX3_forgetPrivateLinks_2 v1 v2 n_links n_areas n_firsts n_seconds n_privates (0 : Int32) n_facts n_news
noncomputable def fX3_learn (v1 : Int32) (v2 : Int32) (v3 : Int32) (n_links : Int32) (n_areas : (Nat → Int32)) (n_firsts : (Nat → Int32)) (n_seconds : (Nat → Int32)) (n_privates : (Nat → Int32)) (n_facts : (Nat → Int32)) (n_news : (Nat → Int64)) : Option ((Nat → Int32) × (Nat → Int64)) :=
  (fX6_place v1 v2).bind (fun y1 =>
  (fX3_mayKnow v1 v2 n_areas n_firsts n_seconds n_privates n_facts).bind (fun y2 =>
  if y2 = 0 then
  some (n_facts, n_news)
  else
  gd (vp_in y1 350) (
  (fX0_version (n_facts (y1).toNatClampNeg)).bind (fun y4 =>
  (fX0_version v3).bind (fun y5 =>
  if y4 < y5 then
  gd (vp_in y1 350) (
  gd (vp_in v1 10) (
  gd (vp_in v1 10) (
  if (16 : Int32) ≤ v2 then
  some (upd n_facts (y1).toNatClampNeg v3, vp_updL n_news (v1).toNatClampNeg ((n_news (v1).toNatClampNeg) ||| ((1 : Int64) <<< ((v2).toInt64 &&& 63))))
  else
  (fX0_state v3).bind (fun y9 =>
  if y9 = (1 : Int32) then
  (fX6_grantOwner v2).bind (fun y14 =>
  (fX3_makePrivateLinksNews v1 y14 n_links n_areas n_firsts n_privates (upd n_facts (y1).toNatClampNeg v3) (vp_updL n_news (v1).toNatClampNeg ((n_news (v1).toNatClampNeg) ||| ((1 : Int64) <<< ((v2).toInt64 &&& 63))))).bind (fun y15 =>
  some (upd n_facts (y1).toNatClampNeg v3, y15)))
  else
  (fX6_grantArea v2).bind (fun y10 =>
  gd (vp_in v1 10) (
  if y10 = (n_areas (v1).toNatClampNeg) then
  (fX6_grantOwner v2).bind (fun y12 =>
  (fX3_forgetPrivateLinks v1 y12 n_links n_areas n_firsts n_seconds n_privates (upd n_facts (y1).toNatClampNeg v3) (vp_updL n_news (v1).toNatClampNeg ((n_news (v1).toNatClampNeg) ||| ((1 : Int64) <<< ((v2).toInt64 &&& 63))))).bind (fun y13 =>
  some (y13.1, y13.2)))
  else
  some (upd n_facts (y1).toNatClampNeg v3, vp_updL n_news (v1).toNatClampNeg ((n_news (v1).toNatClampNeg) ||| ((1 : Int64) <<< ((v2).toInt64 &&& 63))))))))))
  else
  some (n_facts, n_news))))))
noncomputable def fX3_change (v1 : Int32) (v2 : Int32) (v3 : Int32) (n_truth : (Nat → Int32)) : Option (Int32 × (Nat → Int32)) :=
  gd (vp_in v1 35) (
  (fX0_version (n_truth (v1).toNatClampNeg)).bind (fun y2 =>
  nm (y2 + (1 : Int32)) (fun w3 =>
  (fX0_make w3 v2 v3).bind (fun y4 =>
  gd (vp_in v1 35) (
  some (w3, upd n_truth (v1).toNatClampNeg y4))))))
noncomputable def uX3_changeLink_29 (v1 : Int32) (v2 : Int32) (v3 : Int32) (v4 : Int32) (k0 : Int32) (n_links : Int32) (n_areas : (Nat → Int32)) (n_firsts : (Nat → Int32)) (n_seconds : (Nat → Int32)) (n_privates : (Nat → Int32)) (n_truth : (Nat → Int32)) (n_facts : (Nat → Int32)) (n_news : (Nat → Int64)) : Option (Int32 × (Nat → Int32) × (Nat → Int32) × (Nat → Int64)) :=
  (fX3_change v4 v2 v3 n_truth).bind (fun y2 =>
  gd (vp_in v1 16) (
  gd (vp_in v4 35) (
  (fX3_learn (n_firsts (v1).toNatClampNeg) v4 (y2.2 (v4).toNatClampNeg) n_links n_areas n_firsts n_seconds n_privates n_facts n_news).bind (fun y5 =>
  gd (vp_in v1 16) (
  gd (vp_in v4 35) (
  (fX3_learn (n_seconds (v1).toNatClampNeg) v4 (y2.2 (v4).toNatClampNeg) n_links n_areas n_firsts n_seconds n_privates y5.1 y5.2).bind (fun y8 =>
  if k0 = 0 then
  some (y2.1, y2.2, y8.1, y8.2)
  else
  gd (vp_in v1 16) (
  (fX3_makeAllNews (n_firsts (v1).toNatClampNeg) y8.1 y8.2).bind (fun y10 =>
  gd (vp_in v1 16) (
  (fX3_makeAllNews (n_seconds (v1).toNatClampNeg) y8.1 y10).bind (fun y12 =>
  some (y2.1, y2.2, y8.1, y12))))))))))))
noncomputable def uX3_changeLink_28 (v1 : Int32) (v2 : Int32) (v3 : Int32) (v4 : Int32) (n_links : Int32) (n_areas : (Nat → Int32)) (n_firsts : (Nat → Int32)) (n_seconds : (Nat → Int32)) (n_privates : (Nat → Int32)) (n_truth : (Nat → Int32)) (n_facts : (Nat → Int32)) (n_news : (Nat → Int64)) : Option (Int32 × (Nat → Int32) × (Nat → Int32) × (Nat → Int64)) :=
  uX3_changeLink_29 v1 v2 v3 v4 (0 : Int32) n_links n_areas n_firsts n_seconds n_privates n_truth n_facts n_news
noncomputable def fX3_changeLink (v1 : Int32) (v2 : Int32) (v3 : Int32) (n_links : Int32) (n_areas : (Nat → Int32)) (n_firsts : (Nat → Int32)) (n_seconds : (Nat → Int32)) (n_privates : (Nat → Int32)) (n_truth : (Nat → Int32)) (n_facts : (Nat → Int32)) (n_news : (Nat → Int64)) : Option (Int32 × (Nat → Int32) × (Nat → Int32) × (Nat → Int64)) :=
  nm ((16 : Int32) + v1) (fun w1 =>
  if v2 = (1 : Int32) then
  gd (vp_in w1 35) (
  (fX0_state (n_truth (w1).toNatClampNeg)).bind (fun y14 =>
  if y14 = 0 then
  uX3_changeLink_29 v1 v2 v3 w1 (1 : Int32) n_links n_areas n_firsts n_seconds n_privates n_truth n_facts n_news
  else
  uX3_changeLink_28 v1 v2 v3 w1 n_links n_areas n_firsts n_seconds n_privates n_truth n_facts n_news))
  else
  uX3_changeLink_28 v1 v2 v3 w1 n_links n_areas n_firsts n_seconds n_privates n_truth n_facts n_news)
noncomputable def fX3_createLink (v1 : Int32) (v2 : Int32) (v3 : Int32) (v4 : Int32) (n_links : Int32) (n_areas : (Nat → Int32)) (n_firsts : (Nat → Int32)) (n_seconds : (Nat → Int32)) (n_privates : (Nat → Int32)) (n_truth : (Nat → Int32)) (n_facts : (Nat → Int32)) (n_news : (Nat → Int64)) : Option (Int32 × Int32 × (Nat → Int32) × (Nat → Int32) × (Nat → Int32) × (Nat → Int32) × (Nat → Int32) × (Nat → Int64)) :=
  gd (vp_in n_links 16) (
  gd (vp_in n_links 16) (
  gd (vp_in n_links 16) (
  (fX3_changeLink n_links (1 : Int32) v3 (n_links + (1 : Int32)) n_areas (upd n_firsts (n_links).toNatClampNeg v1) (upd n_seconds (n_links).toNatClampNeg v2) (upd n_privates (n_links).toNatClampNeg v4) n_truth n_facts n_news).bind (fun y4 =>
  some (n_links, n_links + (1 : Int32), upd n_firsts (n_links).toNatClampNeg v1, upd n_seconds (n_links).toNatClampNeg v2, upd n_privates (n_links).toNatClampNeg v4, y4.2.1, y4.2.2.1, y4.2.2.2)))))
noncomputable def uX3_changeGrant_55 (v6 : Int32) (n_facts : (Nat → Int32)) (n_news : (Nat → Int64)) : Option ((Int32 × (Nat → Int32) × (Nat → Int64)) ⊕ (Int32 × (Nat → Int32) × (Nat → Int32) × (Nat → Int64))) :=
  nm (v6 + (1 : Int32)) (fun w5 =>
  some (.inl (w5, n_facts, n_news)))
noncomputable def sX3_changeGrant_20 (v1 : Int32) (v4 : Int32) (v5 : Int32) (n_nodes : Int32) (n_links : Int32) (n_areas : (Nat → Int32)) (n_firsts : (Nat → Int32)) (n_seconds : (Nat → Int32)) (n_privates : (Nat → Int32)) (n_truth : (Nat → Int32)) (v6 : Int32) (n_facts : (Nat → Int32)) (n_news : (Nat → Int64)) : Option ((Int32 × (Nat → Int32) × (Nat → Int64)) ⊕ (Int32 × (Nat → Int32) × (Nat → Int32) × (Nat → Int64))) :=
  if n_nodes ≤ v6 then
  oi (some (v5, n_truth, n_facts, n_news))
  else
  gd (vp_in v6 10) (
  if (n_areas (v6).toNatClampNeg) = v1 then
  gd (vp_in v4 35) (
  (fX3_learn v6 v4 (n_truth (v4).toNatClampNeg) n_links n_areas n_firsts n_seconds n_privates n_facts n_news).bind (fun y7 =>
  uX3_changeGrant_55 v6 y7.1 y7.2))
  else
  uX3_changeGrant_55 v6 n_facts n_news)
noncomputable abbrev lX3_changeGrant_20 (v1 : Int32) (v4 : Int32) (v5 : Int32) (n_nodes : Int32) (n_links : Int32) (n_areas : (Nat → Int32)) (n_firsts : (Nat → Int32)) (n_seconds : (Nat → Int32)) (n_privates : (Nat → Int32)) (n_truth : (Nat → Int32)) (v6 : Int32) (n_facts : (Nat → Int32)) (n_news : (Nat → Int64)) : Option (Int32 × (Nat → Int32) × (Nat → Int32) × (Nat → Int64)) :=
  wh (fun b : Int32 × (Nat → Int32) × (Nat → Int64) => sX3_changeGrant_20 v1 v4 v5 n_nodes n_links n_areas n_firsts n_seconds n_privates n_truth b.1 b.2.1 b.2.2) (v6, n_facts, n_news)
noncomputable def fX3_changeGrant (v1 : Int32) (v2 : Int32) (v3 : Int32) (n_nodes : Int32) (n_links : Int32) (n_areas : (Nat → Int32)) (n_firsts : (Nat → Int32)) (n_seconds : (Nat → Int32)) (n_privates : (Nat → Int32)) (n_truth : (Nat → Int32)) (n_facts : (Nat → Int32)) (n_news : (Nat → Int64)) : Option (Int32 × (Nat → Int32) × (Nat → Int32) × (Nat → Int64)) :=
  (fX6_grantItem v1 v2).bind (fun y1 =>
  (fX3_change y1 v3 (0 : Int32) n_truth).bind (fun y2 =>
  lX3_changeGrant_20 v1 y1 y2.1 n_nodes n_links n_areas n_firsts n_seconds n_privates y2.2 (0 : Int32) n_facts n_news))
noncomputable def fX3_changeTunnel (v1 : Int32) (v2 : Int32) (v3 : Int32) (n_links : Int32) (n_areas : (Nat → Int32)) (n_firsts : (Nat → Int32)) (n_seconds : (Nat → Int32)) (n_privates : (Nat → Int32)) (n_entries : (Nat → Int32)) (n_truth : (Nat → Int32)) (n_facts : (Nat → Int32)) (n_news : (Nat → Int64)) : Option (Int32 × (Nat → Int32) × (Nat → Int32) × (Nat → Int64)) :=
  nm ((32 : Int32) + v1) (fun w1 =>
  (fX3_change w1 v2 v3 n_truth).bind (fun y2 =>
  gd (vp_in v1 3) (
  gd (vp_in w1 35) (
  (fX3_learn (n_entries (v1).toNatClampNeg) w1 (y2.2 (w1).toNatClampNeg) n_links n_areas n_firsts n_seconds n_privates n_facts n_news).bind (fun y5 =>
  some (y2.1, y2.2, y5.1, y5.2))))))
noncomputable def fX3_createTunnel (v1 : Int32) (v2 : Int32) (v3 : Int32) (n_links : Int32) (n_tunnels : Int32) (n_areas : (Nat → Int32)) (n_firsts : (Nat → Int32)) (n_seconds : (Nat → Int32)) (n_privates : (Nat → Int32)) (n_entries : (Nat → Int32)) (n_exits : (Nat → Int32)) (n_truth : (Nat → Int32)) (n_facts : (Nat → Int32)) (n_news : (Nat → Int64)) : Option (Int32 × Int32 × (Nat → Int32) × (Nat → Int32) × (Nat → Int32) × (Nat → Int32) × (Nat → Int64)) :=
  gd (vp_in n_tunnels 3) (
  gd (vp_in n_tunnels 3) (
  (fX3_changeTunnel n_tunnels (1 : Int32) v3 n_links n_areas n_firsts n_seconds n_privates (upd n_entries (n_tunnels).toNatClampNeg v1) n_truth n_facts n_news).bind (fun y3 =>
  some (n_tunnels, n_tunnels + (1 : Int32), upd n_entries (n_tunnels).toNatClampNeg v1, upd n_exits (n_tunnels).toNatClampNeg v2, y3.2.1, y3.2.2.1, y3.2.2.2))))
noncomputable def fX3_createNode (v1 : Int32) (n_nodes : Int32) (n_areas : (Nat → Int32)) : Option (Int32 × Int32 × (Nat → Int32)) :=
  gd (vp_in n_nodes 10) (
  some ((n_nodes + (1 : Int32)) - (1 : Int32), n_nodes + (1 : Int32), upd n_areas (n_nodes).toNatClampNeg v1))
noncomputable def fX3_copyFrom (n_areas : (Nat → Int32)) (n_firsts : (Nat → Int32)) (n_seconds : (Nat → Int32)) (n_privates : (Nat → Int32)) (n_entries : (Nat → Int32)) (n_exits : (Nat → Int32)) (n_truth : (Nat → Int32)) (n_facts : (Nat → Int32)) (n_news : (Nat → Int64)) (k_nodes : Int32) (k_links : Int32) (k_tunnels : Int32) (k_messages : Int32) (k_areas : (Nat → Int32)) (k_firsts : (Nat → Int32)) (k_seconds : (Nat → Int32)) (k_privates : (Nat → Int32)) (k_entries : (Nat → Int32)) (k_exits : (Nat → Int32)) (k_truth : (Nat → Int32)) (k_facts : (Nat → Int32)) (k_news : (Nat → Int64)) : Option (Int32 × Int32 × Int32 × Int32 × (Nat → Int32) × (Nat → Int32) × (Nat → Int32) × (Nat → Int32) × (Nat → Int32) × (Nat → Int32) × (Nat → Int32) × (Nat → Int32) × (Nat → Int64)) :=
  some (k_nodes, k_links, k_tunnels, k_messages, va_cpy k_areas n_areas 0 0 10, va_cpy k_firsts n_firsts 0 0 16, va_cpy k_seconds n_seconds 0 0 16, va_cpy k_privates n_privates 0 0 16, va_cpy k_entries n_entries 0 0 3, va_cpy k_exits n_exits 0 0 3, va_cpy k_truth n_truth 0 0 35, va_cpy k_facts n_facts 0 0 350, va_cpy k_news n_news 0 0 10)
