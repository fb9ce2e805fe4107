noncomputable def fX5_fail (r_start : Int32) : Option (Int32) :=
  some r_start
noncomputable def uX5_kindAt_47  : Option (Int32) :=
  some (3 : Int32)
noncomputable def uX5_kindAt_31 (v2 : Int32) : Option (Int32) :=
  if v2 < (48 : Int32) then
  uX5_kindAt_47 
  else
  if (57 : Int32) < v2 then
  uX5_kindAt_47 
  else
  some (2 : Int32)
noncomputable def fX5_kindAt (v1 : Int32) (r_text : (Nat → Int32)) (r_length : Int32) : Option (Int32) :=
  if v1 < r_length then
  gd (vp_in v1 120) (
  nm (r_text (v1).toNatClampNeg) (fun w2 =>
  if w2 < (97 : Int32) then
  uX5_kindAt_31 w2
  else
  if (122 : Int32) < w2 then
  uX5_kindAt_31 w2
  else
  some (1 : Int32)))
  else
  some (0 : Int32)
noncomputable def sX5_takeToken_94 (r_text : (Nat → Int32)) (r_length : Int32) (r_start : Int32) (r_kind : Int32) (r_end : Int32) : Option ((Int32) ⊕ (Int32 × Int32 × Int32)) :=
  if r_length ≤ r_end then
  oi (some (r_start, r_end, r_kind))
  else
  (fX5_kindAt r_end r_text r_length).bind (fun y3 =>
  if y3 = r_kind then
  some (.inl (r_end + (1 : Int32)))
  else
  oi (some (r_start, r_end, r_kind)))
noncomputable abbrev lX5_takeToken_94 (r_text : (Nat → Int32)) (r_length : Int32) (r_start : Int32) (r_kind : Int32) (r_end : Int32) : Option (Int32 × Int32 × Int32) :=
  wh (fun b : Int32 => sX5_takeToken_94 r_text r_length r_start r_kind b) r_end
noncomputable def uX5_takeToken_46 (r_text : (Nat → Int32)) (r_length : Int32) (r_start : Int32) : Option (Int32 × Int32 × Int32) :=
  (fX5_kindAt r_start r_text r_length).bind (fun y1 =>
  if y1 = (3 : Int32) then
  some (r_start, r_start + (1 : Int32), y1)
  else
  if y1 = 0 then
  some (r_start, r_start, y1)
  else
  lX5_takeToken_94 r_text r_length r_start y1 r_start)
noncomputable def sX5_takeToken_8 (r_text : (Nat → Int32)) (r_length : Int32) (r_start : Int32) : Option ((Int32) ⊕ (Int32 × Int32 × Int32)) :=
  if r_length ≤ r_start then
  oi (uX5_takeToken_46 r_text r_length r_start)
  else
  gd (vp_in r_start 120) (
  if (r_text (r_start).toNatClampNeg) = (32 : Int32) then
  some (.inl (r_start + (1 : Int32)))
  else
  oi (uX5_takeToken_46 r_text r_length r_start))
noncomputable abbrev lX5_takeToken_8 (r_text : (Nat → Int32)) (r_length : Int32) (r_start : Int32) : Option (Int32 × Int32 × Int32) :=
  wh (fun b : Int32 => sX5_takeToken_8 r_text r_length b) r_start
noncomputable def fX5_takeToken (r_text : (Nat → Int32)) (r_length : Int32) (r_end : Int32) : Option (Int32 × Int32 × Int32) :=
  lX5_takeToken_8 r_text r_length r_end
noncomputable def sX5_tokenNumber_51 (r_text : (Nat → Int32)) (r_end : Int32) (v2 : Int32) (v3 : Int32) : Option ((Int32 × Int32) ⊕ (Int32)) :=
  if r_end ≤ v3 then
  oi (some v2)
  else
  gd (vp_in v3 120) (
  nm ((v2 * (10 : Int32)) + ((r_text (v3).toNatClampNeg) - (48 : Int32))) (fun w4 =>
  nm (v3 + (1 : Int32)) (fun w5 =>
  some (.inl (w4, w5)))))
noncomputable abbrev lX5_tokenNumber_51 (r_text : (Nat → Int32)) (r_end : Int32) (v2 : Int32) (v3 : Int32) : Option (Int32) :=
  wh (fun b : Int32 × Int32 => sX5_tokenNumber_51 r_text r_end b.1 b.2) (v2, v3)
noncomputable def uX5_tokenNumber_44 (r_text : (Nat → Int32)) (r_start : Int32) (r_end : Int32) : Option (Int32) :=
  lX5_tokenNumber_51 r_text r_end (0 : Int32) r_start
noncomputable def fX5_tokenNumber (r_text : (Nat → Int32)) (r_start : Int32) (r_end : Int32) (r_kind : Int32) : Option (Int32) :=
  nm (r_end - r_start) (fun w1 =>
  if r_kind = (2 : Int32) then
  if (2 : Int32) < w1 then
  some (-1 : Int32)
  else
  if w1 = (2 : Int32) then
  gd (vp_in r_start 120) (
  if (r_text (r_start).toNatClampNeg) = (48 : Int32) then
  some (-1 : Int32)
  else
  uX5_tokenNumber_44 r_text r_start r_end)
  else
  uX5_tokenNumber_44 r_text r_start r_end
  else
  some (-1 : Int32))
noncomputable def uX5_readNumber_38 (v4 : Int32) (r_start : Int32) (r_end : Int32) (r_kind : Int32) : Option (Int32 × Int32 × Int32 × Int32 × Int32) :=
  (fX5_fail r_start).bind (fun y3 =>
  some (v4, r_start, r_end, r_kind, y3))
noncomputable def fX5_readNumber (v1 : Int32) (v2 : Int32) (v3 : Int32) (r_text : (Nat → Int32)) (r_length : Int32) (r_start : Int32) (r_end : Int32) (r_kind : Int32) (r_error : Int32) : Option (Int32 × Int32 × Int32 × Int32 × Int32) :=
  if r_error = (-1 : Int32) then
  (fX5_takeToken r_text r_length r_end).bind (fun y1 =>
  (fX5_tokenNumber r_text y1.1 y1.2.1 y1.2.2).bind (fun y2 =>
  if y2 < v1 then
  uX5_readNumber_38 y2 y1.1 y1.2.1 y1.2.2
  else
  if v2 < y2 then
  uX5_readNumber_38 y2 y1.1 y1.2.1 y1.2.2
  else
  if y2 = v3 then
  uX5_readNumber_38 y2 y1.1 y1.2.1 y1.2.2
  else
  some (y2, y1.1, y1.2.1, y1.2.2, r_error)))
  else
  some ((-1 : Int32), r_start, r_end, r_kind, r_error)
noncomputable def uX5_readSemicolon_35 (r_start : Int32) (r_end : Int32) (r_kind : Int32) : Option (Int32 × Int32 × Int32 × Int32) :=
  (fX5_fail r_start).bind (fun y2 =>
  some (r_start, r_end, r_kind, y2))
noncomputable def fX5_readSemicolon (r_text : (Nat → Int32)) (r_length : Int32) (r_start : Int32) (r_end : Int32) (r_kind : Int32) (r_error : Int32) : Option (Int32 × Int32 × Int32 × Int32) :=
  if r_error = (-1 : Int32) then
  (fX5_takeToken r_text r_length r_end).bind (fun y1 =>
  if y1.2.2 = (3 : Int32) then
  gd (vp_in y1.1 120) (
  if (r_text (y1.1).toNatClampNeg) = (59 : Int32) then
  some (y1.1, y1.2.1, y1.2.2, r_error)
  else
  uX5_readSemicolon_35 y1.1 y1.2.1 y1.2.2)
  else
  uX5_readSemicolon_35 y1.1 y1.2.1 y1.2.2)
  else
  some (r_start, r_end, r_kind, r_error)
noncomputable def uX5_readNode_13 (r_text : (Nat → Int32)) (r_length : Int32) (r_start : Int32) (r_end : Int32) (r_kind : Int32) (r_error : Int32) : Option (Int32 × Int32 × Int32 × Int32 × Int32) :=
  (fX5_readNumber (0 : Int32) (3 : Int32) (-1 : Int32) r_text r_length r_start r_end r_kind r_error).bind (fun y1 =>
  some (y1.2.1, y1.2.2.1, y1.2.2.2.1, y1.2.2.2.2, y1.1))
noncomputable def fX5_readNode (r_text : (Nat → Int32)) (r_length : Int32) (r_start : Int32) (r_end : Int32) (r_kind : Int32) (r_error : Int32) (n_nodes : Int32) : Option (Int32 × Int32 × Int32 × Int32 × Int32) :=
  if n_nodes < (10 : Int32) then
  uX5_readNode_13 r_text r_length r_start r_end r_kind r_error
  else
  (fX5_fail r_start).bind (fun y2 =>
  uX5_readNode_13 r_text r_length r_start r_end r_kind y2)
noncomputable def uX5_readLine_8 (v3 : Int32) (r_text : (Nat → Int32)) (r_length : Int32) (r_start : Int32) (r_end : Int32) (r_kind : Int32) (r_error : Int32) (n_nodes : Int32) : Option (Int32 × Int32 × Int32 × Int32 × Int32 × Int32 × Int32) :=
  (fX5_readNumber (0 : Int32) (n_nodes - (1 : Int32)) (-1 : Int32) r_text r_length r_start r_end r_kind r_error).bind (fun y1 =>
  (fX5_readNumber (0 : Int32) (n_nodes - (1 : Int32)) y1.1 r_text r_length y1.2.1 y1.2.2.1 y1.2.2.2.1 y1.2.2.2.2).bind (fun y2 =>
  (fX5_readNumber (1 : Int32) v3 (-1 : Int32) r_text r_length y2.2.1 y2.2.2.1 y2.2.2.2.1 y2.2.2.2.2).bind (fun y3 =>
  some (y3.2.1, y3.2.2.1, y3.2.2.2.1, y3.2.2.2.2, y1.1, y2.1, y3.1))))
noncomputable def fX5_readLine (v2 : Int32) (v3 : Int32) (r_text : (Nat → Int32)) (r_length : Int32) (r_start : Int32) (r_end : Int32) (r_kind : Int32) (r_error : Int32) (n_nodes : Int32) : Option (Int32 × Int32 × Int32 × Int32 × Int32 × Int32 × Int32) :=
  if v2 = 0 then
  (fX5_fail r_start).bind (fun y4 =>
  uX5_readLine_8 v3 r_text r_length r_start r_end r_kind y4 n_nodes)
  else
  uX5_readLine_8 v3 r_text r_length r_start r_end r_kind r_error n_nodes
noncomputable def fX5_readGrant (r_text : (Nat → Int32)) (r_length : Int32) (r_start : Int32) (r_end : Int32) (r_kind : Int32) (r_error : Int32) (n_truth : (Nat → Int32)) : Option (Int32 × Int32 × Int32 × Int32 × Int32 × Int32) :=
  (fX5_readNumber (0 : Int32) (3 : Int32) (-1 : Int32) r_text r_length r_start r_end r_kind r_error).bind (fun y1 =>
  (fX5_readNumber (0 : Int32) (3 : Int32) y1.1 r_text r_length y1.2.1 y1.2.2.1 y1.2.2.2.1 y1.2.2.2.2).bind (fun y2 =>
  if y2.2.2.2.2 = (-1 : Int32) then
  (fX6_grantItem y1.1 y2.1).bind (fun y3 =>
  (fX3_isUp y3 n_truth).bind (fun y4 =>
  if y4 = 0 then
  some (y2.2.1, y2.2.2.1, y2.2.2.2.1, y2.2.2.2.2, y1.1, y2.1)
  else
  (fX5_fail y2.2.1).bind (fun y5 =>
  some (y2.2.1, y2.2.2.1, y2.2.2.2.1, y5, y1.1, y2.1))))
  else
  some (y2.2.1, y2.2.2.1, y2.2.2.2.1, y2.2.2.2.2, y1.1, y2.1)))
noncomputable def fX5_addThing (r_thing : Int32) (r_first : Int32) (r_second : Int32) (r_cost : Int32) (n_nodes : Int32) (n_links : Int32) (n_tunnels : Int32) (n_areas : (Nat → Int32)) (n_firsts : (Nat → Int32)) (n_seconds : (Nat → Int32)) (n_privates : (Nat → Int32)) (n_entries : (Nat → Int32)) (n_exits : (Nat → Int32)) (n_truth : (Nat → Int32)) (n_facts : (Nat → Int32)) (n_news : (Nat → Int64)) : Option (Int32 × Int32 × Int32 × (Nat → Int32) × (Nat → Int32) × (Nat → Int32) × (Nat → Int32) × (Nat → Int32) × (Nat → Int32) × (Nat → Int32) × (Nat → Int32) × (Nat → Int64)) :=
  if r_thing = (1 : Int32) then
  (fX3_createNode r_first n_nodes n_areas).bind (fun y1 =>
  some (y1.2.1, n_links, n_tunnels, y1.2.2, n_firsts, n_seconds, n_privates, n_entries, n_exits, n_truth, n_facts, n_news))
  else if r_thing = (2 : Int32) then
  (fX3_createLink r_first r_second r_cost (0 : Int32) n_links n_areas n_firsts n_seconds n_privates n_truth n_facts n_news).bind (fun y2 =>
  some (n_nodes, y2.2.1, n_tunnels, n_areas, y2.2.2.1, y2.2.2.2.1, y2.2.2.2.2.1, n_entries, n_exits, y2.2.2.2.2.2.1, y2.2.2.2.2.2.2.1, y2.2.2.2.2.2.2.2))
  else if r_thing = (3 : Int32) then
  (fX3_createLink r_first r_second r_cost (1 : Int32) n_links n_areas n_firsts n_seconds n_privates n_truth n_facts n_news).bind (fun y3 =>
  some (n_nodes, y3.2.1, n_tunnels, n_areas, y3.2.2.1, y3.2.2.2.1, y3.2.2.2.2.1, n_entries, n_exits, y3.2.2.2.2.2.1, y3.2.2.2.2.2.2.1, y3.2.2.2.2.2.2.2))
  else if r_thing = (4 : Int32) then
  (fX3_changeGrant r_first r_second (1 : Int32) n_nodes n_links n_areas n_firsts n_seconds n_privates n_truth n_facts n_news).bind (fun y4 =>
  some (n_nodes, n_links, n_tunnels, n_areas, n_firsts, n_seconds, n_privates, n_entries, n_exits, y4.2.1, y4.2.2.1, y4.2.2.2))
  else if r_thing = (5 : Int32) then
  (fX3_createTunnel r_first r_second r_cost n_links n_tunnels n_areas n_firsts n_seconds n_privates n_entries n_exits n_truth n_facts n_news).bind (fun y5 =>
  some (n_nodes, n_links, y5.2.1, n_areas, n_firsts, n_seconds, n_privates, y5.2.2.1, y5.2.2.2.1, y5.2.2.2.2.1, y5.2.2.2.2.2.1, y5.2.2.2.2.2.2))
  else 
  some (n_nodes, n_links, n_tunnels, n_areas, n_firsts, n_seconds, n_privates, n_entries, n_exits, n_truth, n_facts, n_news)
noncomputable def sX5_isWord_28 (r_text : (Nat → Int32)) (r_start : Int32) (iw : Nat) (v2 : Int32) : Option ((Int32) ⊕ (Int32)) :=
  gd (iw < 5) (
  if (zSlen iw) ≤ v2 then
  oi (some (1 : Int32))
  else
  gd (vp_in (r_start + v2) 120) (
  gd (iw < 5) (gd (vp_in v2 (zLen.getD iw 0)) (
  if (r_text (r_start + v2).toNatClampNeg) = (zSch iw v2) then
  nm (v2 + (1 : Int32)) (fun w12 =>
  some (.inl w12))
  else
  oi (some (0 : Int32))))))
noncomputable abbrev lX5_isWord_28 (r_text : (Nat → Int32)) (r_start : Int32) (iw : Nat) (v2 : Int32) : Option (Int32) :=
  wh (fun b : Int32 => sX5_isWord_28 r_text r_start iw b) v2
noncomputable def fX5_isWord (r_text : (Nat → Int32)) (r_start : Int32) (r_end : Int32) (r_kind : Int32) (iw : Nat) : Option (Int32) :=
  if r_kind = (1 : Int32) then
  gd (iw < 5) (
  if (r_end - r_start) = (zSlen iw) then
  lX5_isWord_28 r_text r_start iw (0 : Int32)
  else
  some (0 : Int32))
  else
  some (0 : Int32)
noncomputable def fX5_tokenThing (r_text : (Nat → Int32)) (r_start : Int32) (r_end : Int32) (r_kind : Int32) : Option (Int32) :=
  (fX5_isWord r_text r_start r_end r_kind 0).bind (fun y1 =>
  if y1 = 0 then
  (fX5_isWord r_text r_start r_end r_kind 1).bind (fun y2 =>
  if y2 = 0 then
  (fX5_isWord r_text r_start r_end r_kind 2).bind (fun y3 =>
  if y3 = 0 then
  (fX5_isWord r_text r_start r_end r_kind 3).bind (fun y4 =>
  if y4 = 0 then
  (fX5_isWord r_text r_start r_end r_kind 4).bind (fun y5 =>
  if y5 = 0 then
  some (0 : Int32)
  else
  some (5 : Int32))
  else
  some (4 : Int32))
  else
  some (3 : Int32))
  else
  some (2 : Int32))
  else
  some (1 : Int32))
noncomputable def uX5_readItem_139 (r_text : (Nat → Int32)) (r_length : Int32) (r_start : Int32) (r_end : Int32) (r_kind : Int32) (r_error : Int32) (r_thing : Int32) (r_first : Int32) (r_second : Int32) (r_cost : Int32) : Option (Int32 × Int32 × Int32 × Int32 × Int32 × Int32 × Int32 × Int32) :=
  (fX5_readSemicolon r_text r_length r_start r_end r_kind r_error).bind (fun y3 =>
  some (y3.1, y3.2.1, y3.2.2.1, y3.2.2.2, r_thing, r_first, r_second, r_cost))
noncomputable def uX5_readItem_72 (k2 : Int32) (r_text : (Nat → Int32)) (r_length : Int32) (r_start : Int32) (r_end : Int32) (r_kind : Int32) (r_error : Int32) (r_thing : Int32) (n_nodes : Int32) : Option (Int32 × Int32 × Int32 × Int32 × Int32 × Int32 × Int32 × Int32) :=
  (fX5_readLine k2 (20 : Int32) r_text r_length r_start r_end r_kind r_error n_nodes).bind (fun y4 =>
  uX5_readItem_139 r_text r_length y4.1 y4.2.1 y4.2.2.1 y4.2.2.2.1 r_thing y4.2.2.2.2.1 y4.2.2.2.2.2.1 y4.2.2.2.2.2.2)
noncomputable def uX5_readItem_96 (k2 : Int32) (r_text : (Nat → Int32)) (r_length : Int32) (r_start : Int32) (r_end : Int32) (r_kind : Int32) (r_error : Int32) (r_thing : Int32) (n_nodes : Int32) : Option (Int32 × Int32 × Int32 × Int32 × Int32 × Int32 × Int32 × Int32) :=
  (fX5_readLine k2 (20 : Int32) r_text r_length r_start r_end r_kind r_error n_nodes).bind (fun y5 =>
  uX5_readItem_139 r_text r_length y5.1 y5.2.1 y5.2.2.1 y5.2.2.2.1 r_thing y5.2.2.2.2.1 y5.2.2.2.2.2.1 y5.2.2.2.2.2.2)
noncomputable def uX5_readItem_127 (k2 : Int32) (r_text : (Nat → Int32)) (r_length : Int32) (r_start : Int32) (r_end : Int32) (r_kind : Int32) (r_error : Int32) (r_thing : Int32) (n_nodes : Int32) : Option (Int32 × Int32 × Int32 × Int32 × Int32 × Int32 × Int32 × Int32) :=
  (fX5_readLine k2 (40 : Int32) r_text r_length r_start r_end r_kind r_error n_nodes).bind (fun y7 =>
  uX5_readItem_139 r_text r_length y7.1 y7.2.1 y7.2.2.1 y7.2.2.2.1 r_thing y7.2.2.2.2.1 y7.2.2.2.2.2.1 y7.2.2.2.2.2.2)
noncomputable def fX5_readItem (r_text : (Nat → Int32)) (r_length : Int32) (r_start : Int32) (r_end : Int32) (r_kind : Int32) (r_error : Int32) (r_first : Int32) (r_second : Int32) (r_cost : Int32) (n_nodes : Int32) (n_links : Int32) (n_tunnels : Int32) (n_truth : (Nat → Int32)) : Option (Int32 × Int32 × Int32 × Int32 × Int32 × Int32 × Int32 × Int32) :=
  (fX5_tokenThing r_text r_start r_end r_kind).bind (fun y1 =>
  if y1 = (1 : Int32) then
  (fX5_readNode r_text r_length r_start r_end r_kind r_error n_nodes).bind (fun y2 =>
  uX5_readItem_139 r_text r_length y2.1 y2.2.1 y2.2.2.1 y2.2.2.2.1 y1 y2.2.2.2.2 r_second r_cost)
  else if y1 = (2 : Int32) then
  if (16 : Int32) ≤ n_links then
  uX5_readItem_72 (0 : Int32) r_text r_length r_start r_end r_kind r_error y1 n_nodes
  else
  uX5_readItem_72 (1 : Int32) r_text r_length r_start r_end r_kind r_error y1 n_nodes
  else if y1 = (3 : Int32) then
  if (16 : Int32) ≤ n_links then
  uX5_readItem_96 (0 : Int32) r_text r_length r_start r_end r_kind r_error y1 n_nodes
  else
  uX5_readItem_96 (1 : Int32) r_text r_length r_start r_end r_kind r_error y1 n_nodes
  else if y1 = (4 : Int32) then
  (fX5_readGrant r_text r_length r_start r_end r_kind r_error n_truth).bind (fun y6 =>
  uX5_readItem_139 r_text r_length y6.1 y6.2.1 y6.2.2.1 y6.2.2.2.1 y1 y6.2.2.2.2.1 y6.2.2.2.2.2 r_cost)
  else if y1 = (5 : Int32) then
  if (3 : Int32) ≤ n_tunnels then
  uX5_readItem_127 (0 : Int32) r_text r_length r_start r_end r_kind r_error y1 n_nodes
  else
  uX5_readItem_127 (1 : Int32) r_text r_length r_start r_end r_kind r_error y1 n_nodes
  else 
  (fX5_fail r_start).bind (fun y8 =>
  uX5_readItem_139 r_text r_length r_start r_end r_kind y8 y1 r_first r_second r_cost))
noncomputable def uX5_readNetwork_46 (r_start : Int32) (r_end : Int32) (r_kind : Int32) (r_error : Int32) (r_thing : Int32) (r_first : Int32) (r_second : Int32) (r_cost : Int32) (n_nodes : Int32) (n_links : Int32) (n_tunnels : Int32) (n_messages : Int32) (n_areas : (Nat → Int32)) (n_firsts : (Nat → Int32)) (n_seconds : (Nat → Int32)) (n_privates : (Nat → Int32)) (n_entries : (Nat → Int32)) (n_exits : (Nat → Int32)) (n_truth : (Nat → Int32)) (n_facts : (Nat → Int32)) (n_news : (Nat → Int64)) : Option (Int32 × Int32 × Int32 × Int32 × Int32 × Int32 × Int32 × Int32 × Int32 × Int32 × Int32 × Int32 × Int32 × (Nat → Int32) × (Nat → Int32) × (Nat → Int32) × (Nat → Int32) × (Nat → Int32) × (Nat → Int32) × (Nat → Int32) × (Nat → Int32) × (Nat → Int64)) :=
  some ((-10 : Int32) - r_error, r_start, r_end, r_kind, r_error, r_thing, r_first, r_second, r_cost, n_nodes, n_links, n_tunnels, n_messages, n_areas, n_firsts, n_seconds, n_privates, n_entries, n_exits, n_truth, n_facts, n_news)
noncomputable def sX5_readNetwork_20 (r_text : (Nat → Int32)) (r_length : Int32) (n_messages : Int32) (v2 : Int32) (r_start : Int32) (r_end : Int32) (r_kind : Int32) (r_error : Int32) (r_thing : Int32) (r_first : Int32) (r_second : Int32) (r_cost : Int32) (n_nodes : Int32) (n_links : Int32) (n_tunnels : Int32) (n_areas : (Nat → Int32)) (n_firsts : (Nat → Int32)) (n_seconds : (Nat → Int32)) (n_privates : (Nat → Int32)) (n_entries : (Nat → Int32)) (n_exits : (Nat → Int32)) (n_truth : (Nat → Int32)) (n_facts : (Nat → Int32)) (n_news : (Nat → Int64)) : Option ((Int32 × Int32 × Int32 × Int32 × Int32 × Int32 × Int32 × Int32 × Int32 × Int32 × Int32 × Int32 × (Nat → Int32) × (Nat → Int32) × (Nat → Int32) × (Nat → Int32) × (Nat → Int32) × (Nat → Int32) × (Nat → Int32) × (Nat → Int32) × (Nat → Int64)) ⊕ (Int32 × Int32 × Int32 × Int32 × Int32 × Int32 × Int32 × Int32 × Int32 × Int32 × Int32 × Int32 × Int32 × (Nat → Int32) × (Nat → Int32) × (Nat → Int32) × (Nat → Int32) × (Nat → Int32) × (Nat → Int32) × (Nat → Int32) × (Nat → Int32) × (Nat → Int64))) :=
  if (120 : Int32) ≤ v2 then
  oi (some (v2, r_start, r_end, r_kind, r_error, r_thing, r_first, r_second, r_cost, n_nodes, n_links, n_tunnels, n_messages, n_areas, n_firsts, n_seconds, n_privates, n_entries, n_exits, n_truth, n_facts, n_news))
  else
  if r_kind = 0 then
  oi (some (v2, r_start, r_end, r_kind, r_error, r_thing, r_first, r_second, r_cost, n_nodes, n_links, n_tunnels, n_messages, n_areas, n_firsts, n_seconds, n_privates, n_entries, n_exits, n_truth, n_facts, n_news))
  else
  (fX5_readItem r_text r_length r_start r_end r_kind r_error r_first r_second r_cost n_nodes n_links n_tunnels n_truth).bind (fun y5 =>
  if y5.2.2.2.1 = (-1 : Int32) then
  (fX5_addThing y5.2.2.2.2.1 y5.2.2.2.2.2.1 y5.2.2.2.2.2.2.1 y5.2.2.2.2.2.2.2 n_nodes n_links n_tunnels n_areas n_firsts n_seconds n_privates n_entries n_exits n_truth n_facts n_news).bind (fun y6 =>
  nm (v2 + (1 : Int32)) (fun w7 =>
  (fX5_takeToken r_text r_length y5.2.1).bind (fun y8 =>
  some (.inl (w7, y8.1, y8.2.1, y8.2.2, y5.2.2.2.1, y5.2.2.2.2.1, y5.2.2.2.2.2.1, y5.2.2.2.2.2.2.1, y5.2.2.2.2.2.2.2, y6.1, y6.2.1, y6.2.2.1, y6.2.2.2.1, y6.2.2.2.2.1, y6.2.2.2.2.2.1, y6.2.2.2.2.2.2.1, y6.2.2.2.2.2.2.2.1, y6.2.2.2.2.2.2.2.2.1, y6.2.2.2.2.2.2.2.2.2.1, y6.2.2.2.2.2.2.2.2.2.2.1, y6.2.2.2.2.2.2.2.2.2.2.2)))))
  else
  oi (uX5_readNetwork_46 y5.1 y5.2.1 y5.2.2.1 y5.2.2.2.1 y5.2.2.2.2.1 y5.2.2.2.2.2.1 y5.2.2.2.2.2.2.1 y5.2.2.2.2.2.2.2 n_nodes n_links n_tunnels n_messages n_areas n_firsts n_seconds n_privates n_entries n_exits n_truth n_facts n_news))
noncomputable abbrev lX5_readNetwork_20 (r_text : (Nat → Int32)) (r_length : Int32) (n_messages : Int32) (v2 : Int32) (r_start : Int32) (r_end : Int32) (r_kind : Int32) (r_error : Int32) (r_thing : Int32) (r_first : Int32) (r_second : Int32) (r_cost : Int32) (n_nodes : Int32) (n_links : Int32) (n_tunnels : Int32) (n_areas : (Nat → Int32)) (n_firsts : (Nat → Int32)) (n_seconds : (Nat → Int32)) (n_privates : (Nat → Int32)) (n_entries : (Nat → Int32)) (n_exits : (Nat → Int32)) (n_truth : (Nat → Int32)) (n_facts : (Nat → Int32)) (n_news : (Nat → Int64)) : Option (Int32 × Int32 × Int32 × Int32 × Int32 × Int32 × Int32 × Int32 × Int32 × Int32 × Int32 × Int32 × Int32 × (Nat → Int32) × (Nat → Int32) × (Nat → Int32) × (Nat → Int32) × (Nat → Int32) × (Nat → Int32) × (Nat → Int32) × (Nat → Int32) × (Nat → Int64)) :=
  wh (fun b : Int32 × Int32 × Int32 × Int32 × Int32 × Int32 × Int32 × Int32 × Int32 × Int32 × Int32 × Int32 × (Nat → Int32) × (Nat → Int32) × (Nat → Int32) × (Nat → Int32) × (Nat → Int32) × (Nat → Int32) × (Nat → Int32) × (Nat → Int32) × (Nat → Int64) => sX5_readNetwork_20 r_text r_length n_messages b.1 b.2.1 b.2.2.1 b.2.2.2.1 b.2.2.2.2.1 b.2.2.2.2.2.1 b.2.2.2.2.2.2.1 b.2.2.2.2.2.2.2.1 b.2.2.2.2.2.2.2.2.1 b.2.2.2.2.2.2.2.2.2.1 b.2.2.2.2.2.2.2.2.2.2.1 b.2.2.2.2.2.2.2.2.2.2.2.1 b.2.2.2.2.2.2.2.2.2.2.2.2.1 b.2.2.2.2.2.2.2.2.2.2.2.2.2.1 b.2.2.2.2.2.2.2.2.2.2.2.2.2.2.1 b.2.2.2.2.2.2.2.2.2.2.2.2.2.2.2.1 b.2.2.2.2.2.2.2.2.2.2.2.2.2.2.2.2.1 b.2.2.2.2.2.2.2.2.2.2.2.2.2.2.2.2.2.1 b.2.2.2.2.2.2.2.2.2.2.2.2.2.2.2.2.2.2.1 b.2.2.2.2.2.2.2.2.2.2.2.2.2.2.2.2.2.2.2.1 b.2.2.2.2.2.2.2.2.2.2.2.2.2.2.2.2.2.2.2.2) (v2, r_start, r_end, r_kind, r_error, r_thing, r_first, r_second, r_cost, n_nodes, n_links, n_tunnels, n_areas, n_firsts, n_seconds, n_privates, n_entries, n_exits, n_truth, n_facts, n_news)
noncomputable def fX5_readNetwork (r_text : (Nat → Int32)) (r_length : Int32) (r_thing : Int32) (r_first : Int32) (r_second : Int32) (r_cost : Int32) (n_areas : (Nat → Int32)) (n_firsts : (Nat → Int32)) (n_seconds : (Nat → Int32)) (n_privates : (Nat → Int32)) (n_entries : (Nat → Int32)) (n_exits : (Nat → Int32)) (n_truth : (Nat → Int32)) (n_facts : (Nat → Int32)) (n_news : (Nat → Int64)) : Option (Int32 × Int32 × Int32 × Int32 × Int32 × Int32 × Int32 × Int32 × Int32 × Int32 × Int32 × Int32 × Int32 × (Nat → Int32) × (Nat → Int32) × (Nat → Int32) × (Nat → Int32) × (Nat → Int32) × (Nat → Int32) × (Nat → Int32) × (Nat → Int32) × (Nat → Int64)) :=
  (fX3_makeEmpty n_truth n_facts n_news).bind (fun y1 =>
  (fX5_takeToken r_text r_length (0 : Int32)).bind (fun y2 =>
  lX5_readNetwork_20 r_text r_length y1.2.2.2.1 (0 : Int32) y2.1 y2.2.1 y2.2.2 (-1 : Int32) r_thing r_first r_second r_cost y1.1 y1.2.1 y1.2.2.1 n_areas n_firsts n_seconds n_privates n_entries n_exits y1.2.2.2.2.1 y1.2.2.2.2.2.1 y1.2.2.2.2.2.2))
