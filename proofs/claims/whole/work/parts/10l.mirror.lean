noncomputable def fX6_isNode (v1 : Int32) (n_nodes : Int32) : Option (Int32) :=
  if v1 < 0 then
  some (0 : Int32)
  else
  if n_nodes ≤ v1 then
  some (0 : Int32)
  else
  some (1 : Int32)
noncomputable def fX6_isPair (v1 : Int32) (v2 : Int32) (n_nodes : Int32) : Option (Int32) :=
  (fX6_isNode v1 n_nodes).bind (fun y1 =>
  if y1 = 0 then
  some (0 : Int32)
  else
  (fX6_isNode v2 n_nodes).bind (fun y2 =>
  if y2 = 0 then
  some (0 : Int32)
  else
  if v1 = v2 then
  some (0 : Int32)
  else
  some (1 : Int32)))
noncomputable def fX6_isLink (v1 : Int32) (n_links : Int32) : Option (Int32) :=
  if v1 < 0 then
  some (0 : Int32)
  else
  if n_links ≤ v1 then
  some (0 : Int32)
  else
  some (1 : Int32)
noncomputable def fX6_isTunnel (v1 : Int32) (n_tunnels : Int32) : Option (Int32) :=
  if v1 < 0 then
  some (0 : Int32)
  else
  if n_tunnels ≤ v1 then
  some (0 : Int32)
  else
  some (1 : Int32)
noncomputable def fX6_isItem (v1 : Int32) (n_links : Int32) (n_tunnels : Int32) : Option (Int32) :=
  if 0 ≤ v1 then
  if (16 : Int32) ≤ v1 then
  if (32 : Int32) ≤ v1 then
  (fX6_isTunnel (v1 - (32 : Int32)) n_tunnels).bind (fun y1 =>
  gd (bz y1) (some y1))
  else
  (fX6_isLink (v1 - (16 : Int32)) n_links).bind (fun y2 =>
  gd (bz y2) (some y2))
  else
  (fX6_grantOwner v1).bind (fun y3 =>
  (fX6_grantArea v1).bind (fun y4 =>
  if y3 = y4 then
  some (0 : Int32)
  else
  some (1 : Int32)))
  else
  some (0 : Int32)
noncomputable def fX6_append (v1 : Int32) (r_text : (Nat → Int32)) (r_length : Int32) : Option (Int32 × (Nat → Int32) × Int32) :=
  if v1 < (1 : Int32) then
  some ((-1 : Int32), r_text, r_length)
  else
  if v1 ≤ (255 : Int32) then
  if r_length < (120 : Int32) then
  gd (vp_in r_length 120) (
  some (r_length + (1 : Int32), upd r_text (r_length).toNatClampNeg (vp_nar .char (((v1).toUInt32 % 65536).toInt32)), r_length + (1 : Int32)))
  else
  some ((-3 : Int32), r_text, r_length)
  else
  some ((-1 : Int32), r_text, r_length)
noncomputable def fX6_clearText (r_length : Int32) : Option (Int32 × Int32) :=
  some (r_length, (0 : Int32))
noncomputable def fX6_count (v1 : Int32) (o_historySize : Int32) (n_nodes : Int32) (n_links : Int32) (n_tunnels : Int32) (n_messages : Int32) (n_truth : (Nat → Int32)) (r_length : Int32) : Option (Int32) :=
  if v1 = (0 : Int32) then
  some n_nodes
  else if v1 = (1 : Int32) then
  some n_links
  else if v1 = (2 : Int32) then
  some n_tunnels
  else if v1 = (3 : Int32) then
  (fX3_countGrants n_truth).bind (fun y1 =>
  some y1)
  else if v1 = (4 : Int32) then
  some n_messages
  else if v1 = (5 : Int32) then
  some o_historySize
  else if v1 = (6 : Int32) then
  some r_length
  else 
  some (-1 : Int32)
noncomputable def fX6_node (v1 : Int32) (v2 : Int32) (n_nodes : Int32) (n_areas : (Nat → Int32)) (n_firsts : (Nat → Int32)) (n_seconds : (Nat → Int32)) (n_privates : (Nat → Int32)) (n_truth : (Nat → Int32)) (n_facts : (Nat → Int32)) (n_news : (Nat → Int64)) : Option (Int32) :=
  (fX6_isNode v1 n_nodes).bind (fun y1 =>
  if y1 = 0 then
  some (-1 : Int32)
  else
  if v2 = (0 : Int32) then
  gd (vp_in v1 10) (
  some (n_areas (v1).toNatClampNeg))
  else if v2 = (1 : Int32) then
  (fX3_countFacts v1 n_facts).bind (fun y3 =>
  some y3)
  else if v2 = (2 : Int32) then
  gd (vp_in v1 10) (
  (fJ13_bitCount_95d88 (n_news (v1).toNatClampNeg)).bind (fun y5 =>
  some y5))
  else if v2 = (3 : Int32) then
  (fX3_countBehind v1 n_areas n_firsts n_seconds n_privates n_truth n_facts).bind (fun y6 =>
  some y6)
  else if v2 = (4 : Int32) then
  (fX3_countSecrets v1 n_areas n_firsts n_seconds n_privates n_truth n_facts).bind (fun y7 =>
  some y7)
  else 
  some (-1 : Int32))
noncomputable def fX6_link (v1 : Int32) (v2 : Int32) (n_links : Int32) (n_firsts : (Nat → Int32)) (n_seconds : (Nat → Int32)) (n_privates : (Nat → Int32)) (n_truth : (Nat → Int32)) : Option (Int32) :=
  (fX6_isLink v1 n_links).bind (fun y1 =>
  if y1 = 0 then
  some (-1 : Int32)
  else
  gd (vp_in ((16 : Int32) + v1) 35) (
  nm (n_truth ((16 : Int32) + v1).toNatClampNeg) (fun w3 =>
  if v2 = (0 : Int32) then
  gd (vp_in v1 16) (
  some (n_firsts (v1).toNatClampNeg))
  else if v2 = (1 : Int32) then
  gd (vp_in v1 16) (
  some (n_seconds (v1).toNatClampNeg))
  else if v2 = (2 : Int32) then
  (fX0_price w3).bind (fun y6 =>
  some y6)
  else if v2 = (3 : Int32) then
  (fX0_state w3).bind (fun y7 =>
  some y7)
  else if v2 = (4 : Int32) then
  gd (vp_in v1 16) (
  some (n_privates (v1).toNatClampNeg))
  else if v2 = (5 : Int32) then
  (fX0_version w3).bind (fun y9 =>
  some y9)
  else 
  some (-1 : Int32))))
noncomputable def fX6_tunnel (v1 : Int32) (v2 : Int32) (n_tunnels : Int32) (n_entries : (Nat → Int32)) (n_exits : (Nat → Int32)) (n_truth : (Nat → Int32)) : Option (Int32) :=
  (fX6_isTunnel v1 n_tunnels).bind (fun y1 =>
  if y1 = 0 then
  some (-1 : Int32)
  else
  gd (vp_in ((32 : Int32) + v1) 35) (
  nm (n_truth ((32 : Int32) + v1).toNatClampNeg) (fun w3 =>
  if v2 = (0 : Int32) then
  gd (vp_in v1 3) (
  some (n_entries (v1).toNatClampNeg))
  else if v2 = (1 : Int32) then
  gd (vp_in v1 3) (
  some (n_exits (v1).toNatClampNeg))
  else if v2 = (2 : Int32) then
  (fX0_price w3).bind (fun y6 =>
  some y6)
  else if v2 = (3 : Int32) then
  (fX0_state w3).bind (fun y7 =>
  some y7)
  else if v2 = (4 : Int32) then
  (fX0_version w3).bind (fun y8 =>
  some y8)
  else 
  some (-1 : Int32))))
noncomputable def fX6_grant (v1 : Int32) (v2 : Int32) (v3 : Int32) (n_truth : (Nat → Int32)) : Option (Int32) :=
  (fX6_areTwoAreas v1 v2).bind (fun y1 =>
  if y1 = 0 then
  some (-1 : Int32)
  else
  (fX6_grantItem v1 v2).bind (fun y2 =>
  gd (vp_in y2 35) (
  nm (n_truth (y2).toNatClampNeg) (fun w4 =>
  if v3 = (0 : Int32) then
  (fX0_state w4).bind (fun y5 =>
  some y5)
  else if v3 = (1 : Int32) then
  (fX0_version w4).bind (fun y6 =>
  some y6)
  else 
  some (-1 : Int32)))))
noncomputable def fX6_known (v1 : Int32) (v2 : Int32) (v3 : Int32) (n_nodes : Int32) (n_links : Int32) (n_tunnels : Int32) (n_facts : (Nat → Int32)) (n_news : (Nat → Int64)) : Option (Int32) :=
  (fX6_isNode v1 n_nodes).bind (fun y1 =>
  if y1 = 0 then
  some (-1 : Int32)
  else
  (fX6_isItem v2 n_links n_tunnels).bind (fun y2 =>
  if y2 = 0 then
  some (-1 : Int32)
  else
  (fX6_place v1 v2).bind (fun y3 =>
  gd (vp_in y3 350) (
  nm (n_facts (y3).toNatClampNeg) (fun w5 =>
  if v3 = (0 : Int32) then
  (fX0_version w5).bind (fun y6 =>
  some y6)
  else if v3 = (1 : Int32) then
  if w5 = 0 then
  some (-9 : Int32)
  else
  (fX0_state w5).bind (fun y7 =>
  some y7)
  else if v3 = (2 : Int32) then
  if w5 = 0 then
  some (-9 : Int32)
  else
  (fX0_price w5).bind (fun y8 =>
  some y8)
  else if v3 = (3 : Int32) then
  (fX3_isNews v1 v2 n_news).bind (fun y9 =>
  if y9 = 0 then
  some (0 : Int32)
  else
  some (1 : Int32))
  else 
  some (-1 : Int32))))))
noncomputable def fX6_distance (v1 : Int32) (v2 : Int32) (v3 : Int32) (n_nodes : Int32) (n_links : Int32) (n_tunnels : Int32) (n_areas : (Nat → Int32)) (n_firsts : (Nat → Int32)) (n_seconds : (Nat → Int32)) (n_privates : (Nat → Int32)) (n_entries : (Nat → Int32)) (n_exits : (Nat → Int32)) (n_facts : (Nat → Int32)) (g_nodes : Int32) (g_edges : Int32) (g_starts : (Nat → Int32)) (g_ends : (Nat → Int32)) (g_lengths : (Nat → Int32)) (g_items : (Nat → Int32)) (g_remaining : (Nat → Int32)) : Option (Int32 × Int32 × Int32 × (Nat → Int32) × (Nat → Int32) × (Nat → Int32) × (Nat → Int32) × (Nat → Int32)) :=
  (fX6_isNode v1 n_nodes).bind (fun y1 =>
  if y1 = 0 then
  some ((-1 : Int32), g_nodes, g_edges, g_starts, g_ends, g_lengths, g_items, g_remaining)
  else
  (fX6_isNode v2 n_nodes).bind (fun y2 =>
  if y2 = 0 then
  some ((-1 : Int32), g_nodes, g_edges, g_starts, g_ends, g_lengths, g_items, g_remaining)
  else
  (fX6_isArea v3).bind (fun y3 =>
  if y3 = 0 then
  some ((-1 : Int32), g_nodes, g_edges, g_starts, g_ends, g_lengths, g_items, g_remaining)
  else
  (fX2_takeView v1 v3 (1 : Int32) g_starts g_ends g_lengths g_items n_nodes n_links n_tunnels n_areas n_firsts n_seconds n_privates n_entries n_exits n_facts).bind (fun y4 =>
  (fX2_measureTo v2 y4.1 y4.2.1 y4.2.2.1 y4.2.2.2.1 y4.2.2.2.2.1 g_remaining).bind (fun y5 =>
  (fX2_costFrom v1 y5).bind (fun y6 =>
  some (y6, y4.1, y4.2.1, y4.2.2.1, y4.2.2.2.1, y4.2.2.2.2.1, y4.2.2.2.2.2, y5)))))))
noncomputable def fX6_next (v1 : Int32) (v2 : Int32) (v3 : Int32) (v4 : Int32) (n_nodes : Int32) (n_links : Int32) (n_tunnels : Int32) (n_areas : (Nat → Int32)) (n_firsts : (Nat → Int32)) (n_seconds : (Nat → Int32)) (n_privates : (Nat → Int32)) (n_entries : (Nat → Int32)) (n_exits : (Nat → Int32)) (n_facts : (Nat → Int32)) (g_nodes : Int32) (g_edges : Int32) (g_starts : (Nat → Int32)) (g_ends : (Nat → Int32)) (g_lengths : (Nat → Int32)) (g_items : (Nat → Int32)) (g_remaining : (Nat → Int32)) : Option (Int32 × Int32 × Int32 × (Nat → Int32) × (Nat → Int32) × (Nat → Int32) × (Nat → Int32) × (Nat → Int32)) :=
  (fX6_isPair v1 v2 n_nodes).bind (fun y1 =>
  if y1 = 0 then
  some ((-1 : Int32), g_nodes, g_edges, g_starts, g_ends, g_lengths, g_items, g_remaining)
  else
  (fX6_isArea v3).bind (fun y2 =>
  if y2 = 0 then
  some ((-1 : Int32), g_nodes, g_edges, g_starts, g_ends, g_lengths, g_items, g_remaining)
  else
  (fX6_isFlag v4).bind (fun y3 =>
  if y3 = 0 then
  some ((-1 : Int32), g_nodes, g_edges, g_starts, g_ends, g_lengths, g_items, g_remaining)
  else
  (fX2_takeView v1 v3 (1 : Int32) g_starts g_ends g_lengths g_items n_nodes n_links n_tunnels n_areas n_firsts n_seconds n_privates n_entries n_exits n_facts).bind (fun y4 =>
  (fX2_measureTo v2 y4.1 y4.2.1 y4.2.2.1 y4.2.2.2.1 y4.2.2.2.2.1 g_remaining).bind (fun y5 =>
  (fX2_firstEdge v1 y4.2.1 y4.2.2.1 y4.2.2.2.1 y4.2.2.2.2.1 y5).bind (fun y6 =>
  if 0 ≤ y6 then
  if v4 = 0 then
  gd (vp_in y6 35) (
  some (y4.2.2.2.1 (y6).toNatClampNeg, y4.1, y4.2.1, y4.2.2.1, y4.2.2.2.1, y4.2.2.2.2.1, y4.2.2.2.2.2, y5))
  else
  gd (vp_in y6 35) (
  some (y4.2.2.2.2.2 (y6).toNatClampNeg, y4.1, y4.2.1, y4.2.2.1, y4.2.2.2.1, y4.2.2.2.2.1, y4.2.2.2.2.2, y5))
  else
  some ((-9 : Int32), y4.1, y4.2.1, y4.2.2.1, y4.2.2.2.1, y4.2.2.2.2.1, y4.2.2.2.2.2, y5)))))))
noncomputable def fX6_send (v1 : Int32) (v2 : Int32) (o_wayIsKept : Int32) (n_nodes : Int32) (n_links : Int32) (n_tunnels : Int32) (n_areas : (Nat → Int32)) (n_firsts : (Nat → Int32)) (n_seconds : (Nat → Int32)) (n_privates : (Nat → Int32)) (n_entries : (Nat → Int32)) (n_exits : (Nat → Int32)) (n_truth : (Nat → Int32)) (n_facts : (Nat → Int32)) (g_nodes : Int32) (g_edges : Int32) (g_starts : (Nat → Int32)) (g_ends : (Nat → Int32)) (g_lengths : (Nat → Int32)) (g_items : (Nat → Int32)) (g_remaining : (Nat → Int32)) (p_crossed : Int32) (p_cost : Int32) (p_stops : (Nat → Int32)) (p_at : Int32) (p_area : Int32) (p_exit : Int32) : Option (Int32 × Int32 × Int32 × Int32 × (Nat → Int32) × (Nat → Int32) × (Nat → Int32) × (Nat → Int32) × (Nat → Int32) × Int32 × Int32 × (Nat → Int32) × Int32 × Int32 × Int32) :=
  (fX6_isPair v1 v2 n_nodes).bind (fun y1 =>
  if y1 = 0 then
  some ((-1 : Int32), o_wayIsKept, g_nodes, g_edges, g_starts, g_ends, g_lengths, g_items, g_remaining, p_crossed, p_cost, p_stops, p_at, p_area, p_exit)
  else
  (fX4_travel v1 v2 p_stops n_nodes n_links n_tunnels n_areas n_firsts n_seconds n_privates n_entries n_exits n_truth n_facts g_nodes g_edges g_starts g_ends g_lengths g_items g_remaining).bind (fun y2 =>
  some (y2.1, (1 : Int32), y2.2.2.2.2.2.2.2.1, y2.2.2.2.2.2.2.2.2.1, y2.2.2.2.2.2.2.2.2.2.1, y2.2.2.2.2.2.2.2.2.2.2.1, y2.2.2.2.2.2.2.2.2.2.2.2.1, y2.2.2.2.2.2.2.2.2.2.2.2.2.1, y2.2.2.2.2.2.2.2.2.2.2.2.2.2, y2.2.1, y2.2.2.1, y2.2.2.2.1, y2.2.2.2.2.1, y2.2.2.2.2.2.1, y2.2.2.2.2.2.2.1)))
noncomputable def fX6_way (v1 : Int32) (o_wayIsKept : Int32) (p_crossed : Int32) (p_cost : Int32) (p_stops : (Nat → Int32)) : Option (Int32) :=
  if (-2 : Int32) ≤ v1 then
  if o_wayIsKept = 0 then
  some (-2 : Int32)
  else
  if v1 = (-2 : Int32) then
  some p_cost
  else
  if v1 = (-1 : Int32) then
  some p_crossed
  else
  if p_crossed < v1 then
  some (-9 : Int32)
  else
  gd (vp_in v1 21) (
  some (p_stops (v1).toNatClampNeg))
  else
  some (-1 : Int32)
noncomputable def uX6_outcomes_78 (v2 : Int32) (v3 : Int32) (g_nodes : Int32) (g_edges : Int32) (g_starts : (Nat → Int32)) (g_ends : (Nat → Int32)) (g_lengths : (Nat → Int32)) (g_items : (Nat → Int32)) (g_remaining : (Nat → Int32)) (t_crossed : Int32) (t_cost : Int32) (t_stops : (Nat → Int32)) (t_at : Int32) (t_area : Int32) (t_exit : Int32) : Option ((Int32 × Int32 × Int32 × Int32 × (Nat → Int32) × (Nat → Int32) × (Nat → Int32) × (Nat → Int32) × (Nat → Int32) × Int32 × Int32 × (Nat → Int32) × Int32 × Int32 × Int32) ⊕ (Int32 × Int32 × Int32 × (Nat → Int32) × (Nat → Int32) × (Nat → Int32) × (Nat → Int32) × (Nat → Int32) × Int32 × Int32 × (Nat → Int32) × Int32 × Int32 × Int32)) :=
  nm (v3 + (1 : Int32)) (fun w2 =>
  some (.inl (v2, w2, g_nodes, g_edges, g_starts, g_ends, g_lengths, g_items, g_remaining, t_crossed, t_cost, t_stops, t_at, t_area, t_exit)))
noncomputable def uX6_outcomes_72 (v2 : Int32) (v4 : Int32) (g_nodes : Int32) (g_edges : Int32) (g_starts : (Nat → Int32)) (g_ends : (Nat → Int32)) (g_lengths : (Nat → Int32)) (g_items : (Nat → Int32)) (g_remaining : (Nat → Int32)) (t_crossed : Int32) (t_cost : Int32) (t_stops : (Nat → Int32)) (t_at : Int32) (t_area : Int32) (t_exit : Int32) : Option ((Int32 × Int32 × Int32 × Int32 × (Nat → Int32) × (Nat → Int32) × (Nat → Int32) × (Nat → Int32) × (Nat → Int32) × Int32 × Int32 × (Nat → Int32) × Int32 × Int32 × Int32) ⊕ ((Int32 × Int32 × Int32 × Int32 × (Nat → Int32) × (Nat → Int32) × (Nat → Int32) × (Nat → Int32) × (Nat → Int32) × Int32 × Int32 × (Nat → Int32) × Int32 × Int32 × Int32) ⊕ (Int32 × Int32 × Int32 × (Nat → Int32) × (Nat → Int32) × (Nat → Int32) × (Nat → Int32) × (Nat → Int32) × Int32 × Int32 × (Nat → Int32) × Int32 × Int32 × Int32))) :=
  nm (v4 + (1 : Int32)) (fun w4 =>
  some (.inl (v2, w4, g_nodes, g_edges, g_starts, g_ends, g_lengths, g_items, g_remaining, t_crossed, t_cost, t_stops, t_at, t_area, t_exit)))
noncomputable def sX6_outcomes_29 (v1 : Int32) (v3 : Int32) (n_nodes : Int32) (n_links : Int32) (n_tunnels : Int32) (n_areas : (Nat → Int32)) (n_firsts : (Nat → Int32)) (n_seconds : (Nat → Int32)) (n_privates : (Nat → Int32)) (n_entries : (Nat → Int32)) (n_exits : (Nat → Int32)) (n_truth : (Nat → Int32)) (n_facts : (Nat → Int32)) (v2 : Int32) (v4 : Int32) (g_nodes : Int32) (g_edges : Int32) (g_starts : (Nat → Int32)) (g_ends : (Nat → Int32)) (g_lengths : (Nat → Int32)) (g_items : (Nat → Int32)) (g_remaining : (Nat → Int32)) (t_crossed : Int32) (t_cost : Int32) (t_stops : (Nat → Int32)) (t_at : Int32) (t_area : Int32) (t_exit : Int32) : Option ((Int32 × Int32 × Int32 × Int32 × (Nat → Int32) × (Nat → Int32) × (Nat → Int32) × (Nat → Int32) × (Nat → Int32) × Int32 × Int32 × (Nat → Int32) × Int32 × Int32 × Int32) ⊕ ((Int32 × Int32 × Int32 × Int32 × (Nat → Int32) × (Nat → Int32) × (Nat → Int32) × (Nat → Int32) × (Nat → Int32) × Int32 × Int32 × (Nat → Int32) × Int32 × Int32 × Int32) ⊕ (Int32 × Int32 × Int32 × (Nat → Int32) × (Nat → Int32) × (Nat → Int32) × (Nat → Int32) × (Nat → Int32) × Int32 × Int32 × (Nat → Int32) × Int32 × Int32 × Int32))) :=
  if n_nodes ≤ v4 then
  oi (uX6_outcomes_78 v2 v3 g_nodes g_edges g_starts g_ends g_lengths g_items g_remaining t_crossed t_cost t_stops t_at t_area t_exit)
  else
  if v3 = v4 then
  uX6_outcomes_72 v2 v4 g_nodes g_edges g_starts g_ends g_lengths g_items g_remaining t_crossed t_cost t_stops t_at t_area t_exit
  else
  (fX4_travel v3 v4 t_stops n_nodes n_links n_tunnels n_areas n_firsts n_seconds n_privates n_entries n_exits n_truth n_facts g_nodes g_edges g_starts g_ends g_lengths g_items g_remaining).bind (fun y5 =>
  if y5.1 = v1 then
  nm (v2 + (1 : Int32)) (fun w6 =>
  uX6_outcomes_72 w6 v4 y5.2.2.2.2.2.2.2.1 y5.2.2.2.2.2.2.2.2.1 y5.2.2.2.2.2.2.2.2.2.1 y5.2.2.2.2.2.2.2.2.2.2.1 y5.2.2.2.2.2.2.2.2.2.2.2.1 y5.2.2.2.2.2.2.2.2.2.2.2.2.1 y5.2.2.2.2.2.2.2.2.2.2.2.2.2 y5.2.1 y5.2.2.1 y5.2.2.2.1 y5.2.2.2.2.1 y5.2.2.2.2.2.1 y5.2.2.2.2.2.2.1)
  else
  uX6_outcomes_72 v2 v4 y5.2.2.2.2.2.2.2.1 y5.2.2.2.2.2.2.2.2.1 y5.2.2.2.2.2.2.2.2.2.1 y5.2.2.2.2.2.2.2.2.2.2.1 y5.2.2.2.2.2.2.2.2.2.2.2.1 y5.2.2.2.2.2.2.2.2.2.2.2.2.1 y5.2.2.2.2.2.2.2.2.2.2.2.2.2 y5.2.1 y5.2.2.1 y5.2.2.2.1 y5.2.2.2.2.1 y5.2.2.2.2.2.1 y5.2.2.2.2.2.2.1)
noncomputable abbrev lX6_outcomes_29 (v1 : Int32) (v3 : Int32) (n_nodes : Int32) (n_links : Int32) (n_tunnels : Int32) (n_areas : (Nat → Int32)) (n_firsts : (Nat → Int32)) (n_seconds : (Nat → Int32)) (n_privates : (Nat → Int32)) (n_entries : (Nat → Int32)) (n_exits : (Nat → Int32)) (n_truth : (Nat → Int32)) (n_facts : (Nat → Int32)) (v2 : Int32) (v4 : Int32) (g_nodes : Int32) (g_edges : Int32) (g_starts : (Nat → Int32)) (g_ends : (Nat → Int32)) (g_lengths : (Nat → Int32)) (g_items : (Nat → Int32)) (g_remaining : (Nat → Int32)) (t_crossed : Int32) (t_cost : Int32) (t_stops : (Nat → Int32)) (t_at : Int32) (t_area : Int32) (t_exit : Int32) : Option ((Int32 × Int32 × Int32 × Int32 × (Nat → Int32) × (Nat → Int32) × (Nat → Int32) × (Nat → Int32) × (Nat → Int32) × Int32 × Int32 × (Nat → Int32) × Int32 × Int32 × Int32) ⊕ (Int32 × Int32 × Int32 × (Nat → Int32) × (Nat → Int32) × (Nat → Int32) × (Nat → Int32) × (Nat → Int32) × Int32 × Int32 × (Nat → Int32) × Int32 × Int32 × Int32)) :=
  wh (fun b : Int32 × Int32 × Int32 × Int32 × (Nat → Int32) × (Nat → Int32) × (Nat → Int32) × (Nat → Int32) × (Nat → Int32) × Int32 × Int32 × (Nat → Int32) × Int32 × Int32 × Int32 => sX6_outcomes_29 v1 v3 n_nodes n_links n_tunnels n_areas n_firsts n_seconds n_privates n_entries n_exits n_truth n_facts b.1 b.2.1 b.2.2.1 b.2.2.2.1 b.2.2.2.2.1 b.2.2.2.2.2.1 b.2.2.2.2.2.2.1 b.2.2.2.2.2.2.2.1 b.2.2.2.2.2.2.2.2.1 b.2.2.2.2.2.2.2.2.2.1 b.2.2.2.2.2.2.2.2.2.2.1 b.2.2.2.2.2.2.2.2.2.2.2.1 b.2.2.2.2.2.2.2.2.2.2.2.2.1 b.2.2.2.2.2.2.2.2.2.2.2.2.2.1 b.2.2.2.2.2.2.2.2.2.2.2.2.2.2) (v2, v4, g_nodes, g_edges, g_starts, g_ends, g_lengths, g_items, g_remaining, t_crossed, t_cost, t_stops, t_at, t_area, t_exit)
noncomputable def sX6_outcomes_15 (v1 : Int32) (n_nodes : Int32) (n_links : Int32) (n_tunnels : Int32) (n_areas : (Nat → Int32)) (n_firsts : (Nat → Int32)) (n_seconds : (Nat → Int32)) (n_privates : (Nat → Int32)) (n_entries : (Nat → Int32)) (n_exits : (Nat → Int32)) (n_truth : (Nat → Int32)) (n_facts : (Nat → Int32)) (v2 : Int32) (v3 : Int32) (g_nodes : Int32) (g_edges : Int32) (g_starts : (Nat → Int32)) (g_ends : (Nat → Int32)) (g_lengths : (Nat → Int32)) (g_items : (Nat → Int32)) (g_remaining : (Nat → Int32)) (t_crossed : Int32) (t_cost : Int32) (t_stops : (Nat → Int32)) (t_at : Int32) (t_area : Int32) (t_exit : Int32) : Option ((Int32 × Int32 × Int32 × Int32 × (Nat → Int32) × (Nat → Int32) × (Nat → Int32) × (Nat → Int32) × (Nat → Int32) × Int32 × Int32 × (Nat → Int32) × Int32 × Int32 × Int32) ⊕ (Int32 × Int32 × Int32 × (Nat → Int32) × (Nat → Int32) × (Nat → Int32) × (Nat → Int32) × (Nat → Int32) × Int32 × Int32 × (Nat → Int32) × Int32 × Int32 × Int32)) :=
  if n_nodes ≤ v3 then
  oi (some (v2, g_nodes, g_edges, g_starts, g_ends, g_lengths, g_items, g_remaining, t_crossed, t_cost, t_stops, t_at, t_area, t_exit))
  else
  lX6_outcomes_29 v1 v3 n_nodes n_links n_tunnels n_areas n_firsts n_seconds n_privates n_entries n_exits n_truth n_facts v2 (0 : Int32) g_nodes g_edges g_starts g_ends g_lengths g_items g_remaining t_crossed t_cost t_stops t_at t_area t_exit
noncomputable abbrev lX6_outcomes_15 (v1 : Int32) (n_nodes : Int32) (n_links : Int32) (n_tunnels : Int32) (n_areas : (Nat → Int32)) (n_firsts : (Nat → Int32)) (n_seconds : (Nat → Int32)) (n_privates : (Nat → Int32)) (n_entries : (Nat → Int32)) (n_exits : (Nat → Int32)) (n_truth : (Nat → Int32)) (n_facts : (Nat → Int32)) (v2 : Int32) (v3 : Int32) (g_nodes : Int32) (g_edges : Int32) (g_starts : (Nat → Int32)) (g_ends : (Nat → Int32)) (g_lengths : (Nat → Int32)) (g_items : (Nat → Int32)) (g_remaining : (Nat → Int32)) (t_crossed : Int32) (t_cost : Int32) (t_stops : (Nat → Int32)) (t_at : Int32) (t_area : Int32) (t_exit : Int32) : Option (Int32 × Int32 × Int32 × (Nat → Int32) × (Nat → Int32) × (Nat → Int32) × (Nat → Int32) × (Nat → Int32) × Int32 × Int32 × (Nat → Int32) × Int32 × Int32 × Int32) :=
  wh (fun b : Int32 × Int32 × Int32 × Int32 × (Nat → Int32) × (Nat → Int32) × (Nat → Int32) × (Nat → Int32) × (Nat → Int32) × Int32 × Int32 × (Nat → Int32) × Int32 × Int32 × Int32 => sX6_outcomes_15 v1 n_nodes n_links n_tunnels n_areas n_firsts n_seconds n_privates n_entries n_exits n_truth n_facts b.1 b.2.1 b.2.2.1 b.2.2.2.1 b.2.2.2.2.1 b.2.2.2.2.2.1 b.2.2.2.2.2.2.1 b.2.2.2.2.2.2.2.1 b.2.2.2.2.2.2.2.2.1 b.2.2.2.2.2.2.2.2.2.1 b.2.2.2.2.2.2.2.2.2.2.1 b.2.2.2.2.2.2.2.2.2.2.2.1 b.2.2.2.2.2.2.2.2.2.2.2.2.1 b.2.2.2.2.2.2.2.2.2.2.2.2.2.1 b.2.2.2.2.2.2.2.2.2.2.2.2.2.2) (v2, v3, g_nodes, g_edges, g_starts, g_ends, g_lengths, g_items, g_remaining, t_crossed, t_cost, t_stops, t_at, t_area, t_exit)
noncomputable def fX6_outcomes (v1 : Int32) (n_nodes : Int32) (n_links : Int32) (n_tunnels : Int32) (n_areas : (Nat → Int32)) (n_firsts : (Nat → Int32)) (n_seconds : (Nat → Int32)) (n_privates : (Nat → Int32)) (n_entries : (Nat → Int32)) (n_exits : (Nat → Int32)) (n_truth : (Nat → Int32)) (n_facts : (Nat → Int32)) (g_nodes : Int32) (g_edges : Int32) (g_starts : (Nat → Int32)) (g_ends : (Nat → Int32)) (g_lengths : (Nat → Int32)) (g_items : (Nat → Int32)) (g_remaining : (Nat → Int32)) (t_crossed : Int32) (t_cost : Int32) (t_stops : (Nat → Int32)) (t_at : Int32) (t_area : Int32) (t_exit : Int32) : Option (Int32 × Int32 × Int32 × (Nat → Int32) × (Nat → Int32) × (Nat → Int32) × (Nat → Int32) × (Nat → Int32) × Int32 × Int32 × (Nat → Int32) × Int32 × Int32 × Int32) :=
  if v1 < 0 then
  some ((-1 : Int32), g_nodes, g_edges, g_starts, g_ends, g_lengths, g_items, g_remaining, t_crossed, t_cost, t_stops, t_at, t_area, t_exit)
  else
  if v1 ≤ (4 : Int32) then
  lX6_outcomes_15 v1 n_nodes n_links n_tunnels n_areas n_firsts n_seconds n_privates n_entries n_exits n_truth n_facts (0 : Int32) (0 : Int32) g_nodes g_edges g_starts g_ends g_lengths g_items g_remaining t_crossed t_cost t_stops t_at t_area t_exit
  else
  some ((-1 : Int32), g_nodes, g_edges, g_starts, g_ends, g_lengths, g_items, g_remaining, t_crossed, t_cost, t_stops, t_at, t_area, t_exit)
noncomputable def fX6_ideal (v1 : Int32) (v2 : Int32) (n_nodes : Int32) (n_links : Int32) (n_areas : (Nat → Int32)) (n_firsts : (Nat → Int32)) (n_seconds : (Nat → Int32)) (n_privates : (Nat → Int32)) (n_truth : (Nat → Int32)) (g_nodes : Int32) (g_edges : Int32) (g_starts : (Nat → Int32)) (g_ends : (Nat → Int32)) (g_lengths : (Nat → Int32)) (g_items : (Nat → Int32)) (g_remaining : (Nat → Int32)) : Option (Int32 × Int32 × Int32 × (Nat → Int32) × (Nat → Int32) × (Nat → Int32) × (Nat → Int32) × (Nat → Int32)) :=
  (fX6_isNode v1 n_nodes).bind (fun y1 =>
  if y1 = 0 then
  some ((-1 : Int32), g_nodes, g_edges, g_starts, g_ends, g_lengths, g_items, g_remaining)
  else
  (fX6_isNode v2 n_nodes).bind (fun y2 =>
  if y2 = 0 then
  some ((-1 : Int32), g_nodes, g_edges, g_starts, g_ends, g_lengths, g_items, g_remaining)
  else
  gd (vp_in v1 10) (
  (fX3_entitlements (n_areas (v1).toNatClampNeg) n_truth).bind (fun y4 =>
  (fX2_takeTrueLinks y4 g_starts g_ends g_lengths g_items n_nodes n_links n_areas n_firsts n_seconds n_privates n_truth).bind (fun y5 =>
  (fX2_measureTo v2 y5.1 y5.2.1 y5.2.2.1 y5.2.2.2.1 y5.2.2.2.2.1 g_remaining).bind (fun y6 =>
  (fX2_costFrom v1 y6).bind (fun y7 =>
  some (y7, y5.1, y5.2.1, y5.2.2.1, y5.2.2.2.1, y5.2.2.2.2.1, y5.2.2.2.2.2, y6))))))))
noncomputable def uX6_sumOfIdeals_102 (v3 : Int32) (v4 : Int32) (g_remaining : (Nat → Int32)) : Option ((Int32 × Int32 × (Nat → Int32)) ⊕ (Int32 × Int32 × Int32 × (Nat → Int32) × (Nat → Int32) × (Nat → Int32) × (Nat → Int32) × (Nat → Int32))) :=
  nm (v4 + (1 : Int32)) (fun w4 =>
  some (.inl (v3, w4, g_remaining)))
noncomputable def uX6_sumOfIdeals_96 (v3 : Int32) (v5 : Int32) : Option ((Int32 × Int32) ⊕ ((Int32 × Int32 × (Nat → Int32)) ⊕ (Int32 × Int32 × Int32 × (Nat → Int32) × (Nat → Int32) × (Nat → Int32) × (Nat → Int32) × (Nat → Int32)))) :=
  nm (v5 + (1 : Int32)) (fun w7 =>
  some (.inl (v3, w7)))
noncomputable def uX6_sumOfIdeals_94 (v5 : Int32) (k0 : Int32) (k1 : Int32) : Option ((Int32 × Int32) ⊕ ((Int32 × Int32 × (Nat → Int32)) ⊕ (Int32 × Int32 × Int32 × (Nat → Int32) × (Nat → Int32) × (Nat → Int32) × (Nat → Int32) × (Nat → Int32)))) :=
  nm (k0 + k1) (fun w9 =>
  uX6_sumOfIdeals_96 w9 v5)
noncomputable def sX6_sumOfIdeals_41 (v1 : Int32) (v4 : Int32) (n_nodes : Int32) (n_areas : (Nat → Int32)) (g_remaining : (Nat → Int32)) (v3 : Int32) (v5 : Int32) : Option ((Int32 × Int32) ⊕ ((Int32 × Int32 × (Nat → Int32)) ⊕ (Int32 × Int32 × Int32 × (Nat → Int32) × (Nat → Int32) × (Nat → Int32) × (Nat → Int32) × (Nat → Int32)))) :=
  if n_nodes ≤ v5 then
  oi (uX6_sumOfIdeals_102 v3 v4 g_remaining)
  else
  gd (vp_in v5 10) (
  if (n_areas (v5).toNatClampNeg) = v1 then
  (fX2_costFrom v5 g_remaining).bind (fun y8 =>
  if y8 = (-9 : Int32) then
  uX6_sumOfIdeals_94 v5 v3 (200 : Int32)
  else
  uX6_sumOfIdeals_94 v5 v3 y8)
  else
  uX6_sumOfIdeals_96 v3 v5)
noncomputable abbrev lX6_sumOfIdeals_41 (v1 : Int32) (v4 : Int32) (n_nodes : Int32) (n_areas : (Nat → Int32)) (g_remaining : (Nat → Int32)) (v3 : Int32) (v5 : Int32) : Option ((Int32 × Int32 × (Nat → Int32)) ⊕ (Int32 × Int32 × Int32 × (Nat → Int32) × (Nat → Int32) × (Nat → Int32) × (Nat → Int32) × (Nat → Int32))) :=
  wh (fun b : Int32 × Int32 => sX6_sumOfIdeals_41 v1 v4 n_nodes n_areas g_remaining b.1 b.2) (v3, v5)
noncomputable def sX6_sumOfIdeals_17 (v1 : Int32) (n_nodes : Int32) (n_areas : (Nat → Int32)) (g_nodes : Int32) (g_edges : Int32) (g_starts : (Nat → Int32)) (g_ends : (Nat → Int32)) (g_lengths : (Nat → Int32)) (g_items : (Nat → Int32)) (v3 : Int32) (v4 : Int32) (g_remaining : (Nat → Int32)) : Option ((Int32 × Int32 × (Nat → Int32)) ⊕ (Int32 × Int32 × Int32 × (Nat → Int32) × (Nat → Int32) × (Nat → Int32) × (Nat → Int32) × (Nat → Int32))) :=
  if n_nodes ≤ v4 then
  oi (some (v3, g_nodes, g_edges, g_starts, g_ends, g_lengths, g_items, g_remaining))
  else
  (fX2_measureTo v4 g_nodes g_edges g_starts g_ends g_lengths g_remaining).bind (fun y3 =>
  lX6_sumOfIdeals_41 v1 v4 n_nodes n_areas y3 v3 (0 : Int32))
noncomputable abbrev lX6_sumOfIdeals_17 (v1 : Int32) (n_nodes : Int32) (n_areas : (Nat → Int32)) (g_nodes : Int32) (g_edges : Int32) (g_starts : (Nat → Int32)) (g_ends : (Nat → Int32)) (g_lengths : (Nat → Int32)) (g_items : (Nat → Int32)) (v3 : Int32) (v4 : Int32) (g_remaining : (Nat → Int32)) : Option (Int32 × Int32 × Int32 × (Nat → Int32) × (Nat → Int32) × (Nat → Int32) × (Nat → Int32) × (Nat → Int32)) :=
  wh (fun b : Int32 × Int32 × (Nat → Int32) => sX6_sumOfIdeals_17 v1 n_nodes n_areas g_nodes g_edges g_starts g_ends g_lengths g_items b.1 b.2.1 b.2.2) (v3, v4, g_remaining)
noncomputable def fX6_sumOfIdeals (v1 : Int32) (v2 : Int32) (n_nodes : Int32) (n_links : Int32) (n_areas : (Nat → Int32)) (n_firsts : (Nat → Int32)) (n_seconds : (Nat → Int32)) (n_privates : (Nat → Int32)) (n_truth : (Nat → Int32)) (g_starts : (Nat → Int32)) (g_ends : (Nat → Int32)) (g_lengths : (Nat → Int32)) (g_items : (Nat → Int32)) (g_remaining : (Nat → Int32)) : Option (Int32 × Int32 × Int32 × (Nat → Int32) × (Nat → Int32) × (Nat → Int32) × (Nat → Int32) × (Nat → Int32)) :=
  (fX2_takeTrueLinks v2 g_starts g_ends g_lengths g_items n_nodes n_links n_areas n_firsts n_seconds n_privates n_truth).bind (fun y1 =>
  lX6_sumOfIdeals_17 v1 n_nodes n_areas y1.1 y1.2.1 y1.2.2.1 y1.2.2.2.1 y1.2.2.2.2.1 y1.2.2.2.2.2 (0 : Int32) (0 : Int32) g_remaining)
noncomputable def fX6_worth (v1 : Int32) (v2 : Int32) (n_nodes : Int32) (n_links : Int32) (n_areas : (Nat → Int32)) (n_firsts : (Nat → Int32)) (n_seconds : (Nat → Int32)) (n_privates : (Nat → Int32)) (n_truth : (Nat → Int32)) (g_nodes : Int32) (g_edges : Int32) (g_starts : (Nat → Int32)) (g_ends : (Nat → Int32)) (g_lengths : (Nat → Int32)) (g_items : (Nat → Int32)) (g_remaining : (Nat → Int32)) : Option (Int32 × Int32 × Int32 × (Nat → Int32) × (Nat → Int32) × (Nat → Int32) × (Nat → Int32) × (Nat → Int32)) :=
  (fX6_areTwoAreas v1 v2).bind (fun y1 =>
  if y1 = 0 then
  some ((-1 : Int32), g_nodes, g_edges, g_starts, g_ends, g_lengths, g_items, g_remaining)
  else
  (fX3_entitlements v2 n_truth).bind (fun y2 =>
  (fX6_sumOfIdeals v2 (y2 &&& (((1 : Int32) <<< (v1 &&& 31)) ^^^ (-1 : Int32))) n_nodes n_links n_areas n_firsts n_seconds n_privates n_truth g_starts g_ends g_lengths g_items g_remaining).bind (fun y3 =>
  (fX6_sumOfIdeals v2 (y2 ||| ((1 : Int32) <<< (v1 &&& 31))) n_nodes n_links n_areas n_firsts n_seconds n_privates n_truth y3.2.2.2.1 y3.2.2.2.2.1 y3.2.2.2.2.2.1 y3.2.2.2.2.2.2.1 y3.2.2.2.2.2.2.2).bind (fun y4 =>
  some (y3.1 - y4.1, y4.2.1, y4.2.2.1, y4.2.2.2.1, y4.2.2.2.2.1, y4.2.2.2.2.2.1, y4.2.2.2.2.2.2.1, y4.2.2.2.2.2.2.2)))))
noncomputable def fX6_roundsToQuiet (n_nodes : Int32) (n_links : Int32) (n_tunnels : Int32) (n_messages : Int32) (n_areas : (Nat → Int32)) (n_firsts : (Nat → Int32)) (n_seconds : (Nat → Int32)) (n_privates : (Nat → Int32)) (n_entries : (Nat → Int32)) (n_exits : (Nat → Int32)) (n_truth : (Nat → Int32)) (n_facts : (Nat → Int32)) (n_news : (Nat → Int64)) (c_areas : (Nat → Int32)) (c_firsts : (Nat → Int32)) (c_seconds : (Nat → Int32)) (c_privates : (Nat → Int32)) (c_entries : (Nat → Int32)) (c_exits : (Nat → Int32)) (c_truth : (Nat → Int32)) (c_facts : (Nat → Int32)) (c_news : (Nat → Int64)) (f_sentFacts : (Nat → Int32)) (f_sentNews : (Nat → Int64)) : Option (Int32 × Int32 × Int32 × Int32 × Int32 × (Nat → Int32) × (Nat → Int32) × (Nat → Int32) × (Nat → Int32) × (Nat → Int32) × (Nat → Int32) × (Nat → Int32) × (Nat → Int32) × (Nat → Int64) × (Nat → Int32) × (Nat → Int64)) :=
  (fX3_copyFrom c_areas c_firsts c_seconds c_privates c_entries c_exits c_truth c_facts c_news n_nodes n_links n_tunnels n_messages n_areas n_firsts n_seconds n_privates n_entries n_exits n_truth n_facts n_news).bind (fun y1 =>
  (fX1_passRounds (1000000 : Int32) f_sentFacts f_sentNews y1.1 y1.2.1 y1.2.2.2.1 y1.2.2.2.2.1 y1.2.2.2.2.2.1 y1.2.2.2.2.2.2.1 y1.2.2.2.2.2.2.2.1 y1.2.2.2.2.2.2.2.2.2.2.1 y1.2.2.2.2.2.2.2.2.2.2.2.1 y1.2.2.2.2.2.2.2.2.2.2.2.2).bind (fun y2 =>
  some (y2.1, y1.1, y1.2.1, y1.2.2.1, y2.2.2.2.1, y1.2.2.2.2.1, y1.2.2.2.2.2.1, y1.2.2.2.2.2.2.1, y1.2.2.2.2.2.2.2.1, y1.2.2.2.2.2.2.2.2.1, y1.2.2.2.2.2.2.2.2.2.1, y1.2.2.2.2.2.2.2.2.2.2.1, y2.2.2.2.2.1, y2.2.2.2.2.2, y2.2.1, y2.2.2.1)))
