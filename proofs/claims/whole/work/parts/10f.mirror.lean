noncomputable def fX4_isDelivered (v1 : Int32) (p_at : Int32) (p_exit : Int32) : Option (Int32) :=
  if p_at = v1 then
  if p_exit = (-1 : Int32) then
  some (1 : Int32)
  else
  some (0 : Int32)
  else
  some (0 : Int32)
noncomputable def uX4_chooseEdge_43 (k1 : Int32) (p_at : Int32) (g_nodes : Int32) (g_edges : Int32) (g_starts : (Nat → Int32)) (g_ends : (Nat → Int32)) (g_lengths : (Nat → Int32)) (g_items : (Nat → Int32)) (g_remaining : (Nat → Int32)) : Option (Int32 × Int32 × Int32 × (Nat → Int32) × (Nat → Int32) × (Nat → Int32) × (Nat → Int32) × (Nat → Int32)) :=
  (fX2_measureTo k1 g_nodes g_edges g_starts g_ends g_lengths g_remaining).bind (fun y2 =>
  (fX2_firstEdge p_at g_edges g_starts g_ends g_lengths y2).bind (fun y3 =>
  some (y3, g_nodes, g_edges, g_starts, g_ends, g_lengths, g_items, y2)))
noncomputable def uX4_chooseEdge_23 (v3 : Int32) (k2 : Int32) (k3 : Int32) (k4 : Int32) (p_at : Int32) (p_exit : Int32) (n_nodes : Int32) (n_links : Int32) (n_tunnels : Int32) (n_areas : (Nat → Int32)) (n_firsts : (Nat → Int32)) (n_seconds : (Nat → Int32)) (n_privates : (Nat → Int32)) (n_entries : (Nat → Int32)) (n_exits : (Nat → Int32)) (n_facts : (Nat → Int32)) (g_starts : (Nat → Int32)) (g_ends : (Nat → Int32)) (g_lengths : (Nat → Int32)) (g_items : (Nat → Int32)) (g_remaining : (Nat → Int32)) : Option (Int32 × Int32 × Int32 × (Nat → Int32) × (Nat → Int32) × (Nat → Int32) × (Nat → Int32) × (Nat → Int32)) :=
  (fX2_takeView k2 k3 k4 g_starts g_ends g_lengths g_items n_nodes n_links n_tunnels n_areas n_firsts n_seconds n_privates n_entries n_exits n_facts).bind (fun y1 =>
  if p_exit = (-1 : Int32) then
  uX4_chooseEdge_43 v3 p_at y1.1 y1.2.1 y1.2.2.1 y1.2.2.2.1 y1.2.2.2.2.1 y1.2.2.2.2.2 g_remaining
  else
  uX4_chooseEdge_43 p_exit p_at y1.1 y1.2.1 y1.2.2.1 y1.2.2.2.1 y1.2.2.2.2.1 y1.2.2.2.2.2 g_remaining)
noncomputable def fX4_chooseEdge (v3 : Int32) (p_at : Int32) (p_area : Int32) (p_exit : Int32) (n_nodes : Int32) (n_links : Int32) (n_tunnels : Int32) (n_areas : (Nat → Int32)) (n_firsts : (Nat → Int32)) (n_seconds : (Nat → Int32)) (n_privates : (Nat → Int32)) (n_entries : (Nat → Int32)) (n_exits : (Nat → Int32)) (n_facts : (Nat → Int32)) (g_starts : (Nat → Int32)) (g_ends : (Nat → Int32)) (g_lengths : (Nat → Int32)) (g_items : (Nat → Int32)) (g_remaining : (Nat → Int32)) : Option (Int32 × Int32 × Int32 × (Nat → Int32) × (Nat → Int32) × (Nat → Int32) × (Nat → Int32) × (Nat → Int32)) :=
  if p_exit = (-1 : Int32) then
  uX4_chooseEdge_23 v3 p_at p_area (1 : Int32) p_at p_exit n_nodes n_links n_tunnels n_areas n_firsts n_seconds n_privates n_entries n_exits n_facts g_starts g_ends g_lengths g_items g_remaining
  else
  uX4_chooseEdge_23 v3 p_at p_area (0 : Int32) p_at p_exit n_nodes n_links n_tunnels n_areas n_firsts n_seconds n_privates n_entries n_exits n_facts g_starts g_ends g_lengths g_items g_remaining
noncomputable def uX4_obstacleAt_52 (p_crossed : Int32) : Option (Int32) :=
  if p_crossed < (20 : Int32) then
  some (0 : Int32)
  else
  some (4 : Int32)
noncomputable def fX4_obstacleAt (v2 : Int32) (p_crossed : Int32) (p_area : Int32) (n_areas : (Nat → Int32)) (n_firsts : (Nat → Int32)) (n_privates : (Nat → Int32)) (n_truth : (Nat → Int32)) : Option (Int32) :=
  (fX3_isUp v2 n_truth).bind (fun y1 =>
  if y1 = 0 then
  some (2 : Int32)
  else
  if v2 < (32 : Int32) then
  (fX3_entitlements p_area n_truth).bind (fun y2 =>
  (fX3_owner (v2 - (16 : Int32)) n_areas n_firsts).bind (fun y3 =>
  (fX3_has y2 y3).bind (fun y4 =>
  (fX3_isPrivateLink v2 n_privates).bind (fun y5 =>
  if y5 = 0 then
  uX4_obstacleAt_52 p_crossed
  else
  if y4 = 0 then
  some (3 : Int32)
  else
  uX4_obstacleAt_52 p_crossed))))
  else
  some (0 : Int32))
noncomputable def fX4_move (v2 : Int32) (v3 : Int32) (p_crossed : Int32) (p_cost : Int32) (p_stops : (Nat → Int32)) (p_at : Int32) (p_area : Int32) (p_exit : Int32) (n_areas : (Nat → Int32)) (n_truth : (Nat → Int32)) : Option (Int32 × Int32 × (Nat → Int32) × Int32 × Int32 × Int32) :=
  if v2 < (32 : Int32) then
  gd (vp_in v2 35) (
  (fX0_price (n_truth (v2).toNatClampNeg)).bind (fun y2 =>
  gd (vp_in (p_crossed + (1 : Int32)) 21) (
  some (p_crossed + (1 : Int32), p_cost + y2, upd p_stops (p_crossed + (1 : Int32)).toNatClampNeg v3, v3, p_area, p_exit))))
  else
  gd (vp_in p_at 10) (
  some (p_crossed, p_cost, p_stops, p_at, n_areas (p_at).toNatClampNeg, v3))
noncomputable def fX4_leaveTunnelAtExit (v1 : Int32) (p_at : Int32) (p_area : Int32) (p_exit : Int32) : Option (Int32 × Int32) :=
  if p_at = p_exit then
  some (v1, (-1 : Int32))
  else
  some (p_area, p_exit)
noncomputable def uX4_travel_129 (v4 : Int32) (p_crossed : Int32) (p_cost : Int32) (p_stops : (Nat → Int32)) (p_at : Int32) (p_area : Int32) (p_exit : Int32) (g_nodes : Int32) (g_edges : Int32) (g_starts : (Nat → Int32)) (g_ends : (Nat → Int32)) (g_lengths : (Nat → Int32)) (g_items : (Nat → Int32)) (g_remaining : (Nat → Int32)) : Option (Int32 × Int32 × Int32 × (Nat → Int32) × Int32 × Int32 × Int32 × Int32 × Int32 × (Nat → Int32) × (Nat → Int32) × (Nat → Int32) × (Nat → Int32) × (Nat → Int32)) :=
  (fX4_isDelivered v4 p_at p_exit).bind (fun y3 =>
  if y3 = 0 then
  some ((4 : Int32), p_crossed, p_cost, p_stops, p_at, p_area, p_exit, g_nodes, g_edges, g_starts, g_ends, g_lengths, g_items, g_remaining)
  else
  some ((0 : Int32), p_crossed, p_cost, p_stops, p_at, p_area, p_exit, g_nodes, g_edges, g_starts, g_ends, g_lengths, g_items, g_remaining))
noncomputable def sX4_travel_40 (v3 : Int32) (v4 : Int32) (n_nodes : Int32) (n_links : Int32) (n_tunnels : Int32) (n_areas : (Nat → Int32)) (n_firsts : (Nat → Int32)) (n_seconds : (Nat → Int32)) (n_privates : (Nat → Int32)) (n_entries : (Nat → Int32)) (n_exits : (Nat → Int32)) (n_truth : (Nat → Int32)) (n_facts : (Nat → Int32)) (v5 : Int32) (p_crossed : Int32) (p_cost : Int32) (p_stops : (Nat → Int32)) (p_at : Int32) (p_area : Int32) (p_exit : Int32) (g_nodes : Int32) (g_edges : Int32) (g_starts : (Nat → Int32)) (g_ends : (Nat → Int32)) (g_lengths : (Nat → Int32)) (g_items : (Nat → Int32)) (g_remaining : (Nat → Int32)) : Option ((Int32 × Int32 × Int32 × (Nat → Int32) × Int32 × Int32 × Int32 × Int32 × Int32 × (Nat → Int32) × (Nat → Int32) × (Nat → Int32) × (Nat → Int32) × (Nat → Int32)) ⊕ (Int32 × Int32 × Int32 × (Nat → Int32) × Int32 × Int32 × Int32 × Int32 × Int32 × (Nat → Int32) × (Nat → Int32) × (Nat → Int32) × (Nat → Int32) × (Nat → Int32))) :=
  if (42 : Int32) ≤ v5 then
  oi (uX4_travel_129 v4 p_crossed p_cost p_stops p_at p_area p_exit g_nodes g_edges g_starts g_ends g_lengths g_items g_remaining)
  else
  (fX4_isDelivered v4 p_at p_exit).bind (fun y5 =>
  if y5 = 0 then
  (fX4_chooseEdge v4 p_at p_area p_exit n_nodes n_links n_tunnels n_areas n_firsts n_seconds n_privates n_entries n_exits n_facts g_starts g_ends g_lengths g_items g_remaining).bind (fun y7 =>
  if 0 ≤ y7.1 then
  gd (vp_in y7.1 35) (
  nm (y7.2.2.2.2.2.2.1 (y7.1).toNatClampNeg) (fun w9 =>
  (fX4_obstacleAt w9 p_crossed p_area n_areas n_firsts n_privates n_truth).bind (fun y10 =>
  if y10 = 0 then
  gd (vp_in y7.1 35) (
  (fX4_move w9 (y7.2.2.2.2.1 (y7.1).toNatClampNeg) p_crossed p_cost p_stops p_at p_area p_exit n_areas n_truth).bind (fun y12 =>
  gd (vp_in v3 10) (
  (fX4_leaveTunnelAtExit (n_areas (v3).toNatClampNeg) y12.2.2.2.1 y12.2.2.2.2.1 y12.2.2.2.2.2).bind (fun y14 =>
  nm (v5 + (1 : Int32)) (fun w15 =>
  some (.inl (w15, y12.1, y12.2.1, y12.2.2.1, y12.2.2.2.1, y14.1, y14.2, y7.2.1, y7.2.2.1, y7.2.2.2.1, y7.2.2.2.2.1, y7.2.2.2.2.2.1, y7.2.2.2.2.2.2.1, y7.2.2.2.2.2.2.2)))))))
  else
  oi (some (y10, p_crossed, p_cost, p_stops, p_at, p_area, p_exit, y7.2.1, y7.2.2.1, y7.2.2.2.1, y7.2.2.2.2.1, y7.2.2.2.2.2.1, y7.2.2.2.2.2.2.1, y7.2.2.2.2.2.2.2)))))
  else
  oi (some ((1 : Int32), p_crossed, p_cost, p_stops, p_at, p_area, p_exit, y7.2.1, y7.2.2.1, y7.2.2.2.1, y7.2.2.2.2.1, y7.2.2.2.2.2.1, y7.2.2.2.2.2.2.1, y7.2.2.2.2.2.2.2)))
  else
  oi (uX4_travel_129 v4 p_crossed p_cost p_stops p_at p_area p_exit g_nodes g_edges g_starts g_ends g_lengths g_items g_remaining))
noncomputable abbrev lX4_travel_40 (v3 : Int32) (v4 : Int32) (n_nodes : Int32) (n_links : Int32) (n_tunnels : Int32) (n_areas : (Nat → Int32)) (n_firsts : (Nat → Int32)) (n_seconds : (Nat → Int32)) (n_privates : (Nat → Int32)) (n_entries : (Nat → Int32)) (n_exits : (Nat → Int32)) (n_truth : (Nat → Int32)) (n_facts : (Nat → Int32)) (v5 : Int32) (p_crossed : Int32) (p_cost : Int32) (p_stops : (Nat → Int32)) (p_at : Int32) (p_area : Int32) (p_exit : Int32) (g_nodes : Int32) (g_edges : Int32) (g_starts : (Nat → Int32)) (g_ends : (Nat → Int32)) (g_lengths : (Nat → Int32)) (g_items : (Nat → Int32)) (g_remaining : (Nat → Int32)) : Option (Int32 × Int32 × Int32 × (Nat → Int32) × Int32 × Int32 × Int32 × Int32 × Int32 × (Nat → Int32) × (Nat → Int32) × (Nat → Int32) × (Nat → Int32) × (Nat → Int32)) :=
  wh (fun b : Int32 × Int32 × Int32 × (Nat → Int32) × Int32 × Int32 × Int32 × Int32 × Int32 × (Nat → Int32) × (Nat → Int32) × (Nat → Int32) × (Nat → Int32) × (Nat → Int32) => sX4_travel_40 v3 v4 n_nodes n_links n_tunnels n_areas n_firsts n_seconds n_privates n_entries n_exits n_truth n_facts b.1 b.2.1 b.2.2.1 b.2.2.2.1 b.2.2.2.2.1 b.2.2.2.2.2.1 b.2.2.2.2.2.2.1 b.2.2.2.2.2.2.2.1 b.2.2.2.2.2.2.2.2.1 b.2.2.2.2.2.2.2.2.2.1 b.2.2.2.2.2.2.2.2.2.2.1 b.2.2.2.2.2.2.2.2.2.2.2.1 b.2.2.2.2.2.2.2.2.2.2.2.2.1 b.2.2.2.2.2.2.2.2.2.2.2.2.2) (v5, p_crossed, p_cost, p_stops, p_at, p_area, p_exit, g_nodes, g_edges, g_starts, g_ends, g_lengths, g_items, g_remaining)
noncomputable def fX4_travel (v3 : Int32) (v4 : Int32) (p_stops : (Nat → Int32)) (n_nodes : Int32) (n_links : Int32) (n_tunnels : Int32) (n_areas : (Nat → Int32)) (n_firsts : (Nat → Int32)) (n_seconds : (Nat → Int32)) (n_privates : (Nat → Int32)) (n_entries : (Nat → Int32)) (n_exits : (Nat → Int32)) (n_truth : (Nat → Int32)) (n_facts : (Nat → Int32)) (g_nodes : Int32) (g_edges : Int32) (g_starts : (Nat → Int32)) (g_ends : (Nat → Int32)) (g_lengths : (Nat → Int32)) (g_items : (Nat → Int32)) (g_remaining : (Nat → Int32)) : Option (Int32 × Int32 × Int32 × (Nat → Int32) × Int32 × Int32 × Int32 × Int32 × Int32 × (Nat → Int32) × (Nat → Int32) × (Nat → Int32) × (Nat → Int32) × (Nat → Int32)) :=
  gd (vp_in (0 : Int32) 21) (
  gd (vp_in v3 10) (
  lX4_travel_40 v3 v4 n_nodes n_links n_tunnels n_areas n_firsts n_seconds n_privates n_entries n_exits n_truth n_facts (0 : Int32) (0 : Int32) (0 : Int32) (upd p_stops ((0 : Int32)).toNatClampNeg v3) v3 (n_areas (v3).toNatClampNeg) (-1 : Int32) g_nodes g_edges g_starts g_ends g_lengths g_items g_remaining))
