noncomputable def fX2_lengthOver (v1 : Int32) (g_ends : (Nat → Int32)) (g_lengths : (Nat → Int32)) (g_remaining : (Nat → Int32)) : Option (Int32) :=
  gd (vp_in v1 35) (
  gd (vp_in v1 35) (
  gd (vp_in (g_ends (v1).toNatClampNeg) 10) (
  some ((g_lengths (v1).toNatClampNeg) + (g_remaining (g_ends (v1).toNatClampNeg).toNatClampNeg)))))
noncomputable def fX2_addEdge (v1 : Int32) (v2 : Int32) (v3 : Int32) (v4 : Int32) (g_edges : Int32) (g_starts : (Nat → Int32)) (g_ends : (Nat → Int32)) (g_lengths : (Nat → Int32)) (g_items : (Nat → Int32)) : Option (Int32 × (Nat → Int32) × (Nat → Int32) × (Nat → Int32) × (Nat → Int32)) :=
  gd (vp_in g_edges 35) (
  gd (vp_in g_edges 35) (
  gd (vp_in g_edges 35) (
  gd (vp_in g_edges 35) (
  some (g_edges + (1 : Int32), upd g_starts (g_edges).toNatClampNeg v1, upd g_ends (g_edges).toNatClampNeg v2, upd g_lengths (g_edges).toNatClampNeg ((v4 * (100 : Int32)) + (1 : Int32)), upd g_items (g_edges).toNatClampNeg v3)))))
noncomputable def uX2_takeLinks_facts_134 (v5 : Int32) (g_edges : Int32) (g_starts : (Nat → Int32)) (g_ends : (Nat → Int32)) (g_lengths : (Nat → Int32)) (g_items : (Nat → Int32)) : Option ((Int32 × Int32 × (Nat → Int32) × (Nat → Int32) × (Nat → Int32) × (Nat → Int32)) ⊕ (Int32 × Int32 × (Nat → Int32) × (Nat → Int32) × (Nat → Int32) × (Nat → Int32))) :=
  nm (v5 + (1 : Int32)) (fun w6 =>
  some (.inl (w6, g_edges, g_starts, g_ends, g_lengths, g_items)))
noncomputable def uX2_takeLinks_facts_68 (v5 : Int32) (v6 : Int32) (v7 : Int32) (k0 : Int32) (g_edges : Int32) (g_starts : (Nat → Int32)) (g_ends : (Nat → Int32)) (g_lengths : (Nat → Int32)) (g_items : (Nat → Int32)) (n_firsts : (Nat → Int32)) (n_seconds : (Nat → Int32)) : Option ((Int32 × Int32 × (Nat → Int32) × (Nat → Int32) × (Nat → Int32) × (Nat → Int32)) ⊕ (Int32 × Int32 × (Nat → Int32) × (Nat → Int32) × (Nat → Int32) × (Nat → Int32))) :=
  if k0 = 0 then
  uX2_takeLinks_facts_134 v5 g_edges g_starts g_ends g_lengths g_items
  else
  (fX0_state v7).bind (fun y7 =>
  if y7 = (1 : Int32) then
  gd (vp_in v5 16) (
  gd (vp_in v5 16) (
  (fX0_price v7).bind (fun y10 =>
  (fX2_addEdge (n_firsts (v5).toNatClampNeg) (n_seconds (v5).toNatClampNeg) v6 y10 g_edges g_starts g_ends g_lengths g_items).bind (fun y11 =>
  gd (vp_in v5 16) (
  gd (vp_in v5 16) (
  (fX0_price v7).bind (fun y14 =>
  (fX2_addEdge (n_seconds (v5).toNatClampNeg) (n_firsts (v5).toNatClampNeg) v6 y14 y11.1 y11.2.1 y11.2.2.1 y11.2.2.2.1 y11.2.2.2.2).bind (fun y15 =>
  uX2_takeLinks_facts_134 v5 y15.1 y15.2.1 y15.2.2.1 y15.2.2.2.1 y15.2.2.2.2))))))))
  else
  uX2_takeLinks_facts_134 v5 g_edges g_starts g_ends g_lengths g_items)
noncomputable def uX2_takeLinks_facts_63 (v5 : Int32) (v6 : Int32) (v7 : Int32) (g_edges : Int32) (g_starts : (Nat → Int32)) (g_ends : (Nat → Int32)) (g_lengths : (Nat → Int32)) (g_items : (Nat → Int32)) (n_firsts : (Nat → Int32)) (n_seconds : (Nat → Int32)) : Option ((Int32 × Int32 × (Nat → Int32) × (Nat → Int32) × (Nat → Int32) × (Nat → Int32)) ⊕ (Int32 × Int32 × (Nat → Int32) × (Nat → Int32) × (Nat → Int32) × (Nat → Int32))) :=
  uX2_takeLinks_facts_68 v5 v6 v7 (1 : Int32) g_edges g_starts g_ends g_lengths g_items n_firsts n_seconds
noncomputable def sX2_takeLinks_facts_16 (v3 : Int32) (v4 : Int32) (g_nodes : Int32) (n_links : Int32) (n_areas : (Nat → Int32)) (n_firsts : (Nat → Int32)) (n_seconds : (Nat → Int32)) (n_privates : (Nat → Int32)) (n_facts : (Nat → Int32)) (v5 : Int32) (g_edges : Int32) (g_starts : (Nat → Int32)) (g_ends : (Nat → Int32)) (g_lengths : (Nat → Int32)) (g_items : (Nat → Int32)) : Option ((Int32 × Int32 × (Nat → Int32) × (Nat → Int32) × (Nat → Int32) × (Nat → Int32)) ⊕ (Int32 × Int32 × (Nat → Int32) × (Nat → Int32) × (Nat → Int32) × (Nat → Int32))) :=
  if n_links ≤ v5 then
  oi (some (g_nodes, g_edges, g_starts, g_ends, g_lengths, g_items))
  else
  nm ((16 : Int32) + v5) (fun w2 =>
  gd (vp_in (v3 + w2) 350) (
  nm (n_facts (v3 + w2).toNatClampNeg) (fun w4 =>
  (fX3_isPrivateLink w2 n_privates).bind (fun y5 =>
  if y5 = 0 then
  uX2_takeLinks_facts_63 v5 w2 w4 g_edges g_starts g_ends g_lengths g_items n_firsts n_seconds
  else
  (fX3_owner v5 n_areas n_firsts).bind (fun y16 =>
  (fX3_has v4 y16).bind (fun y17 =>
  if y17 = 0 then
  uX2_takeLinks_facts_68 v5 w2 w4 (0 : Int32) g_edges g_starts g_ends g_lengths g_items n_firsts n_seconds
  else
  uX2_takeLinks_facts_63 v5 w2 w4 g_edges g_starts g_ends g_lengths g_items n_firsts n_seconds))))))
noncomputable abbrev lX2_takeLinks_facts_16 (v3 : Int32) (v4 : Int32) (g_nodes : Int32) (n_links : Int32) (n_areas : (Nat → Int32)) (n_firsts : (Nat → Int32)) (n_seconds : (Nat → Int32)) (n_privates : (Nat → Int32)) (n_facts : (Nat → Int32)) (v5 : Int32) (g_edges : Int32) (g_starts : (Nat → Int32)) (g_ends : (Nat → Int32)) (g_lengths : (Nat → Int32)) (g_items : (Nat → Int32)) : Option (Int32 × Int32 × (Nat → Int32) × (Nat → Int32) × (Nat → Int32) × (Nat → Int32)) :=
  wh (fun b : Int32 × Int32 × (Nat → Int32) × (Nat → Int32) × (Nat → Int32) × (Nat → Int32) => sX2_takeLinks_facts_16 v3 v4 g_nodes n_links n_areas n_firsts n_seconds n_privates n_facts b.1 b.2.1 b.2.2.1 b.2.2.2.1 b.2.2.2.2.1 b.2.2.2.2.2) (v5, g_edges, g_starts, g_ends, g_lengths, g_items)
noncomputable def fX2_takeLinks_facts (v3 : Int32) (v4 : Int32) (g_starts : (Nat → Int32)) (g_ends : (Nat → Int32)) (g_lengths : (Nat → Int32)) (g_items : (Nat → Int32)) (n_nodes : Int32) (n_links : Int32) (n_areas : (Nat → Int32)) (n_firsts : (Nat → Int32)) (n_seconds : (Nat → Int32)) (n_privates : (Nat → Int32)) (n_facts : (Nat → Int32)) : Option (Int32 × Int32 × (Nat → Int32) × (Nat → Int32) × (Nat → Int32) × (Nat → Int32)) :=
  lX2_takeLinks_facts_16 v3 v4 n_nodes n_links n_areas n_firsts n_seconds n_privates n_facts (0 : Int32) (0 : Int32) g_starts g_ends g_lengths g_items
noncomputable def uX2_takeLinks_truth_134 (v5 : Int32) (g_edges : Int32) (g_starts : (Nat → Int32)) (g_ends : (Nat → Int32)) (g_lengths : (Nat → Int32)) (g_items : (Nat → Int32)) : Option ((Int32 × Int32 × (Nat → Int32) × (Nat → Int32) × (Nat → Int32) × (Nat → Int32)) ⊕ (Int32 × Int32 × (Nat → Int32) × (Nat → Int32) × (Nat → Int32) × (Nat → Int32))) :=
  nm (v5 + (1 : Int32)) (fun w6 =>
  some (.inl (w6, g_edges, g_starts, g_ends, g_lengths, g_items)))
noncomputable def uX2_takeLinks_truth_68 (v5 : Int32) (v6 : Int32) (v7 : Int32) (k0 : Int32) (g_edges : Int32) (g_starts : (Nat → Int32)) (g_ends : (Nat → Int32)) (g_lengths : (Nat → Int32)) (g_items : (Nat → Int32)) (n_firsts : (Nat → Int32)) (n_seconds : (Nat → Int32)) : Option ((Int32 × Int32 × (Nat → Int32) × (Nat → Int32) × (Nat → Int32) × (Nat → Int32)) ⊕ (Int32 × Int32 × (Nat → Int32) × (Nat → Int32) × (Nat → Int32) × (Nat → Int32))) :=
  if k0 = 0 then
  uX2_takeLinks_truth_134 v5 g_edges g_starts g_ends g_lengths g_items
  else
  (fX0_state v7).bind (fun y7 =>
  if y7 = (1 : Int32) then
  gd (vp_in v5 16) (
  gd (vp_in v5 16) (
  (fX0_price v7).bind (fun y10 =>
  (fX2_addEdge (n_firsts (v5).toNatClampNeg) (n_seconds (v5).toNatClampNeg) v6 y10 g_edges g_starts g_ends g_lengths g_items).bind (fun y11 =>
  gd (vp_in v5 16) (
  gd (vp_in v5 16) (
  (fX0_price v7).bind (fun y14 =>
  (fX2_addEdge (n_seconds (v5).toNatClampNeg) (n_firsts (v5).toNatClampNeg) v6 y14 y11.1 y11.2.1 y11.2.2.1 y11.2.2.2.1 y11.2.2.2.2).bind (fun y15 =>
  uX2_takeLinks_truth_134 v5 y15.1 y15.2.1 y15.2.2.1 y15.2.2.2.1 y15.2.2.2.2))))))))
  else
  uX2_takeLinks_truth_134 v5 g_edges g_starts g_ends g_lengths g_items)
noncomputable def uX2_takeLinks_truth_63 (v5 : Int32) (v6 : Int32) (v7 : Int32) (g_edges : Int32) (g_starts : (Nat → Int32)) (g_ends : (Nat → Int32)) (g_lengths : (Nat → Int32)) (g_items : (Nat → Int32)) (n_firsts : (Nat → Int32)) (n_seconds : (Nat → Int32)) : Option ((Int32 × Int32 × (Nat → Int32) × (Nat → Int32) × (Nat → Int32) × (Nat → Int32)) ⊕ (Int32 × Int32 × (Nat → Int32) × (Nat → Int32) × (Nat → Int32) × (Nat → Int32))) :=
  uX2_takeLinks_truth_68 v5 v6 v7 (1 : Int32) g_edges g_starts g_ends g_lengths g_items n_firsts n_seconds
noncomputable def sX2_takeLinks_truth_16 (v3 : Int32) (v4 : Int32) (g_nodes : Int32) (n_links : Int32) (n_areas : (Nat → Int32)) (n_firsts : (Nat → Int32)) (n_seconds : (Nat → Int32)) (n_privates : (Nat → Int32)) (n_truth : (Nat → Int32)) (v5 : Int32) (g_edges : Int32) (g_starts : (Nat → Int32)) (g_ends : (Nat → Int32)) (g_lengths : (Nat → Int32)) (g_items : (Nat → Int32)) : Option ((Int32 × Int32 × (Nat → Int32) × (Nat → Int32) × (Nat → Int32) × (Nat → Int32)) ⊕ (Int32 × Int32 × (Nat → Int32) × (Nat → Int32) × (Nat → Int32) × (Nat → Int32))) :=
  if n_links ≤ v5 then
  oi (some (g_nodes, g_edges, g_starts, g_ends, g_lengths, g_items))
  else
  nm ((16 : Int32) + v5) (fun w2 =>
  gd (vp_in (v3 + w2) 35) (
  nm (n_truth (v3 + w2).toNatClampNeg) (fun w4 =>
  (fX3_isPrivateLink w2 n_privates).bind (fun y5 =>
  if y5 = 0 then
  uX2_takeLinks_truth_63 v5 w2 w4 g_edges g_starts g_ends g_lengths g_items n_firsts n_seconds
  else
  (fX3_owner v5 n_areas n_firsts).bind (fun y16 =>
  (fX3_has v4 y16).bind (fun y17 =>
  if y17 = 0 then
  uX2_takeLinks_truth_68 v5 w2 w4 (0 : Int32) g_edges g_starts g_ends g_lengths g_items n_firsts n_seconds
  else
  uX2_takeLinks_truth_63 v5 w2 w4 g_edges g_starts g_ends g_lengths g_items n_firsts n_seconds))))))
noncomputable abbrev lX2_takeLinks_truth_16 (v3 : Int32) (v4 : Int32) (g_nodes : Int32) (n_links : Int32) (n_areas : (Nat → Int32)) (n_firsts : (Nat → Int32)) (n_seconds : (Nat → Int32)) (n_privates : (Nat → Int32)) (n_truth : (Nat → Int32)) (v5 : Int32) (g_edges : Int32) (g_starts : (Nat → Int32)) (g_ends : (Nat → Int32)) (g_lengths : (Nat → Int32)) (g_items : (Nat → Int32)) : Option (Int32 × Int32 × (Nat → Int32) × (Nat → Int32) × (Nat → Int32) × (Nat → Int32)) :=
  wh (fun b : Int32 × Int32 × (Nat → Int32) × (Nat → Int32) × (Nat → Int32) × (Nat → Int32) => sX2_takeLinks_truth_16 v3 v4 g_nodes n_links n_areas n_firsts n_seconds n_privates n_truth b.1 b.2.1 b.2.2.1 b.2.2.2.1 b.2.2.2.2.1 b.2.2.2.2.2) (v5, g_edges, g_starts, g_ends, g_lengths, g_items)
noncomputable def fX2_takeLinks_truth (v3 : Int32) (v4 : Int32) (g_starts : (Nat → Int32)) (g_ends : (Nat → Int32)) (g_lengths : (Nat → Int32)) (g_items : (Nat → Int32)) (n_nodes : Int32) (n_links : Int32) (n_areas : (Nat → Int32)) (n_firsts : (Nat → Int32)) (n_seconds : (Nat → Int32)) (n_privates : (Nat → Int32)) (n_truth : (Nat → Int32)) : Option (Int32 × Int32 × (Nat → Int32) × (Nat → Int32) × (Nat → Int32) × (Nat → Int32)) :=
  lX2_takeLinks_truth_16 v3 v4 n_nodes n_links n_areas n_firsts n_seconds n_privates n_truth (0 : Int32) (0 : Int32) g_starts g_ends g_lengths g_items
noncomputable def uX2_takeTunnels_59 (v3 : Int32) (g_edges : Int32) (g_starts : (Nat → Int32)) (g_ends : (Nat → Int32)) (g_lengths : (Nat → Int32)) (g_items : (Nat → Int32)) : Option ((Int32 × Int32 × (Nat → Int32) × (Nat → Int32) × (Nat → Int32) × (Nat → Int32)) ⊕ (Int32 × (Nat → Int32) × (Nat → Int32) × (Nat → Int32) × (Nat → Int32))) :=
  nm (v3 + (1 : Int32)) (fun w6 =>
  some (.inl (w6, g_edges, g_starts, g_ends, g_lengths, g_items)))
noncomputable def sX2_takeTunnels_2 (v2 : Int32) (n_tunnels : Int32) (n_entries : (Nat → Int32)) (n_exits : (Nat → Int32)) (n_facts : (Nat → Int32)) (v3 : Int32) (g_edges : Int32) (g_starts : (Nat → Int32)) (g_ends : (Nat → Int32)) (g_lengths : (Nat → Int32)) (g_items : (Nat → Int32)) : Option ((Int32 × Int32 × (Nat → Int32) × (Nat → Int32) × (Nat → Int32) × (Nat → Int32)) ⊕ (Int32 × (Nat → Int32) × (Nat → Int32) × (Nat → Int32) × (Nat → Int32))) :=
  if n_tunnels ≤ v3 then
  oi (some (g_edges, g_starts, g_ends, g_lengths, g_items))
  else
  nm ((32 : Int32) + v3) (fun w2 =>
  gd (vp_in (v2 + w2) 350) (
  nm (n_facts (v2 + w2).toNatClampNeg) (fun w4 =>
  (fX0_state w4).bind (fun y5 =>
  if y5 = (1 : Int32) then
  gd (vp_in v3 3) (
  gd (vp_in v3 3) (
  (fX0_price w4).bind (fun y9 =>
  (fX2_addEdge (n_entries (v3).toNatClampNeg) (n_exits (v3).toNatClampNeg) w2 y9 g_edges g_starts g_ends g_lengths g_items).bind (fun y10 =>
  uX2_takeTunnels_59 v3 y10.1 y10.2.1 y10.2.2.1 y10.2.2.2.1 y10.2.2.2.2))))
  else
  uX2_takeTunnels_59 v3 g_edges g_starts g_ends g_lengths g_items))))
noncomputable abbrev lX2_takeTunnels_2 (v2 : Int32) (n_tunnels : Int32) (n_entries : (Nat → Int32)) (n_exits : (Nat → Int32)) (n_facts : (Nat → Int32)) (v3 : Int32) (g_edges : Int32) (g_starts : (Nat → Int32)) (g_ends : (Nat → Int32)) (g_lengths : (Nat → Int32)) (g_items : (Nat → Int32)) : Option (Int32 × (Nat → Int32) × (Nat → Int32) × (Nat → Int32) × (Nat → Int32)) :=
  wh (fun b : Int32 × Int32 × (Nat → Int32) × (Nat → Int32) × (Nat → Int32) × (Nat → Int32) => sX2_takeTunnels_2 v2 n_tunnels n_entries n_exits n_facts b.1 b.2.1 b.2.2.1 b.2.2.2.1 b.2.2.2.2.1 b.2.2.2.2.2) (v3, g_edges, g_starts, g_ends, g_lengths, g_items)
noncomputable def fX2_takeTunnels (v2 : Int32) (g_edges : Int32) (g_starts : (Nat → Int32)) (g_ends : (Nat → Int32)) (g_lengths : (Nat → Int32)) (g_items : (Nat → Int32)) (n_tunnels : Int32) (n_entries : (Nat → Int32)) (n_exits : (Nat → Int32)) (n_facts : (Nat → Int32)) : Option (Int32 × (Nat → Int32) × (Nat → Int32) × (Nat → Int32) × (Nat → Int32)) :=
  lX2_takeTunnels_2 v2 n_tunnels n_entries n_exits n_facts (0 : Int32) g_edges g_starts g_ends g_lengths g_items
noncomputable def fX2_takeView (v2 : Int32) (v3 : Int32) (v4 : Int32) (g_starts : (Nat → Int32)) (g_ends : (Nat → Int32)) (g_lengths : (Nat → Int32)) (g_items : (Nat → Int32)) (n_nodes : Int32) (n_links : Int32) (n_tunnels : Int32) (n_areas : (Nat → Int32)) (n_firsts : (Nat → Int32)) (n_seconds : (Nat → Int32)) (n_privates : (Nat → Int32)) (n_entries : (Nat → Int32)) (n_exits : (Nat → Int32)) (n_facts : (Nat → Int32)) : Option (Int32 × Int32 × (Nat → Int32) × (Nat → Int32) × (Nat → Int32) × (Nat → Int32)) :=
  (fX6_place v2 (0 : Int32)).bind (fun y1 =>
  (fX3_disclosures v2 v3 n_facts).bind (fun y2 =>
  (fX2_takeLinks_facts y1 y2 g_starts g_ends g_lengths g_items n_nodes n_links n_areas n_firsts n_seconds n_privates n_facts).bind (fun y3 =>
  if v4 = 0 then
  some (y3.1, y3.2.1, y3.2.2.1, y3.2.2.2.1, y3.2.2.2.2.1, y3.2.2.2.2.2)
  else
  (fX2_takeTunnels y1 y3.2.1 y3.2.2.1 y3.2.2.2.1 y3.2.2.2.2.1 y3.2.2.2.2.2 n_tunnels n_entries n_exits n_facts).bind (fun y4 =>
  some (y3.1, y4.1, y4.2.1, y4.2.2.1, y4.2.2.2.1, y4.2.2.2.2)))))
noncomputable def fX2_takeTrueLinks (v2 : Int32) (g_starts : (Nat → Int32)) (g_ends : (Nat → Int32)) (g_lengths : (Nat → Int32)) (g_items : (Nat → Int32)) (n_nodes : Int32) (n_links : Int32) (n_areas : (Nat → Int32)) (n_firsts : (Nat → Int32)) (n_seconds : (Nat → Int32)) (n_privates : (Nat → Int32)) (n_truth : (Nat → Int32)) : Option (Int32 × Int32 × (Nat → Int32) × (Nat → Int32) × (Nat → Int32) × (Nat → Int32)) :=
  (fX2_takeLinks_truth (0 : Int32) v2 g_starts g_ends g_lengths g_items n_nodes n_links n_areas n_firsts n_seconds n_privates n_truth).bind (fun y1 =>
  some (y1.1, y1.2.1, y1.2.2.1, y1.2.2.2.1, y1.2.2.2.2.1, y1.2.2.2.2.2))
noncomputable def uX2_measureTo_93 (v2 : Int32) (v3 : Int32) (g_remaining : (Nat → Int32)) : Option ((Int32 × Int32 × (Nat → Int32)) ⊕ ((Nat → Int32))) :=
  nm (v3 + (1 : Int32)) (fun w5 =>
  some (.inl (v2, w5, g_remaining)))
noncomputable def uX2_measureTo_87 (v2 : Int32) (v4 : Int32) (g_remaining : (Nat → Int32)) : Option ((Int32 × Int32 × (Nat → Int32)) ⊕ ((Int32 × Int32 × (Nat → Int32)) ⊕ ((Nat → Int32)))) :=
  nm (v4 + (1 : Int32)) (fun w10 =>
  some (.inl (v2, w10, g_remaining)))
noncomputable def sX2_measureTo_37 (v3 : Int32) (g_edges : Int32) (g_starts : (Nat → Int32)) (g_ends : (Nat → Int32)) (g_lengths : (Nat → Int32)) (v2 : Int32) (v4 : Int32) (g_remaining : (Nat → Int32)) : Option ((Int32 × Int32 × (Nat → Int32)) ⊕ ((Int32 × Int32 × (Nat → Int32)) ⊕ ((Nat → Int32)))) :=
  if g_edges ≤ v4 then
  oi (uX2_measureTo_93 v2 v3 g_remaining)
  else
  (fX2_lengthOver v4 g_ends g_lengths g_remaining).bind (fun y7 =>
  gd (vp_in v4 35) (
  gd (vp_in (g_starts (v4).toNatClampNeg) 10) (
  if (g_remaining (g_starts (v4).toNatClampNeg).toNatClampNeg) ≤ y7 then
  uX2_measureTo_87 v2 v4 g_remaining
  else
  gd (vp_in v4 35) (
  (fX2_lengthOver v4 g_ends g_lengths g_remaining).bind (fun y12 =>
  gd (vp_in (g_starts (v4).toNatClampNeg) 10) (
  uX2_measureTo_87 (1 : Int32) v4 (upd g_remaining (g_starts (v4).toNatClampNeg).toNatClampNeg y12)))))))
noncomputable abbrev lX2_measureTo_37 (v3 : Int32) (g_edges : Int32) (g_starts : (Nat → Int32)) (g_ends : (Nat → Int32)) (g_lengths : (Nat → Int32)) (v2 : Int32) (v4 : Int32) (g_remaining : (Nat → Int32)) : Option ((Int32 × Int32 × (Nat → Int32)) ⊕ ((Nat → Int32))) :=
  wh (fun b : Int32 × Int32 × (Nat → Int32) => sX2_measureTo_37 v3 g_edges g_starts g_ends g_lengths b.1 b.2.1 b.2.2) (v2, v4, g_remaining)
noncomputable def sX2_measureTo_20 (g_nodes : Int32) (g_edges : Int32) (g_starts : (Nat → Int32)) (g_ends : (Nat → Int32)) (g_lengths : (Nat → Int32)) (v2 : Int32) (v3 : Int32) (g_remaining : (Nat → Int32)) : Option ((Int32 × Int32 × (Nat → Int32)) ⊕ ((Nat → Int32))) :=
  if g_nodes ≤ v3 then
  oi (some g_remaining)
  else
  if v2 = 0 then
  oi (some g_remaining)
  else
  lX2_measureTo_37 v3 g_edges g_starts g_ends g_lengths (0 : Int32) (0 : Int32) g_remaining
noncomputable abbrev lX2_measureTo_20 (g_nodes : Int32) (g_edges : Int32) (g_starts : (Nat → Int32)) (g_ends : (Nat → Int32)) (g_lengths : (Nat → Int32)) (v2 : Int32) (v3 : Int32) (g_remaining : (Nat → Int32)) : Option ((Nat → Int32)) :=
  wh (fun b : Int32 × Int32 × (Nat → Int32) => sX2_measureTo_20 g_nodes g_edges g_starts g_ends g_lengths b.1 b.2.1 b.2.2) (v2, v3, g_remaining)
noncomputable def fX2_measureTo (v1 : Int32) (g_nodes : Int32) (g_edges : Int32) (g_starts : (Nat → Int32)) (g_ends : (Nat → Int32)) (g_lengths : (Nat → Int32)) (g_remaining : (Nat → Int32)) : Option ((Nat → Int32)) :=
  (fJ7_fill_53178 (1000000 : Int32) g_remaining 10).bind (fun y1 =>
  gd (vp_in v1 10) (
  lX2_measureTo_20 g_nodes g_edges g_starts g_ends g_lengths (1 : Int32) (0 : Int32) (upd y1 (v1).toNatClampNeg (0 : Int32))))
noncomputable def fX2_costFrom (v1 : Int32) (g_remaining : (Nat → Int32)) : Option (Int32) :=
  gd (vp_in v1 10) (
  if (g_remaining (v1).toNatClampNeg) < (1000000 : Int32) then
  gd (vp_in v1 10) (
  some ((g_remaining (v1).toNatClampNeg) / (100 : Int32)))
  else
  some (-9 : Int32))
noncomputable def uX2_firstEdge_82 (v2 : Int32) (v3 : Int32) : Option ((Int32 × Int32) ⊕ (Int32)) :=
  nm (v3 + (1 : Int32)) (fun w4 =>
  some (.inl (v2, w4)))
noncomputable def uX2_firstEdge_80 (v3 : Int32) : Option ((Int32 × Int32) ⊕ (Int32)) :=
  uX2_firstEdge_82 v3 v3
noncomputable def uX2_firstEdge_54 (v2 : Int32) (v3 : Int32) (k0 : Int32) (g_ends : (Nat → Int32)) : Option ((Int32 × Int32) ⊕ (Int32)) :=
  if k0 = 0 then
  uX2_firstEdge_82 v2 v3
  else
  if v2 < 0 then
  uX2_firstEdge_80 v3
  else
  gd (vp_in v3 35) (
  gd (vp_in v2 35) (
  if (g_ends (v2).toNatClampNeg) ≤ (g_ends (v3).toNatClampNeg) then
  uX2_firstEdge_82 v2 v3
  else
  uX2_firstEdge_80 v3))
noncomputable def uX2_firstEdge_53 (v2 : Int32) (v3 : Int32) (g_ends : (Nat → Int32)) : Option ((Int32 × Int32) ⊕ (Int32)) :=
  uX2_firstEdge_54 v2 v3 (0 : Int32) g_ends
noncomputable def sX2_firstEdge_17 (v1 : Int32) (g_edges : Int32) (g_starts : (Nat → Int32)) (g_ends : (Nat → Int32)) (g_lengths : (Nat → Int32)) (g_remaining : (Nat → Int32)) (v2 : Int32) (v3 : Int32) : Option ((Int32 × Int32) ⊕ (Int32)) :=
  if g_edges ≤ v3 then
  oi (some v2)
  else
  gd (vp_in v3 35) (
  if (g_starts (v3).toNatClampNeg) = v1 then
  (fX2_lengthOver v3 g_ends g_lengths g_remaining).bind (fun y7 =>
  gd (vp_in v1 10) (
  if y7 = (g_remaining (v1).toNatClampNeg) then
  uX2_firstEdge_54 v2 v3 (1 : Int32) g_ends
  else
  uX2_firstEdge_53 v2 v3 g_ends))
  else
  uX2_firstEdge_53 v2 v3 g_ends)
noncomputable abbrev lX2_firstEdge_17 (v1 : Int32) (g_edges : Int32) (g_starts : (Nat → Int32)) (g_ends : (Nat → Int32)) (g_lengths : (Nat → Int32)) (g_remaining : (Nat → Int32)) (v2 : Int32) (v3 : Int32) : Option (Int32) :=
  wh (fun b : Int32 × Int32 => sX2_firstEdge_17 v1 g_edges g_starts g_ends g_lengths g_remaining b.1 b.2) (v2, v3)
noncomputable def fX2_firstEdge (v1 : Int32) (g_edges : Int32) (g_starts : (Nat → Int32)) (g_ends : (Nat → Int32)) (g_lengths : (Nat → Int32)) (g_remaining : (Nat → Int32)) : Option (Int32) :=
  gd (vp_in v1 10) (
  if (g_remaining (v1).toNatClampNeg) < (1000000 : Int32) then
  lX2_firstEdge_17 v1 g_edges g_starts g_ends g_lengths g_remaining (-1 : Int32) (0 : Int32)
  else
  some (-1 : Int32))
