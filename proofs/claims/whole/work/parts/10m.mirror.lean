noncomputable def fX6_dropOldest (o_historySize : Int32) (h_F : (Nat → Option Nat)) (h_G : (Nat → Nat → Nat)) (h_N : (Nat → zNet)) : Option (Int32 × (Nat → Option Nat) × (Nat → Nat → Nat) × (Nat → zNet)) :=
  gd (h_F 0 = some (h_G 0 0)) (
  gd (h_F 1 = some (h_G 1 0)) (
  gd ((va_up h_F 0 (some (h_G 1 0))) 2 = some (h_G 2 0)) (
  gd ((va_up (va_up h_F 0 (some (h_G 1 0))) 1 (some (h_G 2 0))) 3 = some (h_G 3 0)) (
  gd ((va_up (va_up (va_up h_F 0 (some (h_G 1 0))) 1 (some (h_G 2 0))) 2 (some (h_G 3 0))) 4 = some (h_G 4 0)) (
  some (o_historySize - (1 : Int32), va_up (va_up (va_up (va_up (va_up h_F 0 (some (h_G 1 0))) 1 (some (h_G 2 0))) 2 (some (h_G 3 0))) 3 (some (h_G 4 0))) 4 (some (h_G 0 0)), zRot h_G, zRot h_N))))))
noncomputable def uX6_beginAction_12 (o_historySize : Int32) (n_nodes : Int32) (n_links : Int32) (n_tunnels : Int32) (n_messages : Int32) (n_areas : (Nat → Int32)) (n_firsts : (Nat → Int32)) (n_seconds : (Nat → Int32)) (n_privates : (Nat → Int32)) (n_entries : (Nat → Int32)) (n_exits : (Nat → Int32)) (n_truth : (Nat → Int32)) (n_facts : (Nat → Int32)) (n_news : (Nat → Int64)) (h_F : (Nat → Option Nat)) (h_G : (Nat → Nat → Nat)) (h_N : (Nat → zNet)) : Option (Int32 × Int32 × (Nat → Option Nat) × (Nat → Nat → Nat) × (Nat → zNet)) :=
  gd (vp_in o_historySize 5) (nm ((o_historySize).toNatClampNeg) (fun i1 => gd (i1 < 5) (gd (h_F i1 = some (h_G i1 0)) (
  (fX3_copyFrom ((h_N i1).2.2.2.2.1) ((h_N i1).2.2.2.2.2.1) ((h_N i1).2.2.2.2.2.2.1) ((h_N i1).2.2.2.2.2.2.2.1) ((h_N i1).2.2.2.2.2.2.2.2.1) ((h_N i1).2.2.2.2.2.2.2.2.2.1) ((h_N i1).2.2.2.2.2.2.2.2.2.2.1) ((h_N i1).2.2.2.2.2.2.2.2.2.2.2.1) ((h_N i1).2.2.2.2.2.2.2.2.2.2.2.2) n_nodes n_links n_tunnels n_messages n_areas n_firsts n_seconds n_privates n_entries n_exits n_truth n_facts n_news).bind (fun y4 =>
  some (o_historySize + (1 : Int32), (0 : Int32), h_F, h_G, va_up h_N i1 y4))))))
noncomputable def fX6_beginAction (o_historySize : Int32) (n_nodes : Int32) (n_links : Int32) (n_tunnels : Int32) (n_messages : Int32) (n_areas : (Nat → Int32)) (n_firsts : (Nat → Int32)) (n_seconds : (Nat → Int32)) (n_privates : (Nat → Int32)) (n_entries : (Nat → Int32)) (n_exits : (Nat → Int32)) (n_truth : (Nat → Int32)) (n_facts : (Nat → Int32)) (n_news : (Nat → Int64)) (h_F : (Nat → Option Nat)) (h_G : (Nat → Nat → Nat)) (h_N : (Nat → zNet)) : Option (Int32 × Int32 × (Nat → Option Nat) × (Nat → Nat → Nat) × (Nat → zNet)) :=
  if o_historySize = (5 : Int32) then
  (fX6_dropOldest o_historySize h_F h_G h_N).bind (fun y5 =>
  uX6_beginAction_12 y5.1 n_nodes n_links n_tunnels n_messages n_areas n_firsts n_seconds n_privates n_entries n_exits n_truth n_facts n_news y5.2.1 y5.2.2.1 y5.2.2.2)
  else
  uX6_beginAction_12 o_historySize n_nodes n_links n_tunnels n_messages n_areas n_firsts n_seconds n_privates n_entries n_exits n_truth n_facts n_news h_F h_G h_N
noncomputable def fX6_undo (o_historySize : Int32) (o_wayIsKept : Int32) (n_nodes : Int32) (n_links : Int32) (n_tunnels : Int32) (n_messages : Int32) (n_areas : (Nat → Int32)) (n_firsts : (Nat → Int32)) (n_seconds : (Nat → Int32)) (n_privates : (Nat → Int32)) (n_entries : (Nat → Int32)) (n_exits : (Nat → Int32)) (n_truth : (Nat → Int32)) (n_facts : (Nat → Int32)) (n_news : (Nat → Int64)) (h_F : (Nat → Option Nat)) (h_G : (Nat → Nat → Nat)) (h_N : (Nat → zNet)) : Option (Int32 × Int32 × Int32 × Int32 × Int32 × Int32 × Int32 × (Nat → Int32) × (Nat → Int32) × (Nat → Int32) × (Nat → Int32) × (Nat → Int32) × (Nat → Int32) × (Nat → Int32) × (Nat → Int32) × (Nat → Int64)) :=
  if o_historySize = 0 then
  some ((-2 : Int32), o_historySize, o_wayIsKept, n_nodes, n_links, n_tunnels, n_messages, n_areas, n_firsts, n_seconds, n_privates, n_entries, n_exits, n_truth, n_facts, n_news)
  else
  gd (vp_in (o_historySize - (1 : Int32)) 5) (nm ((o_historySize - (1 : Int32)).toNatClampNeg) (fun i1 => gd (i1 < 5) (gd (h_F i1 = some (h_G i1 0)) (
  (fX3_copyFrom n_areas n_firsts n_seconds n_privates n_entries n_exits n_truth n_facts n_news ((h_N i1).1) ((h_N i1).2.1) ((h_N i1).2.2.1) ((h_N i1).2.2.2.1) ((h_N i1).2.2.2.2.1) ((h_N i1).2.2.2.2.2.1) ((h_N i1).2.2.2.2.2.2.1) ((h_N i1).2.2.2.2.2.2.2.1) ((h_N i1).2.2.2.2.2.2.2.2.1) ((h_N i1).2.2.2.2.2.2.2.2.2.1) ((h_N i1).2.2.2.2.2.2.2.2.2.2.1) ((h_N i1).2.2.2.2.2.2.2.2.2.2.2.1) ((h_N i1).2.2.2.2.2.2.2.2.2.2.2.2)).bind (fun y4 =>
  some (o_historySize - (1 : Int32), o_historySize - (1 : Int32), (0 : Int32), y4.1, y4.2.1, y4.2.2.1, y4.2.2.2.1, y4.2.2.2.2.1, y4.2.2.2.2.2.1, y4.2.2.2.2.2.2.1, y4.2.2.2.2.2.2.2.1, y4.2.2.2.2.2.2.2.2.1, y4.2.2.2.2.2.2.2.2.2.1, y4.2.2.2.2.2.2.2.2.2.2.1, y4.2.2.2.2.2.2.2.2.2.2.2.1, y4.2.2.2.2.2.2.2.2.2.2.2.2))))))
noncomputable def fX6_addNode (v1 : Int32) (o_historySize : Int32) (o_wayIsKept : Int32) (n_nodes : Int32) (n_links : Int32) (n_tunnels : Int32) (n_messages : Int32) (n_areas : (Nat → Int32)) (n_firsts : (Nat → Int32)) (n_seconds : (Nat → Int32)) (n_privates : (Nat → Int32)) (n_entries : (Nat → Int32)) (n_exits : (Nat → Int32)) (n_truth : (Nat → Int32)) (n_facts : (Nat → Int32)) (n_news : (Nat → Int64)) (h_F : (Nat → Option Nat)) (h_G : (Nat → Nat → Nat)) (h_N : (Nat → zNet)) : Option (Int32 × Int32 × Int32 × Int32 × (Nat → Int32) × (Nat → Option Nat) × (Nat → Nat → Nat) × (Nat → zNet)) :=
  (fX6_isArea v1).bind (fun y1 =>
  if y1 = 0 then
  some ((-1 : Int32), o_historySize, o_wayIsKept, n_nodes, n_areas, h_F, h_G, h_N)
  else
  if n_nodes < (10 : Int32) then
  (fX6_beginAction o_historySize n_nodes n_links n_tunnels n_messages n_areas n_firsts n_seconds n_privates n_entries n_exits n_truth n_facts n_news h_F h_G h_N).bind (fun y2 =>
  (fX3_createNode v1 n_nodes n_areas).bind (fun y3 =>
  some (y3.1, y2.1, y2.2.1, y3.2.1, y3.2.2, y2.2.2.1, y2.2.2.2.1, y2.2.2.2.2)))
  else
  some ((-3 : Int32), o_historySize, o_wayIsKept, n_nodes, n_areas, h_F, h_G, h_N))
noncomputable def fX6_addLink (v1 : Int32) (v2 : Int32) (v3 : Int32) (v4 : Int32) (o_historySize : Int32) (o_wayIsKept : Int32) (n_nodes : Int32) (n_links : Int32) (n_tunnels : Int32) (n_messages : Int32) (n_areas : (Nat → Int32)) (n_firsts : (Nat → Int32)) (n_seconds : (Nat → Int32)) (n_privates : (Nat → Int32)) (n_entries : (Nat → Int32)) (n_exits : (Nat → Int32)) (n_truth : (Nat → Int32)) (n_facts : (Nat → Int32)) (n_news : (Nat → Int64)) (h_F : (Nat → Option Nat)) (h_G : (Nat → Nat → Nat)) (h_N : (Nat → zNet)) : Option (Int32 × Int32 × Int32 × Int32 × (Nat → Int32) × (Nat → Int32) × (Nat → Int32) × (Nat → Int32) × (Nat → Int32) × (Nat → Int64) × (Nat → Option Nat) × (Nat → Nat → Nat) × (Nat → zNet)) :=
  (fX6_isPair v1 v2 n_nodes).bind (fun y1 =>
  if y1 = 0 then
  some ((-1 : Int32), o_historySize, o_wayIsKept, n_links, n_firsts, n_seconds, n_privates, n_truth, n_facts, n_news, h_F, h_G, h_N)
  else
  (fX6_isCost v3 (20 : Int32)).bind (fun y2 =>
  if y2 = 0 then
  some ((-1 : Int32), o_historySize, o_wayIsKept, n_links, n_firsts, n_seconds, n_privates, n_truth, n_facts, n_news, h_F, h_G, h_N)
  else
  (fX6_isFlag v4).bind (fun y3 =>
  if y3 = 0 then
  some ((-1 : Int32), o_historySize, o_wayIsKept, n_links, n_firsts, n_seconds, n_privates, n_truth, n_facts, n_news, h_F, h_G, h_N)
  else
  if n_links < (16 : Int32) then
  (fX6_beginAction o_historySize n_nodes n_links n_tunnels n_messages n_areas n_firsts n_seconds n_privates n_entries n_exits n_truth n_facts n_news h_F h_G h_N).bind (fun y4 =>
  (fX3_createLink v1 v2 v3 v4 n_links n_areas n_firsts n_seconds n_privates n_truth n_facts n_news).bind (fun y5 =>
  some (y5.1, y4.1, y4.2.1, y5.2.1, y5.2.2.1, y5.2.2.2.1, y5.2.2.2.2.1, y5.2.2.2.2.2.1, y5.2.2.2.2.2.2.1, y5.2.2.2.2.2.2.2, y4.2.2.1, y4.2.2.2.1, y4.2.2.2.2)))
  else
  some ((-3 : Int32), o_historySize, o_wayIsKept, n_links, n_firsts, n_seconds, n_privates, n_truth, n_facts, n_news, h_F, h_G, h_N))))
noncomputable def uX6_setLink_61 (v1 : Int32) (v2 : Int32) (v3 : Int32) (o_historySize : Int32) (n_nodes : Int32) (n_links : Int32) (n_tunnels : Int32) (n_messages : Int32) (n_areas : (Nat → Int32)) (n_firsts : (Nat → Int32)) (n_seconds : (Nat → Int32)) (n_privates : (Nat → Int32)) (n_entries : (Nat → Int32)) (n_exits : (Nat → Int32)) (n_truth : (Nat → Int32)) (n_facts : (Nat → Int32)) (n_news : (Nat → Int64)) (h_F : (Nat → Option Nat)) (h_G : (Nat → Nat → Nat)) (h_N : (Nat → zNet)) : Option (Int32 × Int32 × Int32 × (Nat → Int32) × (Nat → Int32) × (Nat → Int64) × (Nat → Option Nat) × (Nat → Nat → Nat) × (Nat → zNet)) :=
  (fX6_beginAction o_historySize n_nodes n_links n_tunnels n_messages n_areas n_firsts n_seconds n_privates n_entries n_exits n_truth n_facts n_news h_F h_G h_N).bind (fun y7 =>
  (fX3_changeLink v1 v2 v3 n_links n_areas n_firsts n_seconds n_privates n_truth n_facts n_news).bind (fun y8 =>
  some (y8.1, y7.1, y7.2.1, y8.2.1, y8.2.2.1, y8.2.2.2, y7.2.2.1, y7.2.2.2.1, y7.2.2.2.2)))
noncomputable def fX6_setLink (v1 : Int32) (v2 : Int32) (v3 : Int32) (o_historySize : Int32) (o_wayIsKept : Int32) (n_nodes : Int32) (n_links : Int32) (n_tunnels : Int32) (n_messages : Int32) (n_areas : (Nat → Int32)) (n_firsts : (Nat → Int32)) (n_seconds : (Nat → Int32)) (n_privates : (Nat → Int32)) (n_entries : (Nat → Int32)) (n_exits : (Nat → Int32)) (n_truth : (Nat → Int32)) (n_facts : (Nat → Int32)) (n_news : (Nat → Int64)) (h_F : (Nat → Option Nat)) (h_G : (Nat → Nat → Nat)) (h_N : (Nat → zNet)) : Option (Int32 × Int32 × Int32 × (Nat → Int32) × (Nat → Int32) × (Nat → Int64) × (Nat → Option Nat) × (Nat → Nat → Nat) × (Nat → zNet)) :=
  (fX6_isLink v1 n_links).bind (fun y1 =>
  if y1 = 0 then
  some ((-1 : Int32), o_historySize, o_wayIsKept, n_truth, n_facts, n_news, h_F, h_G, h_N)
  else
  (fX6_isFlag v2).bind (fun y2 =>
  if y2 = 0 then
  some ((-1 : Int32), o_historySize, o_wayIsKept, n_truth, n_facts, n_news, h_F, h_G, h_N)
  else
  (fX6_isCost v3 (20 : Int32)).bind (fun y3 =>
  if y3 = 0 then
  some ((-1 : Int32), o_historySize, o_wayIsKept, n_truth, n_facts, n_news, h_F, h_G, h_N)
  else
  gd (vp_in ((16 : Int32) + v1) 35) (
  nm (n_truth ((16 : Int32) + v1).toNatClampNeg) (fun w5 =>
  (fX0_state w5).bind (fun y6 =>
  if y6 = v2 then
  (fX0_price w5).bind (fun y9 =>
  if y9 = v3 then
  some ((-2 : Int32), o_historySize, o_wayIsKept, n_truth, n_facts, n_news, h_F, h_G, h_N)
  else
  uX6_setLink_61 v1 v2 v3 o_historySize n_nodes n_links n_tunnels n_messages n_areas n_firsts n_seconds n_privates n_entries n_exits n_truth n_facts n_news h_F h_G h_N)
  else
  uX6_setLink_61 v1 v2 v3 o_historySize n_nodes n_links n_tunnels n_messages n_areas n_firsts n_seconds n_privates n_entries n_exits n_truth n_facts n_news h_F h_G h_N))))))
noncomputable def fX6_setGrant (v1 : Int32) (v2 : Int32) (v3 : Int32) (o_historySize : Int32) (o_wayIsKept : Int32) (n_nodes : Int32) (n_links : Int32) (n_tunnels : Int32) (n_messages : Int32) (n_areas : (Nat → Int32)) (n_firsts : (Nat → Int32)) (n_seconds : (Nat → Int32)) (n_privates : (Nat → Int32)) (n_entries : (Nat → Int32)) (n_exits : (Nat → Int32)) (n_truth : (Nat → Int32)) (n_facts : (Nat → Int32)) (n_news : (Nat → Int64)) (h_F : (Nat → Option Nat)) (h_G : (Nat → Nat → Nat)) (h_N : (Nat → zNet)) : Option (Int32 × Int32 × Int32 × (Nat → Int32) × (Nat → Int32) × (Nat → Int64) × (Nat → Option Nat) × (Nat → Nat → Nat) × (Nat → zNet)) :=
  (fX6_areTwoAreas v1 v2).bind (fun y1 =>
  if y1 = 0 then
  some ((-1 : Int32), o_historySize, o_wayIsKept, n_truth, n_facts, n_news, h_F, h_G, h_N)
  else
  (fX6_isFlag v3).bind (fun y2 =>
  if y2 = 0 then
  some ((-1 : Int32), o_historySize, o_wayIsKept, n_truth, n_facts, n_news, h_F, h_G, h_N)
  else
  (fX6_grantItem v1 v2).bind (fun y3 =>
  gd (vp_in y3 35) (
  (fX0_state (n_truth (y3).toNatClampNeg)).bind (fun y5 =>
  if y5 = v3 then
  some ((-2 : Int32), o_historySize, o_wayIsKept, n_truth, n_facts, n_news, h_F, h_G, h_N)
  else
  (fX6_beginAction o_historySize n_nodes n_links n_tunnels n_messages n_areas n_firsts n_seconds n_privates n_entries n_exits n_truth n_facts n_news h_F h_G h_N).bind (fun y6 =>
  (fX3_changeGrant v1 v2 v3 n_nodes n_links n_areas n_firsts n_seconds n_privates n_truth n_facts n_news).bind (fun y7 =>
  some (y7.1, y6.1, y6.2.1, y7.2.1, y7.2.2.1, y7.2.2.2, y6.2.2.1, y6.2.2.2.1, y6.2.2.2.2))))))))
noncomputable def fX6_addTunnel (v1 : Int32) (v2 : Int32) (v3 : Int32) (o_historySize : Int32) (o_wayIsKept : Int32) (n_nodes : Int32) (n_links : Int32) (n_tunnels : Int32) (n_messages : Int32) (n_areas : (Nat → Int32)) (n_firsts : (Nat → Int32)) (n_seconds : (Nat → Int32)) (n_privates : (Nat → Int32)) (n_entries : (Nat → Int32)) (n_exits : (Nat → Int32)) (n_truth : (Nat → Int32)) (n_facts : (Nat → Int32)) (n_news : (Nat → Int64)) (h_F : (Nat → Option Nat)) (h_G : (Nat → Nat → Nat)) (h_N : (Nat → zNet)) : Option (Int32 × Int32 × Int32 × Int32 × (Nat → Int32) × (Nat → Int32) × (Nat → Int32) × (Nat → Int32) × (Nat → Int64) × (Nat → Option Nat) × (Nat → Nat → Nat) × (Nat → zNet)) :=
  (fX6_isPair v1 v2 n_nodes).bind (fun y1 =>
  if y1 = 0 then
  some ((-1 : Int32), o_historySize, o_wayIsKept, n_tunnels, n_entries, n_exits, n_truth, n_facts, n_news, h_F, h_G, h_N)
  else
  (fX6_isCost v3 (40 : Int32)).bind (fun y2 =>
  if y2 = 0 then
  some ((-1 : Int32), o_historySize, o_wayIsKept, n_tunnels, n_entries, n_exits, n_truth, n_facts, n_news, h_F, h_G, h_N)
  else
  if n_tunnels < (3 : Int32) then
  (fX6_beginAction o_historySize n_nodes n_links n_tunnels n_messages n_areas n_firsts n_seconds n_privates n_entries n_exits n_truth n_facts n_news h_F h_G h_N).bind (fun y3 =>
  (fX3_createTunnel v1 v2 v3 n_links n_tunnels n_areas n_firsts n_seconds n_privates n_entries n_exits n_truth n_facts n_news).bind (fun y4 =>
  some (y4.1, y3.1, y3.2.1, y4.2.1, y4.2.2.1, y4.2.2.2.1, y4.2.2.2.2.1, y4.2.2.2.2.2.1, y4.2.2.2.2.2.2, y3.2.2.1, y3.2.2.2.1, y3.2.2.2.2)))
  else
  some ((-3 : Int32), o_historySize, o_wayIsKept, n_tunnels, n_entries, n_exits, n_truth, n_facts, n_news, h_F, h_G, h_N)))
noncomputable def uX6_setTunnel_61 (v1 : Int32) (v2 : Int32) (v3 : Int32) (o_historySize : Int32) (n_nodes : Int32) (n_links : Int32) (n_tunnels : Int32) (n_messages : Int32) (n_areas : (Nat → Int32)) (n_firsts : (Nat → Int32)) (n_seconds : (Nat → Int32)) (n_privates : (Nat → Int32)) (n_entries : (Nat → Int32)) (n_exits : (Nat → Int32)) (n_truth : (Nat → Int32)) (n_facts : (Nat → Int32)) (n_news : (Nat → Int64)) (h_F : (Nat → Option Nat)) (h_G : (Nat → Nat → Nat)) (h_N : (Nat → zNet)) : Option (Int32 × Int32 × Int32 × (Nat → Int32) × (Nat → Int32) × (Nat → Int64) × (Nat → Option Nat) × (Nat → Nat → Nat) × (Nat → zNet)) :=
  (fX6_beginAction o_historySize n_nodes n_links n_tunnels n_messages n_areas n_firsts n_seconds n_privates n_entries n_exits n_truth n_facts n_news h_F h_G h_N).bind (fun y7 =>
  (fX3_changeTunnel v1 v2 v3 n_links n_areas n_firsts n_seconds n_privates n_entries n_truth n_facts n_news).bind (fun y8 =>
  some (y8.1, y7.1, y7.2.1, y8.2.1, y8.2.2.1, y8.2.2.2, y7.2.2.1, y7.2.2.2.1, y7.2.2.2.2)))
noncomputable def fX6_setTunnel (v1 : Int32) (v2 : Int32) (v3 : Int32) (o_historySize : Int32) (o_wayIsKept : Int32) (n_nodes : Int32) (n_links : Int32) (n_tunnels : Int32) (n_messages : Int32) (n_areas : (Nat → Int32)) (n_firsts : (Nat → Int32)) (n_seconds : (Nat → Int32)) (n_privates : (Nat → Int32)) (n_entries : (Nat → Int32)) (n_exits : (Nat → Int32)) (n_truth : (Nat → Int32)) (n_facts : (Nat → Int32)) (n_news : (Nat → Int64)) (h_F : (Nat → Option Nat)) (h_G : (Nat → Nat → Nat)) (h_N : (Nat → zNet)) : Option (Int32 × Int32 × Int32 × (Nat → Int32) × (Nat → Int32) × (Nat → Int64) × (Nat → Option Nat) × (Nat → Nat → Nat) × (Nat → zNet)) :=
  (fX6_isTunnel v1 n_tunnels).bind (fun y1 =>
  if y1 = 0 then
  some ((-1 : Int32), o_historySize, o_wayIsKept, n_truth, n_facts, n_news, h_F, h_G, h_N)
  else
  (fX6_isFlag v2).bind (fun y2 =>
  if y2 = 0 then
  some ((-1 : Int32), o_historySize, o_wayIsKept, n_truth, n_facts, n_news, h_F, h_G, h_N)
  else
  (fX6_isCost v3 (40 : Int32)).bind (fun y3 =>
  if y3 = 0 then
  some ((-1 : Int32), o_historySize, o_wayIsKept, n_truth, n_facts, n_news, h_F, h_G, h_N)
  else
  gd (vp_in ((32 : Int32) + v1) 35) (
  nm (n_truth ((32 : Int32) + v1).toNatClampNeg) (fun w5 =>
  (fX0_state w5).bind (fun y6 =>
  if y6 = v2 then
  (fX0_price w5).bind (fun y9 =>
  if y9 = v3 then
  some ((-2 : Int32), o_historySize, o_wayIsKept, n_truth, n_facts, n_news, h_F, h_G, h_N)
  else
  uX6_setTunnel_61 v1 v2 v3 o_historySize n_nodes n_links n_tunnels n_messages n_areas n_firsts n_seconds n_privates n_entries n_exits n_truth n_facts n_news h_F h_G h_N)
  else
  uX6_setTunnel_61 v1 v2 v3 o_historySize n_nodes n_links n_tunnels n_messages n_areas n_firsts n_seconds n_privates n_entries n_exits n_truth n_facts n_news h_F h_G h_N))))))
noncomputable def fX6_load (o_historySize : Int32) (o_wayIsKept : Int32) (n_nodes : Int32) (n_links : Int32) (n_tunnels : Int32) (n_messages : Int32) (n_areas : (Nat → Int32)) (n_firsts : (Nat → Int32)) (n_seconds : (Nat → Int32)) (n_privates : (Nat → Int32)) (n_entries : (Nat → Int32)) (n_exits : (Nat → Int32)) (n_truth : (Nat → Int32)) (n_facts : (Nat → Int32)) (n_news : (Nat → Int64)) (c_areas : (Nat → Int32)) (c_firsts : (Nat → Int32)) (c_seconds : (Nat → Int32)) (c_privates : (Nat → Int32)) (c_entries : (Nat → Int32)) (c_exits : (Nat → Int32)) (c_truth : (Nat → Int32)) (c_facts : (Nat → Int32)) (c_news : (Nat → Int64)) (r_text : (Nat → Int32)) (r_length : Int32) (r_thing : Int32) (r_first : Int32) (r_second : Int32) (r_cost : Int32) (h_F : (Nat → Option Nat)) (h_G : (Nat → Nat → Nat)) (h_N : (Nat → zNet)) : Option (Int32 × Int32 × Int32 × Int32 × Int32 × Int32 × Int32 × (Nat → Int32) × (Nat → Int32) × (Nat → Int32) × (Nat → Int32) × (Nat → Int32) × (Nat → Int32) × (Nat → Int32) × (Nat → Int32) × (Nat → Int64) × Int32 × Int32 × Int32 × Int32 × (Nat → Int32) × (Nat → Int32) × (Nat → Int32) × (Nat → Int32) × (Nat → Int32) × (Nat → Int32) × (Nat → Int32) × (Nat → Int32) × (Nat → Int64) × Int32 × Int32 × Int32 × Int32 × Int32 × Int32 × Int32 × Int32 × Int32 × (Nat → Option Nat) × (Nat → Nat → Nat) × (Nat → zNet)) :=
  (fX5_readNetwork r_text r_length r_thing r_first r_second r_cost c_areas c_firsts c_seconds c_privates c_entries c_exits c_truth c_facts c_news).bind (fun y1 =>
  if 0 ≤ y1.1 then
  (fX6_beginAction o_historySize n_nodes n_links n_tunnels n_messages n_areas n_firsts n_seconds n_privates n_entries n_exits n_truth n_facts n_news h_F h_G h_N).bind (fun y2 =>
  (fX3_copyFrom n_areas n_firsts n_seconds n_privates n_entries n_exits n_truth n_facts n_news y1.2.2.2.2.2.2.2.2.2.1 y1.2.2.2.2.2.2.2.2.2.2.1 y1.2.2.2.2.2.2.2.2.2.2.2.1 y1.2.2.2.2.2.2.2.2.2.2.2.2.1 y1.2.2.2.2.2.2.2.2.2.2.2.2.2.1 y1.2.2.2.2.2.2.2.2.2.2.2.2.2.2.1 y1.2.2.2.2.2.2.2.2.2.2.2.2.2.2.2.1 y1.2.2.2.2.2.2.2.2.2.2.2.2.2.2.2.2.1 y1.2.2.2.2.2.2.2.2.2.2.2.2.2.2.2.2.2.1 y1.2.2.2.2.2.2.2.2.2.2.2.2.2.2.2.2.2.2.1 y1.2.2.2.2.2.2.2.2.2.2.2.2.2.2.2.2.2.2.2.1 y1.2.2.2.2.2.2.2.2.2.2.2.2.2.2.2.2.2.2.2.2.1 y1.2.2.2.2.2.2.2.2.2.2.2.2.2.2.2.2.2.2.2.2.2).bind (fun y3 =>
  some (y1.1, y2.1, y2.2.1, y3.1, y3.2.1, y3.2.2.1, y3.2.2.2.1, y3.2.2.2.2.1, y3.2.2.2.2.2.1, y3.2.2.2.2.2.2.1, y3.2.2.2.2.2.2.2.1, y3.2.2.2.2.2.2.2.2.1, y3.2.2.2.2.2.2.2.2.2.1, y3.2.2.2.2.2.2.2.2.2.2.1, y3.2.2.2.2.2.2.2.2.2.2.2.1, y3.2.2.2.2.2.2.2.2.2.2.2.2, y1.2.2.2.2.2.2.2.2.2.1, y1.2.2.2.2.2.2.2.2.2.2.1, y1.2.2.2.2.2.2.2.2.2.2.2.1, y1.2.2.2.2.2.2.2.2.2.2.2.2.1, y1.2.2.2.2.2.2.2.2.2.2.2.2.2.1, y1.2.2.2.2.2.2.2.2.2.2.2.2.2.2.1, y1.2.2.2.2.2.2.2.2.2.2.2.2.2.2.2.1, y1.2.2.2.2.2.2.2.2.2.2.2.2.2.2.2.2.1, y1.2.2.2.2.2.2.2.2.2.2.2.2.2.2.2.2.2.1, y1.2.2.2.2.2.2.2.2.2.2.2.2.2.2.2.2.2.2.1, y1.2.2.2.2.2.2.2.2.2.2.2.2.2.2.2.2.2.2.2.1, y1.2.2.2.2.2.2.2.2.2.2.2.2.2.2.2.2.2.2.2.2.1, y1.2.2.2.2.2.2.2.2.2.2.2.2.2.2.2.2.2.2.2.2.2, (0 : Int32), y1.2.1, y1.2.2.1, y1.2.2.2.1, y1.2.2.2.2.1, y1.2.2.2.2.2.1, y1.2.2.2.2.2.2.1, y1.2.2.2.2.2.2.2.1, y1.2.2.2.2.2.2.2.2.1, y2.2.2.1, y2.2.2.2.1, y2.2.2.2.2)))
  else
  some (y1.1, o_historySize, o_wayIsKept, n_nodes, n_links, n_tunnels, n_messages, n_areas, n_firsts, n_seconds, n_privates, n_entries, n_exits, n_truth, n_facts, n_news, y1.2.2.2.2.2.2.2.2.2.1, y1.2.2.2.2.2.2.2.2.2.2.1, y1.2.2.2.2.2.2.2.2.2.2.2.1, y1.2.2.2.2.2.2.2.2.2.2.2.2.1, y1.2.2.2.2.2.2.2.2.2.2.2.2.2.1, y1.2.2.2.2.2.2.2.2.2.2.2.2.2.2.1, y1.2.2.2.2.2.2.2.2.2.2.2.2.2.2.2.1, y1.2.2.2.2.2.2.2.2.2.2.2.2.2.2.2.2.1, y1.2.2.2.2.2.2.2.2.2.2.2.2.2.2.2.2.2.1, y1.2.2.2.2.2.2.2.2.2.2.2.2.2.2.2.2.2.2.1, y1.2.2.2.2.2.2.2.2.2.2.2.2.2.2.2.2.2.2.2.1, y1.2.2.2.2.2.2.2.2.2.2.2.2.2.2.2.2.2.2.2.2.1, y1.2.2.2.2.2.2.2.2.2.2.2.2.2.2.2.2.2.2.2.2.2, r_length, y1.2.1, y1.2.2.1, y1.2.2.2.1, y1.2.2.2.2.1, y1.2.2.2.2.2.1, y1.2.2.2.2.2.2.1, y1.2.2.2.2.2.2.2.1, y1.2.2.2.2.2.2.2.2.1, h_F, h_G, h_N))
noncomputable def fX6_step (v1 : Int32) (o_historySize : Int32) (o_wayIsKept : Int32) (n_nodes : Int32) (n_links : Int32) (n_tunnels : Int32) (n_messages : Int32) (n_areas : (Nat → Int32)) (n_firsts : (Nat → Int32)) (n_seconds : (Nat → Int32)) (n_privates : (Nat → Int32)) (n_entries : (Nat → Int32)) (n_exits : (Nat → Int32)) (n_truth : (Nat → Int32)) (n_facts : (Nat → Int32)) (n_news : (Nat → Int64)) (f_sentFacts : (Nat → Int32)) (f_sentNews : (Nat → Int64)) (h_F : (Nat → Option Nat)) (h_G : (Nat → Nat → Nat)) (h_N : (Nat → zNet)) : Option (Int32 × Int32 × Int32 × Int32 × (Nat → Int32) × (Nat → Int64) × (Nat → Int32) × (Nat → Int64) × (Nat → Option Nat) × (Nat → Nat → Nat) × (Nat → zNet)) :=
  if v1 < (1 : Int32) then
  some ((-1 : Int32), o_historySize, o_wayIsKept, n_messages, n_facts, n_news, f_sentFacts, f_sentNews, h_F, h_G, h_N)
  else
  if v1 ≤ (40 : Int32) then
  (fX3_isQuiet n_nodes n_news).bind (fun y1 =>
  if y1 = 0 then
  (fX6_beginAction o_historySize n_nodes n_links n_tunnels n_messages n_areas n_firsts n_seconds n_privates n_entries n_exits n_truth n_facts n_news h_F h_G h_N).bind (fun y2 =>
  (fX1_passRounds v1 f_sentFacts f_sentNews n_nodes n_links n_messages n_areas n_firsts n_seconds n_privates n_truth n_facts n_news).bind (fun y3 =>
  some (y3.2.2.2.1 - n_messages, y2.1, y2.2.1, y3.2.2.2.1, y3.2.2.2.2.1, y3.2.2.2.2.2, y3.2.1, y3.2.2.1, y2.2.2.1, y2.2.2.2.1, y2.2.2.2.2)))
  else
  some ((-2 : Int32), o_historySize, o_wayIsKept, n_messages, n_facts, n_news, f_sentFacts, f_sentNews, h_F, h_G, h_N))
  else
  some ((-1 : Int32), o_historySize, o_wayIsKept, n_messages, n_facts, n_news, f_sentFacts, f_sentNews, h_F, h_G, h_N)
noncomputable def fX6_settle (o_historySize : Int32) (o_wayIsKept : Int32) (n_nodes : Int32) (n_links : Int32) (n_tunnels : Int32) (n_messages : Int32) (n_areas : (Nat → Int32)) (n_firsts : (Nat → Int32)) (n_seconds : (Nat → Int32)) (n_privates : (Nat → Int32)) (n_entries : (Nat → Int32)) (n_exits : (Nat → Int32)) (n_truth : (Nat → Int32)) (n_facts : (Nat → Int32)) (n_news : (Nat → Int64)) (f_sentFacts : (Nat → Int32)) (f_sentNews : (Nat → Int64)) (h_F : (Nat → Option Nat)) (h_G : (Nat → Nat → Nat)) (h_N : (Nat → zNet)) : Option (Int32 × Int32 × Int32 × Int32 × (Nat → Int32) × (Nat → Int64) × (Nat → Int32) × (Nat → Int64) × (Nat → Option Nat) × (Nat → Nat → Nat) × (Nat → zNet)) :=
  (fX3_isQuiet n_nodes n_news).bind (fun y1 =>
  if y1 = 0 then
  (fX6_beginAction o_historySize n_nodes n_links n_tunnels n_messages n_areas n_firsts n_seconds n_privates n_entries n_exits n_truth n_facts n_news h_F h_G h_N).bind (fun y2 =>
  (fX1_passRounds (1000000 : Int32) f_sentFacts f_sentNews n_nodes n_links n_messages n_areas n_firsts n_seconds n_privates n_truth n_facts n_news).bind (fun y3 =>
  some (y3.1, y2.1, y2.2.1, y3.2.2.2.1, y3.2.2.2.2.1, y3.2.2.2.2.2, y3.2.1, y3.2.2.1, y2.2.2.1, y2.2.2.2.1, y2.2.2.2.2)))
  else
  some ((-2 : Int32), o_historySize, o_wayIsKept, n_messages, n_facts, n_news, f_sentFacts, f_sentNews, h_F, h_G, h_N))
