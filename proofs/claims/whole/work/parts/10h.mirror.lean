noncomputable def fX7_in (v0 : Int32) (v1 : Int32) (v2 : Int32) : Option (Int32) :=
  if v0 < v1 then
  some (0 : Int32)
  else
  if v2 < v0 then
  some (0 : Int32)
  else
  some (1 : Int32)
noncomputable def fX7_isArea (v0 : Int32) : Option (Int32) :=
  (fX7_in v0 (0 : Int32) (3 : Int32)).bind (fun y1 =>
  gd (bz y1) (some y1))
noncomputable def fX7_at (v0 : Int32) (v1 : Int32) : Option (Int32) :=
  some ((157 : Int32) + ((4 : Int32) * (((35 : Int32) * v0) + v1)))
noncomputable def fX7_areAreas (v0 : Int32) (v1 : Int32) : Option (Int32) :=
  (fX7_isArea v0).bind (fun y1 =>
  if y1 = 0 then
  some (0 : Int32)
  else
  (fX7_isArea v1).bind (fun y2 =>
  if y2 = 0 then
  some (0 : Int32)
  else
  if v0 = v1 then
  some (0 : Int32)
  else
  some (1 : Int32)))
noncomputable def sX7_copy_aside_s_2 (m_s : (Nat → Int32)) (v3 : Int32) (m_aside : (Nat → Int32)) : Option ((Int32 × (Nat → Int32)) ⊕ ((Nat → Int32))) :=
  if (1557 : Int32) ≤ v3 then
  oi (some m_aside)
  else
  gd (vp_in v3 1557) (
  gd (vp_in v3 1557) (
  nm (v3 + (1 : Int32)) (fun w4 =>
  some (.inl (w4, upd m_aside (v3).toNatClampNeg (m_s (v3).toNatClampNeg))))))
noncomputable abbrev lX7_copy_aside_s_2 (m_s : (Nat → Int32)) (v3 : Int32) (m_aside : (Nat → Int32)) : Option ((Nat → Int32)) :=
  wh (fun b : Int32 × (Nat → Int32) => sX7_copy_aside_s_2 m_s b.1 b.2) (v3, m_aside)
noncomputable def fX7_copy_aside_s (m_s : (Nat → Int32)) (m_aside : (Nat → Int32)) : Option ((Nat → Int32)) :=
  lX7_copy_aside_s_2 m_s (0 : Int32) m_aside
noncomputable def sX7_copy_s_aside_2 (m_aside : (Nat → Int32)) (v3 : Int32) (m_s : (Nat → Int32)) : Option ((Int32 × (Nat → Int32)) ⊕ ((Nat → Int32))) :=
  if (1557 : Int32) ≤ v3 then
  oi (some m_s)
  else
  gd (vp_in v3 1557) (
  gd (vp_in v3 1557) (
  nm (v3 + (1 : Int32)) (fun w4 =>
  some (.inl (w4, upd m_s (v3).toNatClampNeg (m_aside (v3).toNatClampNeg))))))
noncomputable abbrev lX7_copy_s_aside_2 (m_aside : (Nat → Int32)) (v3 : Int32) (m_s : (Nat → Int32)) : Option ((Nat → Int32)) :=
  wh (fun b : Int32 × (Nat → Int32) => sX7_copy_s_aside_2 m_aside b.1 b.2) (v3, m_s)
noncomputable def fX7_copy_s_aside (m_s : (Nat → Int32)) (m_aside : (Nat → Int32)) : Option ((Nat → Int32)) :=
  lX7_copy_s_aside_2 m_aside (0 : Int32) m_s
noncomputable def sX7_copy_sent_s_2 (m_s : (Nat → Int32)) (v3 : Int32) (m_sent : (Nat → Int32)) : Option ((Int32 × (Nat → Int32)) ⊕ ((Nat → Int32))) :=
  if (1557 : Int32) ≤ v3 then
  oi (some m_sent)
  else
  gd (vp_in v3 1557) (
  gd (vp_in v3 1557) (
  nm (v3 + (1 : Int32)) (fun w4 =>
  some (.inl (w4, upd m_sent (v3).toNatClampNeg (m_s (v3).toNatClampNeg))))))
noncomputable abbrev lX7_copy_sent_s_2 (m_s : (Nat → Int32)) (v3 : Int32) (m_sent : (Nat → Int32)) : Option ((Nat → Int32)) :=
  wh (fun b : Int32 × (Nat → Int32) => sX7_copy_sent_s_2 m_s b.1 b.2) (v3, m_sent)
noncomputable def fX7_copy_sent_s (m_s : (Nat → Int32)) (m_sent : (Nat → Int32)) : Option ((Nat → Int32)) :=
  lX7_copy_sent_s_2 m_s (0 : Int32) m_sent
noncomputable def fX7_area (v1 : Int32) (m_s : (Nat → Int32)) : Option (Int32) :=
  gd (vp_in ((4 : Int32) + v1) 1557) (
  some (m_s ((4 : Int32) + v1).toNatClampNeg))
noncomputable def fX7_linkPart (v1 : Int32) (v2 : Int32) (m_s : (Nat → Int32)) : Option (Int32) :=
  gd (vp_in (((46 : Int32) + ((6 : Int32) * v1)) + v2) 1557) (
  some (m_s (((46 : Int32) + ((6 : Int32) * v1)) + v2).toNatClampNeg))
noncomputable def fX7_tunnelPart (v1 : Int32) (v2 : Int32) (m_s : (Nat → Int32)) : Option (Int32) :=
  gd (vp_in (((142 : Int32) + ((5 : Int32) * v1)) + v2) 1557) (
  some (m_s (((142 : Int32) + ((5 : Int32) * v1)) + v2).toNatClampNeg))
noncomputable def fX7_isNode (v1 : Int32) (m_s : (Nat → Int32)) : Option (Int32) :=
  gd (vp_in (0 : Int32) 1557) (
  (fX7_in v1 (0 : Int32) ((m_s ((0 : Int32)).toNatClampNeg) - (1 : Int32))).bind (fun y2 =>
  gd (bz y2) (some y2)))
noncomputable def fX7_isLink (v1 : Int32) (m_s : (Nat → Int32)) : Option (Int32) :=
  gd (vp_in (1 : Int32) 1557) (
  (fX7_in v1 (0 : Int32) ((m_s ((1 : Int32)).toNatClampNeg) - (1 : Int32))).bind (fun y2 =>
  gd (bz y2) (some y2)))
noncomputable def fX7_isTunnel (v1 : Int32) (m_s : (Nat → Int32)) : Option (Int32) :=
  gd (vp_in (2 : Int32) 1557) (
  (fX7_in v1 (0 : Int32) ((m_s ((2 : Int32)).toNatClampNeg) - (1 : Int32))).bind (fun y2 =>
  gd (bz y2) (some y2)))
noncomputable def uX7_isEnd_20  : Option (Int32) :=
  some (1 : Int32)
noncomputable def fX7_isEnd (v1 : Int32) (v2 : Int32) (m_s : (Nat → Int32)) : Option (Int32) :=
  (fX7_linkPart v2 (0 : Int32) m_s).bind (fun y1 =>
  if y1 = v1 then
  uX7_isEnd_20 
  else
  (fX7_linkPart v2 (1 : Int32) m_s).bind (fun y2 =>
  if y2 = v1 then
  uX7_isEnd_20 
  else
  some (0 : Int32)))
noncomputable def fX7_owner (v1 : Int32) (m_s : (Nat → Int32)) : Option (Int32) :=
  (fX7_linkPart v1 (0 : Int32) m_s).bind (fun y1 =>
  (fX7_area y1 m_s).bind (fun y2 =>
  some y2))
noncomputable def fX7_fact (v1 : Int32) (v2 : Int32) (v3 : Int32) (m_s : (Nat → Int32)) : Option (Int32) :=
  (fX7_at v1 v2).bind (fun y1 =>
  gd (vp_in (y1 + v3) 1557) (
  some (m_s (y1 + v3).toNatClampNeg)))
noncomputable def fX7_isSecret (v1 : Int32) (m_s : (Nat → Int32)) : Option (Int32) :=
  (fX7_in v1 (16 : Int32) (31 : Int32)).bind (fun y1 =>
  if y1 = 0 then
  some (0 : Int32)
  else
  (fX7_linkPart (v1 - (16 : Int32)) (4 : Int32) m_s).bind (fun y2 =>
  if y2 = (1 : Int32) then
  some (1 : Int32)
  else
  some (0 : Int32)))
noncomputable def fX7_hasGrant (v1 : Int32) (v2 : Int32) (v3 : Int32) (m_s : (Nat → Int32)) : Option (Int32) :=
  (fX7_fact v1 (((4 : Int32) * v2) + v3) (0 : Int32) m_s).bind (fun y1 =>
  if y1 ≤ 0 then
  some (0 : Int32)
  else
  (fX7_fact v1 (((4 : Int32) * v2) + v3) (1 : Int32) m_s).bind (fun y2 =>
  if y2 = (1 : Int32) then
  some (1 : Int32)
  else
  some (0 : Int32)))
noncomputable def uX7_mayKnow_54  : Option (Int32) :=
  some (1 : Int32)
noncomputable def fX7_mayKnow (v1 : Int32) (v2 : Int32) (m_s : (Nat → Int32)) : Option (Int32) :=
  (fX7_isSecret v2 m_s).bind (fun y1 =>
  if y1 = 0 then
  some (1 : Int32)
  else
  (fX7_owner (v2 - (16 : Int32)) m_s).bind (fun y2 =>
  (fX7_isEnd v1 (v2 - (16 : Int32)) m_s).bind (fun y3 =>
  if y3 = 0 then
  (fX7_area v1 m_s).bind (fun y4 =>
  if y4 = y2 then
  uX7_mayKnow_54 
  else
  (fX7_area v1 m_s).bind (fun y5 =>
  (fX7_hasGrant v1 y2 y5 m_s).bind (fun y6 =>
  if y6 = 0 then
  some (0 : Int32)
  else
  uX7_mayKnow_54 )))
  else
  uX7_mayKnow_54 )))
noncomputable def uX7_saveAside_85 (m_saved : (Nat → Int32)) (m_savedMany : Int32) : Option ((Nat → Int32) × Int32 × Int32) :=
  some (m_saved, m_savedMany + (1 : Int32), (0 : Int32))
noncomputable def sX7_saveAside_51 (m_savedMany : Int32) (m_aside : (Nat → Int32)) (v1 : Int32) (m_saved : (Nat → Int32)) : Option ((Int32 × (Nat → Int32)) ⊕ ((Nat → Int32) × Int32 × Int32)) :=
  if (1557 : Int32) ≤ v1 then
  oi (uX7_saveAside_85 m_saved m_savedMany)
  else
  gd (vp_in v1 1557) (
  gd (vp_in (((1557 : Int32) * m_savedMany) + v1) 7785) (
  nm (v1 + (1 : Int32)) (fun w4 =>
  some (.inl (w4, upd m_saved (((1557 : Int32) * m_savedMany) + v1).toNatClampNeg (m_aside (v1).toNatClampNeg))))))
noncomputable abbrev lX7_saveAside_51 (m_savedMany : Int32) (m_aside : (Nat → Int32)) (v1 : Int32) (m_saved : (Nat → Int32)) : Option ((Nat → Int32) × Int32 × Int32) :=
  wh (fun b : Int32 × (Nat → Int32) => sX7_saveAside_51 m_savedMany m_aside b.1 b.2) (v1, m_saved)
noncomputable def uX7_saveAside_49 (m_saved : (Nat → Int32)) (m_savedMany : Int32) (m_aside : (Nat → Int32)) : Option ((Nat → Int32) × Int32 × Int32) :=
  lX7_saveAside_51 m_savedMany m_aside (0 : Int32) m_saved
noncomputable def uX7_saveAside_39 (m_saved : (Nat → Int32)) (m_savedMany : Int32) (m_aside : (Nat → Int32)) : Option ((Nat → Int32) × Int32 × Int32) :=
  uX7_saveAside_49 m_saved (m_savedMany - (1 : Int32)) m_aside
noncomputable def sX7_saveAside_10 (m_savedMany : Int32) (m_aside : (Nat → Int32)) (v1 : Int32) (m_saved : (Nat → Int32)) : Option ((Int32 × (Nat → Int32)) ⊕ ((Nat → Int32) × Int32 × Int32)) :=
  if (6228 : Int32) ≤ v1 then
  oi (uX7_saveAside_39 m_saved m_savedMany m_aside)
  else
  gd (vp_in (v1 + (1557 : Int32)) 7785) (
  gd (vp_in v1 7785) (
  nm (v1 + (1 : Int32)) (fun w9 =>
  some (.inl (w9, upd m_saved (v1).toNatClampNeg (m_saved (v1 + (1557 : Int32)).toNatClampNeg))))))
noncomputable abbrev lX7_saveAside_10 (m_savedMany : Int32) (m_aside : (Nat → Int32)) (v1 : Int32) (m_saved : (Nat → Int32)) : Option ((Nat → Int32) × Int32 × Int32) :=
  wh (fun b : Int32 × (Nat → Int32) => sX7_saveAside_10 m_savedMany m_aside b.1 b.2) (v1, m_saved)
noncomputable def fX7_saveAside (m_saved : (Nat → Int32)) (m_savedMany : Int32) (m_aside : (Nat → Int32)) : Option ((Nat → Int32) × Int32 × Int32) :=
  if m_savedMany = (5 : Int32) then
  lX7_saveAside_10 m_savedMany m_aside (0 : Int32) m_saved
  else
  uX7_saveAside_49 m_saved m_savedMany m_aside
noncomputable def fX7_act (m_s : (Nat → Int32)) (m_saved : (Nat → Int32)) (m_savedMany : Int32) (m_aside : (Nat → Int32)) : Option ((Nat → Int32) × Int32 × (Nat → Int32) × Int32) :=
  (fX7_copy_aside_s m_s m_aside).bind (fun y1 =>
  (fX7_saveAside m_saved m_savedMany y1).bind (fun y2 =>
  some (y2.1, y2.2.1, y1, y2.2.2)))
noncomputable def uX7_learn_221 (v8 : Int32) (m_s : (Nat → Int32)) : Option ((Int32 × (Nat → Int32)) ⊕ ((Nat → Int32))) :=
  nm (v8 + (1 : Int32)) (fun w13 =>
  some (.inl (w13, m_s)))
noncomputable def sX7_learn_198 (v8 : Int32) (v9 : Int32) (v10 : Int32) (m_s : (Nat → Int32)) : Option ((Int32 × (Nat → Int32)) ⊕ ((Int32 × (Nat → Int32)) ⊕ ((Nat → Int32)))) :=
  if (4 : Int32) ≤ v10 then
  oi (uX7_learn_221 v8 m_s)
  else
  gd (vp_in (v9 + v10) 1557) (
  nm (v10 + (1 : Int32)) (fun w22 =>
  some (.inl (w22, upd m_s (v9 + v10).toNatClampNeg (0 : Int32)))))
noncomputable abbrev lX7_learn_198 (v8 : Int32) (v9 : Int32) (v10 : Int32) (m_s : (Nat → Int32)) : Option ((Int32 × (Nat → Int32)) ⊕ ((Nat → Int32))) :=
  wh (fun b : Int32 × (Nat → Int32) => sX7_learn_198 v8 v9 b.1 b.2) (v10, m_s)
noncomputable def uX7_learn_168 (v1 : Int32) (v2 : Int32) (v4 : Int32) (v8 : Int32) (v9 : Int32) (k1 : Int32) (k2 : Int32) (m_s : (Nat → Int32)) : Option ((Int32 × (Nat → Int32)) ⊕ ((Nat → Int32))) :=
  gd (vp_in k1 1557) (
  if v4 = 0 then
  (fX7_area v1 (upd m_s (k1).toNatClampNeg k2)).bind (fun y18 =>
  if (v2 - v2 / (4 : Int32) * (4 : Int32)) = y18 then
  (fX7_isEnd v1 v8 (upd m_s (k1).toNatClampNeg k2)).bind (fun y19 =>
  if y19 = 0 then
  lX7_learn_198 v8 v9 (0 : Int32) (upd m_s (k1).toNatClampNeg k2)
  else
  uX7_learn_221 v8 (upd m_s (k1).toNatClampNeg k2))
  else
  uX7_learn_221 v8 (upd m_s (k1).toNatClampNeg k2))
  else
  uX7_learn_221 v8 (upd m_s (k1).toNatClampNeg k2))
noncomputable def sX7_learn_85 (v1 : Int32) (v2 : Int32) (v4 : Int32) (v7 : Int32) (v8 : Int32) (m_s : (Nat → Int32)) : Option ((Int32 × (Nat → Int32)) ⊕ ((Nat → Int32))) :=
  gd (vp_in (1 : Int32) 1557) (
  if (m_s ((1 : Int32)).toNatClampNeg) ≤ v8 then
  oi (some m_s)
  else
  (fX7_at v1 ((16 : Int32) + v8)).bind (fun y11 =>
  (fX7_linkPart v8 (4 : Int32) m_s).bind (fun y12 =>
  if y12 = (1 : Int32) then
  (fX7_owner v8 m_s).bind (fun y14 =>
  if y14 = v7 then
  gd (vp_in (y11 + (0 : Int32)) 1557) (
  if (m_s (y11 + (0 : Int32)).toNatClampNeg) ≤ 0 then
  uX7_learn_221 v8 m_s
  else
  if v4 = (1 : Int32) then
  uX7_learn_168 v1 v2 v4 v8 y11 (y11 + (3 : Int32)) (1 : Int32) m_s
  else
  gd (vp_in (y11 + (3 : Int32)) 1557) (
  uX7_learn_168 v1 v2 v4 v8 y11 (y11 + (3 : Int32)) (m_s (y11 + (3 : Int32)).toNatClampNeg) m_s))
  else
  uX7_learn_221 v8 m_s)
  else
  uX7_learn_221 v8 m_s)))
noncomputable abbrev lX7_learn_85 (v1 : Int32) (v2 : Int32) (v4 : Int32) (v7 : Int32) (v8 : Int32) (m_s : (Nat → Int32)) : Option ((Nat → Int32)) :=
  wh (fun b : Int32 × (Nat → Int32) => sX7_learn_85 v1 v2 v4 v7 b.1 b.2) (v8, m_s)
noncomputable def fX7_learn (v1 : Int32) (v2 : Int32) (v3 : Int32) (v4 : Int32) (v5 : Int32) (m_s : (Nat → Int32)) : Option ((Nat → Int32)) :=
  (fX7_mayKnow v1 v2 m_s).bind (fun y1 =>
  if y1 = 0 then
  some m_s
  else
  (fX7_fact v1 v2 (0 : Int32) m_s).bind (fun y2 =>
  if y2 < v3 then
  (fX7_at v1 v2).bind (fun y3 =>
  gd (vp_in (y3 + (0 : Int32)) 1557) (
  gd (vp_in (y3 + (1 : Int32)) 1557) (
  gd (vp_in (y3 + (2 : Int32)) 1557) (
  gd (vp_in (y3 + (3 : Int32)) 1557) (
  if v2 < (16 : Int32) then
  nm (v2 / (4 : Int32)) (fun w8 =>
  lX7_learn_85 v1 v2 v4 w8 (0 : Int32) (upd (upd (upd (upd m_s (y3 + (0 : Int32)).toNatClampNeg v3) (y3 + (1 : Int32)).toNatClampNeg v4) (y3 + (2 : Int32)).toNatClampNeg v5) (y3 + (3 : Int32)).toNatClampNeg (1 : Int32)))
  else
  some (upd (upd (upd (upd m_s (y3 + (0 : Int32)).toNatClampNeg v3) (y3 + (1 : Int32)).toNatClampNeg v4) (y3 + (2 : Int32)).toNatClampNeg v5) (y3 + (3 : Int32)).toNatClampNeg (1 : Int32)))))))
  else
  some m_s))
noncomputable def fX7_tellLink (v1 : Int32) (v2 : Int32) (m_s : (Nat → Int32)) : Option ((Nat → Int32)) :=
  (fX7_linkPart v2 (5 : Int32) m_s).bind (fun y1 =>
  (fX7_linkPart v2 (3 : Int32) m_s).bind (fun y2 =>
  (fX7_linkPart v2 (2 : Int32) m_s).bind (fun y3 =>
  (fX7_learn v1 ((16 : Int32) + v2) y1 y2 y3 m_s).bind (fun y4 =>
  some y4))))
noncomputable def uX7_awake_34 (v2 : Int32) (k1 : Int32) (k2 : Int32) (m_s : (Nat → Int32)) : Option ((Int32 × (Nat → Int32)) ⊕ ((Nat → Int32))) :=
  gd (vp_in k1 1557) (
  nm (v2 + (1 : Int32)) (fun w5 =>
  some (.inl (w5, upd m_s (k1).toNatClampNeg k2))))
noncomputable def sX7_awake_2 (v1 : Int32) (v2 : Int32) (m_s : (Nat → Int32)) : Option ((Int32 × (Nat → Int32)) ⊕ ((Nat → Int32))) :=
  if (35 : Int32) ≤ v2 then
  oi (some m_s)
  else
  (fX7_at v1 v2).bind (fun y2 =>
  (fX7_fact v1 v2 (0 : Int32) m_s).bind (fun y3 =>
  if y3 ≤ 0 then
  uX7_awake_34 v2 (y2 + (3 : Int32)) (0 : Int32) m_s
  else
  uX7_awake_34 v2 (y2 + (3 : Int32)) (1 : Int32) m_s))
noncomputable abbrev lX7_awake_2 (v1 : Int32) (v2 : Int32) (m_s : (Nat → Int32)) : Option ((Nat → Int32)) :=
  wh (fun b : Int32 × (Nat → Int32) => sX7_awake_2 v1 b.1 b.2) (v2, m_s)
noncomputable def fX7_awake (v1 : Int32) (m_s : (Nat → Int32)) : Option ((Nat → Int32)) :=
  lX7_awake_2 v1 (0 : Int32) m_s
noncomputable def fX7_changeLink (v1 : Int32) (v2 : Int32) (m_s : (Nat → Int32)) : Option ((Nat → Int32)) :=
  (fX7_linkPart v1 (0 : Int32) m_s).bind (fun y1 =>
  (fX7_linkPart v1 (1 : Int32) m_s).bind (fun y2 =>
  (fX7_tellLink y1 v1 m_s).bind (fun y3 =>
  (fX7_tellLink y2 v1 y3).bind (fun y4 =>
  if v2 = 0 then
  some y4
  else
  (fX7_awake y1 y4).bind (fun y5 =>
  (fX7_awake y2 y5).bind (fun y6 =>
  some y6))))))
noncomputable def uX7_changeGrant_76 (v5 : Int32) (m_s : (Nat → Int32)) : Option ((Int32 × (Nat → Int32)) ⊕ ((Nat → Int32))) :=
  nm (v5 + (1 : Int32)) (fun w8 =>
  some (.inl (w8, m_s)))
noncomputable def sX7_changeGrant_35 (v1 : Int32) (v3 : Int32) (v4 : Int32) (v5 : Int32) (m_s : (Nat → Int32)) : Option ((Int32 × (Nat → Int32)) ⊕ ((Nat → Int32))) :=
  gd (vp_in (0 : Int32) 1557) (
  if (m_s ((0 : Int32)).toNatClampNeg) ≤ v5 then
  oi (some m_s)
  else
  (fX7_area v5 m_s).bind (fun y7 =>
  if y7 = v1 then
  gd (vp_in ((30 : Int32) + v4) 1557) (
  (fX7_learn v5 v4 (m_s ((30 : Int32) + v4).toNatClampNeg) v3 (0 : Int32) m_s).bind (fun y10 =>
  uX7_changeGrant_76 v5 y10))
  else
  uX7_changeGrant_76 v5 m_s))
noncomputable abbrev lX7_changeGrant_35 (v1 : Int32) (v3 : Int32) (v4 : Int32) (v5 : Int32) (m_s : (Nat → Int32)) : Option ((Nat → Int32)) :=
  wh (fun b : Int32 × (Nat → Int32) => sX7_changeGrant_35 v1 v3 v4 b.1 b.2) (v5, m_s)
noncomputable def fX7_changeGrant (v1 : Int32) (v2 : Int32) (v3 : Int32) (m_s : (Nat → Int32)) : Option ((Nat → Int32)) :=
  nm (((4 : Int32) * v1) + v2) (fun w1 =>
  gd (vp_in ((14 : Int32) + w1) 1557) (
  gd (vp_in ((30 : Int32) + w1) 1557) (
  gd (vp_in ((30 : Int32) + w1) 1557) (
  lX7_changeGrant_35 v1 v3 w1 (0 : Int32) (upd (upd m_s ((14 : Int32) + w1).toNatClampNeg v3) ((30 : Int32) + w1).toNatClampNeg (((upd m_s ((14 : Int32) + w1).toNatClampNeg v3) ((30 : Int32) + w1).toNatClampNeg) + (1 : Int32)))))))
noncomputable def fX7_changeTunnel (v1 : Int32) (m_s : (Nat → Int32)) : Option ((Nat → Int32)) :=
  (fX7_tunnelPart v1 (0 : Int32) m_s).bind (fun y1 =>
  (fX7_tunnelPart v1 (4 : Int32) m_s).bind (fun y2 =>
  (fX7_tunnelPart v1 (3 : Int32) m_s).bind (fun y3 =>
  (fX7_tunnelPart v1 (2 : Int32) m_s).bind (fun y4 =>
  (fX7_learn y1 ((32 : Int32) + v1) y2 y3 y4 m_s).bind (fun y5 =>
  some y5)))))
noncomputable def fX7_makeNode (v1 : Int32) (m_s : (Nat → Int32)) : Option (Int32 × (Nat → Int32)) :=
  gd (vp_in (0 : Int32) 1557) (
  nm (m_s ((0 : Int32)).toNatClampNeg) (fun w2 =>
  gd (vp_in ((4 : Int32) + w2) 1557) (
  gd (vp_in (0 : Int32) 1557) (
  gd (vp_in (0 : Int32) 1557) (
  some (w2, upd (upd m_s ((4 : Int32) + w2).toNatClampNeg v1) ((0 : Int32)).toNatClampNeg (((upd m_s ((4 : Int32) + w2).toNatClampNeg v1) ((0 : Int32)).toNatClampNeg) + (1 : Int32))))))))
noncomputable def fX7_makeLink (v1 : Int32) (v2 : Int32) (v3 : Int32) (v4 : Int32) (m_s : (Nat → Int32)) : Option (Int32 × (Nat → Int32)) :=
  gd (vp_in (1 : Int32) 1557) (
  nm (m_s ((1 : Int32)).toNatClampNeg) (fun w2 =>
  nm ((46 : Int32) + ((6 : Int32) * w2)) (fun w3 =>
  gd (vp_in w3 1557) (
  gd (vp_in (w3 + (1 : Int32)) 1557) (
  gd (vp_in (w3 + (2 : Int32)) 1557) (
  gd (vp_in (w3 + (3 : Int32)) 1557) (
  gd (vp_in (w3 + (4 : Int32)) 1557) (
  gd (vp_in (w3 + (5 : Int32)) 1557) (
  gd (vp_in (1 : Int32) 1557) (
  gd (vp_in (1 : Int32) 1557) (
  (fX7_changeLink w2 (1 : Int32) (upd (upd (upd (upd (upd (upd (upd m_s (w3).toNatClampNeg v1) (w3 + (1 : Int32)).toNatClampNeg v2) (w3 + (2 : Int32)).toNatClampNeg v3) (w3 + (3 : Int32)).toNatClampNeg (1 : Int32)) (w3 + (4 : Int32)).toNatClampNeg v4) (w3 + (5 : Int32)).toNatClampNeg (1 : Int32)) ((1 : Int32)).toNatClampNeg (((upd (upd (upd (upd (upd (upd m_s (w3).toNatClampNeg v1) (w3 + (1 : Int32)).toNatClampNeg v2) (w3 + (2 : Int32)).toNatClampNeg v3) (w3 + (3 : Int32)).toNatClampNeg (1 : Int32)) (w3 + (4 : Int32)).toNatClampNeg v4) (w3 + (5 : Int32)).toNatClampNeg (1 : Int32)) ((1 : Int32)).toNatClampNeg) + (1 : Int32)))).bind (fun y12 =>
  some (w2, y12)))))))))))))
noncomputable def fX7_makeTunnel (v1 : Int32) (v2 : Int32) (v3 : Int32) (m_s : (Nat → Int32)) : Option (Int32 × (Nat → Int32)) :=
  gd (vp_in (2 : Int32) 1557) (
  nm (m_s ((2 : Int32)).toNatClampNeg) (fun w2 =>
  nm ((142 : Int32) + ((5 : Int32) * w2)) (fun w3 =>
  gd (vp_in w3 1557) (
  gd (vp_in (w3 + (1 : Int32)) 1557) (
  gd (vp_in (w3 + (2 : Int32)) 1557) (
  gd (vp_in (w3 + (3 : Int32)) 1557) (
  gd (vp_in (w3 + (4 : Int32)) 1557) (
  gd (vp_in (2 : Int32) 1557) (
  gd (vp_in (2 : Int32) 1557) (
  (fX7_changeTunnel w2 (upd (upd (upd (upd (upd (upd m_s (w3).toNatClampNeg v1) (w3 + (1 : Int32)).toNatClampNeg v2) (w3 + (2 : Int32)).toNatClampNeg v3) (w3 + (3 : Int32)).toNatClampNeg (1 : Int32)) (w3 + (4 : Int32)).toNatClampNeg (1 : Int32)) ((2 : Int32)).toNatClampNeg (((upd (upd (upd (upd (upd m_s (w3).toNatClampNeg v1) (w3 + (1 : Int32)).toNatClampNeg v2) (w3 + (2 : Int32)).toNatClampNeg v3) (w3 + (3 : Int32)).toNatClampNeg (1 : Int32)) (w3 + (4 : Int32)).toNatClampNeg (1 : Int32)) ((2 : Int32)).toNatClampNeg) + (1 : Int32)))).bind (fun y11 =>
  some (w2, y11))))))))))))
noncomputable def fX7_addNode (v1 : Int32) (m_s : (Nat → Int32)) (m_saved : (Nat → Int32)) (m_savedMany : Int32) (m_aside : (Nat → Int32)) (m_isWay : Int32) : Option (Int32 × Int32 × (Nat → Int32) × (Nat → Int32) × Int32 × (Nat → Int32) × Int32) :=
  (fX7_isArea v1).bind (fun y1 =>
  if y1 = 0 then
  some ((-1 : Int32), (0 : Int32), m_s, m_saved, m_savedMany, m_aside, m_isWay)
  else
  gd (vp_in (0 : Int32) 1557) (
  if (m_s ((0 : Int32)).toNatClampNeg) = (10 : Int32) then
  some ((-3 : Int32), (0 : Int32), m_s, m_saved, m_savedMany, m_aside, m_isWay)
  else
  (fX7_act m_s m_saved m_savedMany m_aside).bind (fun y3 =>
  (fX7_makeNode v1 m_s).bind (fun y4 =>
  some (y4.1, (0 : Int32), y4.2, y3.1, y3.2.1, y3.2.2.1, y3.2.2.2)))))
noncomputable def fX7_areNodes (v1 : Int32) (v2 : Int32) (m_s : (Nat → Int32)) : Option (Int32) :=
  (fX7_isNode v1 m_s).bind (fun y1 =>
  if y1 = 0 then
  some (0 : Int32)
  else
  (fX7_isNode v2 m_s).bind (fun y2 =>
  if y2 = 0 then
  some (0 : Int32)
  else
  if v1 = v2 then
  some (0 : Int32)
  else
  some (1 : Int32)))
noncomputable def fX7_addLink (v1 : Int32) (v2 : Int32) (v3 : Int32) (v4 : Int32) (m_s : (Nat → Int32)) (m_saved : (Nat → Int32)) (m_savedMany : Int32) (m_aside : (Nat → Int32)) (m_isWay : Int32) : Option (Int32 × Int32 × (Nat → Int32) × (Nat → Int32) × Int32 × (Nat → Int32) × Int32) :=
  (fX7_areNodes v1 v2 m_s).bind (fun y1 =>
  if y1 = 0 then
  some ((-1 : Int32), (0 : Int32), m_s, m_saved, m_savedMany, m_aside, m_isWay)
  else
  (fX7_in v3 (1 : Int32) (20 : Int32)).bind (fun y2 =>
  if y2 = 0 then
  some ((-1 : Int32), (0 : Int32), m_s, m_saved, m_savedMany, m_aside, m_isWay)
  else
  (fX7_in v4 (0 : Int32) (1 : Int32)).bind (fun y3 =>
  if y3 = 0 then
  some ((-1 : Int32), (0 : Int32), m_s, m_saved, m_savedMany, m_aside, m_isWay)
  else
  gd (vp_in (1 : Int32) 1557) (
  if (m_s ((1 : Int32)).toNatClampNeg) = (16 : Int32) then
  some ((-3 : Int32), (0 : Int32), m_s, m_saved, m_savedMany, m_aside, m_isWay)
  else
  (fX7_act m_s m_saved m_savedMany m_aside).bind (fun y5 =>
  (fX7_makeLink v1 v2 v3 v4 m_s).bind (fun y6 =>
  some (y6.1, (0 : Int32), y6.2, y5.1, y5.2.1, y5.2.2.1, y5.2.2.2)))))))
noncomputable def uX7_setLink_124 (v1 : Int32) (k1 : Int32) (k2 : Int32) (m_thrown : Int32) (m_s : (Nat → Int32)) (m_saved : (Nat → Int32)) (m_savedMany : Int32) (m_aside : (Nat → Int32)) (m_isWay : Int32) : Option (Int32 × Int32 × (Nat → Int32) × (Nat → Int32) × Int32 × (Nat → Int32) × Int32) :=
  (fX7_changeLink k1 k2 m_s).bind (fun y11 =>
  (fX7_linkPart v1 (5 : Int32) y11).bind (fun y12 =>
  some (y12, m_thrown, y11, m_saved, m_savedMany, m_aside, m_isWay)))
noncomputable def uX7_setLink_123 (v1 : Int32) (k1 : Int32) (m_thrown : Int32) (m_s : (Nat → Int32)) (m_saved : (Nat → Int32)) (m_savedMany : Int32) (m_aside : (Nat → Int32)) (m_isWay : Int32) : Option (Int32 × Int32 × (Nat → Int32) × (Nat → Int32) × Int32 × (Nat → Int32) × Int32) :=
  uX7_setLink_124 v1 k1 (0 : Int32) m_thrown m_s m_saved m_savedMany m_aside m_isWay
noncomputable def uX7_setLink_61 (v1 : Int32) (v2 : Int32) (v3 : Int32) (v4 : Int32) (m_thrown : Int32) (m_s : (Nat → Int32)) (m_saved : (Nat → Int32)) (m_savedMany : Int32) (m_aside : (Nat → Int32)) : Option (Int32 × Int32 × (Nat → Int32) × (Nat → Int32) × Int32 × (Nat → Int32) × Int32) :=
  (fX7_act m_s m_saved m_savedMany m_aside).bind (fun y5 =>
  nm ((46 : Int32) + ((6 : Int32) * v1)) (fun w6 =>
  gd (vp_in (w6 + (3 : Int32)) 1557) (
  gd (vp_in (w6 + (2 : Int32)) 1557) (
  gd (vp_in (w6 + (5 : Int32)) 1557) (
  gd (vp_in (w6 + (5 : Int32)) 1557) (
  if v4 = 0 then
  if v2 = (1 : Int32) then
  uX7_setLink_124 v1 v1 (1 : Int32) m_thrown (upd (upd (upd m_s (w6 + (3 : Int32)).toNatClampNeg v2) (w6 + (2 : Int32)).toNatClampNeg v3) (w6 + (5 : Int32)).toNatClampNeg (((upd (upd m_s (w6 + (3 : Int32)).toNatClampNeg v2) (w6 + (2 : Int32)).toNatClampNeg v3) (w6 + (5 : Int32)).toNatClampNeg) + (1 : Int32))) y5.1 y5.2.1 y5.2.2.1 y5.2.2.2
  else
  uX7_setLink_123 v1 v1 m_thrown (upd (upd (upd m_s (w6 + (3 : Int32)).toNatClampNeg v2) (w6 + (2 : Int32)).toNatClampNeg v3) (w6 + (5 : Int32)).toNatClampNeg (((upd (upd m_s (w6 + (3 : Int32)).toNatClampNeg v2) (w6 + (2 : Int32)).toNatClampNeg v3) (w6 + (5 : Int32)).toNatClampNeg) + (1 : Int32))) y5.1 y5.2.1 y5.2.2.1 y5.2.2.2
  else
  uX7_setLink_123 v1 v1 m_thrown (upd (upd (upd m_s (w6 + (3 : Int32)).toNatClampNeg v2) (w6 + (2 : Int32)).toNatClampNeg v3) (w6 + (5 : Int32)).toNatClampNeg (((upd (upd m_s (w6 + (3 : Int32)).toNatClampNeg v2) (w6 + (2 : Int32)).toNatClampNeg v3) (w6 + (5 : Int32)).toNatClampNeg) + (1 : Int32))) y5.1 y5.2.1 y5.2.2.1 y5.2.2.2))))))
noncomputable def fX7_setLink (v1 : Int32) (v2 : Int32) (v3 : Int32) (m_s : (Nat → Int32)) (m_saved : (Nat → Int32)) (m_savedMany : Int32) (m_aside : (Nat → Int32)) (m_isWay : Int32) : Option (Int32 × Int32 × (Nat → Int32) × (Nat → Int32) × Int32 × (Nat → Int32) × Int32) :=
  (fX7_isLink v1 m_s).bind (fun y1 =>
  if y1 = 0 then
  some ((-1 : Int32), (0 : Int32), m_s, m_saved, m_savedMany, m_aside, m_isWay)
  else
  (fX7_in v2 (0 : Int32) (1 : Int32)).bind (fun y2 =>
  if y2 = 0 then
  some ((-1 : Int32), (0 : Int32), m_s, m_saved, m_savedMany, m_aside, m_isWay)
  else
  (fX7_in v3 (1 : Int32) (20 : Int32)).bind (fun y3 =>
  if y3 = 0 then
  some ((-1 : Int32), (0 : Int32), m_s, m_saved, m_savedMany, m_aside, m_isWay)
  else
  (fX7_linkPart v1 (3 : Int32) m_s).bind (fun y4 =>
  if y4 = v2 then
  (fX7_linkPart v1 (2 : Int32) m_s).bind (fun y13 =>
  if y13 = v3 then
  some ((-2 : Int32), (0 : Int32), m_s, m_saved, m_savedMany, m_aside, m_isWay)
  else
  uX7_setLink_61 v1 v2 v3 y4 (0 : Int32) m_s m_saved m_savedMany m_aside)
  else
  uX7_setLink_61 v1 v2 v3 y4 (0 : Int32) m_s m_saved m_savedMany m_aside))))
noncomputable def fX7_setGrant (v1 : Int32) (v2 : Int32) (v3 : Int32) (m_s : (Nat → Int32)) (m_saved : (Nat → Int32)) (m_savedMany : Int32) (m_aside : (Nat → Int32)) (m_isWay : Int32) : Option (Int32 × Int32 × (Nat → Int32) × (Nat → Int32) × Int32 × (Nat → Int32) × Int32) :=
  (fX7_areAreas v1 v2).bind (fun y1 =>
  if y1 = 0 then
  some ((-1 : Int32), (0 : Int32), m_s, m_saved, m_savedMany, m_aside, m_isWay)
  else
  (fX7_in v3 (0 : Int32) (1 : Int32)).bind (fun y2 =>
  if y2 = 0 then
  some ((-1 : Int32), (0 : Int32), m_s, m_saved, m_savedMany, m_aside, m_isWay)
  else
  gd (vp_in (((14 : Int32) + ((4 : Int32) * v1)) + v2) 1557) (
  if (m_s (((14 : Int32) + ((4 : Int32) * v1)) + v2).toNatClampNeg) = v3 then
  some ((-2 : Int32), (0 : Int32), m_s, m_saved, m_savedMany, m_aside, m_isWay)
  else
  (fX7_act m_s m_saved m_savedMany m_aside).bind (fun y4 =>
  (fX7_changeGrant v1 v2 v3 m_s).bind (fun y5 =>
  gd (vp_in (((30 : Int32) + ((4 : Int32) * v1)) + v2) 1557) (
  some (y5 (((30 : Int32) + ((4 : Int32) * v1)) + v2).toNatClampNeg, (0 : Int32), y5, y4.1, y4.2.1, y4.2.2.1, y4.2.2.2)))))))
noncomputable def fX7_addTunnel (v1 : Int32) (v2 : Int32) (v3 : Int32) (m_s : (Nat → Int32)) (m_saved : (Nat → Int32)) (m_savedMany : Int32) (m_aside : (Nat → Int32)) (m_isWay : Int32) : Option (Int32 × Int32 × (Nat → Int32) × (Nat → Int32) × Int32 × (Nat → Int32) × Int32) :=
  (fX7_areNodes v1 v2 m_s).bind (fun y1 =>
  if y1 = 0 then
  some ((-1 : Int32), (0 : Int32), m_s, m_saved, m_savedMany, m_aside, m_isWay)
  else
  (fX7_in v3 (1 : Int32) (40 : Int32)).bind (fun y2 =>
  if y2 = 0 then
  some ((-1 : Int32), (0 : Int32), m_s, m_saved, m_savedMany, m_aside, m_isWay)
  else
  gd (vp_in (2 : Int32) 1557) (
  if (m_s ((2 : Int32)).toNatClampNeg) = (3 : Int32) then
  some ((-3 : Int32), (0 : Int32), m_s, m_saved, m_savedMany, m_aside, m_isWay)
  else
  (fX7_act m_s m_saved m_savedMany m_aside).bind (fun y4 =>
  (fX7_makeTunnel v1 v2 v3 m_s).bind (fun y5 =>
  some (y5.1, (0 : Int32), y5.2, y4.1, y4.2.1, y4.2.2.1, y4.2.2.2))))))
noncomputable def uX7_setTunnel_57 (v1 : Int32) (v2 : Int32) (v3 : Int32) (m_thrown : Int32) (m_s : (Nat → Int32)) (m_saved : (Nat → Int32)) (m_savedMany : Int32) (m_aside : (Nat → Int32)) : Option (Int32 × Int32 × (Nat → Int32) × (Nat → Int32) × Int32 × (Nat → Int32) × Int32) :=
  (fX7_act m_s m_saved m_savedMany m_aside).bind (fun y5 =>
  nm ((142 : Int32) + ((5 : Int32) * v1)) (fun w6 =>
  gd (vp_in (w6 + (3 : Int32)) 1557) (
  gd (vp_in (w6 + (2 : Int32)) 1557) (
  gd (vp_in (w6 + (4 : Int32)) 1557) (
  gd (vp_in (w6 + (4 : Int32)) 1557) (
  (fX7_changeTunnel v1 (upd (upd (upd m_s (w6 + (3 : Int32)).toNatClampNeg v2) (w6 + (2 : Int32)).toNatClampNeg v3) (w6 + (4 : Int32)).toNatClampNeg (((upd (upd m_s (w6 + (3 : Int32)).toNatClampNeg v2) (w6 + (2 : Int32)).toNatClampNeg v3) (w6 + (4 : Int32)).toNatClampNeg) + (1 : Int32)))).bind (fun y11 =>
  (fX7_tunnelPart v1 (4 : Int32) y11).bind (fun y12 =>
  some (y12, m_thrown, y11, y5.1, y5.2.1, y5.2.2.1, y5.2.2.2)))))))))
noncomputable def fX7_setTunnel (v1 : Int32) (v2 : Int32) (v3 : Int32) (m_s : (Nat → Int32)) (m_saved : (Nat → Int32)) (m_savedMany : Int32) (m_aside : (Nat → Int32)) (m_isWay : Int32) : Option (Int32 × Int32 × (Nat → Int32) × (Nat → Int32) × Int32 × (Nat → Int32) × Int32) :=
  (fX7_isTunnel v1 m_s).bind (fun y1 =>
  if y1 = 0 then
  some ((-1 : Int32), (0 : Int32), m_s, m_saved, m_savedMany, m_aside, m_isWay)
  else
  (fX7_in v2 (0 : Int32) (1 : Int32)).bind (fun y2 =>
  if y2 = 0 then
  some ((-1 : Int32), (0 : Int32), m_s, m_saved, m_savedMany, m_aside, m_isWay)
  else
  (fX7_in v3 (1 : Int32) (40 : Int32)).bind (fun y3 =>
  if y3 = 0 then
  some ((-1 : Int32), (0 : Int32), m_s, m_saved, m_savedMany, m_aside, m_isWay)
  else
  (fX7_tunnelPart v1 (3 : Int32) m_s).bind (fun y4 =>
  if y4 = v2 then
  (fX7_tunnelPart v1 (2 : Int32) m_s).bind (fun y13 =>
  if y13 = v3 then
  some ((-2 : Int32), (0 : Int32), m_s, m_saved, m_savedMany, m_aside, m_isWay)
  else
  uX7_setTunnel_57 v1 v2 v3 (0 : Int32) m_s m_saved m_savedMany m_aside)
  else
  uX7_setTunnel_57 v1 v2 v3 (0 : Int32) m_s m_saved m_savedMany m_aside))))
noncomputable def fX7_append (v1 : Int32) (m_text : (Nat → Int32)) (m_length : Int32) : Option (Int32 × Int32 × (Nat → Int32) × Int32) :=
  (fX7_in v1 (1 : Int32) (255 : Int32)).bind (fun y1 =>
  if y1 = 0 then
  some ((-1 : Int32), (0 : Int32), m_text, m_length)
  else
  if m_length = (120 : Int32) then
  some ((-3 : Int32), (0 : Int32), m_text, m_length)
  else
  gd (vp_in m_length 120) (
  some (m_length + (1 : Int32), (0 : Int32), upd m_text (m_length).toNatClampNeg v1, m_length + (1 : Int32))))
noncomputable def fX7_clearText (m_length : Int32) : Option (Int32 × Int32 × Int32) :=
  some (m_length, (0 : Int32), (0 : Int32))
