noncomputable def sX7_newsOf_4 (v1 : Int32) (m_s : (Nat → Int32)) (v2 : Int32) (v3 : Int32) : Option ((Int32 × Int32) ⊕ (Int32)) :=
  if (35 : Int32) ≤ v3 then
  oi (some v2)
  else
  (fX7_fact v1 v3 (3 : Int32) m_s).bind (fun y2 =>
  nm (v2 + y2) (fun w3 =>
  nm (v3 + (1 : Int32)) (fun w4 =>
  some (.inl (w3, w4)))))
noncomputable abbrev lX7_newsOf_4 (v1 : Int32) (m_s : (Nat → Int32)) (v2 : Int32) (v3 : Int32) : Option (Int32) :=
  wh (fun b : Int32 × Int32 => sX7_newsOf_4 v1 m_s b.1 b.2) (v2, v3)
noncomputable def fX7_newsOf (v1 : Int32) (m_s : (Nat → Int32)) : Option (Int32) :=
  lX7_newsOf_4 v1 m_s (0 : Int32) (0 : Int32)
noncomputable def uX7_isQuiet_28 (v1 : Int32) : Option (Int32) :=
  if v1 = 0 then
  some (1 : Int32)
  else
  some (0 : Int32)
noncomputable def sX7_isQuiet_4 (m_s : (Nat → Int32)) (v1 : Int32) (v2 : Int32) : Option ((Int32 × Int32) ⊕ (Int32)) :=
  gd (vp_in (0 : Int32) 1557) (
  if (m_s ((0 : Int32)).toNatClampNeg) ≤ v2 then
  oi (uX7_isQuiet_28 v1)
  else
  (fX7_newsOf v2 m_s).bind (fun y3 =>
  nm (v1 + y3) (fun w4 =>
  nm (v2 + (1 : Int32)) (fun w5 =>
  some (.inl (w4, w5))))))
noncomputable abbrev lX7_isQuiet_4 (m_s : (Nat → Int32)) (v1 : Int32) (v2 : Int32) : Option (Int32) :=
  wh (fun b : Int32 × Int32 => sX7_isQuiet_4 m_s b.1 b.2) (v1, v2)
noncomputable def fX7_isQuiet (m_s : (Nat → Int32)) : Option (Int32) :=
  lX7_isQuiet_4 m_s (0 : Int32) (0 : Int32)
noncomputable def fX7_other (v1 : Int32) (v2 : Int32) (m_s : (Nat → Int32)) : Option (Int32) :=
  (fX7_linkPart v1 (0 : Int32) m_s).bind (fun y1 =>
  (fX7_linkPart v1 (1 : Int32) m_s).bind (fun y2 =>
  some ((y1 + y2) - v2)))
noncomputable def uX7_receive_117 (v3 : Int32) (m_s : (Nat → Int32)) : Option ((Int32 × (Nat → Int32)) ⊕ ((Nat → Int32))) :=
  nm (v3 + (1 : Int32)) (fun w5 =>
  some (.inl (w5, m_s)))
noncomputable def uX7_receive_111 (v5 : Int32) (m_s : (Nat → Int32)) : Option ((Int32 × (Nat → Int32)) ⊕ ((Int32 × (Nat → Int32)) ⊕ ((Nat → Int32)))) :=
  nm (v5 + (1 : Int32)) (fun w10 =>
  some (.inl (w10, m_s)))
noncomputable def sX7_receive_22 (v1 : Int32) (v2 : Int32) (v3 : Int32) (v4 : Int32) (m_sent : (Nat → Int32)) (v5 : Int32) (m_s : (Nat → Int32)) : Option ((Int32 × (Nat → Int32)) ⊕ ((Int32 × (Nat → Int32)) ⊕ ((Nat → Int32)))) :=
  gd (vp_in (1 : Int32) 1557) (
  if (m_s ((1 : Int32)).toNatClampNeg) ≤ v5 then
  oi (uX7_receive_117 v3 m_s)
  else
  gd (vp_in (v4 + (3 : Int32)) 1557) (
  if (m_sent (v4 + (3 : Int32)).toNatClampNeg) = (1 : Int32) then
  (fX7_linkPart v5 (3 : Int32) m_s).bind (fun y9 =>
  if y9 = (1 : Int32) then
  (fX7_isEnd v1 v5 m_s).bind (fun y11 =>
  if y11 = 0 then
  uX7_receive_111 v5 m_s
  else
  (fX7_other v5 v1 m_s).bind (fun y12 =>
  if y12 = v3 then
  gd (vp_in (v4 + (0 : Int32)) 1557) (
  gd (vp_in (v4 + (1 : Int32)) 1557) (
  gd (vp_in (v4 + (2 : Int32)) 1557) (
  (fX7_learn v1 v2 (m_sent (v4 + (0 : Int32)).toNatClampNeg) (m_sent (v4 + (1 : Int32)).toNatClampNeg) (m_sent (v4 + (2 : Int32)).toNatClampNeg) m_s).bind (fun y16 =>
  uX7_receive_111 v5 y16))))
  else
  uX7_receive_111 v5 m_s))
  else
  uX7_receive_111 v5 m_s)
  else
  oi (uX7_receive_117 v3 m_s)))
noncomputable abbrev lX7_receive_22 (v1 : Int32) (v2 : Int32) (v3 : Int32) (v4 : Int32) (m_sent : (Nat → Int32)) (v5 : Int32) (m_s : (Nat → Int32)) : Option ((Int32 × (Nat → Int32)) ⊕ ((Nat → Int32))) :=
  wh (fun b : Int32 × (Nat → Int32) => sX7_receive_22 v1 v2 v3 v4 m_sent b.1 b.2) (v5, m_s)
noncomputable def sX7_receive_2 (v1 : Int32) (v2 : Int32) (m_sent : (Nat → Int32)) (v3 : Int32) (m_s : (Nat → Int32)) : Option ((Int32 × (Nat → Int32)) ⊕ ((Nat → Int32))) :=
  gd (vp_in (0 : Int32) 1557) (
  if (m_s ((0 : Int32)).toNatClampNeg) ≤ v3 then
  oi (some m_s)
  else
  (fX7_at v3 v2).bind (fun y3 =>
  lX7_receive_22 v1 v2 v3 y3 m_sent (0 : Int32) m_s))
noncomputable abbrev lX7_receive_2 (v1 : Int32) (v2 : Int32) (m_sent : (Nat → Int32)) (v3 : Int32) (m_s : (Nat → Int32)) : Option ((Nat → Int32)) :=
  wh (fun b : Int32 × (Nat → Int32) => sX7_receive_2 v1 v2 m_sent b.1 b.2) (v3, m_s)
noncomputable def fX7_receive (v1 : Int32) (v2 : Int32) (m_s : (Nat → Int32)) (m_sent : (Nat → Int32)) : Option ((Nat → Int32)) :=
  lX7_receive_2 v1 v2 m_sent (0 : Int32) m_s
noncomputable def uX7_round_150 (v1 : Int32) (m_s : (Nat → Int32)) : Option ((Int32 × (Nat → Int32)) ⊕ ((Nat → Int32) × (Nat → Int32))) :=
  nm (v1 + (1 : Int32)) (fun w6 =>
  some (.inl (w6, m_s)))
noncomputable def sX7_round_132 (v1 : Int32) (m_sent : (Nat → Int32)) (v2 : Int32) (m_s : (Nat → Int32)) : Option ((Int32 × (Nat → Int32)) ⊕ ((Int32 × (Nat → Int32)) ⊕ ((Nat → Int32) × (Nat → Int32)))) :=
  if (35 : Int32) ≤ v2 then
  oi (uX7_round_150 v1 m_s)
  else
  (fX7_receive v1 v2 m_s m_sent).bind (fun y8 =>
  nm (v2 + (1 : Int32)) (fun w9 =>
  some (.inl (w9, y8))))
noncomputable abbrev lX7_round_132 (v1 : Int32) (m_sent : (Nat → Int32)) (v2 : Int32) (m_s : (Nat → Int32)) : Option ((Int32 × (Nat → Int32)) ⊕ ((Nat → Int32) × (Nat → Int32))) :=
  wh (fun b : Int32 × (Nat → Int32) => sX7_round_132 v1 m_sent b.1 b.2) (v2, m_s)
noncomputable def sX7_round_120 (m_sent : (Nat → Int32)) (v1 : Int32) (m_s : (Nat → Int32)) : Option ((Int32 × (Nat → Int32)) ⊕ ((Nat → Int32) × (Nat → Int32))) :=
  gd (vp_in (0 : Int32) 1557) (
  if (m_s ((0 : Int32)).toNatClampNeg) ≤ v1 then
  oi (some (m_s, m_sent))
  else
  lX7_round_132 v1 m_sent (0 : Int32) m_s)
noncomputable abbrev lX7_round_120 (m_sent : (Nat → Int32)) (v1 : Int32) (m_s : (Nat → Int32)) : Option ((Nat → Int32) × (Nat → Int32)) :=
  wh (fun b : Int32 × (Nat → Int32) => sX7_round_120 m_sent b.1 b.2) (v1, m_s)
noncomputable def uX7_round_118 (m_s : (Nat → Int32)) (m_sent : (Nat → Int32)) : Option ((Nat → Int32) × (Nat → Int32)) :=
  lX7_round_120 m_sent (0 : Int32) m_s
noncomputable def uX7_round_112 (v1 : Int32) (m_s : (Nat → Int32)) : Option ((Int32 × (Nat → Int32)) ⊕ ((Nat → Int32) × (Nat → Int32))) :=
  nm (v1 + (1 : Int32)) (fun w13 =>
  some (.inl (w13, m_s)))
noncomputable def sX7_round_87 (v1 : Int32) (v2 : Int32) (m_s : (Nat → Int32)) : Option ((Int32 × (Nat → Int32)) ⊕ ((Int32 × (Nat → Int32)) ⊕ ((Nat → Int32) × (Nat → Int32)))) :=
  if (35 : Int32) ≤ v2 then
  oi (uX7_round_112 v1 m_s)
  else
  (fX7_at v1 v2).bind (fun y15 =>
  gd (vp_in (y15 + (3 : Int32)) 1557) (
  nm (v2 + (1 : Int32)) (fun w17 =>
  some (.inl (w17, upd m_s (y15 + (3 : Int32)).toNatClampNeg (0 : Int32))))))
noncomputable abbrev lX7_round_87 (v1 : Int32) (v2 : Int32) (m_s : (Nat → Int32)) : Option ((Int32 × (Nat → Int32)) ⊕ ((Nat → Int32) × (Nat → Int32))) :=
  wh (fun b : Int32 × (Nat → Int32) => sX7_round_87 v1 b.1 b.2) (v2, m_s)
noncomputable def sX7_round_75 (m_sent : (Nat → Int32)) (v1 : Int32) (m_s : (Nat → Int32)) : Option ((Int32 × (Nat → Int32)) ⊕ ((Nat → Int32) × (Nat → Int32))) :=
  gd (vp_in (0 : Int32) 1557) (
  if (m_s ((0 : Int32)).toNatClampNeg) ≤ v1 then
  oi (uX7_round_118 m_s m_sent)
  else
  lX7_round_87 v1 (0 : Int32) m_s)
noncomputable abbrev lX7_round_75 (m_sent : (Nat → Int32)) (v1 : Int32) (m_s : (Nat → Int32)) : Option ((Nat → Int32) × (Nat → Int32)) :=
  wh (fun b : Int32 × (Nat → Int32) => sX7_round_75 m_sent b.1 b.2) (v1, m_s)
noncomputable def uX7_round_73 (m_s : (Nat → Int32)) (m_sent : (Nat → Int32)) : Option ((Nat → Int32) × (Nat → Int32)) :=
  lX7_round_75 m_sent (0 : Int32) m_s
noncomputable def uX7_round_65 (v1 : Int32) (k1 : Int32) (k2 : Int32) (k3 : Int32) (m_s : (Nat → Int32)) : Option ((Int32 × (Nat → Int32)) ⊕ ((Nat → Int32) × (Nat → Int32))) :=
  gd (vp_in k1 1557) (
  nm (v1 + (1 : Int32)) (fun w28 =>
  some (.inl (w28, upd m_s (k1).toNatClampNeg (k2 + k3)))))
noncomputable def sX7_round_14 (m_sent : (Nat → Int32)) (v1 : Int32) (m_s : (Nat → Int32)) : Option ((Int32 × (Nat → Int32)) ⊕ ((Nat → Int32) × (Nat → Int32))) :=
  gd (vp_in (1 : Int32) 1557) (
  if (m_s ((1 : Int32)).toNatClampNeg) ≤ v1 then
  oi (uX7_round_73 m_s m_sent)
  else
  gd (vp_in (3 : Int32) 1557) (
  (fX7_linkPart v1 (3 : Int32) m_s).bind (fun y22 =>
  if y22 = 0 then
  uX7_round_65 v1 (3 : Int32) (m_s ((3 : Int32)).toNatClampNeg) (0 : Int32) m_s
  else
  (fX7_linkPart v1 (0 : Int32) m_s).bind (fun y23 =>
  (fX7_newsOf y23 m_s).bind (fun y24 =>
  (fX7_linkPart v1 (1 : Int32) m_s).bind (fun y25 =>
  (fX7_newsOf y25 m_s).bind (fun y26 =>
  uX7_round_65 v1 (3 : Int32) (m_s ((3 : Int32)).toNatClampNeg) (y24 + y26) m_s)))))))
noncomputable abbrev lX7_round_14 (m_sent : (Nat → Int32)) (v1 : Int32) (m_s : (Nat → Int32)) : Option ((Nat → Int32) × (Nat → Int32)) :=
  wh (fun b : Int32 × (Nat → Int32) => sX7_round_14 m_sent b.1 b.2) (v1, m_s)
noncomputable def fX7_round (m_s : (Nat → Int32)) (m_sent : (Nat → Int32)) : Option ((Nat → Int32) × (Nat → Int32)) :=
  (fX7_copy_sent_s m_s m_sent).bind (fun y1 =>
  lX7_round_14 y1 (0 : Int32) m_s)
noncomputable def uX7_step_55 (v2 : Int32) (m_thrown : Int32) (m_s : (Nat → Int32)) (m_saved : (Nat → Int32)) (m_savedMany : Int32) (m_aside : (Nat → Int32)) (m_sent : (Nat → Int32)) (m_isWay : Int32) : Option (Int32 × Int32 × (Nat → Int32) × (Nat → Int32) × Int32 × (Nat → Int32) × (Nat → Int32) × Int32) :=
  gd (vp_in (3 : Int32) 1557) (
  some ((m_s ((3 : Int32)).toNatClampNeg) - v2, m_thrown, m_s, m_saved, m_savedMany, m_aside, m_sent, m_isWay))
noncomputable def sX7_step_40 (v1 : Int32) (v2 : Int32) (m_thrown : Int32) (m_saved : (Nat → Int32)) (m_savedMany : Int32) (m_aside : (Nat → Int32)) (m_isWay : Int32) (v3 : Int32) (m_s : (Nat → Int32)) (m_sent : (Nat → Int32)) : Option ((Int32 × (Nat → Int32) × (Nat → Int32)) ⊕ (Int32 × Int32 × (Nat → Int32) × (Nat → Int32) × Int32 × (Nat → Int32) × (Nat → Int32) × Int32)) :=
  if v1 ≤ v3 then
  oi (uX7_step_55 v2 m_thrown m_s m_saved m_savedMany m_aside m_sent m_isWay)
  else
  (fX7_round m_s m_sent).bind (fun y8 =>
  nm (v3 + (1 : Int32)) (fun w9 =>
  some (.inl (w9, y8.1, y8.2))))
noncomputable abbrev lX7_step_40 (v1 : Int32) (v2 : Int32) (m_thrown : Int32) (m_saved : (Nat → Int32)) (m_savedMany : Int32) (m_aside : (Nat → Int32)) (m_isWay : Int32) (v3 : Int32) (m_s : (Nat → Int32)) (m_sent : (Nat → Int32)) : Option (Int32 × Int32 × (Nat → Int32) × (Nat → Int32) × Int32 × (Nat → Int32) × (Nat → Int32) × Int32) :=
  wh (fun b : Int32 × (Nat → Int32) × (Nat → Int32) => sX7_step_40 v1 v2 m_thrown m_saved m_savedMany m_aside m_isWay b.1 b.2.1 b.2.2) (v3, m_s, m_sent)
noncomputable def fX7_step (v1 : Int32) (m_s : (Nat → Int32)) (m_saved : (Nat → Int32)) (m_savedMany : Int32) (m_aside : (Nat → Int32)) (m_sent : (Nat → Int32)) (m_isWay : Int32) : Option (Int32 × Int32 × (Nat → Int32) × (Nat → Int32) × Int32 × (Nat → Int32) × (Nat → Int32) × Int32) :=
  (fX7_in v1 (1 : Int32) (40 : Int32)).bind (fun y1 =>
  if y1 = 0 then
  some ((-1 : Int32), (0 : Int32), m_s, m_saved, m_savedMany, m_aside, m_sent, m_isWay)
  else
  (fX7_isQuiet m_s).bind (fun y2 =>
  if y2 = 0 then
  (fX7_act m_s m_saved m_savedMany m_aside).bind (fun y3 =>
  gd (vp_in (3 : Int32) 1557) (
  nm (m_s ((3 : Int32)).toNatClampNeg) (fun w5 =>
  lX7_step_40 v1 w5 (0 : Int32) y3.1 y3.2.1 y3.2.2.1 y3.2.2.2 (0 : Int32) m_s m_sent)))
  else
  some ((-2 : Int32), (0 : Int32), m_s, m_saved, m_savedMany, m_aside, m_sent, m_isWay)))
noncomputable def sX7_settleAll_2  (v1 : Int32) (m_s : (Nat → Int32)) (m_sent : (Nat → Int32)) : Option ((Int32 × (Nat → Int32) × (Nat → Int32)) ⊕ (Int32 × (Nat → Int32) × (Nat → Int32))) :=
  (fX7_isQuiet m_s).bind (fun y1 =>
  if y1 = 0 then
  (fX7_round m_s m_sent).bind (fun y3 =>
  nm (v1 + (1 : Int32)) (fun w4 =>
  some (.inl (w4, y3.1, y3.2))))
  else
  oi (some (v1, m_s, m_sent)))
noncomputable abbrev lX7_settleAll_2  (v1 : Int32) (m_s : (Nat → Int32)) (m_sent : (Nat → Int32)) : Option (Int32 × (Nat → Int32) × (Nat → Int32)) :=
  wh (fun b : Int32 × (Nat → Int32) × (Nat → Int32) => sX7_settleAll_2  b.1 b.2.1 b.2.2) (v1, m_s, m_sent)
noncomputable def fX7_settleAll (m_s : (Nat → Int32)) (m_sent : (Nat → Int32)) : Option (Int32 × (Nat → Int32) × (Nat → Int32)) :=
  lX7_settleAll_2  (0 : Int32) m_s m_sent
noncomputable def fX7_settle (m_s : (Nat → Int32)) (m_saved : (Nat → Int32)) (m_savedMany : Int32) (m_aside : (Nat → Int32)) (m_sent : (Nat → Int32)) (m_isWay : Int32) : Option (Int32 × Int32 × (Nat → Int32) × (Nat → Int32) × Int32 × (Nat → Int32) × (Nat → Int32) × Int32) :=
  (fX7_isQuiet m_s).bind (fun y1 =>
  if y1 = 0 then
  (fX7_act m_s m_saved m_savedMany m_aside).bind (fun y2 =>
  (fX7_settleAll m_s m_sent).bind (fun y3 =>
  some (y3.1, (0 : Int32), y3.2.1, y2.1, y2.2.1, y2.2.2.1, y3.2.2, y2.2.2.2)))
  else
  some ((-2 : Int32), (0 : Int32), m_s, m_saved, m_savedMany, m_aside, m_sent, m_isWay))
noncomputable def fX7_roundsToQuiet (m_s : (Nat → Int32)) (m_aside : (Nat → Int32)) (m_sent : (Nat → Int32)) : Option (Int32 × Int32 × (Nat → Int32) × (Nat → Int32) × (Nat → Int32)) :=
  (fX7_copy_aside_s m_s m_aside).bind (fun y1 =>
  (fX7_settleAll m_s m_sent).bind (fun y2 =>
  (fX7_copy_s_aside y2.2.1 y1).bind (fun y3 =>
  some (y2.1, (0 : Int32), y3, y1, y2.2.2))))
noncomputable def uX7_undo_61 (m_thrown : Int32) (m_s : (Nat → Int32)) (m_savedMany : Int32) : Option (Int32 × Int32 × (Nat → Int32) × Int32 × Int32) :=
  some (m_savedMany, m_thrown, m_s, m_savedMany, (0 : Int32))
noncomputable def sX7_undo_27 (m_thrown : Int32) (m_saved : (Nat → Int32)) (m_savedMany : Int32) (v1 : Int32) (m_s : (Nat → Int32)) : Option ((Int32 × (Nat → Int32)) ⊕ (Int32 × Int32 × (Nat → Int32) × Int32 × Int32)) :=
  if (1557 : Int32) ≤ v1 then
  oi (uX7_undo_61 m_thrown m_s m_savedMany)
  else
  gd (vp_in (((1557 : Int32) * m_savedMany) + v1) 7785) (
  gd (vp_in v1 1557) (
  nm (v1 + (1 : Int32)) (fun w4 =>
  some (.inl (w4, upd m_s (v1).toNatClampNeg (m_saved (((1557 : Int32) * m_savedMany) + v1).toNatClampNeg))))))
noncomputable abbrev lX7_undo_27 (m_thrown : Int32) (m_saved : (Nat → Int32)) (m_savedMany : Int32) (v1 : Int32) (m_s : (Nat → Int32)) : Option (Int32 × Int32 × (Nat → Int32) × Int32 × Int32) :=
  wh (fun b : Int32 × (Nat → Int32) => sX7_undo_27 m_thrown m_saved m_savedMany b.1 b.2) (v1, m_s)
noncomputable def fX7_undo (m_s : (Nat → Int32)) (m_saved : (Nat → Int32)) (m_savedMany : Int32) (m_isWay : Int32) : Option (Int32 × Int32 × (Nat → Int32) × Int32 × Int32) :=
  if m_savedMany = 0 then
  some ((-2 : Int32), (0 : Int32), m_s, m_savedMany, m_isWay)
  else
  lX7_undo_27 (0 : Int32) m_saved (m_savedMany - (1 : Int32)) (0 : Int32) m_s
noncomputable def sX7_count_75 (m_thrown : Int32) (m_s : (Nat → Int32)) (v2 : Int32) (v3 : Int32) : Option ((Int32 × Int32) ⊕ (Int32 × Int32)) :=
  if (16 : Int32) ≤ v3 then
  oi (some (v2, m_thrown))
  else
  gd (vp_in ((14 : Int32) + v3) 1557) (
  nm (v2 + (m_s ((14 : Int32) + v3).toNatClampNeg)) (fun w6 =>
  nm (v3 + (1 : Int32)) (fun w7 =>
  some (.inl (w6, w7)))))
noncomputable abbrev lX7_count_75 (m_thrown : Int32) (m_s : (Nat → Int32)) (v2 : Int32) (v3 : Int32) : Option (Int32 × Int32) :=
  wh (fun b : Int32 × Int32 => sX7_count_75 m_thrown m_s b.1 b.2) (v2, v3)
noncomputable def fX7_count (v1 : Int32) (m_s : (Nat → Int32)) (m_savedMany : Int32) (m_length : Int32) : Option (Int32 × Int32) :=
  if v1 = (0 : Int32) then
  gd (vp_in (0 : Int32) 1557) (
  some (m_s ((0 : Int32)).toNatClampNeg, (0 : Int32)))
  else if v1 = (1 : Int32) then
  gd (vp_in (1 : Int32) 1557) (
  some (m_s ((1 : Int32)).toNatClampNeg, (0 : Int32)))
  else if v1 = (2 : Int32) then
  gd (vp_in (2 : Int32) 1557) (
  some (m_s ((2 : Int32)).toNatClampNeg, (0 : Int32)))
  else if v1 = (3 : Int32) then
  lX7_count_75 (0 : Int32) m_s (0 : Int32) (0 : Int32)
  else if v1 = (4 : Int32) then
  gd (vp_in (3 : Int32) 1557) (
  some (m_s ((3 : Int32)).toNatClampNeg, (0 : Int32)))
  else if v1 = (5 : Int32) then
  some (m_savedMany, (0 : Int32))
  else if v1 = (6 : Int32) then
  some (m_length, (0 : Int32))
  else 
  some ((-1 : Int32), (0 : Int32))
noncomputable def uX7_isEntitled_39  : Option (Int32) :=
  some (1 : Int32)
noncomputable def fX7_isEntitled (v1 : Int32) (v2 : Int32) (m_s : (Nat → Int32)) : Option (Int32) :=
  (fX7_linkPart v2 (4 : Int32) m_s).bind (fun y1 =>
  if y1 = 0 then
  uX7_isEntitled_39 
  else
  (fX7_owner v2 m_s).bind (fun y2 =>
  if y2 = v1 then
  uX7_isEntitled_39 
  else
  (fX7_owner v2 m_s).bind (fun y3 =>
  gd (vp_in (((14 : Int32) + ((4 : Int32) * y3)) + v1) 1557) (
  if (m_s (((14 : Int32) + ((4 : Int32) * y3)) + v1).toNatClampNeg) = (1 : Int32) then
  uX7_isEntitled_39 
  else
  some (0 : Int32)))))
noncomputable def uX7_isItem_57  : Option (Int32) :=
  some (1 : Int32)
noncomputable def uX7_isItem_38 (v1 : Int32) (m_s : (Nat → Int32)) : Option (Int32) :=
  if v1 < (32 : Int32) then
  some (0 : Int32)
  else
  gd (vp_in (2 : Int32) 1557) (
  if ((32 : Int32) + (m_s ((2 : Int32)).toNatClampNeg)) ≤ v1 then
  some (0 : Int32)
  else
  uX7_isItem_57 )
noncomputable def uX7_isItem_19 (v1 : Int32) (m_s : (Nat → Int32)) : Option (Int32) :=
  if v1 < (16 : Int32) then
  uX7_isItem_38 v1 m_s
  else
  gd (vp_in (1 : Int32) 1557) (
  if v1 < ((16 : Int32) + (m_s ((1 : Int32)).toNatClampNeg)) then
  uX7_isItem_57 
  else
  uX7_isItem_38 v1 m_s)
noncomputable def fX7_isItem (v1 : Int32) (m_s : (Nat → Int32)) : Option (Int32) :=
  (fX7_in v1 (0 : Int32) (15 : Int32)).bind (fun y1 =>
  if y1 = 0 then
  uX7_isItem_19 v1 m_s
  else
  if (v1 / (4 : Int32)) = (v1 - v1 / (4 : Int32) * (4 : Int32)) then
  uX7_isItem_19 v1 m_s
  else
  uX7_isItem_57 )
noncomputable def fX7_versionOf (v1 : Int32) (m_s : (Nat → Int32)) : Option (Int32) :=
  if (16 : Int32) ≤ v1 then
  if (32 : Int32) ≤ v1 then
  (fX7_tunnelPart (v1 - (32 : Int32)) (4 : Int32) m_s).bind (fun y1 =>
  some y1)
  else
  (fX7_linkPart (v1 - (16 : Int32)) (5 : Int32) m_s).bind (fun y2 =>
  some y2)
  else
  gd (vp_in ((30 : Int32) + v1) 1557) (
  some (m_s ((30 : Int32) + v1).toNatClampNeg))
noncomputable def uX7_facts_26 (v3 : Int32) (k0 : Int32) (k1 : Int32) : Option ((Int32 × Int32) ⊕ (Int32)) :=
  nm (k0 + k1) (fun w3 =>
  nm (v3 + (1 : Int32)) (fun w4 =>
  some (.inl (w3, w4))))
noncomputable def sX7_facts_4 (v1 : Int32) (m_s : (Nat → Int32)) (v2 : Int32) (v3 : Int32) : Option ((Int32 × Int32) ⊕ (Int32)) :=
  if (35 : Int32) ≤ v3 then
  oi (some v2)
  else
  (fX7_fact v1 v3 (0 : Int32) m_s).bind (fun y2 =>
  if y2 ≤ 0 then
  uX7_facts_26 v3 v2 (0 : Int32)
  else
  uX7_facts_26 v3 v2 (1 : Int32))
noncomputable abbrev lX7_facts_4 (v1 : Int32) (m_s : (Nat → Int32)) (v2 : Int32) (v3 : Int32) : Option (Int32) :=
  wh (fun b : Int32 × Int32 => sX7_facts_4 v1 m_s b.1 b.2) (v2, v3)
noncomputable def fX7_facts (v1 : Int32) (m_s : (Nat → Int32)) : Option (Int32) :=
  lX7_facts_4 v1 m_s (0 : Int32) (0 : Int32)
noncomputable def uX7_behind_99 (v3 : Int32) (k0 : Int32) (k1 : Int32) : Option ((Int32 × Int32) ⊕ (Int32)) :=
  nm (k0 + k1) (fun w3 =>
  nm (v3 + (1 : Int32)) (fun w4 =>
  some (.inl (w3, w4))))
noncomputable def uX7_behind_86 (v2 : Int32) (v3 : Int32) (k0 : Int32) : Option ((Int32 × Int32) ⊕ (Int32)) :=
  if k0 = 0 then
  uX7_behind_99 v3 v2 (0 : Int32)
  else
  uX7_behind_99 v3 v2 (1 : Int32)
noncomputable def uX7_behind_85 (v2 : Int32) (v3 : Int32) : Option ((Int32 × Int32) ⊕ (Int32)) :=
  uX7_behind_86 v2 v3 (0 : Int32)
noncomputable def uX7_behind_81 (v2 : Int32) (v3 : Int32) : Option ((Int32 × Int32) ⊕ (Int32)) :=
  uX7_behind_86 v2 v3 (1 : Int32)
noncomputable def uX7_behind_38 (v1 : Int32) (v2 : Int32) (v3 : Int32) (k0 : Int32) (m_s : (Nat → Int32)) : Option ((Int32 × Int32) ⊕ (Int32)) :=
  if k0 = 0 then
  uX7_behind_85 v2 v3
  else
  (fX7_isSecret v3 m_s).bind (fun y5 =>
  if y5 = 0 then
  uX7_behind_81 v2 v3
  else
  (fX7_isEnd v1 (v3 - (16 : Int32)) m_s).bind (fun y6 =>
  if y6 = 0 then
  (fX7_area v1 m_s).bind (fun y7 =>
  (fX7_isEntitled y7 (v3 - (16 : Int32)) m_s).bind (fun y8 =>
  if y8 = 0 then
  uX7_behind_85 v2 v3
  else
  uX7_behind_81 v2 v3))
  else
  uX7_behind_81 v2 v3))
noncomputable def uX7_behind_37 (v1 : Int32) (v2 : Int32) (v3 : Int32) (m_s : (Nat → Int32)) : Option ((Int32 × Int32) ⊕ (Int32)) :=
  uX7_behind_38 v1 v2 v3 (0 : Int32) m_s
noncomputable def sX7_behind_4 (v1 : Int32) (m_s : (Nat → Int32)) (v2 : Int32) (v3 : Int32) : Option ((Int32 × Int32) ⊕ (Int32)) :=
  if (35 : Int32) ≤ v3 then
  oi (some v2)
  else
  (fX7_isItem v3 m_s).bind (fun y2 =>
  if y2 = 0 then
  uX7_behind_37 v1 v2 v3 m_s
  else
  (fX7_versionOf v3 m_s).bind (fun y9 =>
  (fX7_fact v1 v3 (0 : Int32) m_s).bind (fun y10 =>
  if y9 ≤ y10 then
  uX7_behind_37 v1 v2 v3 m_s
  else
  uX7_behind_38 v1 v2 v3 (1 : Int32) m_s)))
noncomputable abbrev lX7_behind_4 (v1 : Int32) (m_s : (Nat → Int32)) (v2 : Int32) (v3 : Int32) : Option (Int32) :=
  wh (fun b : Int32 × Int32 => sX7_behind_4 v1 m_s b.1 b.2) (v2, v3)
noncomputable def fX7_behind (v1 : Int32) (m_s : (Nat → Int32)) : Option (Int32) :=
  lX7_behind_4 v1 m_s (0 : Int32) (0 : Int32)
noncomputable def uX7_secrets_55 (v3 : Int32) (k0 : Int32) (k1 : Int32) : Option ((Int32 × Int32) ⊕ (Int32)) :=
  nm (k0 + k1) (fun w4 =>
  nm (v3 + (1 : Int32)) (fun w5 =>
  some (.inl (w4, w5))))
noncomputable def uX7_secrets_54 (v3 : Int32) (k0 : Int32) : Option ((Int32 × Int32) ⊕ (Int32)) :=
  uX7_secrets_55 v3 k0 (0 : Int32)
noncomputable def sX7_secrets_4 (v1 : Int32) (m_s : (Nat → Int32)) (v2 : Int32) (v3 : Int32) : Option ((Int32 × Int32) ⊕ (Int32)) :=
  gd (vp_in (1 : Int32) 1557) (
  if (m_s ((1 : Int32)).toNatClampNeg) ≤ v3 then
  oi (some v2)
  else
  (fX7_fact v1 ((16 : Int32) + v3) (0 : Int32) m_s).bind (fun y3 =>
  if y3 ≤ 0 then
  uX7_secrets_54 v3 v2
  else
  (fX7_isEnd v1 v3 m_s).bind (fun y6 =>
  if y6 = 0 then
  (fX7_area v1 m_s).bind (fun y7 =>
  (fX7_isEntitled y7 v3 m_s).bind (fun y8 =>
  if y8 = 0 then
  uX7_secrets_55 v3 v2 (1 : Int32)
  else
  uX7_secrets_54 v3 v2))
  else
  uX7_secrets_54 v3 v2)))
noncomputable abbrev lX7_secrets_4 (v1 : Int32) (m_s : (Nat → Int32)) (v2 : Int32) (v3 : Int32) : Option (Int32) :=
  wh (fun b : Int32 × Int32 => sX7_secrets_4 v1 m_s b.1 b.2) (v2, v3)
noncomputable def fX7_secrets (v1 : Int32) (m_s : (Nat → Int32)) : Option (Int32) :=
  lX7_secrets_4 v1 m_s (0 : Int32) (0 : Int32)
noncomputable def fX7_node (v1 : Int32) (v2 : Int32) (m_s : (Nat → Int32)) : Option (Int32 × Int32) :=
  (fX7_isNode v1 m_s).bind (fun y1 =>
  if y1 = 0 then
  some ((-1 : Int32), (0 : Int32))
  else
  (fX7_in v2 (0 : Int32) (4 : Int32)).bind (fun y2 =>
  if y2 = 0 then
  some ((-1 : Int32), (0 : Int32))
  else
  if v2 = (0 : Int32) then
  (fX7_area v1 m_s).bind (fun y3 =>
  some (y3, (0 : Int32)))
  else if v2 = (1 : Int32) then
  (fX7_facts v1 m_s).bind (fun y4 =>
  some (y4, (0 : Int32)))
  else if v2 = (2 : Int32) then
  (fX7_newsOf v1 m_s).bind (fun y5 =>
  some (y5, (0 : Int32)))
  else if v2 = (3 : Int32) then
  (fX7_behind v1 m_s).bind (fun y6 =>
  some (y6, (0 : Int32)))
  else 
  (fX7_secrets v1 m_s).bind (fun y7 =>
  some (y7, (0 : Int32)))))
noncomputable def fX7_link (v1 : Int32) (v2 : Int32) (m_s : (Nat → Int32)) : Option (Int32 × Int32) :=
  (fX7_isLink v1 m_s).bind (fun y1 =>
  if y1 = 0 then
  some ((-1 : Int32), (0 : Int32))
  else
  (fX7_in v2 (0 : Int32) (5 : Int32)).bind (fun y2 =>
  if y2 = 0 then
  some ((-1 : Int32), (0 : Int32))
  else
  (fX7_linkPart v1 v2 m_s).bind (fun y3 =>
  some (y3, (0 : Int32)))))
noncomputable def fX7_tunnel (v1 : Int32) (v2 : Int32) (m_s : (Nat → Int32)) : Option (Int32 × Int32) :=
  (fX7_isTunnel v1 m_s).bind (fun y1 =>
  if y1 = 0 then
  some ((-1 : Int32), (0 : Int32))
  else
  (fX7_in v2 (0 : Int32) (4 : Int32)).bind (fun y2 =>
  if y2 = 0 then
  some ((-1 : Int32), (0 : Int32))
  else
  (fX7_tunnelPart v1 v2 m_s).bind (fun y3 =>
  some (y3, (0 : Int32)))))
noncomputable def uX7_grant_39 (v1 : Int32) (v2 : Int32) (k1 : Int32) (m_thrown : Int32) (m_s : (Nat → Int32)) : Option (Int32 × Int32) :=
  gd (vp_in ((k1 + ((4 : Int32) * v1)) + v2) 1557) (
  some (m_s ((k1 + ((4 : Int32) * v1)) + v2).toNatClampNeg, m_thrown))
noncomputable def fX7_grant (v1 : Int32) (v2 : Int32) (v3 : Int32) (m_s : (Nat → Int32)) : Option (Int32 × Int32) :=
  (fX7_areAreas v1 v2).bind (fun y1 =>
  if y1 = 0 then
  some ((-1 : Int32), (0 : Int32))
  else
  (fX7_in v3 (0 : Int32) (1 : Int32)).bind (fun y2 =>
  if y2 = 0 then
  some ((-1 : Int32), (0 : Int32))
  else
  if v3 = 0 then
  uX7_grant_39 v1 v2 (14 : Int32) (0 : Int32) m_s
  else
  uX7_grant_39 v1 v2 (30 : Int32) (0 : Int32) m_s))
noncomputable def uX7_known_63 (v1 : Int32) (v2 : Int32) (v3 : Int32) (m_thrown : Int32) (m_s : (Nat → Int32)) : Option (Int32 × Int32) :=
  (fX7_fact v1 v2 v3 m_s).bind (fun y5 =>
  some (y5, m_thrown))
noncomputable def uX7_known_47 (v1 : Int32) (v2 : Int32) (v3 : Int32) (k0 : Int32) (m_thrown : Int32) (m_s : (Nat → Int32)) : Option (Int32 × Int32) :=
  if k0 = 0 then
  if v3 = 0 then
  uX7_known_63 v1 v2 v3 m_thrown m_s
  else
  if v3 = (3 : Int32) then
  uX7_known_63 v1 v2 v3 m_thrown m_s
  else
  some ((-9 : Int32), m_thrown)
  else
  uX7_known_63 v1 v2 v3 m_thrown m_s
noncomputable def fX7_known (v1 : Int32) (v2 : Int32) (v3 : Int32) (m_s : (Nat → Int32)) : Option (Int32 × Int32) :=
  (fX7_isNode v1 m_s).bind (fun y1 =>
  if y1 = 0 then
  some ((-1 : Int32), (0 : Int32))
  else
  (fX7_isItem v2 m_s).bind (fun y2 =>
  if y2 = 0 then
  some ((-1 : Int32), (0 : Int32))
  else
  (fX7_in v3 (0 : Int32) (3 : Int32)).bind (fun y3 =>
  if y3 = 0 then
  some ((-1 : Int32), (0 : Int32))
  else
  (fX7_fact v1 v2 (0 : Int32) m_s).bind (fun y4 =>
  if y4 ≤ 0 then
  uX7_known_47 v1 v2 v3 (0 : Int32) (0 : Int32) m_s
  else
  uX7_known_47 v1 v2 v3 (1 : Int32) (0 : Int32) m_s))))
