noncomputable def fX7_here (m_text : (Nat → Int32)) (m_length : Int32) (m_next : Int32) : Option (Int32) :=
  if m_length ≤ m_next then
  some (-1 : Int32)
  else
  gd (vp_in m_next 120) (
  some (m_text (m_next).toNatClampNeg))
noncomputable def uX7_read_278 (k1 : Int32) (m_next : Int32) (m_start : Int32) (m_token : Int32) (m_letters : Int64) : Option (Int32 × Int32 × Int32 × Int32 × Int64) :=
  some (m_next, m_start, m_token, k1, m_letters)
noncomputable def uX7_read_267 (v1 : Int32) (k0 : Int32) (m_next : Int32) (m_start : Int32) (m_token : Int32) (m_letters : Int64) : Option (Int32 × Int32 × Int32 × Int32 × Int64) :=
  if k0 = 0 then
  uX7_read_278 (-1 : Int32) m_next m_start m_token m_letters
  else
  uX7_read_278 v1 m_next m_start m_token m_letters
noncomputable def uX7_read_262 (v1 : Int32) (m_next : Int32) (m_start : Int32) (m_token : Int32) (m_letters : Int64) : Option (Int32 × Int32 × Int32 × Int32 × Int64) :=
  uX7_read_267 v1 (1 : Int32) m_next m_start m_token m_letters
noncomputable def uX7_read_266 (v1 : Int32) (m_next : Int32) (m_start : Int32) (m_token : Int32) (m_letters : Int64) : Option (Int32 × Int32 × Int32 × Int32 × Int64) :=
  uX7_read_267 v1 (0 : Int32) m_next m_start m_token m_letters
noncomputable def uX7_read_222 (v1 : Int32) (m_text : (Nat → Int32)) (m_next : Int32) (m_start : Int32) (m_token : Int32) (m_letters : Int64) : Option (Int32 × Int32 × Int32 × Int32 × Int64) :=
  if (m_next - m_start) = (1 : Int32) then
  uX7_read_262 v1 m_next m_start m_token m_letters
  else
  if (m_next - m_start) = (2 : Int32) then
  gd (vp_in m_start 120) (
  if (m_text (m_start).toNatClampNeg) = (48 : Int32) then
  uX7_read_266 v1 m_next m_start m_token m_letters
  else
  uX7_read_262 v1 m_next m_start m_token m_letters)
  else
  uX7_read_266 v1 m_next m_start m_token m_letters
noncomputable def uX7_read_208 (k0 : Int32) (m_next : Int32) : Option ((Int32 × Int32) ⊕ (Int32 × Int32 × Int32 × Int32 × Int64)) :=
  some (.inl (k0, m_next + (1 : Int32)))
noncomputable def sX7_read_165 (m_text : (Nat → Int32)) (m_length : Int32) (m_start : Int32) (m_token : Int32) (m_letters : Int64) (v1 : Int32) (m_next : Int32) : Option ((Int32 × Int32) ⊕ (Int32 × Int32 × Int32 × Int32 × Int64)) :=
  (fX7_here m_text m_length m_next).bind (fun y8 =>
  (fX7_in y8 (48 : Int32) (57 : Int32)).bind (fun y9 =>
  if y9 = 0 then
  oi (uX7_read_222 v1 m_text m_next m_start m_token m_letters)
  else
  if (2 : Int32) ≤ (m_next - m_start) then
  uX7_read_208 v1 m_next
  else
  (fX7_here m_text m_length m_next).bind (fun y12 =>
  uX7_read_208 ((((10 : Int32) * v1) + y12) - (48 : Int32)) m_next)))
noncomputable abbrev lX7_read_165 (m_text : (Nat → Int32)) (m_length : Int32) (m_start : Int32) (m_token : Int32) (m_letters : Int64) (v1 : Int32) (m_next : Int32) : Option (Int32 × Int32 × Int32 × Int32 × Int64) :=
  wh (fun b : Int32 × Int32 => sX7_read_165 m_text m_length m_start m_token m_letters b.1 b.2) (v1, m_next)
noncomputable def uX7_read_128 (k1 : Int64) (m_next : Int32) : Option ((Int32 × Int64) ⊕ (Int32 × Int32 × Int32 × Int32 × Int64)) :=
  some (.inl (m_next + (1 : Int32), k1))
noncomputable def sX7_read_75 (m_text : (Nat → Int32)) (m_length : Int32) (m_start : Int32) (m_token : Int32) (m_number : Int32) (m_next : Int32) (m_letters : Int64) : Option ((Int32 × Int64) ⊕ (Int32 × Int32 × Int32 × Int32 × Int64)) :=
  (fX7_here m_text m_length m_next).bind (fun y14 =>
  (fX7_in y14 (97 : Int32) (122 : Int32)).bind (fun y15 =>
  if y15 = 0 then
  oi (some (m_next, m_start, m_token, m_number, m_letters))
  else
  if (8 : Int32) ≤ (m_next - m_start) then
  uX7_read_128 (0 : Int64) m_next
  else
  (fX7_here m_text m_length m_next).bind (fun y17 =>
  uX7_read_128 (((((27 : Int64) * m_letters) + ((y17).toInt64)) - (97 : Int64)) + (1 : Int64)) m_next)))
noncomputable abbrev lX7_read_75 (m_text : (Nat → Int32)) (m_length : Int32) (m_start : Int32) (m_token : Int32) (m_number : Int32) (m_next : Int32) (m_letters : Int64) : Option (Int32 × Int32 × Int32 × Int32 × Int64) :=
  wh (fun b : Int32 × Int64 => sX7_read_75 m_text m_length m_start m_token m_number b.1 b.2) (m_next, m_letters)
noncomputable def uX7_read_43 (k1 : Int32) (m_text : (Nat → Int32)) (m_length : Int32) (m_next : Int32) (m_start : Int32) : Option (Int32 × Int32 × Int32 × Int32 × Int64) :=
  (fX7_here m_text m_length m_next).bind (fun y3 =>
  (fX7_in y3 (97 : Int32) (122 : Int32)).bind (fun y4 =>
  if y4 = 0 then
  (fX7_here m_text m_length m_next).bind (fun y5 =>
  (fX7_in y5 (48 : Int32) (57 : Int32)).bind (fun y6 =>
  if y6 = 0 then
  (fX7_here m_text m_length m_next).bind (fun y7 =>
  if y7 < 0 then
  some (m_next, m_start, k1, (-1 : Int32), (0 : Int64))
  else
  some (m_next + (1 : Int32), m_start, k1, (-1 : Int32), (0 : Int64)))
  else
  lX7_read_165 m_text m_length m_start (1 : Int32) (0 : Int64) (0 : Int32) m_next))
  else
  lX7_read_75 m_text m_length m_start (0 : Int32) (-1 : Int32) m_next (0 : Int64)))
noncomputable def uX7_read_22 (m_text : (Nat → Int32)) (m_length : Int32) (m_next : Int32) : Option (Int32 × Int32 × Int32 × Int32 × Int64) :=
  (fX7_here m_text m_length m_next).bind (fun y2 =>
  if 0 ≤ y2 then
  uX7_read_43 (2 : Int32) m_text m_length m_next m_next
  else
  uX7_read_43 (3 : Int32) m_text m_length m_next m_next)
noncomputable def sX7_read_0 (m_text : (Nat → Int32)) (m_length : Int32) (m_next : Int32) : Option ((Int32) ⊕ (Int32 × Int32 × Int32 × Int32 × Int64)) :=
  (fX7_here m_text m_length m_next).bind (fun y1 =>
  if y1 = (32 : Int32) then
  some (.inl (m_next + (1 : Int32)))
  else
  oi (uX7_read_22 m_text m_length m_next))
noncomputable abbrev lX7_read_0 (m_text : (Nat → Int32)) (m_length : Int32) (m_next : Int32) : Option (Int32 × Int32 × Int32 × Int32 × Int64) :=
  wh (fun b : Int32 => sX7_read_0 m_text m_length b) m_next
noncomputable def fX7_read (m_text : (Nat → Int32)) (m_length : Int32) (m_next : Int32) : Option (Int32 × Int32 × Int32 × Int32 × Int64) :=
  lX7_read_0 m_text m_length m_next
noncomputable def uX7_take_17 (k1 : Int32) (m_text : (Nat → Int32)) (m_length : Int32) (m_next : Int32) (m_start : Int32) (m_token : Int32) (m_number : Int32) (m_letters : Int64) : Option (Int32 × Int32 × Int32 × Int32 × Int64 × Int32) :=
  gd (bz k1) (
  if k1 = 0 then
  (fX7_read m_text m_length m_next).bind (fun y2 =>
  some (y2.1, y2.2.1, y2.2.2.1, y2.2.2.2.1, y2.2.2.2.2, k1))
  else
  some (m_next, m_start, m_token, m_number, m_letters, k1))
noncomputable def uX7_take_12 (m_text : (Nat → Int32)) (m_length : Int32) (m_next : Int32) (m_start : Int32) (m_token : Int32) (m_number : Int32) (m_letters : Int64) : Option (Int32 × Int32 × Int32 × Int32 × Int64 × Int32) :=
  uX7_take_17 (1 : Int32) m_text m_length m_next m_start m_token m_number m_letters
noncomputable def fX7_take (v1 : Int32) (m_text : (Nat → Int32)) (m_length : Int32) (m_next : Int32) (m_start : Int32) (m_token : Int32) (m_number : Int32) (m_letters : Int64) (m_isWrong : Int32) : Option (Int32 × Int32 × Int32 × Int32 × Int64 × Int32) :=
  if m_isWrong = 0 then
  if v1 = 0 then
  uX7_take_12 m_text m_length m_next m_start m_token m_number m_letters
  else
  uX7_take_17 (0 : Int32) m_text m_length m_next m_start m_token m_number m_letters
  else
  uX7_take_12 m_text m_length m_next m_start m_token m_number m_letters
noncomputable def uX7_takeNumber_16 (v1 : Int32) (v2 : Int32) (k0 : Int32) (m_text : (Nat → Int32)) (m_length : Int32) (m_next : Int32) (m_start : Int32) (m_token : Int32) (m_number : Int32) (m_letters : Int64) (m_isWrong : Int32) : Option (Int32 × Int32 × Int32 × Int32 × Int32 × Int64 × Int32) :=
  (fX7_in k0 v1 v2).bind (fun y1 =>
  (fX7_take y1 m_text m_length m_next m_start m_token m_number m_letters m_isWrong).bind (fun y2 =>
  if y2.2.2.2.2.2 = 0 then
  some (k0, y2.1, y2.2.1, y2.2.2.1, y2.2.2.2.1, y2.2.2.2.2.1, y2.2.2.2.2.2)
  else
  some ((0 : Int32), y2.1, y2.2.1, y2.2.2.1, y2.2.2.2.1, y2.2.2.2.2.1, y2.2.2.2.2.2)))
noncomputable def fX7_takeNumber (v1 : Int32) (v2 : Int32) (m_text : (Nat → Int32)) (m_length : Int32) (m_next : Int32) (m_start : Int32) (m_token : Int32) (m_number : Int32) (m_letters : Int64) (m_isWrong : Int32) : Option (Int32 × Int32 × Int32 × Int32 × Int32 × Int64 × Int32) :=
  if m_token = (1 : Int32) then
  uX7_takeNumber_16 v1 v2 m_number m_text m_length m_next m_start m_token m_number m_letters m_isWrong
  else
  uX7_takeNumber_16 v1 v2 (-1 : Int32) m_text m_length m_next m_start m_token m_number m_letters m_isWrong
noncomputable def uX7_takeNode_36 (v2 : Int32) (k1 : Int32) (m_text : (Nat → Int32)) (m_length : Int32) (m_next : Int32) (m_start : Int32) (m_token : Int32) (m_number : Int32) (m_letters : Int64) (m_isWrong : Int32) : Option (Int32 × Int32 × Int32 × Int32 × Int32 × Int64 × Int32) :=
  (fX7_take k1 m_text m_length m_next m_start m_token m_number m_letters m_isWrong).bind (fun y2 =>
  if y2.2.2.2.2.2 = 0 then
  some (v2, y2.1, y2.2.1, y2.2.2.1, y2.2.2.2.1, y2.2.2.2.2.1, y2.2.2.2.2.2)
  else
  some ((0 : Int32), y2.1, y2.2.1, y2.2.2.1, y2.2.2.2.1, y2.2.2.2.2.1, y2.2.2.2.2.2))
noncomputable def uX7_takeNode_35 (v2 : Int32) (m_text : (Nat → Int32)) (m_length : Int32) (m_next : Int32) (m_start : Int32) (m_token : Int32) (m_number : Int32) (m_letters : Int64) (m_isWrong : Int32) : Option (Int32 × Int32 × Int32 × Int32 × Int32 × Int64 × Int32) :=
  uX7_takeNode_36 v2 (0 : Int32) m_text m_length m_next m_start m_token m_number m_letters m_isWrong
noncomputable def uX7_takeNode_16 (v1 : Int32) (k0 : Int32) (m_s : (Nat → Int32)) (m_text : (Nat → Int32)) (m_length : Int32) (m_next : Int32) (m_start : Int32) (m_token : Int32) (m_number : Int32) (m_letters : Int64) (m_isWrong : Int32) : Option (Int32 × Int32 × Int32 × Int32 × Int32 × Int64 × Int32) :=
  (fX7_isNode k0 m_s).bind (fun y1 =>
  if y1 = 0 then
  uX7_takeNode_35 k0 m_text m_length m_next m_start m_token m_number m_letters m_isWrong
  else
  if k0 = v1 then
  uX7_takeNode_35 k0 m_text m_length m_next m_start m_token m_number m_letters m_isWrong
  else
  uX7_takeNode_36 k0 (1 : Int32) m_text m_length m_next m_start m_token m_number m_letters m_isWrong)
noncomputable def fX7_takeNode (v1 : Int32) (m_s : (Nat → Int32)) (m_text : (Nat → Int32)) (m_length : Int32) (m_next : Int32) (m_start : Int32) (m_token : Int32) (m_number : Int32) (m_letters : Int64) (m_isWrong : Int32) : Option (Int32 × Int32 × Int32 × Int32 × Int32 × Int64 × Int32) :=
  if m_token = (1 : Int32) then
  uX7_takeNode_16 v1 m_number m_s m_text m_length m_next m_start m_token m_number m_letters m_isWrong
  else
  uX7_takeNode_16 v1 (-1 : Int32) m_s m_text m_length m_next m_start m_token m_number m_letters m_isWrong
noncomputable def uX7_readLink_17 (v1 : Int32) (k1 : Int32) (m_s : (Nat → Int32)) (m_text : (Nat → Int32)) (m_length : Int32) (m_next : Int32) (m_start : Int32) (m_token : Int32) (m_number : Int32) (m_letters : Int64) (m_isWrong : Int32) : Option ((Nat → Int32) × Int32 × Int32 × Int32 × Int32 × Int64 × Int32) :=
  (fX7_take k1 m_text m_length m_next m_start m_token m_number m_letters m_isWrong).bind (fun y2 =>
  (fX7_takeNode (-9 : Int32) m_s m_text m_length y2.1 y2.2.1 y2.2.2.1 y2.2.2.2.1 y2.2.2.2.2.1 y2.2.2.2.2.2).bind (fun y3 =>
  (fX7_takeNode y3.1 m_s m_text m_length y3.2.1 y3.2.2.1 y3.2.2.2.1 y3.2.2.2.2.1 y3.2.2.2.2.2.1 y3.2.2.2.2.2.2).bind (fun y4 =>
  (fX7_takeNumber (1 : Int32) (20 : Int32) m_text m_length y4.2.1 y4.2.2.1 y4.2.2.2.1 y4.2.2.2.2.1 y4.2.2.2.2.2.1 y4.2.2.2.2.2.2).bind (fun y5 =>
  if y5.2.2.2.2.2.2 = 0 then
  (fX7_makeLink y3.1 y4.1 y5.1 v1 m_s).bind (fun y6 =>
  some (y6.2, y5.2.1, y5.2.2.1, y5.2.2.2.1, y5.2.2.2.2.1, y5.2.2.2.2.2.1, y5.2.2.2.2.2.2))
  else
  some (m_s, y5.2.1, y5.2.2.1, y5.2.2.2.1, y5.2.2.2.2.1, y5.2.2.2.2.2.1, y5.2.2.2.2.2.2)))))
noncomputable def fX7_readLink (v1 : Int32) (m_s : (Nat → Int32)) (m_text : (Nat → Int32)) (m_length : Int32) (m_next : Int32) (m_start : Int32) (m_token : Int32) (m_number : Int32) (m_letters : Int64) (m_isWrong : Int32) : Option ((Nat → Int32) × Int32 × Int32 × Int32 × Int32 × Int64 × Int32) :=
  gd (vp_in (1 : Int32) 1557) (
  if (16 : Int32) ≤ (m_s ((1 : Int32)).toNatClampNeg) then
  uX7_readLink_17 v1 (0 : Int32) m_s m_text m_length m_next m_start m_token m_number m_letters m_isWrong
  else
  uX7_readLink_17 v1 (1 : Int32) m_s m_text m_length m_next m_start m_token m_number m_letters m_isWrong)
noncomputable def uX7_readTunnel_16 (k1 : Int32) (m_s : (Nat → Int32)) (m_text : (Nat → Int32)) (m_length : Int32) (m_next : Int32) (m_start : Int32) (m_token : Int32) (m_number : Int32) (m_letters : Int64) (m_isWrong : Int32) : Option ((Nat → Int32) × Int32 × Int32 × Int32 × Int32 × Int64 × Int32) :=
  (fX7_take k1 m_text m_length m_next m_start m_token m_number m_letters m_isWrong).bind (fun y2 =>
  (fX7_takeNode (-9 : Int32) m_s m_text m_length y2.1 y2.2.1 y2.2.2.1 y2.2.2.2.1 y2.2.2.2.2.1 y2.2.2.2.2.2).bind (fun y3 =>
  (fX7_takeNode y3.1 m_s m_text m_length y3.2.1 y3.2.2.1 y3.2.2.2.1 y3.2.2.2.2.1 y3.2.2.2.2.2.1 y3.2.2.2.2.2.2).bind (fun y4 =>
  (fX7_takeNumber (1 : Int32) (40 : Int32) m_text m_length y4.2.1 y4.2.2.1 y4.2.2.2.1 y4.2.2.2.2.1 y4.2.2.2.2.2.1 y4.2.2.2.2.2.2).bind (fun y5 =>
  if y5.2.2.2.2.2.2 = 0 then
  (fX7_makeTunnel y3.1 y4.1 y5.1 m_s).bind (fun y6 =>
  some (y6.2, y5.2.1, y5.2.2.1, y5.2.2.2.1, y5.2.2.2.2.1, y5.2.2.2.2.2.1, y5.2.2.2.2.2.2))
  else
  some (m_s, y5.2.1, y5.2.2.1, y5.2.2.2.1, y5.2.2.2.2.1, y5.2.2.2.2.2.1, y5.2.2.2.2.2.2)))))
noncomputable def fX7_readTunnel (m_s : (Nat → Int32)) (m_text : (Nat → Int32)) (m_length : Int32) (m_next : Int32) (m_start : Int32) (m_token : Int32) (m_number : Int32) (m_letters : Int64) (m_isWrong : Int32) : Option ((Nat → Int32) × Int32 × Int32 × Int32 × Int32 × Int64 × Int32) :=
  gd (vp_in (2 : Int32) 1557) (
  if (3 : Int32) ≤ (m_s ((2 : Int32)).toNatClampNeg) then
  uX7_readTunnel_16 (0 : Int32) m_s m_text m_length m_next m_start m_token m_number m_letters m_isWrong
  else
  uX7_readTunnel_16 (1 : Int32) m_s m_text m_length m_next m_start m_token m_number m_letters m_isWrong)
noncomputable def uX7_readGrant_66 (v1 : Int32) (v2 : Int32) (k1 : Int32) (m_s : (Nat → Int32)) (m_text : (Nat → Int32)) (m_length : Int32) (m_next : Int32) (m_start : Int32) (m_token : Int32) (m_number : Int32) (m_letters : Int64) (m_isWrong : Int32) : Option ((Nat → Int32) × Int32 × Int32 × Int32 × Int32 × Int64 × Int32) :=
  (fX7_take k1 m_text m_length m_next m_start m_token m_number m_letters m_isWrong).bind (fun y3 =>
  if y3.2.2.2.2.2 = 0 then
  (fX7_changeGrant v1 v2 (1 : Int32) m_s).bind (fun y4 =>
  some (y4, y3.1, y3.2.1, y3.2.2.1, y3.2.2.2.1, y3.2.2.2.2.1, y3.2.2.2.2.2))
  else
  some (m_s, y3.1, y3.2.1, y3.2.2.1, y3.2.2.2.1, y3.2.2.2.2.1, y3.2.2.2.2.2))
noncomputable def uX7_readGrant_65 (v1 : Int32) (v2 : Int32) (m_s : (Nat → Int32)) (m_text : (Nat → Int32)) (m_length : Int32) (m_next : Int32) (m_start : Int32) (m_token : Int32) (m_number : Int32) (m_letters : Int64) (m_isWrong : Int32) : Option ((Nat → Int32) × Int32 × Int32 × Int32 × Int32 × Int64 × Int32) :=
  uX7_readGrant_66 v1 v2 (0 : Int32) m_s m_text m_length m_next m_start m_token m_number m_letters m_isWrong
noncomputable def uX7_readGrant_28 (v1 : Int32) (k0 : Int32) (m_s : (Nat → Int32)) (m_text : (Nat → Int32)) (m_length : Int32) (m_next : Int32) (m_start : Int32) (m_token : Int32) (m_number : Int32) (m_letters : Int64) (m_isWrong : Int32) : Option ((Nat → Int32) × Int32 × Int32 × Int32 × Int32 × Int64 × Int32) :=
  if m_isWrong = 0 then
  (fX7_areAreas v1 k0).bind (fun y5 =>
  if y5 = 0 then
  uX7_readGrant_65 v1 k0 m_s m_text m_length m_next m_start m_token m_number m_letters m_isWrong
  else
  gd (vp_in (((14 : Int32) + ((4 : Int32) * v1)) + k0) 1557) (
  if (m_s (((14 : Int32) + ((4 : Int32) * v1)) + k0).toNatClampNeg) = 0 then
  uX7_readGrant_66 v1 k0 (1 : Int32) m_s m_text m_length m_next m_start m_token m_number m_letters m_isWrong
  else
  uX7_readGrant_65 v1 k0 m_s m_text m_length m_next m_start m_token m_number m_letters m_isWrong))
  else
  uX7_readGrant_65 v1 k0 m_s m_text m_length m_next m_start m_token m_number m_letters m_isWrong
noncomputable def fX7_readGrant (m_s : (Nat → Int32)) (m_text : (Nat → Int32)) (m_length : Int32) (m_next : Int32) (m_start : Int32) (m_token : Int32) (m_number : Int32) (m_letters : Int64) (m_isWrong : Int32) : Option ((Nat → Int32) × Int32 × Int32 × Int32 × Int32 × Int64 × Int32) :=
  (fX7_take (1 : Int32) m_text m_length m_next m_start m_token m_number m_letters m_isWrong).bind (fun y1 =>
  (fX7_takeNumber (0 : Int32) (3 : Int32) m_text m_length y1.1 y1.2.1 y1.2.2.1 y1.2.2.2.1 y1.2.2.2.2.1 y1.2.2.2.2.2).bind (fun y2 =>
  if y2.2.2.2.1 = (1 : Int32) then
  uX7_readGrant_28 y2.1 y2.2.2.2.2.1 m_s m_text m_length y2.2.1 y2.2.2.1 y2.2.2.2.1 y2.2.2.2.2.1 y2.2.2.2.2.2.1 y2.2.2.2.2.2.2
  else
  uX7_readGrant_28 y2.1 (-1 : Int32) m_s m_text m_length y2.2.1 y2.2.2.1 y2.2.2.2.1 y2.2.2.2.2.1 y2.2.2.2.2.2.1 y2.2.2.2.2.2.2))
noncomputable def uX7_readItem_195 (k1 : Int32) (m_s : (Nat → Int32)) (m_text : (Nat → Int32)) (m_length : Int32) (m_next : Int32) (m_start : Int32) (m_token : Int32) (m_number : Int32) (m_letters : Int64) (m_isWrong : Int32) : Option ((Nat → Int32) × Int32 × Int32 × Int32 × Int32 × Int64 × Int32) :=
  (fX7_take k1 m_text m_length m_next m_start m_token m_number m_letters m_isWrong).bind (fun y1 =>
  some (m_s, y1.1, y1.2.1, y1.2.2.1, y1.2.2.2.1, y1.2.2.2.2.1, y1.2.2.2.2.2))
noncomputable def uX7_readItem_194 (m_s : (Nat → Int32)) (m_text : (Nat → Int32)) (m_length : Int32) (m_next : Int32) (m_start : Int32) (m_token : Int32) (m_number : Int32) (m_letters : Int64) (m_isWrong : Int32) : Option ((Nat → Int32) × Int32 × Int32 × Int32 × Int32 × Int64 × Int32) :=
  uX7_readItem_195 (0 : Int32) m_s m_text m_length m_next m_start m_token m_number m_letters m_isWrong
noncomputable def uX7_readItem_160 (m_s : (Nat → Int32)) (m_text : (Nat → Int32)) (m_length : Int32) (m_next : Int32) (m_start : Int32) (m_token : Int32) (m_number : Int32) (m_letters : Int64) (m_isWrong : Int32) : Option ((Nat → Int32) × Int32 × Int32 × Int32 × Int32 × Int64 × Int32) :=
  if m_isWrong = 0 then
  if m_token = (2 : Int32) then
  gd (vp_in m_start 120) (
  if (m_text (m_start).toNatClampNeg) = (59 : Int32) then
  uX7_readItem_195 (1 : Int32) m_s m_text m_length m_next m_start m_token m_number m_letters m_isWrong
  else
  uX7_readItem_194 m_s m_text m_length m_next m_start m_token m_number m_letters m_isWrong)
  else
  uX7_readItem_194 m_s m_text m_length m_next m_start m_token m_number m_letters m_isWrong
  else
  uX7_readItem_194 m_s m_text m_length m_next m_start m_token m_number m_letters m_isWrong
noncomputable def uX7_readItem_87 (k1 : Int32) (m_s : (Nat → Int32)) (m_text : (Nat → Int32)) (m_length : Int32) (m_next : Int32) (m_start : Int32) (m_token : Int32) (m_number : Int32) (m_letters : Int64) : Option ((Nat → Int32) × Int32 × Int32 × Int32 × Int32 × Int64 × Int32) :=
  gd (bz k1) (
  uX7_readItem_160 m_s m_text m_length m_next m_start m_token m_number m_letters k1)
noncomputable def uX7_readItem_82 (m_s : (Nat → Int32)) (m_text : (Nat → Int32)) (m_length : Int32) (m_next : Int32) (m_start : Int32) (m_token : Int32) (m_number : Int32) (m_letters : Int64) : Option ((Nat → Int32) × Int32 × Int32 × Int32 × Int32 × Int64 × Int32) :=
  uX7_readItem_87 (1 : Int32) m_s m_text m_length m_next m_start m_token m_number m_letters
noncomputable def uX7_readItem_67 (k0 : Int32) (m_s : (Nat → Int32)) (m_text : (Nat → Int32)) (m_length : Int32) (m_next : Int32) (m_start : Int32) (m_token : Int32) (m_number : Int32) (m_letters : Int64) (m_isWrong : Int32) : Option ((Nat → Int32) × Int32 × Int32 × Int32 × Int32 × Int64 × Int32) :=
  if m_isWrong = 0 then
  if 0 ≤ k0 then
  uX7_readItem_87 (0 : Int32) m_s m_text m_length m_next m_start m_token m_number m_letters
  else
  uX7_readItem_82 m_s m_text m_length m_next m_start m_token m_number m_letters
  else
  uX7_readItem_82 m_s m_text m_length m_next m_start m_token m_number m_letters
noncomputable def uX7_readItem_41 (k1 : Int32) (m_s : (Nat → Int32)) (m_text : (Nat → Int32)) (m_length : Int32) (m_next : Int32) (m_start : Int32) (m_token : Int32) (m_number : Int32) (m_letters : Int64) (m_isWrong : Int32) : Option ((Nat → Int32) × Int32 × Int32 × Int32 × Int32 × Int64 × Int32) :=
  (fX7_take k1 m_text m_length m_next m_start m_token m_number m_letters m_isWrong).bind (fun y8 =>
  (fX7_takeNumber (0 : Int32) (3 : Int32) m_text m_length y8.1 y8.2.1 y8.2.2.1 y8.2.2.2.1 y8.2.2.2.2.1 y8.2.2.2.2.2).bind (fun y9 =>
  if y9.2.2.2.2.2.2 = 0 then
  (fX7_makeNode y9.1 m_s).bind (fun y10 =>
  uX7_readItem_67 y10.1 y10.2 m_text m_length y9.2.1 y9.2.2.1 y9.2.2.2.1 y9.2.2.2.2.1 y9.2.2.2.2.2.1 y9.2.2.2.2.2.2)
  else
  uX7_readItem_67 (0 : Int32) m_s m_text m_length y9.2.1 y9.2.2.1 y9.2.2.2.1 y9.2.2.2.2.1 y9.2.2.2.2.2.1 y9.2.2.2.2.2.2))
noncomputable def uX7_readItem_15 (k0 : Int64) (m_s : (Nat → Int32)) (m_text : (Nat → Int32)) (m_length : Int32) (m_next : Int32) (m_start : Int32) (m_token : Int32) (m_number : Int32) (m_letters : Int64) (m_isWrong : Int32) : Option ((Nat → Int32) × Int32 × Int32 × Int32 × Int32 × Int64 × Int32) :=
  if (lg_cmp k0 (286610 : Int64)) = 0 then
  gd (vp_in (0 : Int32) 1557) (
  if (10 : Int32) ≤ (m_s ((0 : Int32)).toNatClampNeg) then
  uX7_readItem_41 (0 : Int32) m_s m_text m_length m_next m_start m_token m_number m_letters m_isWrong
  else
  uX7_readItem_41 (1 : Int32) m_s m_text m_length m_next m_start m_token m_number m_letters m_isWrong)
  else
  if (lg_cmp k0 (243146 : Int64)) = 0 then
  (fX7_readLink (0 : Int32) m_s m_text m_length m_next m_start m_token m_number m_letters m_isWrong).bind (fun y6 =>
  uX7_readItem_160 y6.1 m_text m_length y6.2.1 y6.2.2.1 y6.2.2.2.1 y6.2.2.2.2.1 y6.2.2.2.2.2.1 y6.2.2.2.2.2.2)
  else
  if (lg_cmp k0 (6462225419 : Int64)) = 0 then
  (fX7_readLink (1 : Int32) m_s m_text m_length m_next m_start m_token m_number m_letters m_isWrong).bind (fun y5 =>
  uX7_readItem_160 y5.1 m_text m_length y5.2.1 y5.2.2.1 y5.2.2.2.1 y5.2.2.2.2.1 y5.2.2.2.2.2.1 y5.2.2.2.2.2.2)
  else
  if (lg_cmp k0 (4075508 : Int64)) = 0 then
  (fX7_readGrant m_s m_text m_length m_next m_start m_token m_number m_letters m_isWrong).bind (fun y4 =>
  uX7_readItem_160 y4.1 m_text m_length y4.2.1 y4.2.2.1 y4.2.2.2.1 y4.2.2.2.2.1 y4.2.2.2.2.2.1 y4.2.2.2.2.2.2)
  else
  if (lg_cmp k0 (298424316 : Int64)) = 0 then
  (fX7_readTunnel m_s m_text m_length m_next m_start m_token m_number m_letters m_isWrong).bind (fun y3 =>
  uX7_readItem_160 y3.1 m_text m_length y3.2.1 y3.2.2.1 y3.2.2.2.1 y3.2.2.2.2.1 y3.2.2.2.2.2.1 y3.2.2.2.2.2.2)
  else
  uX7_readItem_160 m_s m_text m_length m_next m_start m_token m_number m_letters (1 : Int32)
noncomputable def fX7_readItem (m_s : (Nat → Int32)) (m_text : (Nat → Int32)) (m_length : Int32) (m_next : Int32) (m_start : Int32) (m_token : Int32) (m_number : Int32) (m_letters : Int64) (m_isWrong : Int32) : Option ((Nat → Int32) × Int32 × Int32 × Int32 × Int32 × Int64 × Int32) :=
  if m_token = 0 then
  uX7_readItem_15 m_letters m_s m_text m_length m_next m_start m_token m_number m_letters m_isWrong
  else
  uX7_readItem_15 (0 : Int64) m_s m_text m_length m_next m_start m_token m_number m_letters m_isWrong
noncomputable def uX7_load_80 (v1 : Int32) (m_thrown : Int32) (m_s : (Nat → Int32)) (m_saved : (Nat → Int32)) (m_savedMany : Int32) (m_aside : (Nat → Int32)) (m_length : Int32) (m_isWay : Int32) (m_next : Int32) (m_start : Int32) (m_token : Int32) (m_number : Int32) (m_letters : Int64) (m_isWrong : Int32) : Option (Int32 × Int32 × (Nat → Int32) × (Nat → Int32) × Int32 × (Nat → Int32) × Int32 × Int32 × Int32 × Int32 × Int32 × Int32 × Int64 × Int32) :=
  if m_isWrong = 0 then
  (fX7_saveAside m_saved m_savedMany m_aside).bind (fun y3 =>
  some (v1, m_thrown, m_s, y3.1, y3.2.1, m_aside, (0 : Int32), y3.2.2, m_next, m_start, m_token, m_number, m_letters, m_isWrong))
  else
  (fX7_copy_s_aside m_s m_aside).bind (fun y4 =>
  some ((-10 : Int32) - m_start, m_thrown, y4, m_saved, m_savedMany, m_aside, m_length, m_isWay, m_next, m_start, m_token, m_number, m_letters, m_isWrong))
noncomputable def sX7_load_55 (m_thrown : Int32) (m_saved : (Nat → Int32)) (m_savedMany : Int32) (m_aside : (Nat → Int32)) (m_text : (Nat → Int32)) (m_length : Int32) (m_isWay : Int32) (v1 : Int32) (m_s : (Nat → Int32)) (m_next : Int32) (m_start : Int32) (m_token : Int32) (m_number : Int32) (m_letters : Int64) (m_isWrong : Int32) : Option ((Int32 × (Nat → Int32) × Int32 × Int32 × Int32 × Int32 × Int64 × Int32) ⊕ (Int32 × Int32 × (Nat → Int32) × (Nat → Int32) × Int32 × (Nat → Int32) × Int32 × Int32 × Int32 × Int32 × Int32 × Int32 × Int64 × Int32)) :=
  if m_isWrong = 0 then
  if m_token = (3 : Int32) then
  oi (uX7_load_80 v1 m_thrown m_s m_saved m_savedMany m_aside m_length m_isWay m_next m_start m_token m_number m_letters m_isWrong)
  else
  (fX7_readItem m_s m_text m_length m_next m_start m_token m_number m_letters m_isWrong).bind (fun y7 =>
  nm (v1 + (1 : Int32)) (fun w8 =>
  some (.inl (w8, y7.1, y7.2.1, y7.2.2.1, y7.2.2.2.1, y7.2.2.2.2.1, y7.2.2.2.2.2.1, y7.2.2.2.2.2.2))))
  else
  oi (uX7_load_80 v1 m_thrown m_s m_saved m_savedMany m_aside m_length m_isWay m_next m_start m_token m_number m_letters m_isWrong)
noncomputable abbrev lX7_load_55 (m_thrown : Int32) (m_saved : (Nat → Int32)) (m_savedMany : Int32) (m_aside : (Nat → Int32)) (m_text : (Nat → Int32)) (m_length : Int32) (m_isWay : Int32) (v1 : Int32) (m_s : (Nat → Int32)) (m_next : Int32) (m_start : Int32) (m_token : Int32) (m_number : Int32) (m_letters : Int64) (m_isWrong : Int32) : Option (Int32 × Int32 × (Nat → Int32) × (Nat → Int32) × Int32 × (Nat → Int32) × Int32 × Int32 × Int32 × Int32 × Int32 × Int32 × Int64 × Int32) :=
  wh (fun b : Int32 × (Nat → Int32) × Int32 × Int32 × Int32 × Int32 × Int64 × Int32 => sX7_load_55 m_thrown m_saved m_savedMany m_aside m_text m_length m_isWay b.1 b.2.1 b.2.2.1 b.2.2.2.1 b.2.2.2.2.1 b.2.2.2.2.2.1 b.2.2.2.2.2.2.1 b.2.2.2.2.2.2.2) (v1, m_s, m_next, m_start, m_token, m_number, m_letters, m_isWrong)
noncomputable def uX7_load_39 (m_thrown : Int32) (m_s : (Nat → Int32)) (m_saved : (Nat → Int32)) (m_savedMany : Int32) (m_aside : (Nat → Int32)) (m_text : (Nat → Int32)) (m_length : Int32) (m_isWay : Int32) : Option (Int32 × Int32 × (Nat → Int32) × (Nat → Int32) × Int32 × (Nat → Int32) × Int32 × Int32 × Int32 × Int32 × Int32 × Int32 × Int64 × Int32) :=
  (fX7_read m_text m_length (0 : Int32)).bind (fun y2 =>
  lX7_load_55 m_thrown m_saved m_savedMany m_aside m_text m_length m_isWay (0 : Int32) m_s y2.1 y2.2.1 y2.2.2.1 y2.2.2.2.1 y2.2.2.2.2 (0 : Int32))
noncomputable def sX7_load_19 (m_thrown : Int32) (m_saved : (Nat → Int32)) (m_savedMany : Int32) (m_aside : (Nat → Int32)) (m_text : (Nat → Int32)) (m_length : Int32) (m_isWay : Int32) (v1 : Int32) (m_s : (Nat → Int32)) : Option ((Int32 × (Nat → Int32)) ⊕ (Int32 × Int32 × (Nat → Int32) × (Nat → Int32) × Int32 × (Nat → Int32) × Int32 × Int32 × Int32 × Int32 × Int32 × Int32 × Int64 × Int32)) :=
  if (1557 : Int32) ≤ v1 then
  oi (uX7_load_39 m_thrown m_s m_saved m_savedMany m_aside m_text m_length m_isWay)
  else
  gd (vp_in v1 1557) (
  nm (v1 + (1 : Int32)) (fun w12 =>
  some (.inl (w12, upd m_s (v1).toNatClampNeg (0 : Int32)))))
noncomputable abbrev lX7_load_19 (m_thrown : Int32) (m_saved : (Nat → Int32)) (m_savedMany : Int32) (m_aside : (Nat → Int32)) (m_text : (Nat → Int32)) (m_length : Int32) (m_isWay : Int32) (v1 : Int32) (m_s : (Nat → Int32)) : Option (Int32 × Int32 × (Nat → Int32) × (Nat → Int32) × Int32 × (Nat → Int32) × Int32 × Int32 × Int32 × Int32 × Int32 × Int32 × Int64 × Int32) :=
  wh (fun b : Int32 × (Nat → Int32) => sX7_load_19 m_thrown m_saved m_savedMany m_aside m_text m_length m_isWay b.1 b.2) (v1, m_s)
noncomputable def fX7_load (m_s : (Nat → Int32)) (m_saved : (Nat → Int32)) (m_savedMany : Int32) (m_aside : (Nat → Int32)) (m_text : (Nat → Int32)) (m_length : Int32) (m_isWay : Int32) : Option (Int32 × Int32 × (Nat → Int32) × (Nat → Int32) × Int32 × (Nat → Int32) × Int32 × Int32 × Int32 × Int32 × Int32 × Int32 × Int64 × Int32) :=
  (fX7_copy_aside_s m_s m_aside).bind (fun y1 =>
  lX7_load_19 (0 : Int32) m_saved m_savedMany y1 m_text m_length m_isWay (0 : Int32) m_s)
