noncomputable def fX3_makeEmpty (n_truth : (Nat → Int32)) (n_facts : (Nat → Int32)) (n_news : (Nat → Int64)) : Option (Int32 × Int32 × Int32 × Int32 × (Nat → Int32) × (Nat → Int32) × (Nat → Int64)) :=
  (fJ7_fill_53178 (0 : Int32) n_truth 35).bind (fun y1 =>
  (fJ7_fill_53178 (0 : Int32) n_facts 350).bind (fun y2 =>
  (fJ7_fill_d0a16 (0 : Int64) n_news 10).bind (fun y3 =>
  some ((0 : Int32), (0 : Int32), (0 : Int32), (0 : Int32), y1, y2, y3))))
noncomputable def uX1_sendersTo_60 (v1 : Int32) (v2 : Int32) : Option (Int32) :=
  some (v2 &&& (((1 : Int32) <<< (v1 &&& 31)) ^^^ (-1 : Int32)))
noncomputable def uX1_sendersTo_54 (v2 : Int32) (v3 : Int32) : Option ((Int32 × Int32) ⊕ (Int32)) :=
  nm (v3 + (1 : Int32)) (fun w3 =>
  some (.inl (v2, w3)))
noncomputable def sX1_sendersTo_4 (v1 : Int32) (n_links : Int32) (n_firsts : (Nat → Int32)) (n_seconds : (Nat → Int32)) (n_truth : (Nat → Int32)) (v2 : Int32) (v3 : Int32) : Option ((Int32 × Int32) ⊕ (Int32)) :=
  if n_links ≤ v3 then
  oi (uX1_sendersTo_60 v1 v2)
  else
  (fX3_isUp ((16 : Int32) + v3) n_truth).bind (fun y2 =>
  if y2 = 0 then
  uX1_sendersTo_54 v2 v3
  else
  (fX3_isEnd v1 v3 n_firsts n_seconds).bind (fun y4 =>
  if y4 = 0 then
  uX1_sendersTo_54 v2 v3
  else
  gd (vp_in v3 16) (
  nm (v2 ||| ((1 : Int32) <<< ((n_firsts (v3).toNatClampNeg) &&& 31))) (fun w6 =>
  gd (vp_in v3 16) (
  nm (w6 ||| ((1 : Int32) <<< ((n_seconds (v3).toNatClampNeg) &&& 31))) (fun w8 =>
  uX1_sendersTo_54 w8 v3))))))
noncomputable abbrev lX1_sendersTo_4 (v1 : Int32) (n_links : Int32) (n_firsts : (Nat → Int32)) (n_seconds : (Nat → Int32)) (n_truth : (Nat → Int32)) (v2 : Int32) (v3 : Int32) : Option (Int32) :=
  wh (fun b : Int32 × Int32 => sX1_sendersTo_4 v1 n_links n_firsts n_seconds n_truth b.1 b.2) (v2, v3)
noncomputable def fX1_sendersTo (v1 : Int32) (n_links : Int32) (n_firsts : (Nat → Int32)) (n_seconds : (Nat → Int32)) (n_truth : (Nat → Int32)) : Option (Int32) :=
  lX1_sendersTo_4 v1 n_links n_firsts n_seconds n_truth (0 : Int32) (0 : Int32)
noncomputable def uX1_receive_80 (v4 : Int32) (n_facts : (Nat → Int32)) (n_news : (Nat → Int64)) : Option ((Int32 × (Nat → Int32) × (Nat → Int64)) ⊕ ((Nat → Int32) × (Nat → Int64))) :=
  nm (v4 + (1 : Int32)) (fun w3 =>
  some (.inl (w3, n_facts, n_news)))
noncomputable def uX1_receive_74 (v5 : Int32) (n_facts : (Nat → Int32)) (n_news : (Nat → Int64)) : Option ((Int32 × (Nat → Int32) × (Nat → Int64)) ⊕ ((Int32 × (Nat → Int32) × (Nat → Int64)) ⊕ ((Nat → Int32) × (Nat → Int64)))) :=
  nm (v5 + (1 : Int32)) (fun w5 =>
  some (.inl (w5, n_facts, n_news)))
noncomputable def sX1_receive_19 (v2 : Int32) (v3 : Int32) (v4 : Int32) (f_sentFacts : (Nat → Int32)) (f_sentNews : (Nat → Int64)) (n_nodes : Int32) (n_links : Int32) (n_areas : (Nat → Int32)) (n_firsts : (Nat → Int32)) (n_seconds : (Nat → Int32)) (n_privates : (Nat → Int32)) (v5 : Int32) (n_facts : (Nat → Int32)) (n_news : (Nat → Int64)) : Option ((Int32 × (Nat → Int32) × (Nat → Int64)) ⊕ ((Int32 × (Nat → Int32) × (Nat → Int64)) ⊕ ((Nat → Int32) × (Nat → Int64)))) :=
  if n_nodes ≤ v5 then
  oi (uX1_receive_80 v4 n_facts n_news)
  else
  if ((v3 >>> (v5 &&& 31)) &&& (1 : Int32)) = (1 : Int32) then
  gd (vp_in v5 10) (
  if (lg_cmp (((f_sentNews (v5).toNatClampNeg) >>> ((v4).toInt64 &&& 63)) &&& (1 : Int64)) (1 : Int64)) = 0 then
  (fX6_place v5 v4).bind (fun y7 =>
  gd (vp_in y7 350) (
  (fX3_learn v2 v4 (f_sentFacts (y7).toNatClampNeg) n_links n_areas n_firsts n_seconds n_privates n_facts n_news).bind (fun y9 =>
  uX1_receive_74 v5 y9.1 y9.2)))
  else
  uX1_receive_74 v5 n_facts n_news)
  else
  uX1_receive_74 v5 n_facts n_news
noncomputable abbrev lX1_receive_19 (v2 : Int32) (v3 : Int32) (v4 : Int32) (f_sentFacts : (Nat → Int32)) (f_sentNews : (Nat → Int64)) (n_nodes : Int32) (n_links : Int32) (n_areas : (Nat → Int32)) (n_firsts : (Nat → Int32)) (n_seconds : (Nat → Int32)) (n_privates : (Nat → Int32)) (v5 : Int32) (n_facts : (Nat → Int32)) (n_news : (Nat → Int64)) : Option ((Int32 × (Nat → Int32) × (Nat → Int64)) ⊕ ((Nat → Int32) × (Nat → Int64))) :=
  wh (fun b : Int32 × (Nat → Int32) × (Nat → Int64) => sX1_receive_19 v2 v3 v4 f_sentFacts f_sentNews n_nodes n_links n_areas n_firsts n_seconds n_privates b.1 b.2.1 b.2.2) (v5, n_facts, n_news)
noncomputable def sX1_receive_9 (v2 : Int32) (v3 : Int32) (f_sentFacts : (Nat → Int32)) (f_sentNews : (Nat → Int64)) (n_nodes : Int32) (n_links : Int32) (n_areas : (Nat → Int32)) (n_firsts : (Nat → Int32)) (n_seconds : (Nat → Int32)) (n_privates : (Nat → Int32)) (v4 : Int32) (n_facts : (Nat → Int32)) (n_news : (Nat → Int64)) : Option ((Int32 × (Nat → Int32) × (Nat → Int64)) ⊕ ((Nat → Int32) × (Nat → Int64))) :=
  if (35 : Int32) ≤ v4 then
  oi (some (n_facts, n_news))
  else
  lX1_receive_19 v2 v3 v4 f_sentFacts f_sentNews n_nodes n_links n_areas n_firsts n_seconds n_privates (0 : Int32) n_facts n_news
noncomputable abbrev lX1_receive_9 (v2 : Int32) (v3 : Int32) (f_sentFacts : (Nat → Int32)) (f_sentNews : (Nat → Int64)) (n_nodes : Int32) (n_links : Int32) (n_areas : (Nat → Int32)) (n_firsts : (Nat → Int32)) (n_seconds : (Nat → Int32)) (n_privates : (Nat → Int32)) (v4 : Int32) (n_facts : (Nat → Int32)) (n_news : (Nat → Int64)) : Option ((Nat → Int32) × (Nat → Int64)) :=
  wh (fun b : Int32 × (Nat → Int32) × (Nat → Int64) => sX1_receive_9 v2 v3 f_sentFacts f_sentNews n_nodes n_links n_areas n_firsts n_seconds n_privates b.1 b.2.1 b.2.2) (v4, n_facts, n_news)
noncomputable def fX1_receive (v2 : Int32) (f_sentFacts : (Nat → Int32)) (f_sentNews : (Nat → Int64)) (n_nodes : Int32) (n_links : Int32) (n_areas : (Nat → Int32)) (n_firsts : (Nat → Int32)) (n_seconds : (Nat → Int32)) (n_privates : (Nat → Int32)) (n_truth : (Nat → Int32)) (n_facts : (Nat → Int32)) (n_news : (Nat → Int64)) : Option ((Nat → Int32) × (Nat → Int64)) :=
  (fX1_sendersTo v2 n_links n_firsts n_seconds n_truth).bind (fun y1 =>
  lX1_receive_9 v2 y1 f_sentFacts f_sentNews n_nodes n_links n_areas n_firsts n_seconds n_privates (0 : Int32) n_facts n_news)
noncomputable def uX1_countMessages_57 (v2 : Int32) (v3 : Int32) : Option ((Int32 × Int32) ⊕ (Int32)) :=
  nm (v3 + (1 : Int32)) (fun w3 =>
  some (.inl (v2, w3)))
noncomputable def sX1_countMessages_4 (f_sentNews : (Nat → Int64)) (n_links : Int32) (n_firsts : (Nat → Int32)) (n_seconds : (Nat → Int32)) (n_truth : (Nat → Int32)) (v2 : Int32) (v3 : Int32) : Option ((Int32 × Int32) ⊕ (Int32)) :=
  if n_links ≤ v3 then
  oi (some v2)
  else
  (fX3_isUp ((16 : Int32) + v3) n_truth).bind (fun y2 =>
  if y2 = 0 then
  uX1_countMessages_57 v2 v3
  else
  gd (vp_in v3 16) (
  gd (vp_in (n_firsts (v3).toNatClampNeg) 10) (
  (fJ13_bitCount_95d88 (f_sentNews (n_firsts (v3).toNatClampNeg).toNatClampNeg)).bind (fun y6 =>
  nm (v2 + y6) (fun w7 =>
  gd (vp_in v3 16) (
  gd (vp_in (n_seconds (v3).toNatClampNeg) 10) (
  (fJ13_bitCount_95d88 (f_sentNews (n_seconds (v3).toNatClampNeg).toNatClampNeg)).bind (fun y10 =>
  nm (w7 + y10) (fun w11 =>
  uX1_countMessages_57 w11 v3)))))))))
noncomputable abbrev lX1_countMessages_4 (f_sentNews : (Nat → Int64)) (n_links : Int32) (n_firsts : (Nat → Int32)) (n_seconds : (Nat → Int32)) (n_truth : (Nat → Int32)) (v2 : Int32) (v3 : Int32) : Option (Int32) :=
  wh (fun b : Int32 × Int32 => sX1_countMessages_4 f_sentNews n_links n_firsts n_seconds n_truth b.1 b.2) (v2, v3)
noncomputable def fX1_countMessages (f_sentNews : (Nat → Int64)) (n_links : Int32) (n_firsts : (Nat → Int32)) (n_seconds : (Nat → Int32)) (n_truth : (Nat → Int32)) : Option (Int32) :=
  lX1_countMessages_4 f_sentNews n_links n_firsts n_seconds n_truth (0 : Int32) (0 : Int32)
noncomputable def sX1_passRound_55 (f_sentFacts : (Nat → Int32)) (f_sentNews : (Nat → Int64)) (n_nodes : Int32) (n_links : Int32) (n_messages : Int32) (n_areas : (Nat → Int32)) (n_firsts : (Nat → Int32)) (n_seconds : (Nat → Int32)) (n_privates : (Nat → Int32)) (n_truth : (Nat → Int32)) (v2 : Int32) (n_facts : (Nat → Int32)) (n_news : (Nat → Int64)) : Option ((Int32 × (Nat → Int32) × (Nat → Int64)) ⊕ ((Nat → Int32) × (Nat → Int64) × Int32 × (Nat → Int32) × (Nat → Int64))) :=
  if n_nodes ≤ v2 then
  oi (some (f_sentFacts, f_sentNews, n_messages, n_facts, n_news))
  else
  (fX1_receive v2 f_sentFacts f_sentNews n_nodes n_links n_areas n_firsts n_seconds n_privates n_truth n_facts n_news).bind (fun y4 =>
  nm (v2 + (1 : Int32)) (fun w5 =>
  some (.inl (w5, y4.1, y4.2))))
noncomputable abbrev lX1_passRound_55 (f_sentFacts : (Nat → Int32)) (f_sentNews : (Nat → Int64)) (n_nodes : Int32) (n_links : Int32) (n_messages : Int32) (n_areas : (Nat → Int32)) (n_firsts : (Nat → Int32)) (n_seconds : (Nat → Int32)) (n_privates : (Nat → Int32)) (n_truth : (Nat → Int32)) (v2 : Int32) (n_facts : (Nat → Int32)) (n_news : (Nat → Int64)) : Option ((Nat → Int32) × (Nat → Int64) × Int32 × (Nat → Int32) × (Nat → Int64)) :=
  wh (fun b : Int32 × (Nat → Int32) × (Nat → Int64) => sX1_passRound_55 f_sentFacts f_sentNews n_nodes n_links n_messages n_areas n_firsts n_seconds n_privates n_truth b.1 b.2.1 b.2.2) (v2, n_facts, n_news)
noncomputable def fX1_passRound (f_sentFacts : (Nat → Int32)) (f_sentNews : (Nat → Int64)) (n_nodes : Int32) (n_links : Int32) (n_messages : Int32) (n_areas : (Nat → Int32)) (n_firsts : (Nat → Int32)) (n_seconds : (Nat → Int32)) (n_privates : (Nat → Int32)) (n_truth : (Nat → Int32)) (n_facts : (Nat → Int32)) (n_news : (Nat → Int64)) : Option ((Nat → Int32) × (Nat → Int64) × Int32 × (Nat → Int32) × (Nat → Int64)) :=
  (fJ7_fill_d0a16 (0 : Int64) n_news 10).bind (fun y1 =>
  (fX1_countMessages (va_cpy n_news f_sentNews 0 0 10) n_links n_firsts n_seconds n_truth).bind (fun y2 =>
  lX1_passRound_55 (va_cpy n_facts f_sentFacts 0 0 350) (va_cpy n_news f_sentNews 0 0 10) n_nodes n_links (n_messages + y2) n_areas n_firsts n_seconds n_privates n_truth (0 : Int32) n_facts y1))
noncomputable def sX1_passRounds_2 (v2 : Int32) (n_nodes : Int32) (n_links : Int32) (n_areas : (Nat → Int32)) (n_firsts : (Nat → Int32)) (n_seconds : (Nat → Int32)) (n_privates : (Nat → Int32)) (n_truth : (Nat → Int32)) (v3 : Int32) (f_sentFacts : (Nat → Int32)) (f_sentNews : (Nat → Int64)) (n_messages : Int32) (n_facts : (Nat → Int32)) (n_news : (Nat → Int64)) : Option ((Int32 × (Nat → Int32) × (Nat → Int64) × Int32 × (Nat → Int32) × (Nat → Int64)) ⊕ (Int32 × (Nat → Int32) × (Nat → Int64) × Int32 × (Nat → Int32) × (Nat → Int64))) :=
  if v2 ≤ v3 then
  oi (some (v3, f_sentFacts, f_sentNews, n_messages, n_facts, n_news))
  else
  (fX3_isQuiet n_nodes n_news).bind (fun y2 =>
  if y2 = 0 then
  (fX1_passRound f_sentFacts f_sentNews n_nodes n_links n_messages n_areas n_firsts n_seconds n_privates n_truth n_facts n_news).bind (fun y4 =>
  nm (v3 + (1 : Int32)) (fun w5 =>
  some (.inl (w5, y4.1, y4.2.1, y4.2.2.1, y4.2.2.2.1, y4.2.2.2.2))))
  else
  oi (some (v3, f_sentFacts, f_sentNews, n_messages, n_facts, n_news)))
noncomputable abbrev lX1_passRounds_2 (v2 : Int32) (n_nodes : Int32) (n_links : Int32) (n_areas : (Nat → Int32)) (n_firsts : (Nat → Int32)) (n_seconds : (Nat → Int32)) (n_privates : (Nat → Int32)) (n_truth : (Nat → Int32)) (v3 : Int32) (f_sentFacts : (Nat → Int32)) (f_sentNews : (Nat → Int64)) (n_messages : Int32) (n_facts : (Nat → Int32)) (n_news : (Nat → Int64)) : Option (Int32 × (Nat → Int32) × (Nat → Int64) × Int32 × (Nat → Int32) × (Nat → Int64)) :=
  wh (fun b : Int32 × (Nat → Int32) × (Nat → Int64) × Int32 × (Nat → Int32) × (Nat → Int64) => sX1_passRounds_2 v2 n_nodes n_links n_areas n_firsts n_seconds n_privates n_truth b.1 b.2.1 b.2.2.1 b.2.2.2.1 b.2.2.2.2.1 b.2.2.2.2.2) (v3, f_sentFacts, f_sentNews, n_messages, n_facts, n_news)
noncomputable def fX1_passRounds (v2 : Int32) (f_sentFacts : (Nat → Int32)) (f_sentNews : (Nat → Int64)) (n_nodes : Int32) (n_links : Int32) (n_messages : Int32) (n_areas : (Nat → Int32)) (n_firsts : (Nat → Int32)) (n_seconds : (Nat → Int32)) (n_privates : (Nat → Int32)) (n_truth : (Nat → Int32)) (n_facts : (Nat → Int32)) (n_news : (Nat → Int64)) : Option (Int32 × (Nat → Int32) × (Nat → Int64) × Int32 × (Nat → Int32) × (Nat → Int64)) :=
  lX1_passRounds_2 v2 n_nodes n_links n_areas n_firsts n_seconds n_privates n_truth (0 : Int32) f_sentFacts f_sentNews n_messages n_facts n_news
