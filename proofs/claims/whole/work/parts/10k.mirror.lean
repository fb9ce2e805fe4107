noncomputable def uX7_leads_113 (v5 : Int32) (v6 : Int32) (v7 : Int32) (k0 : Int32) (m_s : (Nat → Int32)) : Option (Int32) :=
  if k0 = 0 then
  some (0 : Int32)
  else
  (fX7_isEnd v5 v7 m_s).bind (fun y5 =>
  if y5 = 0 then
  some (0 : Int32)
  else
  (fX7_other v7 v5 m_s).bind (fun y6 =>
  if y6 = v6 then
  some (1 : Int32)
  else
  some (0 : Int32)))
noncomputable def uX7_leads_108 (v5 : Int32) (v6 : Int32) (v7 : Int32) (m_s : (Nat → Int32)) : Option (Int32) :=
  uX7_leads_113 v5 v6 v7 (1 : Int32) m_s
noncomputable def fX7_leads (v1 : Int32) (v2 : Int32) (v3 : Int32) (v4 : Int32) (v5 : Int32) (v6 : Int32) (m_s : (Nat → Int32)) : Option (Int32) :=
  (fX7_fact v1 v2 (0 : Int32) m_s).bind (fun y1 =>
  if y1 = 0 then
  some (0 : Int32)
  else
  (fX7_fact v1 v2 (1 : Int32) m_s).bind (fun y2 =>
  if y2 = 0 then
  some (0 : Int32)
  else
  if v2 < (32 : Int32) then
  nm (v2 - (16 : Int32)) (fun w3 =>
  (fX7_linkPart w3 (4 : Int32) m_s).bind (fun y4 =>
  if y4 = 0 then
  uX7_leads_108 v5 v6 w3 m_s
  else
  (fX7_owner w3 m_s).bind (fun y7 =>
  if y7 = v3 then
  uX7_leads_108 v5 v6 w3 m_s
  else
  (fX7_owner w3 m_s).bind (fun y8 =>
  (fX7_hasGrant v1 y8 v3 m_s).bind (fun y9 =>
  if y9 = 0 then
  uX7_leads_113 v5 v6 w3 (0 : Int32) m_s
  else
  uX7_leads_108 v5 v6 w3 m_s)))))
  else
  if v4 = 0 then
  some (0 : Int32)
  else
  (fX7_tunnelPart (v2 - (32 : Int32)) (0 : Int32) m_s).bind (fun y10 =>
  if y10 = v5 then
  (fX7_tunnelPart (v2 - (32 : Int32)) (1 : Int32) m_s).bind (fun y11 =>
  if y11 = v6 then
  some (1 : Int32)
  else
  some (0 : Int32))
  else
  some (0 : Int32))))
noncomputable def uX7_isBetter_30  : Option (Int32) :=
  some (1 : Int32)
noncomputable def fX7_isBetter (v1 : Int32) (v2 : Int32) (v3 : Int32) (m_sums : (Nat → Int32)) (m_steps : (Nat → Int32)) : Option (Int32) :=
  gd (vp_in v3 10) (
  if v1 < (m_sums (v3).toNatClampNeg) then
  uX7_isBetter_30 
  else
  gd (vp_in v3 10) (
  if v1 = (m_sums (v3).toNatClampNeg) then
  gd (vp_in v3 10) (
  if (m_steps (v3).toNatClampNeg) ≤ v2 then
  some (0 : Int32)
  else
  uX7_isBetter_30 )
  else
  some (0 : Int32)))
noncomputable def uX7_relax_46 (v1 : Int32) (v2 : Int32) (v3 : Int32) (v4 : Int32) (v5 : Int32) (k0 : Int32) (m_s : (Nat → Int32)) (m_sums : (Nat → Int32)) (m_steps : (Nat → Int32)) : Option ((Nat → Int32) × (Nat → Int32)) :=
  if k0 = v5 then
  some (m_sums, m_steps)
  else
  gd (vp_in k0 10) (
  if (1000000 : Int32) ≤ (m_sums (k0).toNatClampNeg) then
  some (m_sums, m_steps)
  else
  (fX7_leads v1 v2 v3 v4 v5 k0 m_s).bind (fun y3 =>
  if y3 = 0 then
  some (m_sums, m_steps)
  else
  gd (vp_in k0 10) (
  (fX7_fact v1 v2 (2 : Int32) m_s).bind (fun y5 =>
  nm ((m_sums (k0).toNatClampNeg) + y5) (fun w6 =>
  gd (vp_in k0 10) (
  (fX7_isBetter w6 ((m_steps (k0).toNatClampNeg) + (1 : Int32)) v5 m_sums m_steps).bind (fun y8 =>
  if y8 = 0 then
  some (m_sums, m_steps)
  else
  gd (vp_in v5 10) (
  gd (vp_in k0 10) (
  gd (vp_in v5 10) (
  some (upd m_sums (v5).toNatClampNeg w6, upd m_steps (v5).toNatClampNeg ((m_steps (k0).toNatClampNeg) + (1 : Int32)))))))))))))
noncomputable def fX7_relax (v1 : Int32) (v2 : Int32) (v3 : Int32) (v4 : Int32) (v5 : Int32) (m_s : (Nat → Int32)) (m_sums : (Nat → Int32)) (m_steps : (Nat → Int32)) : Option ((Nat → Int32) × (Nat → Int32)) :=
  if v2 < (32 : Int32) then
  (fX7_isEnd v5 (v2 - (16 : Int32)) m_s).bind (fun y1 =>
  if y1 = 0 then
  uX7_relax_46 v1 v2 v3 v4 v5 v5 m_s m_sums m_steps
  else
  (fX7_other (v2 - (16 : Int32)) v5 m_s).bind (fun y12 =>
  uX7_relax_46 v1 v2 v3 v4 v5 y12 m_s m_sums m_steps))
  else
  (fX7_tunnelPart (v2 - (32 : Int32)) (1 : Int32) m_s).bind (fun y13 =>
  uX7_relax_46 v1 v2 v3 v4 v5 y13 m_s m_sums m_steps)
noncomputable def uX7_find_115 (v5 : Int32) (m_sums : (Nat → Int32)) (m_steps : (Nat → Int32)) : Option ((Int32 × (Nat → Int32) × (Nat → Int32)) ⊕ ((Nat → Int32) × (Nat → Int32))) :=
  nm (v5 + (1 : Int32)) (fun w3 =>
  some (.inl (w3, m_sums, m_steps)))
noncomputable def uX7_find_109 (v6 : Int32) (m_sums : (Nat → Int32)) (m_steps : (Nat → Int32)) : Option ((Int32 × (Nat → Int32) × (Nat → Int32)) ⊕ ((Int32 × (Nat → Int32) × (Nat → Int32)) ⊕ ((Nat → Int32) × (Nat → Int32)))) :=
  nm (v6 + (1 : Int32)) (fun w6 =>
  some (.inl (w6, m_sums, m_steps)))
noncomputable def sX7_find_71 (v1 : Int32) (v3 : Int32) (v4 : Int32) (v6 : Int32) (m_s : (Nat → Int32)) (v7 : Int32) (m_sums : (Nat → Int32)) (m_steps : (Nat → Int32)) : Option ((Int32 × (Nat → Int32) × (Nat → Int32)) ⊕ ((Int32 × (Nat → Int32) × (Nat → Int32)) ⊕ ((Int32 × (Nat → Int32) × (Nat → Int32)) ⊕ ((Nat → Int32) × (Nat → Int32))))) :=
  gd (vp_in (0 : Int32) 1557) (
  if (m_s ((0 : Int32)).toNatClampNeg) ≤ v7 then
  oi (uX7_find_109 v6 m_sums m_steps)
  else
  (fX7_isItem v6 m_s).bind (fun y8 =>
  if y8 = 0 then
  oi (uX7_find_109 v6 m_sums m_steps)
  else
  (fX7_relax v1 v6 v3 v4 v7 m_s m_sums m_steps).bind (fun y10 =>
  nm (v7 + (1 : Int32)) (fun w11 =>
  some (.inl (w11, y10.1, y10.2))))))
noncomputable abbrev lX7_find_71 (v1 : Int32) (v3 : Int32) (v4 : Int32) (v6 : Int32) (m_s : (Nat → Int32)) (v7 : Int32) (m_sums : (Nat → Int32)) (m_steps : (Nat → Int32)) : Option ((Int32 × (Nat → Int32) × (Nat → Int32)) ⊕ ((Int32 × (Nat → Int32) × (Nat → Int32)) ⊕ ((Nat → Int32) × (Nat → Int32)))) :=
  wh (fun b : Int32 × (Nat → Int32) × (Nat → Int32) => sX7_find_71 v1 v3 v4 v6 m_s b.1 b.2.1 b.2.2) (v7, m_sums, m_steps)
noncomputable def sX7_find_61 (v1 : Int32) (v3 : Int32) (v4 : Int32) (v5 : Int32) (m_s : (Nat → Int32)) (v6 : Int32) (m_sums : (Nat → Int32)) (m_steps : (Nat → Int32)) : Option ((Int32 × (Nat → Int32) × (Nat → Int32)) ⊕ ((Int32 × (Nat → Int32) × (Nat → Int32)) ⊕ ((Nat → Int32) × (Nat → Int32)))) :=
  if (35 : Int32) ≤ v6 then
  oi (uX7_find_115 v5 m_sums m_steps)
  else
  lX7_find_71 v1 v3 v4 v6 m_s (0 : Int32) m_sums m_steps
noncomputable abbrev lX7_find_61 (v1 : Int32) (v3 : Int32) (v4 : Int32) (v5 : Int32) (m_s : (Nat → Int32)) (v6 : Int32) (m_sums : (Nat → Int32)) (m_steps : (Nat → Int32)) : Option ((Int32 × (Nat → Int32) × (Nat → Int32)) ⊕ ((Nat → Int32) × (Nat → Int32))) :=
  wh (fun b : Int32 × (Nat → Int32) × (Nat → Int32) => sX7_find_61 v1 v3 v4 v5 m_s b.1 b.2.1 b.2.2) (v6, m_sums, m_steps)
noncomputable def sX7_find_46 (v1 : Int32) (v3 : Int32) (v4 : Int32) (m_s : (Nat → Int32)) (v5 : Int32) (m_sums : (Nat → Int32)) (m_steps : (Nat → Int32)) : Option ((Int32 × (Nat → Int32) × (Nat → Int32)) ⊕ ((Nat → Int32) × (Nat → Int32))) :=
  gd (vp_in (0 : Int32) 1557) (
  if (m_s ((0 : Int32)).toNatClampNeg) ≤ v5 then
  oi (some (m_sums, m_steps))
  else
  lX7_find_61 v1 v3 v4 v5 m_s (16 : Int32) m_sums m_steps)
noncomputable abbrev lX7_find_46 (v1 : Int32) (v3 : Int32) (v4 : Int32) (m_s : (Nat → Int32)) (v5 : Int32) (m_sums : (Nat → Int32)) (m_steps : (Nat → Int32)) : Option ((Nat → Int32) × (Nat → Int32)) :=
  wh (fun b : Int32 × (Nat → Int32) × (Nat → Int32) => sX7_find_46 v1 v3 v4 m_s b.1 b.2.1 b.2.2) (v5, m_sums, m_steps)
noncomputable def uX7_find_43 (v1 : Int32) (v3 : Int32) (v4 : Int32) (m_s : (Nat → Int32)) (m_sums : (Nat → Int32)) (m_steps : (Nat → Int32)) : Option ((Nat → Int32) × (Nat → Int32)) :=
  lX7_find_46 v1 v3 v4 m_s (0 : Int32) m_sums m_steps
noncomputable def uX7_find_28 (v5 : Int32) (k1 : Int32) (k2 : Int32) (m_sums : (Nat → Int32)) (m_steps : (Nat → Int32)) : Option ((Int32 × (Nat → Int32) × (Nat → Int32)) ⊕ ((Nat → Int32) × (Nat → Int32))) :=
  gd (vp_in k1 10) (
  gd (vp_in v5 10) (
  nm (v5 + (1 : Int32)) (fun w18 =>
  some (.inl (w18, upd m_sums (k1).toNatClampNeg k2, upd m_steps (v5).toNatClampNeg (0 : Int32))))))
noncomputable def sX7_find_3 (v1 : Int32) (v2 : Int32) (v3 : Int32) (v4 : Int32) (m_s : (Nat → Int32)) (v5 : Int32) (m_sums : (Nat → Int32)) (m_steps : (Nat → Int32)) : Option ((Int32 × (Nat → Int32) × (Nat → Int32)) ⊕ ((Nat → Int32) × (Nat → Int32))) :=
  if (10 : Int32) ≤ v5 then
  oi (uX7_find_43 v1 v3 v4 m_s m_sums m_steps)
  else
  if v5 = v2 then
  uX7_find_28 v5 v5 (0 : Int32) m_sums m_steps
  else
  uX7_find_28 v5 v5 (1000000 : Int32) m_sums m_steps
noncomputable abbrev lX7_find_3 (v1 : Int32) (v2 : Int32) (v3 : Int32) (v4 : Int32) (m_s : (Nat → Int32)) (v5 : Int32) (m_sums : (Nat → Int32)) (m_steps : (Nat → Int32)) : Option ((Nat → Int32) × (Nat → Int32)) :=
  wh (fun b : Int32 × (Nat → Int32) × (Nat → Int32) => sX7_find_3 v1 v2 v3 v4 m_s b.1 b.2.1 b.2.2) (v5, m_sums, m_steps)
noncomputable def fX7_find (v1 : Int32) (v2 : Int32) (v3 : Int32) (v4 : Int32) (m_s : (Nat → Int32)) (m_sums : (Nat → Int32)) (m_steps : (Nat → Int32)) : Option ((Nat → Int32) × (Nat → Int32)) :=
  lX7_find_3 v1 v2 v3 v4 m_s (0 : Int32) m_sums m_steps
noncomputable def uX7_choose_152 (v5 : Int32) : Option ((Int32) ⊕ (Int32 × Int32)) :=
  nm (v5 + (1 : Int32)) (fun w4 =>
  some (.inl w4))
noncomputable def uX7_choose_146 (v6 : Int32) : Option ((Int32) ⊕ ((Int32) ⊕ (Int32 × Int32))) :=
  nm (v6 + (1 : Int32)) (fun w6 =>
  some (.inl w6))
noncomputable def uX7_choose_137 (v5 : Int32) (v6 : Int32) : Option (Int32 × Int32) :=
  some (v6, v5)
noncomputable def uX7_choose_75 (v1 : Int32) (v2 : Int32) (v5 : Int32) (v6 : Int32) (k0 : Int32) (m_s : (Nat → Int32)) (m_sums : (Nat → Int32)) (m_steps : (Nat → Int32)) : Option ((Int32) ⊕ ((Int32) ⊕ (Int32 × Int32))) :=
  if k0 = 0 then
  uX7_choose_146 v6
  else
  gd (vp_in v5 10) (
  if (1000000 : Int32) ≤ (m_sums (v5).toNatClampNeg) then
  uX7_choose_146 v6
  else
  gd (vp_in v5 10) (
  (fX7_fact v1 v6 (2 : Int32) m_s).bind (fun y9 =>
  gd (vp_in v2 10) (
  if ((m_sums (v5).toNatClampNeg) + y9) = (m_sums (v2).toNatClampNeg) then
  gd (vp_in v5 10) (
  gd (vp_in v2 10) (
  if ((m_steps (v5).toNatClampNeg) + (1 : Int32)) = (m_steps (v2).toNatClampNeg) then
  oi (oi (uX7_choose_137 v5 v6))
  else
  uX7_choose_146 v6))
  else
  uX7_choose_146 v6))))
noncomputable def uX7_choose_74 (v1 : Int32) (v2 : Int32) (v5 : Int32) (v6 : Int32) (m_s : (Nat → Int32)) (m_sums : (Nat → Int32)) (m_steps : (Nat → Int32)) : Option ((Int32) ⊕ ((Int32) ⊕ (Int32 × Int32))) :=
  uX7_choose_75 v1 v2 v5 v6 (0 : Int32) m_s m_sums m_steps
noncomputable def sX7_choose_32 (v1 : Int32) (v2 : Int32) (v3 : Int32) (v4 : Int32) (v5 : Int32) (m_s : (Nat → Int32)) (m_sums : (Nat → Int32)) (m_steps : (Nat → Int32)) (v6 : Int32) : Option ((Int32) ⊕ ((Int32) ⊕ (Int32 × Int32))) :=
  if (35 : Int32) ≤ v6 then
  oi (uX7_choose_152 v5)
  else
  if v5 = v2 then
  uX7_choose_74 v1 v2 v5 v6 m_s m_sums m_steps
  else
  (fX7_isItem v6 m_s).bind (fun y15 =>
  if y15 = 0 then
  uX7_choose_74 v1 v2 v5 v6 m_s m_sums m_steps
  else
  (fX7_leads v1 v6 v3 v4 v2 v5 m_s).bind (fun y16 =>
  if y16 = 0 then
  uX7_choose_74 v1 v2 v5 v6 m_s m_sums m_steps
  else
  uX7_choose_75 v1 v2 v5 v6 (1 : Int32) m_s m_sums m_steps))
noncomputable abbrev lX7_choose_32 (v1 : Int32) (v2 : Int32) (v3 : Int32) (v4 : Int32) (v5 : Int32) (m_s : (Nat → Int32)) (m_sums : (Nat → Int32)) (m_steps : (Nat → Int32)) (v6 : Int32) : Option ((Int32) ⊕ (Int32 × Int32)) :=
  wh (fun b : Int32 => sX7_choose_32 v1 v2 v3 v4 v5 m_s m_sums m_steps b) v6
noncomputable def sX7_choose_17 (v1 : Int32) (v2 : Int32) (v3 : Int32) (v4 : Int32) (m_s : (Nat → Int32)) (m_sums : (Nat → Int32)) (m_steps : (Nat → Int32)) (m_chosen : Int32) (v5 : Int32) : Option ((Int32) ⊕ (Int32 × Int32)) :=
  gd (vp_in (0 : Int32) 1557) (
  if (m_s ((0 : Int32)).toNatClampNeg) ≤ v5 then
  oi (some ((-9 : Int32), m_chosen))
  else
  lX7_choose_32 v1 v2 v3 v4 v5 m_s m_sums m_steps (16 : Int32))
noncomputable abbrev lX7_choose_17 (v1 : Int32) (v2 : Int32) (v3 : Int32) (v4 : Int32) (m_s : (Nat → Int32)) (m_sums : (Nat → Int32)) (m_steps : (Nat → Int32)) (m_chosen : Int32) (v5 : Int32) : Option (Int32 × Int32) :=
  wh (fun b : Int32 => sX7_choose_17 v1 v2 v3 v4 m_s m_sums m_steps m_chosen b) v5
noncomputable def fX7_choose (v1 : Int32) (v2 : Int32) (v3 : Int32) (v4 : Int32) (m_s : (Nat → Int32)) (m_sums : (Nat → Int32)) (m_steps : (Nat → Int32)) (m_chosen : Int32) : Option (Int32 × Int32) :=
  gd (vp_in v2 10) (
  if (m_sums (v2).toNatClampNeg) < (1000000 : Int32) then
  lX7_choose_17 v1 v2 v3 v4 m_s m_sums m_steps m_chosen (0 : Int32)
  else
  some ((-9 : Int32), m_chosen))
noncomputable def fX7_distance (v1 : Int32) (v2 : Int32) (v3 : Int32) (m_s : (Nat → Int32)) (m_sums : (Nat → Int32)) (m_steps : (Nat → Int32)) : Option (Int32 × Int32 × (Nat → Int32) × (Nat → Int32)) :=
  (fX7_isNode v1 m_s).bind (fun y1 =>
  if y1 = 0 then
  some ((-1 : Int32), (0 : Int32), m_sums, m_steps)
  else
  (fX7_isNode v2 m_s).bind (fun y2 =>
  if y2 = 0 then
  some ((-1 : Int32), (0 : Int32), m_sums, m_steps)
  else
  (fX7_isArea v3).bind (fun y3 =>
  if y3 = 0 then
  some ((-1 : Int32), (0 : Int32), m_sums, m_steps)
  else
  (fX7_find v1 v2 v3 (1 : Int32) m_s m_sums m_steps).bind (fun y4 =>
  gd (vp_in v1 10) (
  if (1000000 : Int32) ≤ (y4.1 (v1).toNatClampNeg) then
  some ((-9 : Int32), (0 : Int32), y4.1, y4.2)
  else
  gd (vp_in v1 10) (
  some (y4.1 (v1).toNatClampNeg, (0 : Int32), y4.1, y4.2)))))))
noncomputable def fX7_next (v1 : Int32) (v2 : Int32) (v3 : Int32) (v4 : Int32) (m_s : (Nat → Int32)) (m_sums : (Nat → Int32)) (m_steps : (Nat → Int32)) (m_chosen : Int32) : Option (Int32 × Int32 × (Nat → Int32) × (Nat → Int32) × Int32) :=
  (fX7_areNodes v1 v2 m_s).bind (fun y1 =>
  if y1 = 0 then
  some ((-1 : Int32), (0 : Int32), m_sums, m_steps, m_chosen)
  else
  (fX7_isArea v3).bind (fun y2 =>
  if y2 = 0 then
  some ((-1 : Int32), (0 : Int32), m_sums, m_steps, m_chosen)
  else
  (fX7_in v4 (0 : Int32) (1 : Int32)).bind (fun y3 =>
  if y3 = 0 then
  some ((-1 : Int32), (0 : Int32), m_sums, m_steps, m_chosen)
  else
  (fX7_find v1 v2 v3 (1 : Int32) m_s m_sums m_steps).bind (fun y4 =>
  (fX7_choose v1 v1 v3 (1 : Int32) m_s y4.1 y4.2 m_chosen).bind (fun y5 =>
  if y5.1 = (-9 : Int32) then
  some ((-9 : Int32), (0 : Int32), y4.1, y4.2, y5.2)
  else
  if v4 = 0 then
  some (y5.2, (0 : Int32), y4.1, y4.2, y5.2)
  else
  some (y5.1, (0 : Int32), y4.1, y4.2, y5.2))))))
noncomputable def uX7_refusal_45 (v1 : Int32) (v2 : Int32) (v3 : Int32) (k0 : Int32) (m_s : (Nat → Int32)) (m_passedMany : Int32) : Option (Int32) :=
  if k0 = 0 then
  some (2 : Int32)
  else
  if v3 = 0 then
  (fX7_isEntitled v2 (v1 - (16 : Int32)) m_s).bind (fun y2 =>
  if y2 = 0 then
  some (3 : Int32)
  else
  if m_passedMany = (20 : Int32) then
  some (4 : Int32)
  else
  some (0 : Int32))
  else
  some (0 : Int32)
noncomputable def uX7_refusal_19 (v1 : Int32) (v2 : Int32) (k0 : Int32) (m_s : (Nat → Int32)) (m_passedMany : Int32) : Option (Int32) :=
  if k0 = 0 then
  (fX7_linkPart (v1 - (16 : Int32)) (3 : Int32) m_s).bind (fun y1 =>
  uX7_refusal_45 v1 v2 k0 y1 m_s m_passedMany)
  else
  (fX7_tunnelPart (v1 - (32 : Int32)) (3 : Int32) m_s).bind (fun y3 =>
  uX7_refusal_45 v1 v2 k0 y3 m_s m_passedMany)
noncomputable def fX7_refusal (v1 : Int32) (v2 : Int32) (m_s : (Nat → Int32)) (m_passedMany : Int32) : Option (Int32) :=
  if v1 = (-9 : Int32) then
  some (1 : Int32)
  else
  if v1 < (32 : Int32) then
  uX7_refusal_19 v1 v2 (0 : Int32) m_s m_passedMany
  else
  uX7_refusal_19 v1 v2 (1 : Int32) m_s m_passedMany
noncomputable def uX7_carry_232 (v3 : Int32) (k0 : Int32) (m_sums : (Nat → Int32)) (m_steps : (Nat → Int32)) (m_chosen : Int32) (m_passed : (Nat → Int32)) (m_passedMany : Int32) (m_passedCost : Int32) : Option ((Int32 × Int32 × (Nat → Int32) × (Nat → Int32) × Int32 × (Nat → Int32) × Int32 × Int32) ⊕ (Int32 × (Nat → Int32) × (Nat → Int32) × Int32 × (Nat → Int32) × Int32 × Int32)) :=
  some (.inl (v3, k0, m_sums, m_steps, m_chosen, m_passed, m_passedMany, m_passedCost))
noncomputable def uX7_carry_230 (v3 : Int32) (v4 : Int32) (m_sums : (Nat → Int32)) (m_steps : (Nat → Int32)) (m_chosen : Int32) (m_passed : (Nat → Int32)) (m_passedMany : Int32) (m_passedCost : Int32) : Option ((Int32 × Int32 × (Nat → Int32) × (Nat → Int32) × Int32 × (Nat → Int32) × Int32 × Int32) ⊕ (Int32 × (Nat → Int32) × (Nat → Int32) × Int32 × (Nat → Int32) × Int32 × Int32)) :=
  uX7_carry_232 v3 v4 m_sums m_steps m_chosen m_passed m_passedMany m_passedCost
noncomputable def uX7_carry_207 (v3 : Int32) (v4 : Int32) (m_s : (Nat → Int32)) (m_sums : (Nat → Int32)) (m_steps : (Nat → Int32)) (m_chosen : Int32) (m_passed : (Nat → Int32)) (m_passedMany : Int32) (m_passedCost : Int32) : Option ((Int32 × Int32 × (Nat → Int32) × (Nat → Int32) × Int32 × (Nat → Int32) × Int32 × Int32) ⊕ (Int32 × (Nat → Int32) × (Nat → Int32) × Int32 × (Nat → Int32) × Int32 × Int32)) :=
  if v4 = (-9 : Int32) then
  uX7_carry_230 v3 v4 m_sums m_steps m_chosen m_passed m_passedMany m_passedCost
  else
  (fX7_tunnelPart v4 (1 : Int32) m_s).bind (fun y11 =>
  if v3 = y11 then
  uX7_carry_232 v3 (-9 : Int32) m_sums m_steps m_chosen m_passed m_passedMany m_passedCost
  else
  uX7_carry_230 v3 v4 m_sums m_steps m_chosen m_passed m_passedMany m_passedCost)
noncomputable def uX7_carry_117 (v3 : Int32) (v4 : Int32) (v6 : Int32) (k1 : Int32) (k2 : Int32) (k3 : Int32) (k4 : Int32) (m_s : (Nat → Int32)) (m_sums : (Nat → Int32)) (m_steps : (Nat → Int32)) (m_chosen : Int32) (m_passed : (Nat → Int32)) (m_passedMany : Int32) (m_passedCost : Int32) : Option ((Int32 × Int32 × (Nat → Int32) × (Nat → Int32) × Int32 × (Nat → Int32) × Int32 × Int32) ⊕ (Int32 × (Nat → Int32) × (Nat → Int32) × Int32 × (Nat → Int32) × Int32 × Int32)) :=
  (fX7_choose k1 k2 k3 k4 m_s m_sums m_steps m_chosen).bind (fun y6 =>
  (fX7_refusal y6.1 v6 m_s m_passedMany).bind (fun y7 =>
  if y7 ≤ 0 then
  if y6.1 < (32 : Int32) then
  (fX7_other (y6.1 - (16 : Int32)) v3 m_s).bind (fun y8 =>
  gd (vp_in (m_passedMany + (1 : Int32)) 21) (
  (fX7_linkPart (y6.1 - (16 : Int32)) (2 : Int32) m_s).bind (fun y10 =>
  uX7_carry_207 y8 v4 m_s m_sums m_steps y6.2 (upd m_passed (m_passedMany + (1 : Int32)).toNatClampNeg y8) (m_passedMany + (1 : Int32)) (m_passedCost + y10))))
  else
  nm (y6.1 - (32 : Int32)) (fun w12 =>
  uX7_carry_207 v3 w12 m_s m_sums m_steps y6.2 m_passed m_passedMany m_passedCost)
  else
  oi (some (y7, m_sums, m_steps, y6.2, m_passed, m_passedMany, m_passedCost))))
noncomputable def uX7_carry_97 (v3 : Int32) (v4 : Int32) (v6 : Int32) (k1 : Int32) (k2 : Int32) (k3 : Int32) (k4 : Int32) (m_s : (Nat → Int32)) (m_sums : (Nat → Int32)) (m_steps : (Nat → Int32)) (m_chosen : Int32) (m_passed : (Nat → Int32)) (m_passedMany : Int32) (m_passedCost : Int32) : Option ((Int32 × Int32 × (Nat → Int32) × (Nat → Int32) × Int32 × (Nat → Int32) × Int32 × Int32) ⊕ (Int32 × (Nat → Int32) × (Nat → Int32) × Int32 × (Nat → Int32) × Int32 × Int32)) :=
  (fX7_find k1 k2 k3 k4 m_s m_sums m_steps).bind (fun y5 =>
  if v4 = (-9 : Int32) then
  uX7_carry_117 v3 v4 v6 v3 v3 v6 (1 : Int32) m_s y5.1 y5.2 m_chosen m_passed m_passedMany m_passedCost
  else
  uX7_carry_117 v3 v4 v6 v3 v3 v6 (0 : Int32) m_s y5.1 y5.2 m_chosen m_passed m_passedMany m_passedCost)
noncomputable def uX7_carry_74 (v3 : Int32) (v4 : Int32) (v5 : Int32) (k1 : Int32) (m_s : (Nat → Int32)) (m_sums : (Nat → Int32)) (m_steps : (Nat → Int32)) (m_chosen : Int32) (m_passed : (Nat → Int32)) (m_passedMany : Int32) (m_passedCost : Int32) : Option ((Int32 × Int32 × (Nat → Int32) × (Nat → Int32) × Int32 × (Nat → Int32) × Int32 × Int32) ⊕ (Int32 × (Nat → Int32) × (Nat → Int32) × Int32 × (Nat → Int32) × Int32 × Int32)) :=
  (fX7_area k1 m_s).bind (fun y4 =>
  if v4 = (-9 : Int32) then
  uX7_carry_97 v3 v4 y4 v3 v5 y4 (1 : Int32) m_s m_sums m_steps m_chosen m_passed m_passedMany m_passedCost
  else
  uX7_carry_97 v3 v4 y4 v3 v5 y4 (0 : Int32) m_s m_sums m_steps m_chosen m_passed m_passedMany m_passedCost)
noncomputable def uX7_carry_53 (v1 : Int32) (v3 : Int32) (v4 : Int32) (k0 : Int32) (m_s : (Nat → Int32)) (m_sums : (Nat → Int32)) (m_steps : (Nat → Int32)) (m_chosen : Int32) (m_passed : (Nat → Int32)) (m_passedMany : Int32) (m_passedCost : Int32) : Option ((Int32 × Int32 × (Nat → Int32) × (Nat → Int32) × Int32 × (Nat → Int32) × Int32 × Int32) ⊕ (Int32 × (Nat → Int32) × (Nat → Int32) × Int32 × (Nat → Int32) × Int32 × Int32)) :=
  if v4 = (-9 : Int32) then
  uX7_carry_74 v3 v4 k0 v1 m_s m_sums m_steps m_chosen m_passed m_passedMany m_passedCost
  else
  (fX7_tunnelPart v4 (0 : Int32) m_s).bind (fun y3 =>
  uX7_carry_74 v3 v4 k0 y3 m_s m_sums m_steps m_chosen m_passed m_passedMany m_passedCost)
noncomputable def uX7_carry_35 (v1 : Int32) (v2 : Int32) (v3 : Int32) (v4 : Int32) (m_s : (Nat → Int32)) (m_sums : (Nat → Int32)) (m_steps : (Nat → Int32)) (m_chosen : Int32) (m_passed : (Nat → Int32)) (m_passedMany : Int32) (m_passedCost : Int32) : Option ((Int32 × Int32 × (Nat → Int32) × (Nat → Int32) × Int32 × (Nat → Int32) × Int32 × Int32) ⊕ (Int32 × (Nat → Int32) × (Nat → Int32) × Int32 × (Nat → Int32) × Int32 × Int32)) :=
  if v4 = (-9 : Int32) then
  uX7_carry_53 v1 v3 v4 v2 m_s m_sums m_steps m_chosen m_passed m_passedMany m_passedCost
  else
  (fX7_tunnelPart v4 (1 : Int32) m_s).bind (fun y2 =>
  uX7_carry_53 v1 v3 v4 y2 m_s m_sums m_steps m_chosen m_passed m_passedMany m_passedCost)
noncomputable def sX7_carry_23 (v1 : Int32) (v2 : Int32) (m_s : (Nat → Int32)) (v3 : Int32) (v4 : Int32) (m_sums : (Nat → Int32)) (m_steps : (Nat → Int32)) (m_chosen : Int32) (m_passed : (Nat → Int32)) (m_passedMany : Int32) (m_passedCost : Int32) : Option ((Int32 × Int32 × (Nat → Int32) × (Nat → Int32) × Int32 × (Nat → Int32) × Int32 × Int32) ⊕ (Int32 × (Nat → Int32) × (Nat → Int32) × Int32 × (Nat → Int32) × Int32 × Int32)) :=
  if v3 = v2 then
  if v4 = (-9 : Int32) then
  oi (some ((0 : Int32), m_sums, m_steps, m_chosen, m_passed, m_passedMany, m_passedCost))
  else
  uX7_carry_35 v1 v2 v3 v4 m_s m_sums m_steps m_chosen m_passed m_passedMany m_passedCost
  else
  uX7_carry_35 v1 v2 v3 v4 m_s m_sums m_steps m_chosen m_passed m_passedMany m_passedCost
noncomputable abbrev lX7_carry_23 (v1 : Int32) (v2 : Int32) (m_s : (Nat → Int32)) (v3 : Int32) (v4 : Int32) (m_sums : (Nat → Int32)) (m_steps : (Nat → Int32)) (m_chosen : Int32) (m_passed : (Nat → Int32)) (m_passedMany : Int32) (m_passedCost : Int32) : Option (Int32 × (Nat → Int32) × (Nat → Int32) × Int32 × (Nat → Int32) × Int32 × Int32) :=
  wh (fun b : Int32 × Int32 × (Nat → Int32) × (Nat → Int32) × Int32 × (Nat → Int32) × Int32 × Int32 => sX7_carry_23 v1 v2 m_s b.1 b.2.1 b.2.2.1 b.2.2.2.1 b.2.2.2.2.1 b.2.2.2.2.2.1 b.2.2.2.2.2.2.1 b.2.2.2.2.2.2.2) (v3, v4, m_sums, m_steps, m_chosen, m_passed, m_passedMany, m_passedCost)
noncomputable def fX7_carry (v1 : Int32) (v2 : Int32) (m_s : (Nat → Int32)) (m_sums : (Nat → Int32)) (m_steps : (Nat → Int32)) (m_chosen : Int32) (m_passed : (Nat → Int32)) : Option (Int32 × (Nat → Int32) × (Nat → Int32) × Int32 × (Nat → Int32) × Int32 × Int32) :=
  gd (vp_in (0 : Int32) 21) (
  lX7_carry_23 v1 v2 m_s v1 (-9 : Int32) m_sums m_steps m_chosen (upd m_passed ((0 : Int32)).toNatClampNeg v1) (0 : Int32) (0 : Int32))
noncomputable def uX7_send_55 (v3 : Int32) (m_thrown : Int32) (m_way : (Nat → Int32)) (m_sums : (Nat → Int32)) (m_steps : (Nat → Int32)) (m_chosen : Int32) (m_passed : (Nat → Int32)) (m_passedMany : Int32) (m_passedCost : Int32) : Option (Int32 × Int32 × (Nat → Int32) × Int32 × Int32 × Int32 × (Nat → Int32) × (Nat → Int32) × Int32 × (Nat → Int32) × Int32 × Int32) :=
  some (v3, m_thrown, m_way, m_passedMany, m_passedCost, (1 : Int32), m_sums, m_steps, m_chosen, m_passed, m_passedMany, m_passedCost)
noncomputable def sX7_send_26 (v3 : Int32) (m_thrown : Int32) (m_sums : (Nat → Int32)) (m_steps : (Nat → Int32)) (m_chosen : Int32) (m_passed : (Nat → Int32)) (m_passedMany : Int32) (m_passedCost : Int32) (v4 : Int32) (m_way : (Nat → Int32)) : Option ((Int32 × (Nat → Int32)) ⊕ (Int32 × Int32 × (Nat → Int32) × Int32 × Int32 × Int32 × (Nat → Int32) × (Nat → Int32) × Int32 × (Nat → Int32) × Int32 × Int32)) :=
  if m_passedMany < v4 then
  oi (uX7_send_55 v3 m_thrown m_way m_sums m_steps m_chosen m_passed m_passedMany m_passedCost)
  else
  gd (vp_in v4 21) (
  gd (vp_in v4 21) (
  nm (v4 + (1 : Int32)) (fun w6 =>
  some (.inl (w6, upd m_way (v4).toNatClampNeg (m_passed (v4).toNatClampNeg))))))
noncomputable abbrev lX7_send_26 (v3 : Int32) (m_thrown : Int32) (m_sums : (Nat → Int32)) (m_steps : (Nat → Int32)) (m_chosen : Int32) (m_passed : (Nat → Int32)) (m_passedMany : Int32) (m_passedCost : Int32) (v4 : Int32) (m_way : (Nat → Int32)) : Option (Int32 × Int32 × (Nat → Int32) × Int32 × Int32 × Int32 × (Nat → Int32) × (Nat → Int32) × Int32 × (Nat → Int32) × Int32 × Int32) :=
  wh (fun b : Int32 × (Nat → Int32) => sX7_send_26 v3 m_thrown m_sums m_steps m_chosen m_passed m_passedMany m_passedCost b.1 b.2) (v4, m_way)
noncomputable def fX7_send (v1 : Int32) (v2 : Int32) (m_s : (Nat → Int32)) (m_way : (Nat → Int32)) (m_crossed : Int32) (m_wayCost : Int32) (m_isWay : Int32) (m_sums : (Nat → Int32)) (m_steps : (Nat → Int32)) (m_chosen : Int32) (m_passed : (Nat → Int32)) (m_passedMany : Int32) (m_passedCost : Int32) : Option (Int32 × Int32 × (Nat → Int32) × Int32 × Int32 × Int32 × (Nat → Int32) × (Nat → Int32) × Int32 × (Nat → Int32) × Int32 × Int32) :=
  (fX7_areNodes v1 v2 m_s).bind (fun y1 =>
  if y1 = 0 then
  some ((-1 : Int32), (0 : Int32), m_way, m_crossed, m_wayCost, m_isWay, m_sums, m_steps, m_chosen, m_passed, m_passedMany, m_passedCost)
  else
  (fX7_carry v1 v2 m_s m_sums m_steps m_chosen m_passed).bind (fun y2 =>
  lX7_send_26 y2.1 (0 : Int32) y2.2.1 y2.2.2.1 y2.2.2.2.1 y2.2.2.2.2.1 y2.2.2.2.2.2.1 y2.2.2.2.2.2.2 (0 : Int32) m_way))
noncomputable def fX7_way (v1 : Int32) (m_way : (Nat → Int32)) (m_crossed : Int32) (m_wayCost : Int32) (m_isWay : Int32) : Option (Int32 × Int32) :=
  if (-2 : Int32) ≤ v1 then
  if m_isWay = 0 then
  some ((-2 : Int32), (0 : Int32))
  else
  if v1 = (-1 : Int32) then
  some (m_crossed, (0 : Int32))
  else
  if v1 = (-2 : Int32) then
  some (m_wayCost, (0 : Int32))
  else
  if m_crossed < v1 then
  some ((-9 : Int32), (0 : Int32))
  else
  gd (vp_in v1 21) (
  some (m_way (v1).toNatClampNeg, (0 : Int32)))
  else
  some ((-1 : Int32), (0 : Int32))
noncomputable def uX7_outcomes_75 (v2 : Int32) (v3 : Int32) (m_sums : (Nat → Int32)) (m_steps : (Nat → Int32)) (m_chosen : Int32) (m_passed : (Nat → Int32)) (m_passedMany : Int32) (m_passedCost : Int32) : Option ((Int32 × Int32 × (Nat → Int32) × (Nat → Int32) × Int32 × (Nat → Int32) × Int32 × Int32) ⊕ (Int32 × Int32 × (Nat → Int32) × (Nat → Int32) × Int32 × (Nat → Int32) × Int32 × Int32)) :=
  nm (v3 + (1 : Int32)) (fun w5 =>
  some (.inl (v2, w5, m_sums, m_steps, m_chosen, m_passed, m_passedMany, m_passedCost)))
noncomputable def uX7_outcomes_67 (v4 : Int32) (k0 : Int32) (k1 : Int32) (m_sums : (Nat → Int32)) (m_steps : (Nat → Int32)) (m_chosen : Int32) (m_passed : (Nat → Int32)) (m_passedMany : Int32) (m_passedCost : Int32) : Option ((Int32 × Int32 × (Nat → Int32) × (Nat → Int32) × Int32 × (Nat → Int32) × Int32 × Int32) ⊕ ((Int32 × Int32 × (Nat → Int32) × (Nat → Int32) × Int32 × (Nat → Int32) × Int32 × Int32) ⊕ (Int32 × Int32 × (Nat → Int32) × (Nat → Int32) × Int32 × (Nat → Int32) × Int32 × Int32))) :=
  nm (k0 + k1) (fun w7 =>
  nm (v4 + (1 : Int32)) (fun w8 =>
  some (.inl (w7, w8, m_sums, m_steps, m_chosen, m_passed, m_passedMany, m_passedCost))))
noncomputable def uX7_outcomes_66 (v4 : Int32) (k0 : Int32) (m_sums : (Nat → Int32)) (m_steps : (Nat → Int32)) (m_chosen : Int32) (m_passed : (Nat → Int32)) (m_passedMany : Int32) (m_passedCost : Int32) : Option ((Int32 × Int32 × (Nat → Int32) × (Nat → Int32) × Int32 × (Nat → Int32) × Int32 × Int32) ⊕ ((Int32 × Int32 × (Nat → Int32) × (Nat → Int32) × Int32 × (Nat → Int32) × Int32 × Int32) ⊕ (Int32 × Int32 × (Nat → Int32) × (Nat → Int32) × Int32 × (Nat → Int32) × Int32 × Int32))) :=
  uX7_outcomes_67 v4 k0 (0 : Int32) m_sums m_steps m_chosen m_passed m_passedMany m_passedCost
noncomputable def sX7_outcomes_33 (v1 : Int32) (v3 : Int32) (m_s : (Nat → Int32)) (v2 : Int32) (v4 : Int32) (m_sums : (Nat → Int32)) (m_steps : (Nat → Int32)) (m_chosen : Int32) (m_passed : (Nat → Int32)) (m_passedMany : Int32) (m_passedCost : Int32) : Option ((Int32 × Int32 × (Nat → Int32) × (Nat → Int32) × Int32 × (Nat → Int32) × Int32 × Int32) ⊕ ((Int32 × Int32 × (Nat → Int32) × (Nat → Int32) × Int32 × (Nat → Int32) × Int32 × Int32) ⊕ (Int32 × Int32 × (Nat → Int32) × (Nat → Int32) × Int32 × (Nat → Int32) × Int32 × Int32))) :=
  gd (vp_in (0 : Int32) 1557) (
  if (m_s ((0 : Int32)).toNatClampNeg) ≤ v4 then
  oi (uX7_outcomes_75 v2 v3 m_sums m_steps m_chosen m_passed m_passedMany m_passedCost)
  else
  if v3 = v4 then
  uX7_outcomes_66 v4 v2 m_sums m_steps m_chosen m_passed m_passedMany m_passedCost
  else
  (fX7_carry v3 v4 m_s m_sums m_steps m_chosen m_passed).bind (fun y9 =>
  if y9.1 = v1 then
  uX7_outcomes_67 v4 v2 (1 : Int32) y9.2.1 y9.2.2.1 y9.2.2.2.1 y9.2.2.2.2.1 y9.2.2.2.2.2.1 y9.2.2.2.2.2.2
  else
  uX7_outcomes_66 v4 v2 y9.2.1 y9.2.2.1 y9.2.2.2.1 y9.2.2.2.2.1 y9.2.2.2.2.2.1 y9.2.2.2.2.2.2))
noncomputable abbrev lX7_outcomes_33 (v1 : Int32) (v3 : Int32) (m_s : (Nat → Int32)) (v2 : Int32) (v4 : Int32) (m_sums : (Nat → Int32)) (m_steps : (Nat → Int32)) (m_chosen : Int32) (m_passed : (Nat → Int32)) (m_passedMany : Int32) (m_passedCost : Int32) : Option ((Int32 × Int32 × (Nat → Int32) × (Nat → Int32) × Int32 × (Nat → Int32) × Int32 × Int32) ⊕ (Int32 × Int32 × (Nat → Int32) × (Nat → Int32) × Int32 × (Nat → Int32) × Int32 × Int32)) :=
  wh (fun b : Int32 × Int32 × (Nat → Int32) × (Nat → Int32) × Int32 × (Nat → Int32) × Int32 × Int32 => sX7_outcomes_33 v1 v3 m_s b.1 b.2.1 b.2.2.1 b.2.2.2.1 b.2.2.2.2.1 b.2.2.2.2.2.1 b.2.2.2.2.2.2.1 b.2.2.2.2.2.2.2) (v2, v4, m_sums, m_steps, m_chosen, m_passed, m_passedMany, m_passedCost)
noncomputable def sX7_outcomes_20 (v1 : Int32) (m_thrown : Int32) (m_s : (Nat → Int32)) (v2 : Int32) (v3 : Int32) (m_sums : (Nat → Int32)) (m_steps : (Nat → Int32)) (m_chosen : Int32) (m_passed : (Nat → Int32)) (m_passedMany : Int32) (m_passedCost : Int32) : Option ((Int32 × Int32 × (Nat → Int32) × (Nat → Int32) × Int32 × (Nat → Int32) × Int32 × Int32) ⊕ (Int32 × Int32 × (Nat → Int32) × (Nat → Int32) × Int32 × (Nat → Int32) × Int32 × Int32)) :=
  gd (vp_in (0 : Int32) 1557) (
  if (m_s ((0 : Int32)).toNatClampNeg) ≤ v3 then
  oi (some (v2, m_thrown, m_sums, m_steps, m_chosen, m_passed, m_passedMany, m_passedCost))
  else
  lX7_outcomes_33 v1 v3 m_s v2 (0 : Int32) m_sums m_steps m_chosen m_passed m_passedMany m_passedCost)
noncomputable abbrev lX7_outcomes_20 (v1 : Int32) (m_thrown : Int32) (m_s : (Nat → Int32)) (v2 : Int32) (v3 : Int32) (m_sums : (Nat → Int32)) (m_steps : (Nat → Int32)) (m_chosen : Int32) (m_passed : (Nat → Int32)) (m_passedMany : Int32) (m_passedCost : Int32) : Option (Int32 × Int32 × (Nat → Int32) × (Nat → Int32) × Int32 × (Nat → Int32) × Int32 × Int32) :=
  wh (fun b : Int32 × Int32 × (Nat → Int32) × (Nat → Int32) × Int32 × (Nat → Int32) × Int32 × Int32 => sX7_outcomes_20 v1 m_thrown m_s b.1 b.2.1 b.2.2.1 b.2.2.2.1 b.2.2.2.2.1 b.2.2.2.2.2.1 b.2.2.2.2.2.2.1 b.2.2.2.2.2.2.2) (v2, v3, m_sums, m_steps, m_chosen, m_passed, m_passedMany, m_passedCost)
noncomputable def fX7_outcomes (v1 : Int32) (m_s : (Nat → Int32)) (m_sums : (Nat → Int32)) (m_steps : (Nat → Int32)) (m_chosen : Int32) (m_passed : (Nat → Int32)) (m_passedMany : Int32) (m_passedCost : Int32) : Option (Int32 × Int32 × (Nat → Int32) × (Nat → Int32) × Int32 × (Nat → Int32) × Int32 × Int32) :=
  (fX7_in v1 (0 : Int32) (4 : Int32)).bind (fun y1 =>
  if y1 = 0 then
  some ((-1 : Int32), (0 : Int32), m_sums, m_steps, m_chosen, m_passed, m_passedMany, m_passedCost)
  else
  lX7_outcomes_20 v1 (0 : Int32) m_s (0 : Int32) (0 : Int32) m_sums m_steps m_chosen m_passed m_passedMany m_passedCost)
noncomputable def uX7_findIdeal_219 (v2 : Int32) (m_reach : (Nat → Int32)) : Option ((Int32 × (Nat → Int32)) ⊕ ((Nat → Int32))) :=
  nm (v2 + (1 : Int32)) (fun w4 =>
  some (.inl (w4, m_reach)))
noncomputable def uX7_findIdeal_212 (v3 : Int32) (k1 : Int32) (k2 : Int32) (m_reach : (Nat → Int32)) : Option ((Int32 × (Nat → Int32)) ⊕ ((Int32 × (Nat → Int32)) ⊕ ((Nat → Int32)))) :=
  gd (vp_in k1 10) (
  nm (v3 + (1 : Int32)) (fun w17 =>
  some (.inl (w17, upd m_reach (k1).toNatClampNeg k2))))
noncomputable def uX7_findIdeal_165 (v3 : Int32) (v4 : Int32) (v5 : Int32) (v7 : Int32) (k1 : Int32) (k2 : Int32) (m_reach : (Nat → Int32)) : Option ((Int32 × (Nat → Int32)) ⊕ ((Int32 × (Nat → Int32)) ⊕ ((Nat → Int32)))) :=
  gd (vp_in k1 10) (
  gd (vp_in v4 10) (
  gd (vp_in v5 10) (
  if ((upd m_reach (k1).toNatClampNeg k2) (v5).toNatClampNeg) ≤ (((upd m_reach (k1).toNatClampNeg k2) (v4).toNatClampNeg) + v7) then
  gd (vp_in v5 10) (
  uX7_findIdeal_212 v3 v5 ((upd m_reach (k1).toNatClampNeg k2) (v5).toNatClampNeg) (upd m_reach (k1).toNatClampNeg k2))
  else
  gd (vp_in v4 10) (
  uX7_findIdeal_212 v3 v5 (((upd m_reach (k1).toNatClampNeg k2) (v4).toNatClampNeg) + v7) (upd m_reach (k1).toNatClampNeg k2)))))
noncomputable def uX7_findIdeal_117 (v3 : Int32) (v4 : Int32) (v5 : Int32) (k0 : Int32) (m_reach : (Nat → Int32)) : Option ((Int32 × (Nat → Int32)) ⊕ ((Int32 × (Nat → Int32)) ⊕ ((Nat → Int32)))) :=
  gd (vp_in v5 10) (
  gd (vp_in v4 10) (
  if (m_reach (v4).toNatClampNeg) ≤ ((m_reach (v5).toNatClampNeg) + k0) then
  gd (vp_in v4 10) (
  uX7_findIdeal_165 v3 v4 v5 k0 v4 (m_reach (v4).toNatClampNeg) m_reach)
  else
  gd (vp_in v5 10) (
  uX7_findIdeal_165 v3 v4 v5 k0 v4 ((m_reach (v5).toNatClampNeg) + k0) m_reach)))
noncomputable def uX7_findIdeal_99 (v3 : Int32) (v4 : Int32) (v5 : Int32) (k0 : Int32) (m_s : (Nat → Int32)) (m_reach : (Nat → Int32)) : Option ((Int32 × (Nat → Int32)) ⊕ ((Int32 × (Nat → Int32)) ⊕ ((Nat → Int32)))) :=
  if k0 = 0 then
  uX7_findIdeal_117 v3 v4 v5 (1000000 : Int32) m_reach
  else
  (fX7_linkPart v3 (2 : Int32) m_s).bind (fun y20 =>
  uX7_findIdeal_117 v3 v4 v5 y20 m_reach)
noncomputable def uX7_findIdeal_98 (v3 : Int32) (v4 : Int32) (v5 : Int32) (m_s : (Nat → Int32)) (m_reach : (Nat → Int32)) : Option ((Int32 × (Nat → Int32)) ⊕ ((Int32 × (Nat → Int32)) ⊕ ((Nat → Int32)))) :=
  uX7_findIdeal_99 v3 v4 v5 (0 : Int32) m_s m_reach
noncomputable def sX7_findIdeal_45 (v1 : Int32) (v2 : Int32) (m_s : (Nat → Int32)) (v3 : Int32) (m_reach : (Nat → Int32)) : Option ((Int32 × (Nat → Int32)) ⊕ ((Int32 × (Nat → Int32)) ⊕ ((Nat → Int32)))) :=
  gd (vp_in (1 : Int32) 1557) (
  if (m_s ((1 : Int32)).toNatClampNeg) ≤ v3 then
  oi (uX7_findIdeal_219 v2 m_reach)
  else
  (fX7_linkPart v3 (0 : Int32) m_s).bind (fun y6 =>
  (fX7_linkPart v3 (1 : Int32) m_s).bind (fun y7 =>
  (fX7_linkPart v3 (3 : Int32) m_s).bind (fun y8 =>
  if y8 = (1 : Int32) then
  (fX7_area v1 m_s).bind (fun y21 =>
  (fX7_isEntitled y21 v3 m_s).bind (fun y22 =>
  if y22 = 0 then
  uX7_findIdeal_98 v3 y6 y7 m_s m_reach
  else
  uX7_findIdeal_99 v3 y6 y7 (1 : Int32) m_s m_reach))
  else
  uX7_findIdeal_98 v3 y6 y7 m_s m_reach))))
noncomputable abbrev lX7_findIdeal_45 (v1 : Int32) (v2 : Int32) (m_s : (Nat → Int32)) (v3 : Int32) (m_reach : (Nat → Int32)) : Option ((Int32 × (Nat → Int32)) ⊕ ((Nat → Int32))) :=
  wh (fun b : Int32 × (Nat → Int32) => sX7_findIdeal_45 v1 v2 m_s b.1 b.2) (v3, m_reach)
noncomputable def sX7_findIdeal_33 (v1 : Int32) (m_s : (Nat → Int32)) (v2 : Int32) (m_reach : (Nat → Int32)) : Option ((Int32 × (Nat → Int32)) ⊕ ((Nat → Int32))) :=
  gd (vp_in (0 : Int32) 1557) (
  if (m_s ((0 : Int32)).toNatClampNeg) ≤ v2 then
  oi (some m_reach)
  else
  lX7_findIdeal_45 v1 v2 m_s (0 : Int32) m_reach)
noncomputable abbrev lX7_findIdeal_33 (v1 : Int32) (m_s : (Nat → Int32)) (v2 : Int32) (m_reach : (Nat → Int32)) : Option ((Nat → Int32)) :=
  wh (fun b : Int32 × (Nat → Int32) => sX7_findIdeal_33 v1 m_s b.1 b.2) (v2, m_reach)
noncomputable def uX7_findIdeal_31 (v1 : Int32) (m_s : (Nat → Int32)) (m_reach : (Nat → Int32)) : Option ((Nat → Int32)) :=
  lX7_findIdeal_33 v1 m_s (0 : Int32) m_reach
noncomputable def uX7_findIdeal_24 (v2 : Int32) (k1 : Int32) (k2 : Int32) (m_reach : (Nat → Int32)) : Option ((Int32 × (Nat → Int32)) ⊕ ((Nat → Int32))) :=
  gd (vp_in k1 10) (
  nm (v2 + (1 : Int32)) (fun w27 =>
  some (.inl (w27, upd m_reach (k1).toNatClampNeg k2))))
noncomputable def sX7_findIdeal_2 (v1 : Int32) (m_s : (Nat → Int32)) (v2 : Int32) (m_reach : (Nat → Int32)) : Option ((Int32 × (Nat → Int32)) ⊕ ((Nat → Int32))) :=
  if (10 : Int32) ≤ v2 then
  oi (uX7_findIdeal_31 v1 m_s m_reach)
  else
  if v2 = v1 then
  uX7_findIdeal_24 v2 v2 (0 : Int32) m_reach
  else
  uX7_findIdeal_24 v2 v2 (1000000 : Int32) m_reach
noncomputable abbrev lX7_findIdeal_2 (v1 : Int32) (m_s : (Nat → Int32)) (v2 : Int32) (m_reach : (Nat → Int32)) : Option ((Nat → Int32)) :=
  wh (fun b : Int32 × (Nat → Int32) => sX7_findIdeal_2 v1 m_s b.1 b.2) (v2, m_reach)
noncomputable def fX7_findIdeal (v1 : Int32) (m_s : (Nat → Int32)) (m_reach : (Nat → Int32)) : Option ((Nat → Int32)) :=
  lX7_findIdeal_2 v1 m_s (0 : Int32) m_reach
noncomputable def fX7_ideal (v1 : Int32) (v2 : Int32) (m_s : (Nat → Int32)) (m_reach : (Nat → Int32)) : Option (Int32 × Int32 × (Nat → Int32)) :=
  (fX7_isNode v1 m_s).bind (fun y1 =>
  if y1 = 0 then
  some ((-1 : Int32), (0 : Int32), m_reach)
  else
  (fX7_isNode v2 m_s).bind (fun y2 =>
  if y2 = 0 then
  some ((-1 : Int32), (0 : Int32), m_reach)
  else
  (fX7_findIdeal v1 m_s m_reach).bind (fun y3 =>
  gd (vp_in v2 10) (
  if (1000000 : Int32) ≤ (y3 (v2).toNatClampNeg) then
  some ((-9 : Int32), (0 : Int32), y3)
  else
  gd (vp_in v2 10) (
  some (y3 (v2).toNatClampNeg, (0 : Int32), y3))))))
noncomputable def uX7_idealSum_86 (v2 : Int32) (v3 : Int32) (m_reach : (Nat → Int32)) : Option ((Int32 × Int32 × (Nat → Int32)) ⊕ (Int32 × (Nat → Int32))) :=
  nm (v3 + (1 : Int32)) (fun w4 =>
  some (.inl (v2, w4, m_reach)))
noncomputable def uX7_idealSum_78 (v4 : Int32) (k0 : Int32) (k1 : Int32) : Option ((Int32 × Int32) ⊕ ((Int32 × Int32 × (Nat → Int32)) ⊕ (Int32 × (Nat → Int32)))) :=
  nm (k0 + k1) (fun w9 =>
  nm (v4 + (1 : Int32)) (fun w10 =>
  some (.inl (w9, w10))))
noncomputable def sX7_idealSum_31 (v3 : Int32) (m_s : (Nat → Int32)) (m_reach : (Nat → Int32)) (v2 : Int32) (v4 : Int32) : Option ((Int32 × Int32) ⊕ ((Int32 × Int32 × (Nat → Int32)) ⊕ (Int32 × (Nat → Int32)))) :=
  gd (vp_in (0 : Int32) 1557) (
  if (m_s ((0 : Int32)).toNatClampNeg) ≤ v4 then
  oi (uX7_idealSum_86 v2 v3 m_reach)
  else
  if v3 = v4 then
  uX7_idealSum_78 v4 v2 (0 : Int32)
  else
  gd (vp_in v4 10) (
  if (1000000 : Int32) ≤ (m_reach (v4).toNatClampNeg) then
  uX7_idealSum_78 v4 v2 (200 : Int32)
  else
  gd (vp_in v4 10) (
  uX7_idealSum_78 v4 v2 (m_reach (v4).toNatClampNeg))))
noncomputable abbrev lX7_idealSum_31 (v3 : Int32) (m_s : (Nat → Int32)) (m_reach : (Nat → Int32)) (v2 : Int32) (v4 : Int32) : Option ((Int32 × Int32 × (Nat → Int32)) ⊕ (Int32 × (Nat → Int32))) :=
  wh (fun b : Int32 × Int32 => sX7_idealSum_31 v3 m_s m_reach b.1 b.2) (v2, v4)
noncomputable def sX7_idealSum_4 (v1 : Int32) (m_s : (Nat → Int32)) (v2 : Int32) (v3 : Int32) (m_reach : (Nat → Int32)) : Option ((Int32 × Int32 × (Nat → Int32)) ⊕ (Int32 × (Nat → Int32))) :=
  gd (vp_in (0 : Int32) 1557) (
  if (m_s ((0 : Int32)).toNatClampNeg) ≤ v3 then
  oi (some (v2, m_reach))
  else
  (fX7_area v3 m_s).bind (fun y3 =>
  if y3 = v1 then
  (fX7_findIdeal v3 m_s m_reach).bind (fun y5 =>
  lX7_idealSum_31 v3 m_s y5 v2 (0 : Int32))
  else
  uX7_idealSum_86 v2 v3 m_reach))
noncomputable abbrev lX7_idealSum_4 (v1 : Int32) (m_s : (Nat → Int32)) (v2 : Int32) (v3 : Int32) (m_reach : (Nat → Int32)) : Option (Int32 × (Nat → Int32)) :=
  wh (fun b : Int32 × Int32 × (Nat → Int32) => sX7_idealSum_4 v1 m_s b.1 b.2.1 b.2.2) (v2, v3, m_reach)
noncomputable def fX7_idealSum (v1 : Int32) (m_s : (Nat → Int32)) (m_reach : (Nat → Int32)) : Option (Int32 × (Nat → Int32)) :=
  lX7_idealSum_4 v1 m_s (0 : Int32) (0 : Int32) m_reach
noncomputable def fX7_worth (v1 : Int32) (v2 : Int32) (m_s : (Nat → Int32)) (m_reach : (Nat → Int32)) : Option (Int32 × Int32 × (Nat → Int32) × (Nat → Int32)) :=
  (fX7_areAreas v1 v2).bind (fun y1 =>
  if y1 = 0 then
  some ((-1 : Int32), (0 : Int32), m_s, m_reach)
  else
  nm (((14 : Int32) + ((4 : Int32) * v1)) + v2) (fun w2 =>
  gd (vp_in w2 1557) (
  nm (m_s (w2).toNatClampNeg) (fun w4 =>
  gd (vp_in w2 1557) (
  (fX7_idealSum v2 (upd m_s (w2).toNatClampNeg (0 : Int32)) m_reach).bind (fun y6 =>
  gd (vp_in w2 1557) (
  (fX7_idealSum v2 (upd (upd m_s (w2).toNatClampNeg (0 : Int32)) (w2).toNatClampNeg (1 : Int32)) y6.2).bind (fun y8 =>
  gd (vp_in w2 1557) (
  some (y6.1 - y8.1, (0 : Int32), upd (upd (upd m_s (w2).toNatClampNeg (0 : Int32)) (w2).toNatClampNeg (1 : Int32)) (w2).toNatClampNeg w4, y8.2))))))))))
