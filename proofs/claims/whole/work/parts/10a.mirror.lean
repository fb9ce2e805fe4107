noncomputable def fX0_make (v0 : Int32) (v1 : Int32) (v2 : Int32) : Option (Int32) :=
  some (((v0 <<< ((7 : Int32) &&& 31)) ||| (v2 <<< ((1 : Int32) &&& 31))) ||| v1)
noncomputable def fX0_version (v0 : Int32) : Option (Int32) :=
  some (zushr v0 (7 : Int32))
noncomputable def fX0_state (v0 : Int32) : Option (Int32) :=
  some (v0 &&& (1 : Int32))
noncomputable def fX0_price (v0 : Int32) : Option (Int32) :=
  some ((zushr v0 (1 : Int32)) &&& (63 : Int32))
noncomputable def fX6_isArea (v0 : Int32) : Option (Int32) :=
  if v0 < 0 then
  some (0 : Int32)
  else
  if (4 : Int32) ≤ v0 then
  some (0 : Int32)
  else
  some (1 : Int32)
noncomputable def fX6_areTwoAreas (v0 : Int32) (v1 : Int32) : Option (Int32) :=
  (fX6_isArea v0).bind (fun y1 =>
  if y1 = 0 then
  some (0 : Int32)
  else
  (fX6_isArea v1).bind (fun y2 =>
  if y2 = 0 then
  some (0 : Int32)
  else
  if v0 = v1 then
  some (0 : Int32)
  else
  some (1 : Int32)))
noncomputable def fX6_isCost (v0 : Int32) (v1 : Int32) : Option (Int32) :=
  if v0 < (1 : Int32) then
  some (0 : Int32)
  else
  if v1 < v0 then
  some (0 : Int32)
  else
  some (1 : Int32)
noncomputable def uX6_isFlag_9  : Option (Int32) :=
  some (1 : Int32)
noncomputable def fX6_isFlag (v0 : Int32) : Option (Int32) :=
  if v0 = 0 then
  uX6_isFlag_9 
  else
  if v0 = (1 : Int32) then
  uX6_isFlag_9 
  else
  some (0 : Int32)
noncomputable def fX6_grantItem (v0 : Int32) (v1 : Int32) : Option (Int32) :=
  some (((4 : Int32) * v0) + v1)
noncomputable def fX6_grantOwner (v0 : Int32) : Option (Int32) :=
  some (v0 / (4 : Int32))
noncomputable def fX6_grantArea (v0 : Int32) : Option (Int32) :=
  some (v0 - v0 / (4 : Int32) * (4 : Int32))
noncomputable def fX6_place (v0 : Int32) (v1 : Int32) : Option (Int32) :=
  some ((v0 * (35 : Int32)) + v1)
