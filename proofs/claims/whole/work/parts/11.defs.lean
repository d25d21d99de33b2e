def fX0_beginWith_b22 (N : Nat) : Nat → Int32 → Int32 → Int32 → Int32 → Int32 → (Nat → Int32) → Option ((Int32) × (Int32) × (Int32) × (Int32) × (Nat → Int32))
  | 0, _, _, _, _, _, _ => none
  | n + 1, x2, Ccandidates, Cballots, Cseats, Cwithdrawn, Crank =>
    (if (8 : Int32) ≤ x2 then
      some (Ccandidates, Cballots, Cseats, Cwithdrawn, Crank)
    else
      if x2 < 0 ∨ 8 ≤ x2.toNatClampNeg then none else
        fX0_beginWith_b22 N n (x2 + (1 : Int32)) Ccandidates Cballots Cseats Cwithdrawn (upd Crank x2.toNatClampNeg x2))
def fX0_beginWith (N : Nat) (p0 : Int32) (Ccandidates : Int32) (Cballots : Int32) (Cseats : Int32) (Cwithdrawn : Int32) (Crank : Nat → Int32) : Option ((Int32) × (Int32) × (Int32) × (Int32) × (Nat → Int32)) :=
  fX0_beginWith_b22 N N (0 : Int32) p0 (0 : Int32) (3 : Int32) (0 : Int32) Crank
def fX0_copyFrom (N : Nat) (Ccandidates : Int32) (Cballots : Int32) (Cseats : Int32) (Cwithdrawn : Int32) (Cvoters : Nat → Int32) (Csets : Nat → Int32) (Crank : Nat → Int32) (Dcandidates : Int32) (Dballots : Int32) (Dseats : Int32) (Dwithdrawn : Int32) (Dvoters : Nat → Int32) (Dsets : Nat → Int32) (Drank : Nat → Int32) : Option ((Int32) × (Int32) × (Int32) × (Int32) × (Nat → Int32) × (Nat → Int32) × (Nat → Int32)) :=
  some (Dcandidates, Dballots, Dseats, Dwithdrawn, (va_cpy Dvoters Cvoters 0 0 11), (va_cpy Dsets Csets 0 0 11), (va_cpy Drank Crank 0 0 8))
def fX0_addBallot (N : Nat) (p0 : Int32) (p1 : Int32) (Cballots : Int32) (Cvoters : Nat → Int32) (Csets : Nat → Int32) : Option ((Int32) × (Nat → Int32) × (Nat → Int32)) :=
  (if (11 : Int32) ≤ Cballots then
    some (Cballots, Cvoters, Csets)
  else
    if Cballots < 0 ∨ 11 ≤ Cballots.toNatClampNeg then none else
      some ((Cballots + (1 : Int32)), (upd Cvoters Cballots.toNatClampNeg p0), (upd Csets Cballots.toNatClampNeg p1)))
def fX0_agreesTo (N : Nat) (p0 : Int32) (p1 : Int32) (Csets : Nat → Int32) : Option (Int32) :=
  if p0 < 0 ∨ 11 ≤ p0.toNatClampNeg then none else
    (if ((Csets p0.toNatClampNeg) &&& p1) = p1 then
    some (1 : Int32)
  else
    some (0 : Int32))
def fX0_votersWhoAgree_b30 (N : Nat) (k4 : Int32 → Int32 → Int32 → Int32 → (Nat → Int32) → (Nat → Int32) → Option (Int32)) (x1 : Int32) (x2 : Int32) (x3 : Int32) (Cballots : Int32) (Cvoters : Nat → Int32) (Csets : Nat → Int32) : Option (Int32) :=
  k4 x1 x2 (x3 + (1 : Int32)) Cballots Cvoters Csets
def fX0_votersWhoAgree_b4 (N : Nat) : Nat → Int32 → Int32 → Int32 → Int32 → (Nat → Int32) → (Nat → Int32) → Option (Int32)
  | 0, _, _, _, _, _, _ => none
  | n + 1, x1, x2, x3, Cballots, Cvoters, Csets =>
    (if Cballots ≤ x3 then
      some x2
    else
      (fX0_agreesTo N x3 x1 Csets).bind fun u2 =>
        (if u2 = 0 then
        fX0_votersWhoAgree_b30 N (fun z0 z1 z2 z3 z4 z5 => fX0_votersWhoAgree_b4 N n z0 z1 z2 z3 z4 z5) x1 x2 x3 Cballots Cvoters Csets
      else
        if x3 < 0 ∨ 11 ≤ x3.toNatClampNeg then none else
          fX0_votersWhoAgree_b30 N (fun z0 z1 z2 z3 z4 z5 => fX0_votersWhoAgree_b4 N n z0 z1 z2 z3 z4 z5) x1 (x2 + (Cvoters x3.toNatClampNeg)) x3 Cballots Cvoters Csets))
def fX0_votersWhoAgree (N : Nat) (p0 : Int32) (Cballots : Int32) (Cvoters : Nat → Int32) (Csets : Nat → Int32) : Option (Int32) :=
  fX0_votersWhoAgree_b4 N N p0 (0 : Int32) (0 : Int32) Cballots Cvoters Csets
def fX0_allVoters (N : Nat) (Cballots : Int32) (Cvoters : Nat → Int32) (Csets : Nat → Int32) : Option (Int32) :=
  (fX0_votersWhoAgree N (0 : Int32) Cballots Cvoters Csets).bind fun u1 =>
    some u1
def fX0_supportOf (N : Nat) (p0 : Int32) (Cballots : Int32) (Cvoters : Nat → Int32) (Csets : Nat → Int32) : Option (Int32) :=
  (fX0_votersWhoAgree N ((1 : Int32) <<< (p0 &&& 31)) Cballots Cvoters Csets).bind fun u1 =>
    some u1
def fX0_approvedByThoseWhoAgree_b30 (N : Nat) (k4 : Int32 → Int32 → Int32 → Int32 → (Nat → Int32) → Option (Int32)) (x1 : Int32) (x2 : Int32) (x3 : Int32) (Cballots : Int32) (Csets : Nat → Int32) : Option (Int32) :=
  k4 x1 x2 (x3 + (1 : Int32)) Cballots Csets
def fX0_approvedByThoseWhoAgree_b4 (N : Nat) : Nat → Int32 → Int32 → Int32 → Int32 → (Nat → Int32) → Option (Int32)
  | 0, _, _, _, _, _ => none
  | n + 1, x1, x2, x3, Cballots, Csets =>
    (if Cballots ≤ x3 then
      some x2
    else
      (fX0_agreesTo N x3 x1 Csets).bind fun u2 =>
        (if u2 = 0 then
        fX0_approvedByThoseWhoAgree_b30 N (fun z0 z1 z2 z3 z4 => fX0_approvedByThoseWhoAgree_b4 N n z0 z1 z2 z3 z4) x1 x2 x3 Cballots Csets
      else
        if x3 < 0 ∨ 11 ≤ x3.toNatClampNeg then none else
          fX0_approvedByThoseWhoAgree_b30 N (fun z0 z1 z2 z3 z4 => fX0_approvedByThoseWhoAgree_b4 N n z0 z1 z2 z3 z4) x1 (x2 ||| (Csets x3.toNatClampNeg)) x3 Cballots Csets))
def fX0_approvedByThoseWhoAgree (N : Nat) (p0 : Int32) (Cballots : Int32) (Csets : Nat → Int32) : Option (Int32) :=
  fX0_approvedByThoseWhoAgree_b4 N N p0 (0 : Int32) (0 : Int32) Cballots Csets
def fJ6_bitCount_0f7a4 (N : Nat) (p0 : Int32) : Option (Int32) :=
  some ((((((((p0 - (((p0.toUInt32 >>> ((1 : Int32).toUInt32 &&& Int32.toUInt32 31)).toInt32) &&& (1431655765 : Int32))) &&& (858993459 : Int32)) + ((((p0 - (((p0.toUInt32 >>> ((1 : Int32).toUInt32 &&& Int32.toUInt32 31)).toInt32) &&& (1431655765 : Int32))).toUInt32 >>> ((2 : Int32).toUInt32 &&& Int32.toUInt32 31)).toInt32) &&& (858993459 : Int32))) + (((((p0 - (((p0.toUInt32 >>> ((1 : Int32).toUInt32 &&& Int32.toUInt32 31)).toInt32) &&& (1431655765 : Int32))) &&& (858993459 : Int32)) + ((((p0 - (((p0.toUInt32 >>> ((1 : Int32).toUInt32 &&& Int32.toUInt32 31)).toInt32) &&& (1431655765 : Int32))).toUInt32 >>> ((2 : Int32).toUInt32 &&& Int32.toUInt32 31)).toInt32) &&& (858993459 : Int32))).toUInt32 >>> ((4 : Int32).toUInt32 &&& Int32.toUInt32 31)).toInt32)) &&& (252645135 : Int32)) + (((((((p0 - (((p0.toUInt32 >>> ((1 : Int32).toUInt32 &&& Int32.toUInt32 31)).toInt32) &&& (1431655765 : Int32))) &&& (858993459 : Int32)) + ((((p0 - (((p0.toUInt32 >>> ((1 : Int32).toUInt32 &&& Int32.toUInt32 31)).toInt32) &&& (1431655765 : Int32))).toUInt32 >>> ((2 : Int32).toUInt32 &&& Int32.toUInt32 31)).toInt32) &&& (858993459 : Int32))) + (((((p0 - (((p0.toUInt32 >>> ((1 : Int32).toUInt32 &&& Int32.toUInt32 31)).toInt32) &&& (1431655765 : Int32))) &&& (858993459 : Int32)) + ((((p0 - (((p0.toUInt32 >>> ((1 : Int32).toUInt32 &&& Int32.toUInt32 31)).toInt32) &&& (1431655765 : Int32))).toUInt32 >>> ((2 : Int32).toUInt32 &&& Int32.toUInt32 31)).toInt32) &&& (858993459 : Int32))).toUInt32 >>> ((4 : Int32).toUInt32 &&& Int32.toUInt32 31)).toInt32)) &&& (252645135 : Int32)).toUInt32 >>> ((8 : Int32).toUInt32 &&& Int32.toUInt32 31)).toInt32)) + ((((((((p0 - (((p0.toUInt32 >>> ((1 : Int32).toUInt32 &&& Int32.toUInt32 31)).toInt32) &&& (1431655765 : Int32))) &&& (858993459 : Int32)) + ((((p0 - (((p0.toUInt32 >>> ((1 : Int32).toUInt32 &&& Int32.toUInt32 31)).toInt32) &&& (1431655765 : Int32))).toUInt32 >>> ((2 : Int32).toUInt32 &&& Int32.toUInt32 31)).toInt32) &&& (858993459 : Int32))) + (((((p0 - (((p0.toUInt32 >>> ((1 : Int32).toUInt32 &&& Int32.toUInt32 31)).toInt32) &&& (1431655765 : Int32))) &&& (858993459 : Int32)) + ((((p0 - (((p0.toUInt32 >>> ((1 : Int32).toUInt32 &&& Int32.toUInt32 31)).toInt32) &&& (1431655765 : Int32))).toUInt32 >>> ((2 : Int32).toUInt32 &&& Int32.toUInt32 31)).toInt32) &&& (858993459 : Int32))).toUInt32 >>> ((4 : Int32).toUInt32 &&& Int32.toUInt32 31)).toInt32)) &&& (252645135 : Int32)) + (((((((p0 - (((p0.toUInt32 >>> ((1 : Int32).toUInt32 &&& Int32.toUInt32 31)).toInt32) &&& (1431655765 : Int32))) &&& (858993459 : Int32)) + ((((p0 - (((p0.toUInt32 >>> ((1 : Int32).toUInt32 &&& Int32.toUInt32 31)).toInt32) &&& (1431655765 : Int32))).toUInt32 >>> ((2 : Int32).toUInt32 &&& Int32.toUInt32 31)).toInt32) &&& (858993459 : Int32))) + (((((p0 - (((p0.toUInt32 >>> ((1 : Int32).toUInt32 &&& Int32.toUInt32 31)).toInt32) &&& (1431655765 : Int32))) &&& (858993459 : Int32)) + ((((p0 - (((p0.toUInt32 >>> ((1 : Int32).toUInt32 &&& Int32.toUInt32 31)).toInt32) &&& (1431655765 : Int32))).toUInt32 >>> ((2 : Int32).toUInt32 &&& Int32.toUInt32 31)).toInt32) &&& (858993459 : Int32))).toUInt32 >>> ((4 : Int32).toUInt32 &&& Int32.toUInt32 31)).toInt32)) &&& (252645135 : Int32)).toUInt32 >>> ((8 : Int32).toUInt32 &&& Int32.toUInt32 31)).toInt32)).toUInt32 >>> ((16 : Int32).toUInt32 &&& Int32.toUInt32 31)).toInt32)) &&& (63 : Int32))
def fX0_isOwed (N : Nat) (p0 : Int32) (Cballots : Int32) (Cseats : Int32) (Cvoters : Nat → Int32) (Csets : Nat → Int32) : Option (Int32) :=
  (fX0_votersWhoAgree N p0 Cballots Cvoters Csets).bind fun u1 =>
    (if u1 ≤ 0 then
    some (0 : Int32)
  else
    (fJ6_bitCount_0f7a4 N p0).bind fun u4 =>
      (fX0_allVoters N Cballots Cvoters Csets).bind fun u6 =>
      (if (u1 * Cseats) < (u4 * u6) then
      some (0 : Int32)
    else
      some (1 : Int32)))
def fX0_isShort (N : Nat) (p0 : Int32) (p1 : Int32) (Cballots : Int32) (Cseats : Int32) (Cvoters : Nat → Int32) (Csets : Nat → Int32) : Option (Int32) :=
  (fX0_isOwed N p0 Cballots Cseats Cvoters Csets).bind fun u1 =>
    (if u1 = 0 then
    some (0 : Int32)
  else
    (fX0_approvedByThoseWhoAgree N p0 Cballots Csets).bind fun u4 =>
      (fJ6_bitCount_0f7a4 N (p1 &&& u4)).bind fun u6 =>
      (fJ6_bitCount_0f7a4 N p0).bind fun u8 =>
      (if u8 ≤ u6 then
      some (0 : Int32)
    else
      some (1 : Int32)))
def fX4_hasBit (N : Nat) (p0 : Int32) (p1 : Int32) : Option (Int32) :=
  (if ((p0 >>> (p1 &&& 31)) &&& (1 : Int32)) = (1 : Int32) then
    some (1 : Int32)
  else
    some (0 : Int32))
def fX0_isWithdrawn (N : Nat) (p0 : Int32) (Cwithdrawn : Int32) : Option (Int32) :=
  (fX4_hasBit N Cwithdrawn p0).bind fun u1 =>
    if ¬ (u1 = 0 ∨ u1 = 1) then none else
    some u1
def fX0_placeOf_b24 (N : Nat) (k4 : Int32 → Int32 → Int32 → Int32 → (Nat → Int32) → Option (Int32)) (x1 : Int32) (x2 : Int32) (x3 : Int32) (Ccandidates : Int32) (Crank : Nat → Int32) : Option (Int32) :=
  k4 x1 x2 (x3 + (1 : Int32)) Ccandidates Crank
def fX0_placeOf_b4 (N : Nat) : Nat → Int32 → Int32 → Int32 → Int32 → (Nat → Int32) → Option (Int32)
  | 0, _, _, _, _, _ => none
  | n + 1, x1, x2, x3, Ccandidates, Crank =>
    (if Ccandidates ≤ x3 then
      some x2
    else
      if x3 < 0 ∨ 8 ≤ x3.toNatClampNeg then none else
        (if (Crank x3.toNatClampNeg) = x1 then
        fX0_placeOf_b24 N (fun z0 z1 z2 z3 z4 => fX0_placeOf_b4 N n z0 z1 z2 z3 z4) x1 x3 x3 Ccandidates Crank
      else
        fX0_placeOf_b24 N (fun z0 z1 z2 z3 z4 => fX0_placeOf_b4 N n z0 z1 z2 z3 z4) x1 x2 x3 Ccandidates Crank))
def fX0_placeOf (N : Nat) (p0 : Int32) (Ccandidates : Int32) (Crank : Nat → Int32) : Option (Int32) :=
  fX0_placeOf_b4 N N p0 (0 : Int32) (0 : Int32) Ccandidates Crank
def fX0_bringToFront_b33 (N : Nat) (x2 : Int32) (Crank : Nat → Int32) : Option ((Nat → Int32)) :=
  some (upd Crank 0 x2)
def fX0_bringToFront_b9 (N : Nat) : Nat → Int32 → Int32 → (Nat → Int32) → Option ((Nat → Int32))
  | 0, _, _, _ => none
  | n + 1, x2, x3, Crank =>
    (if x3 ≤ 0 then
      fX0_bringToFront_b33 N x2 Crank
    else
      if (x3 - (1 : Int32)) < 0 ∨ 8 ≤ (x3 - (1 : Int32)).toNatClampNeg then none else
        if x3 < 0 ∨ 8 ≤ x3.toNatClampNeg then none else
        fX0_bringToFront_b9 N n x2 (x3 + (-1 : Int32)) (upd Crank x3.toNatClampNeg (Crank ((x3 - (1 : Int32)).toNatClampNeg))))
def fX0_bringToFront (N : Nat) (p0 : Int32) (Crank : Nat → Int32) : Option ((Nat → Int32)) :=
  if p0 < 0 ∨ 8 ≤ p0.toNatClampNeg then none else
    fX0_bringToFront_b9 N N (Crank p0.toNatClampNeg) p0 Crank
def fX0_turnRankRound_b2 (N : Nat) : Nat → Int32 → Int32 → (Nat → Int32) → Option ((Nat → Int32))
  | 0, _, _, _ => none
  | n + 1, x1, Ccandidates, Crank =>
    (if (Ccandidates / (2 : Int32)) ≤ x1 then
      some Crank
    else
      if x1 < 0 ∨ 8 ≤ x1.toNatClampNeg then none else
        if ((Ccandidates - (1 : Int32)) - x1) < 0 ∨ 8 ≤ ((Ccandidates - (1 : Int32)) - x1).toNatClampNeg then none else
        fX0_turnRankRound_b2 N n (x1 + (1 : Int32)) Ccandidates (upd (upd Crank x1.toNatClampNeg (Crank (((Ccandidates - (1 : Int32)) - x1).toNatClampNeg))) (((Ccandidates - (1 : Int32)) - x1).toNatClampNeg) (Crank x1.toNatClampNeg)))
def fX0_turnRankRound (N : Nat) (Ccandidates : Int32) (Crank : Nat → Int32) : Option ((Nat → Int32)) :=
  fX0_turnRankRound_b2 N N (0 : Int32) Ccandidates Crank
def fX1_begin_b38 (N : Nat) : Nat → Int32 → Int32 → Int32 → (Nat → Int32) → (Nat → Int64) → Int64 → Int32 → Int32 → (Nat → Int32) → (Nat → Int32) → Option ((Int32) × (Int32) × (Nat → Int32) × (Nat → Int64) × (Int64))
  | 0, _, _, _, _, _, _, _, _, _, _ => none
  | n + 1, x2, Eelected, Eset, Esupport, Eloads, Eunit, Ccandidates, Cballots, Cvoters, Csets =>
    (if Ccandidates ≤ x2 then
      some (Eelected, Eset, Esupport, Eloads, Eunit)
    else
      (fX0_supportOf N x2 Cballots Cvoters Csets).bind fun u2 =>
        if x2 < 0 ∨ 8 ≤ x2.toNatClampNeg then none else
        fX1_begin_b38 N n (x2 + (1 : Int32)) Eelected Eset (upd Esupport x2.toNatClampNeg u2) Eloads Eunit Ccandidates Cballots Cvoters Csets)
def fX1_begin_b36 (N : Nat) (Eelected : Int32) (Eset : Int32) (Esupport : Nat → Int32) (Eloads : Nat → Int64) (Eunit : Int64) (Ccandidates : Int32) (Cballots : Int32) (Cvoters : Nat → Int32) (Csets : Nat → Int32) : Option ((Int32) × (Int32) × (Nat → Int32) × (Nat → Int64) × (Int64)) :=
  fX1_begin_b38 N N (0 : Int32) Eelected Eset Esupport Eloads Eunit Ccandidates Cballots Cvoters Csets
def fX1_begin_b17 (N : Nat) : Nat → Int32 → Int32 → Int32 → (Nat → Int32) → (Nat → Int64) → Int64 → Int32 → Int32 → (Nat → Int32) → (Nat → Int32) → Option ((Int32) × (Int32) × (Nat → Int32) × (Nat → Int64) × (Int64))
  | 0, _, _, _, _, _, _, _, _, _, _ => none
  | n + 1, x2, Eelected, Eset, Esupport, Eloads, Eunit, Ccandidates, Cballots, Cvoters, Csets =>
    (if (11 : Int32) ≤ x2 then
      fX1_begin_b36 N Eelected Eset Esupport Eloads Eunit Ccandidates Cballots Cvoters Csets
    else
      if x2 < 0 ∨ 11 ≤ x2.toNatClampNeg then none else
        fX1_begin_b17 N n (x2 + (1 : Int32)) Eelected Eset Esupport (vp_updL Eloads x2.toNatClampNeg (0 : Int64)) Eunit Ccandidates Cballots Cvoters Csets)
def fX1_begin (N : Nat) (Eelected : Int32) (Eset : Int32) (Esupport : Nat → Int32) (Eloads : Nat → Int64) (Eunit : Int64) (Ccandidates : Int32) (Cballots : Int32) (Cvoters : Nat → Int32) (Csets : Nat → Int32) : Option ((Int32) × (Int32) × (Nat → Int32) × (Nat → Int64) × (Int64)) :=
  fX1_begin_b17 N N (0 : Int32) (0 : Int32) (0 : Int32) Esupport Eloads (1 : Int64) Ccandidates Cballots Cvoters Csets
def fX1_weightOf (N : Nat) (p1 : Int32) (Eset : Int32) (Csets : Nat → Int32) : Option (Int64) :=
  if p1 < 0 ∨ 11 ≤ p1.toNatClampNeg then none else
    (fJ6_bitCount_0f7a4 N ((Csets p1.toNatClampNeg) &&& Eset)).bind fun u2 =>
    if ((1 : Int32) + u2) = 0 then none else
    some (((840 : Int32) / ((1 : Int32) + u2)).toInt64)
def fX1_worthOf_b90 (N : Nat) (k31 : Int32 → Int32 → Int64 → Int32 → Int32 → (Nat → Int64) → Int32 → (Nat → Int32) → (Nat → Int32) → Option (Int64)) (x2 : Int32) (x3 : Int32) (x4 : Int64) (x6 : Int32) (Eset : Int32) (Eloads : Nat → Int64) (Cballots : Int32) (Cvoters : Nat → Int32) (Csets : Nat → Int32) : Option (Int64) :=
  k31 x2 x3 x4 (x6 + (1 : Int32)) Eset Eloads Cballots Cvoters Csets
def fX1_worthOf_b86 (N : Nat) (k31 : Int32 → Int32 → Int64 → Int32 → Int32 → (Nat → Int64) → Int32 → (Nat → Int32) → (Nat → Int32) → Option (Int64)) (x2 : Int32) (x3 : Int32) (x6 : Int32) (t0 : Int64) (t1 : Int64) (t2 : Int64) (Eset : Int32) (Eloads : Nat → Int64) (Cballots : Int32) (Cvoters : Nat → Int32) (Csets : Nat → Int32) : Option (Int64) :=
  fX1_worthOf_b90 N k31 x2 x3 (t0 + (t1 * t2)) x6 Eset Eloads Cballots Cvoters Csets
def fX1_worthOf_b31 (N : Nat) : Nat → Int32 → Int32 → Int64 → Int32 → Int32 → (Nat → Int64) → Int32 → (Nat → Int32) → (Nat → Int32) → Option (Int64)
  | 0, _, _, _, _, _, _, _, _, _ => none
  | n + 1, x2, x3, x4, x6, Eset, Eloads, Cballots, Cvoters, Csets =>
    (if Cballots ≤ x6 then
      some x4
    else
      if x6 < 0 ∨ 11 ≤ x6.toNatClampNeg then none else
        (fX4_hasBit N (Csets x6.toNatClampNeg) x3).bind fun u3 =>
        (if u3 = 0 then
        fX1_worthOf_b90 N (fun z0 z1 z2 z3 z4 z5 z6 z7 z8 => fX1_worthOf_b31 N n z0 z1 z2 z3 z4 z5 z6 z7 z8) x2 x3 x4 x6 Eset Eloads Cballots Cvoters Csets
      else
        (if x2 = (2 : Int32) then
          (fX1_weightOf N x6 Eset Csets).bind fun u7 =>
            fX1_worthOf_b86 N (fun z0 z1 z2 z3 z4 z5 z6 z7 z8 => fX1_worthOf_b31 N n z0 z1 z2 z3 z4 z5 z6 z7 z8) x2 x3 x6 x4 ((Cvoters x6.toNatClampNeg).toInt64) u7 Eset Eloads Cballots Cvoters Csets
        else
          fX1_worthOf_b86 N (fun z0 z1 z2 z3 z4 z5 z6 z7 z8 => fX1_worthOf_b31 N n z0 z1 z2 z3 z4 z5 z6 z7 z8) x2 x3 x6 x4 ((Cvoters x6.toNatClampNeg).toInt64) (Eloads x6.toNatClampNeg) Eset Eloads Cballots Cvoters Csets)))
def fX1_worthOf_b26 (N : Nat) (x2 : Int32) (x3 : Int32) (t0 : Int64) (Eset : Int32) (Eloads : Nat → Int64) (Cballots : Int32) (Cvoters : Nat → Int32) (Csets : Nat → Int32) : Option (Int64) :=
  fX1_worthOf_b31 N N x2 x3 t0 (0 : Int32) Eset Eloads Cballots Cvoters Csets
def fX1_worthOf (N : Nat) (p1 : Int32) (p2 : Int32) (Eset : Int32) (Esupport : Nat → Int32) (Eloads : Nat → Int64) (Eunit : Int64) (Cballots : Int32) (Cvoters : Nat → Int32) (Csets : Nat → Int32) : Option (Int64) :=
  (if p1 = (1 : Int32) then
    if p2 < 0 ∨ 8 ≤ p2.toNatClampNeg then none else
      some ((Esupport p2.toNatClampNeg).toInt64)
  else
    (if p1 = (2 : Int32) then
      fX1_worthOf_b26 N p1 p2 (0 : Int64) Eset Eloads Cballots Cvoters Csets
    else
      fX1_worthOf_b26 N p1 p2 Eunit Eset Eloads Cballots Cvoters Csets))
def fX1_isAhead_b49 (N : Nat) (x2 : Int32) (x3 : Int32) (Eworth : Nat → Int64) : Option (Int32) :=
  if x2 < 0 ∨ 8 ≤ x2.toNatClampNeg then none else
    if x3 < 0 ∨ 8 ≤ x3.toNatClampNeg then none else
    (if (lg_cmp (Eworth x2.toNatClampNeg) (Eworth x3.toNatClampNeg)) ≤ 0 then
    some (0 : Int32)
  else
    some (1 : Int32))
def fX1_isAhead_b18 (N : Nat) (x2 : Int32) (x3 : Int32) (Esupport : Nat → Int32) : Option (Int32) :=
  if x2 < 0 ∨ 8 ≤ x2.toNatClampNeg then none else
    if x3 < 0 ∨ 8 ≤ x3.toNatClampNeg then none else
    (if (Esupport x2.toNatClampNeg) ≤ (Esupport x3.toNatClampNeg) then
    some (0 : Int32)
  else
    some (1 : Int32))
def fX1_isAhead (N : Nat) (p0 : Int32) (p1 : Int32) (p2 : Int32) (Esupport : Nat → Int32) (Eworth : Nat → Int64) : Option (Int32) :=
  if p1 < 0 ∨ 8 ≤ p1.toNatClampNeg then none else
    (if (Esupport p1.toNatClampNeg) = 0 then
    fX1_isAhead_b18 N p1 p2 Esupport
  else
    if p2 < 0 ∨ 8 ≤ p2.toNatClampNeg then none else
      (if (Esupport p2.toNatClampNeg) = 0 then
      fX1_isAhead_b18 N p1 p2 Esupport
    else
      (if p0 = (1 : Int32) then
        fX1_isAhead_b49 N p1 p2 Eworth
      else
        (if p0 = (2 : Int32) then
          fX1_isAhead_b49 N p1 p2 Eworth
        else
          (if 0 ≤ (lg_cmp ((Eworth p1.toNatClampNeg) * ((Esupport p2.toNatClampNeg).toInt64)) ((Eworth p2.toNatClampNeg) * ((Esupport p1.toNatClampNeg).toInt64))) then
            some (0 : Int32)
          else
            some (1 : Int32))))))
def fX1_nextMember_b76 (N : Nat) (k6 : Int32 → Int32 → Int32 → Int32 → (Nat → Int32) → (Nat → Int64) → (Nat → Int64) → Int64 → Int32 → Int32 → Int32 → (Nat → Int32) → (Nat → Int32) → (Nat → Int32) → Option (Int32 × (Nat → Int64))) (x2 : Int32) (x3 : Int32) (x4 : Int32) (Eset : Int32) (Esupport : Nat → Int32) (Eworth : Nat → Int64) (Eloads : Nat → Int64) (Eunit : Int64) (Ccandidates : Int32) (Cballots : Int32) (Cwithdrawn : Int32) (Cvoters : Nat → Int32) (Csets : Nat → Int32) (Crank : Nat → Int32) : Option (Int32 × (Nat → Int64)) :=
  k6 x2 x3 (x4 + (1 : Int32)) Eset Esupport Eworth Eloads Eunit Ccandidates Cballots Cwithdrawn Cvoters Csets Crank
def fX1_nextMember_b73 (N : Nat) (k6 : Int32 → Int32 → Int32 → Int32 → (Nat → Int32) → (Nat → Int64) → (Nat → Int64) → Int64 → Int32 → Int32 → Int32 → (Nat → Int32) → (Nat → Int32) → (Nat → Int32) → Option (Int32 × (Nat → Int64))) (x2 : Int32) (x4 : Int32) (x5 : Int32) (Eset : Int32) (Esupport : Nat → Int32) (Eworth : Nat → Int64) (Eloads : Nat → Int64) (Eunit : Int64) (Ccandidates : Int32) (Cballots : Int32) (Cwithdrawn : Int32) (Cvoters : Nat → Int32) (Csets : Nat → Int32) (Crank : Nat → Int32) : Option (Int32 × (Nat → Int64)) :=
  fX1_nextMember_b76 N k6 x2 x5 x4 Eset Esupport Eworth Eloads Eunit Ccandidates Cballots Cwithdrawn Cvoters Csets Crank
def fX1_nextMember_b6 (N : Nat) : Nat → Int32 → Int32 → Int32 → Int32 → (Nat → Int32) → (Nat → Int64) → (Nat → Int64) → Int64 → Int32 → Int32 → Int32 → (Nat → Int32) → (Nat → Int32) → (Nat → Int32) → Option (Int32 × (Nat → Int64))
  | 0, _, _, _, _, _, _, _, _, _, _, _, _, _, _ => none
  | n + 1, x2, x3, x4, Eset, Esupport, Eworth, Eloads, Eunit, Ccandidates, Cballots, Cwithdrawn, Cvoters, Csets, Crank =>
    (if Ccandidates ≤ x4 then
      some (x3, Eworth)
    else
      if x4 < 0 ∨ 8 ≤ x4.toNatClampNeg then none else
        (fX4_hasBit N (Cwithdrawn ||| Eset) (Crank x4.toNatClampNeg)).bind fun u3 =>
        (if u3 = 0 then
        (fX1_worthOf N x2 (Crank x4.toNatClampNeg) Eset Esupport Eloads Eunit Cballots Cvoters Csets).bind fun u6 =>
          if (Crank x4.toNatClampNeg) < 0 ∨ 8 ≤ (Crank x4.toNatClampNeg).toNatClampNeg then none else
          (if x3 = (-4 : Int32) then
          fX1_nextMember_b73 N (fun z0 z1 z2 z3 z4 z5 z6 z7 z8 z9 z10 z11 z12 z13 => fX1_nextMember_b6 N n z0 z1 z2 z3 z4 z5 z6 z7 z8 z9 z10 z11 z12 z13) x2 x4 (Crank x4.toNatClampNeg) Eset Esupport (vp_updL Eworth ((Crank x4.toNatClampNeg).toNatClampNeg) u6) Eloads Eunit Ccandidates Cballots Cwithdrawn Cvoters Csets Crank
        else
          (fX1_isAhead N x2 (Crank x4.toNatClampNeg) x3 Esupport (vp_updL Eworth ((Crank x4.toNatClampNeg).toNatClampNeg) u6)).bind fun u10 =>
            (if u10 = 0 then
            fX1_nextMember_b76 N (fun z0 z1 z2 z3 z4 z5 z6 z7 z8 z9 z10 z11 z12 z13 => fX1_nextMember_b6 N n z0 z1 z2 z3 z4 z5 z6 z7 z8 z9 z10 z11 z12 z13) x2 x3 x4 Eset Esupport (vp_updL Eworth ((Crank x4.toNatClampNeg).toNatClampNeg) u6) Eloads Eunit Ccandidates Cballots Cwithdrawn Cvoters Csets Crank
          else
            fX1_nextMember_b73 N (fun z0 z1 z2 z3 z4 z5 z6 z7 z8 z9 z10 z11 z12 z13 => fX1_nextMember_b6 N n z0 z1 z2 z3 z4 z5 z6 z7 z8 z9 z10 z11 z12 z13) x2 x4 (Crank x4.toNatClampNeg) Eset Esupport (vp_updL Eworth ((Crank x4.toNatClampNeg).toNatClampNeg) u6) Eloads Eunit Ccandidates Cballots Cwithdrawn Cvoters Csets Crank))
      else
        fX1_nextMember_b76 N (fun z0 z1 z2 z3 z4 z5 z6 z7 z8 z9 z10 z11 z12 z13 => fX1_nextMember_b6 N n z0 z1 z2 z3 z4 z5 z6 z7 z8 z9 z10 z11 z12 z13) x2 x3 x4 Eset Esupport Eworth Eloads Eunit Ccandidates Cballots Cwithdrawn Cvoters Csets Crank))
def fX1_nextMember (N : Nat) (p1 : Int32) (Eset : Int32) (Esupport : Nat → Int32) (Eworth : Nat → Int64) (Eloads : Nat → Int64) (Eunit : Int64) (Ccandidates : Int32) (Cballots : Int32) (Cwithdrawn : Int32) (Cvoters : Nat → Int32) (Csets : Nat → Int32) (Crank : Nat → Int32) : Option (Int32 × (Nat → Int64)) :=
  fX1_nextMember_b6 N N p1 (-4 : Int32) (0 : Int32) Eset Esupport Eworth Eloads Eunit Ccandidates Cballots Cwithdrawn Cvoters Csets Crank
def fX1_spreadLoad_b58 (N : Nat) (x2 : Int32) (Esupport : Nat → Int32) (Eloads : Nat → Int64) (Eunit : Int64) : Option ((Nat → Int64) × (Int64)) :=
  if x2 < 0 ∨ 8 ≤ x2.toNatClampNeg then none else
    some (Eloads, (Eunit * ((Esupport x2.toNatClampNeg).toInt64)))
def fX1_spreadLoad_b51 (N : Nat) (k2 : Int32 → Int32 → (Nat → Int32) → (Nat → Int64) → (Nat → Int64) → Int64 → Int32 → (Nat → Int32) → Option ((Nat → Int64) × (Int64))) (x2 : Int32) (x3 : Int32) (t1 : Int32) (t2 : Int64) (Esupport : Nat → Int32) (Eworth : Nat → Int64) (Eloads : Nat → Int64) (Eunit : Int64) (Cballots : Int32) (Csets : Nat → Int32) : Option ((Nat → Int64) × (Int64)) :=
  if t1 < 0 ∨ 11 ≤ t1.toNatClampNeg then none else
    k2 x2 (x3 + (1 : Int32)) Esupport Eworth (vp_updL Eloads t1.toNatClampNeg t2) Eunit Cballots Csets
def fX1_spreadLoad_b2 (N : Nat) : Nat → Int32 → Int32 → (Nat → Int32) → (Nat → Int64) → (Nat → Int64) → Int64 → Int32 → (Nat → Int32) → Option ((Nat → Int64) × (Int64))
  | 0, _, _, _, _, _, _, _, _ => none
  | n + 1, x2, x3, Esupport, Eworth, Eloads, Eunit, Cballots, Csets =>
    (if Cballots ≤ x3 then
      fX1_spreadLoad_b58 N x2 Esupport Eloads Eunit
    else
      if x3 < 0 ∨ 11 ≤ x3.toNatClampNeg then none else
        (fX4_hasBit N (Csets x3.toNatClampNeg) x2).bind fun u5 =>
        (if u5 = 0 then
        if x2 < 0 ∨ 8 ≤ x2.toNatClampNeg then none else
          fX1_spreadLoad_b51 N (fun z0 z1 z2 z3 z4 z5 z6 z7 => fX1_spreadLoad_b2 N n z0 z1 z2 z3 z4 z5 z6 z7) x2 x3 x3 ((Eloads x3.toNatClampNeg) * ((Esupport x2.toNatClampNeg).toInt64)) Esupport Eworth Eloads Eunit Cballots Csets
      else
        if x2 < 0 ∨ 8 ≤ x2.toNatClampNeg then none else
          fX1_spreadLoad_b51 N (fun z0 z1 z2 z3 z4 z5 z6 z7 => fX1_spreadLoad_b2 N n z0 z1 z2 z3 z4 z5 z6 z7) x2 x3 x3 (Eworth x2.toNatClampNeg) Esupport Eworth Eloads Eunit Cballots Csets))
def fX1_spreadLoad (N : Nat) (p1 : Int32) (Esupport : Nat → Int32) (Eworth : Nat → Int64) (Eloads : Nat → Int64) (Eunit : Int64) (Cballots : Int32) (Csets : Nat → Int32) : Option ((Nat → Int64) × (Int64)) :=
  fX1_spreadLoad_b2 N N p1 (0 : Int32) Esupport Eworth Eloads Eunit Cballots Csets
def fX1_elect_b114 (N : Nat) (x3 : Int32) (Eorder : Nat → Int32) (Eabove : Nat → Int64) (Ebelow : Nat → Int64) (Eelected : Int32) (Eset : Int32) (Eloads : Nat → Int64) (Eunit : Int64) : Option ((Nat → Int32) × (Nat → Int64) × (Nat → Int64) × (Int32) × (Int32) × (Nat → Int64) × (Int64)) :=
  some (Eorder, Eabove, Ebelow, (Eelected + (1 : Int32)), (Eset ||| ((1 : Int32) <<< (x3 &&& 31))), Eloads, Eunit)
def fX1_elect (N : Nat) (p1 : Int32) (p2 : Int32) (Eorder : Nat → Int32) (Eabove : Nat → Int64) (Ebelow : Nat → Int64) (Eelected : Int32) (Eset : Int32) (Esupport : Nat → Int32) (Eworth : Nat → Int64) (Eloads : Nat → Int64) (Eunit : Int64) (Cballots : Int32) (Csets : Nat → Int32) : Option ((Nat → Int32) × (Nat → Int64) × (Nat → Int64) × (Int32) × (Int32) × (Nat → Int64) × (Int64)) :=
  (if Eelected < (8 : Int32) then
    if Eelected < 0 ∨ 8 ≤ Eelected.toNatClampNeg then none else
      if p2 < 0 ∨ 8 ≤ p2.toNatClampNeg then none else
      (if (Esupport p2.toNatClampNeg) = 0 then
      fX1_elect_b114 N p2 (upd Eorder Eelected.toNatClampNeg p2) (vp_updL Eabove Eelected.toNatClampNeg (Eworth p2.toNatClampNeg)) (vp_updL Ebelow Eelected.toNatClampNeg (0 : Int64)) Eelected Eset Eloads Eunit
    else
      (if p1 = (1 : Int32) then
        fX1_elect_b114 N p2 (upd Eorder Eelected.toNatClampNeg p2) (vp_updL Eabove Eelected.toNatClampNeg (Eworth p2.toNatClampNeg)) (vp_updL Ebelow Eelected.toNatClampNeg (1 : Int64)) Eelected Eset Eloads Eunit
      else
        (if p1 = (2 : Int32) then
          fX1_elect_b114 N p2 (upd Eorder Eelected.toNatClampNeg p2) (vp_updL Eabove Eelected.toNatClampNeg (Eworth p2.toNatClampNeg)) (vp_updL Ebelow Eelected.toNatClampNeg (840 : Int64)) Eelected Eset Eloads Eunit
        else
          (fX1_spreadLoad N p2 Esupport Eworth Eloads Eunit Cballots Csets).bind fun u7 =>
            fX1_elect_b114 N p2 (upd Eorder Eelected.toNatClampNeg p2) (vp_updL Eabove Eelected.toNatClampNeg (Eworth p2.toNatClampNeg)) (vp_updL Ebelow Eelected.toNatClampNeg u7.2) Eelected Eset u7.1 u7.2)))
  else
    some (Eorder, Eabove, Ebelow, Eelected, Eset, Eloads, Eunit))
def fX1_hold_b7 (N : Nat) : Nat → Int32 → Int32 → (Nat → Int32) → (Nat → Int64) → (Nat → Int64) → Int32 → Int32 → (Nat → Int32) → (Nat → Int64) → (Nat → Int64) → Int64 → Int32 → Int32 → Int32 → Int32 → (Nat → Int32) → (Nat → Int32) → (Nat → Int32) → Option (Int32 × (Nat → Int32) × (Nat → Int64) × (Nat → Int64) × (Int32) × (Int32) × (Nat → Int32) × (Nat → Int64) × (Nat → Int64) × (Int64))
  | 0, _, _, _, _, _, _, _, _, _, _, _, _, _, _, _, _, _, _ => none
  | n + 1, x2, x3, Eorder, Eabove, Ebelow, Eelected, Eset, Esupport, Eworth, Eloads, Eunit, Ccandidates, Cballots, Cseats, Cwithdrawn, Cvoters, Csets, Crank =>
    (if Cseats ≤ x3 then
      some (Eset, Eorder, Eabove, Ebelow, Eelected, Eset, Esupport, Eworth, Eloads, Eunit)
    else
      (fX1_nextMember N x2 Eset Esupport Eworth Eloads Eunit Ccandidates Cballots Cwithdrawn Cvoters Csets Crank).bind fun u2 =>
        (if u2.1 = (-4 : Int32) then
        some (Eset, Eorder, Eabove, Ebelow, Eelected, Eset, Esupport, u2.2, Eloads, Eunit)
      else
        (fX1_elect N x2 u2.1 Eorder Eabove Ebelow Eelected Eset Esupport u2.2 Eloads Eunit Cballots Csets).bind fun u5 =>
          fX1_hold_b7 N n x2 (x3 + (1 : Int32)) u5.1 u5.2.1 u5.2.2.1 u5.2.2.2.1 u5.2.2.2.2.1 Esupport u2.2 u5.2.2.2.2.2.1 u5.2.2.2.2.2.2 Ccandidates Cballots Cseats Cwithdrawn Cvoters Csets Crank))
def fX1_hold (N : Nat) (p1 : Int32) (Eorder : Nat → Int32) (Eabove : Nat → Int64) (Ebelow : Nat → Int64) (Eelected : Int32) (Eset : Int32) (Esupport : Nat → Int32) (Eworth : Nat → Int64) (Eloads : Nat → Int64) (Eunit : Int64) (Ccandidates : Int32) (Cballots : Int32) (Cseats : Int32) (Cwithdrawn : Int32) (Cvoters : Nat → Int32) (Csets : Nat → Int32) (Crank : Nat → Int32) : Option (Int32 × (Nat → Int32) × (Nat → Int64) × (Nat → Int64) × (Int32) × (Int32) × (Nat → Int32) × (Nat → Int64) × (Nat → Int64) × (Int64)) :=
  (fX1_begin N Eelected Eset Esupport Eloads Eunit Ccandidates Cballots Cvoters Csets).bind fun u7 =>
    fX1_hold_b7 N N p1 (0 : Int32) Eorder Eabove Ebelow u7.1 u7.2.1 u7.2.2.1 Eworth u7.2.2.2.1 u7.2.2.2.2 Ccandidates Cballots Cseats Cwithdrawn Cvoters Csets Crank
def fX2_forget (N : Nat) (Psize : Int32) : Option ((Int32)) :=
  some (0 : Int32)
def fX2_keep (N : Nat) (Ptop : Int32) (Psize : Int32) (Ccandidates : Int32) (Cballots : Int32) (Cseats : Int32) (Cwithdrawn : Int32) (Cvoters : Nat → Int32) (Csets : Nat → Int32) (Crank : Nat → Int32) (Qcandidates : Int32) (Qballots : Int32) (Qseats : Int32) (Qwithdrawn : Int32) (Qvoters : Nat → Int32) (Qsets : Nat → Int32) (Qrank : Nat → Int32) : Option ((Int32) × (Int32) × (Int32) × (Int32) × (Int32) × (Int32) × (Nat → Int32) × (Nat → Int32) × (Nat → Int32)) :=
  if Ptop < 0 ∨ 6 ≤ Ptop.toNatClampNeg then none else
    (fX0_copyFrom N Qcandidates Qballots Qseats Qwithdrawn Qvoters Qsets Qrank Ccandidates Cballots Cseats Cwithdrawn Cvoters Csets Crank).bind fun u2 =>
    some (((Ptop + (1 : Int32)) - (Ptop + (1 : Int32)) / (6 : Int32) * (6 : Int32)), (if (6 : Int32) < (Psize + (1 : Int32)) then (6 : Int32) else (Psize + (1 : Int32))), u2.1, u2.2.1, u2.2.2.1, u2.2.2.2.1, u2.2.2.2.2.1, u2.2.2.2.2.2.1, u2.2.2.2.2.2.2)
def fX2_bringBack (N : Nat) (Ptop : Int32) (Psize : Int32) (Ccandidates : Int32) (Cballots : Int32) (Cseats : Int32) (Cwithdrawn : Int32) (Cvoters : Nat → Int32) (Csets : Nat → Int32) (Crank : Nat → Int32) (Qcandidates : Int32) (Qballots : Int32) (Qseats : Int32) (Qwithdrawn : Int32) (Qvoters : Nat → Int32) (Qsets : Nat → Int32) (Qrank : Nat → Int32) : Option ((Int32) × (Int32) × (Int32) × (Int32) × (Int32) × (Int32) × (Nat → Int32) × (Nat → Int32) × (Nat → Int32)) :=
  if (((Ptop + (6 : Int32)) - (1 : Int32)) - ((Ptop + (6 : Int32)) - (1 : Int32)) / (6 : Int32) * (6 : Int32)) < 0 ∨ 6 ≤ (((Ptop + (6 : Int32)) - (1 : Int32)) - ((Ptop + (6 : Int32)) - (1 : Int32)) / (6 : Int32) * (6 : Int32)).toNatClampNeg then none else
    (fX0_copyFrom N Ccandidates Cballots Cseats Cwithdrawn Cvoters Csets Crank Qcandidates Qballots Qseats Qwithdrawn Qvoters Qsets Qrank).bind fun u2 =>
    some ((((Ptop + (6 : Int32)) - (1 : Int32)) - ((Ptop + (6 : Int32)) - (1 : Int32)) / (6 : Int32) * (6 : Int32)), (Psize - (1 : Int32)), u2.1, u2.2.1, u2.2.2.1, u2.2.2.2.1, u2.2.2.2.2.1, u2.2.2.2.2.2.1, u2.2.2.2.2.2.2)
def fX3_add (N : Nat) (p0 : Int32) (Tletters : Nat → Int32) (Tlength : Int32) : Option (Int32 × (Nat → Int32) × (Int32)) :=
  (if Tlength < (200 : Int32) then
    if Tlength < 0 ∨ 200 ≤ Tlength.toNatClampNeg then none else
      some ((1 : Int32), (upd Tletters Tlength.toNatClampNeg p0), (Tlength + (1 : Int32)))
  else
    some ((0 : Int32), Tletters, Tlength))
def fX3_clear (N : Nat) (Tlength : Int32) : Option ((Int32)) :=
  some (0 : Int32)
def fX3_number_b21 (N : Nat) : Nat → Int32 → Int32 → Int32 → (Nat → Int32) → Option (Int32)
  | 0, _, _, _, _ => none
  | n + 1, x2, x3, x4, Tletters =>
    (if x2 ≤ x4 then
      some x3
    else
      if x4 < 0 ∨ 200 ≤ x4.toNatClampNeg then none else
        (if ((Tletters x4.toNatClampNeg) - (48 : Int32)) < 0 then
        some (-1 : Int32)
      else
        (if ((Tletters x4.toNatClampNeg) - (48 : Int32)) ≤ (9 : Int32) then
          fX3_number_b21 N n x2 ((x3 * (10 : Int32)) + ((Tletters x4.toNatClampNeg) - (48 : Int32))) (x4 + (1 : Int32)) Tletters
        else
          some (-1 : Int32))))
def fX3_number (N : Nat) (p0 : Int32) (p1 : Int32) (Tletters : Nat → Int32) : Option (Int32) :=
  (if (p1 - p0) < (1 : Int32) then
    some (-1 : Int32)
  else
    (if (p1 - p0) ≤ (2 : Int32) then
      fX3_number_b21 N N p1 (0 : Int32) p0 Tletters
    else
      some (-1 : Int32)))
def fX3_readCandidates (N : Nat) (p1 : Int32) (p2 : Int32) (Tletters : Nat → Int32) (Ccandidates : Int32) (Cballots : Int32) (Cseats : Int32) (Cwithdrawn : Int32) (Crank : Nat → Int32) : Option (Int32 × (Int32) × (Int32) × (Int32) × (Int32) × (Nat → Int32)) :=
  (fX3_number N p1 p2 Tletters).bind fun u1 =>
    (if Ccandidates = 0 then
    (if u1 < (1 : Int32) then
      some ((0 : Int32), Ccandidates, Cballots, Cseats, Cwithdrawn, Crank)
    else
      (if u1 ≤ (8 : Int32) then
        (fX0_beginWith N u1 Ccandidates Cballots Cseats Cwithdrawn Crank).bind fun u6 =>
          some ((1 : Int32), u6.1, u6.2.1, u6.2.2.1, u6.2.2.2.1, u6.2.2.2.2)
      else
        some ((0 : Int32), Ccandidates, Cballots, Cseats, Cwithdrawn, Crank)))
  else
    some ((0 : Int32), Ccandidates, Cballots, Cseats, Cwithdrawn, Crank))
def fX3_risingSet_b9 (N : Nat) : Nat → Int32 → Int32 → Int32 → Int32 → Int32 → (Nat → Int32) → Option (Int32)
  | 0, _, _, _, _, _, _ => none
  | n + 1, x1, x3, x4, x5, x6, Tletters =>
    (if x3 ≤ x6 then
      some x4
    else
      if x6 < 0 ∨ 200 ≤ x6.toNatClampNeg then none else
        (if ((Tletters x6.toNatClampNeg) - (97 : Int32)) < x5 then
        some (0 : Int32)
      else
        (if ((Tletters x6.toNatClampNeg) - (97 : Int32)) < x1 then
          fX3_risingSet_b9 N n x1 x3 (x4 ||| ((1 : Int32) <<< (((Tletters x6.toNatClampNeg) - (97 : Int32)) &&& 31))) (((Tletters x6.toNatClampNeg) - (97 : Int32)) + (1 : Int32)) (x6 + (1 : Int32)) Tletters
        else
          some (0 : Int32))))
def fX3_risingSet (N : Nat) (p0 : Int32) (p1 : Int32) (p2 : Int32) (Tletters : Nat → Int32) : Option (Int32) :=
  fX3_risingSet_b9 N N p0 p2 (0 : Int32) (0 : Int32) p1 Tletters
def fX4_isVoters (N : Nat) (p0 : Int32) : Option (Int32) :=
  (if p0 < (1 : Int32) then
    some (0 : Int32)
  else
    (if (20 : Int32) < p0 then
      some (0 : Int32)
    else
      some (1 : Int32)))
def fX3_readBallot_b27 (N : Nat) (x2 : Int32) (x3 : Int32) (x4 : Int32) (Tletters : Nat → Int32) (Ccandidates : Int32) (Cballots : Int32) (Cvoters : Nat → Int32) (Csets : Nat → Int32) : Option (Int32 × (Int32) × (Nat → Int32) × (Nat → Int32)) :=
  (fX3_number N x2 x4 Tletters).bind fun u1 =>
    (fX3_risingSet N Ccandidates (x4 + (1 : Int32)) x3 Tletters).bind fun u3 =>
    (fX4_isVoters N u1).bind fun u5 =>
    (if u5 = 0 then
    some ((0 : Int32), Cballots, Cvoters, Csets)
  else
    (if u3 = 0 then
      some ((0 : Int32), Cballots, Cvoters, Csets)
    else
      (if (10 : Int32) ≤ Cballots then
        some ((0 : Int32), Cballots, Cvoters, Csets)
      else
        (fX0_allVoters N Cballots Cvoters Csets).bind fun u10 =>
          (if (u10 + u1) ≤ (40 : Int32) then
          (fX0_addBallot N u1 u3 Cballots Cvoters Csets).bind fun u13 =>
            some ((1 : Int32), u13.1, u13.2.1, u13.2.2)
        else
          some ((0 : Int32), Cballots, Cvoters, Csets)))))
def fX3_readBallot_b3 (N : Nat) : Nat → Int32 → Int32 → Int32 → (Nat → Int32) → Int32 → Int32 → (Nat → Int32) → (Nat → Int32) → Option (Int32 × (Int32) × (Nat → Int32) × (Nat → Int32))
  | 0, _, _, _, _, _, _, _, _ => none
  | n + 1, x2, x3, x4, Tletters, Ccandidates, Cballots, Cvoters, Csets =>
    (if x3 ≤ x4 then
      fX3_readBallot_b27 N x2 x3 x4 Tletters Ccandidates Cballots Cvoters Csets
    else
      if x4 < 0 ∨ 200 ≤ x4.toNatClampNeg then none else
        (if (Tletters x4.toNatClampNeg) = (44 : Int32) then
        fX3_readBallot_b27 N x2 x3 x4 Tletters Ccandidates Cballots Cvoters Csets
      else
        fX3_readBallot_b3 N n x2 x3 (x4 + (1 : Int32)) Tletters Ccandidates Cballots Cvoters Csets))
def fX3_readBallot (N : Nat) (p1 : Int32) (p2 : Int32) (Tletters : Nat → Int32) (Ccandidates : Int32) (Cballots : Int32) (Cvoters : Nat → Int32) (Csets : Nat → Int32) : Option (Int32 × (Int32) × (Nat → Int32) × (Nat → Int32)) :=
  fX3_readBallot_b3 N N p1 p2 p1 Tletters Ccandidates Cballots Cvoters Csets
def fX3_readSeats (N : Nat) (p1 : Int32) (p2 : Int32) (Tletters : Nat → Int32) (Cseats : Int32) : Option (Int32 × (Int32)) :=
  (fX3_number N p1 p2 Tletters).bind fun u1 =>
    (if u1 < (1 : Int32) then
    some ((0 : Int32), Cseats)
  else
    (if u1 ≤ (8 : Int32) then
      some ((1 : Int32), u1)
    else
      some ((0 : Int32), Cseats)))
def fX3_readRank_b18 (N : Nat) : Nat → Int32 → Int32 → Int32 → (Nat → Int32) → Int32 → (Nat → Int32) → Option (Int32 × (Nat → Int32))
  | 0, _, _, _, _, _, _ => none
  | n + 1, x2, x4, x5, Tletters, Ccandidates, Crank =>
    (if Ccandidates ≤ x5 then
      some ((1 : Int32), Crank)
    else
      if (x2 + x5) < 0 ∨ 200 ≤ (x2 + x5).toNatClampNeg then none else
        (if ((Tletters ((x2 + x5).toNatClampNeg)) - (97 : Int32)) < 0 then
        some ((0 : Int32), Crank)
      else
        (if Ccandidates ≤ ((Tletters ((x2 + x5).toNatClampNeg)) - (97 : Int32)) then
          some ((0 : Int32), Crank)
        else
          (fX4_hasBit N x4 ((Tletters ((x2 + x5).toNatClampNeg)) - (97 : Int32))).bind fun u5 =>
            (if u5 = 0 then
            if x5 < 0 ∨ 8 ≤ x5.toNatClampNeg then none else
              fX3_readRank_b18 N n x2 (x4 ||| ((1 : Int32) <<< (((Tletters ((x2 + x5).toNatClampNeg)) - (97 : Int32)) &&& 31))) (x5 + (1 : Int32)) Tletters Ccandidates (upd Crank x5.toNatClampNeg ((Tletters ((x2 + x5).toNatClampNeg)) - (97 : Int32)))
          else
            some ((0 : Int32), Crank)))))
def fX3_readRank (N : Nat) (p1 : Int32) (p2 : Int32) (Tletters : Nat → Int32) (Ccandidates : Int32) (Crank : Nat → Int32) : Option (Int32 × (Nat → Int32)) :=
  (if (p2 - p1) = Ccandidates then
    fX3_readRank_b18 N N p1 (0 : Int32) (0 : Int32) Tletters Ccandidates Crank
  else
    some ((0 : Int32), Crank))
def fX3_readItem (N : Nat) (p1 : Int32) (p2 : Int32) (Tletters : Nat → Int32) (Ccandidates : Int32) (Cballots : Int32) (Cseats : Int32) (Cwithdrawn : Int32) (Cvoters : Nat → Int32) (Csets : Nat → Int32) (Crank : Nat → Int32) : Option (Int32 × (Int32) × (Int32) × (Int32) × (Int32) × (Nat → Int32) × (Nat → Int32) × (Nat → Int32)) :=
  (if p1 < p2 then
    if p1 < 0 ∨ 200 ≤ p1.toNatClampNeg then none else
      (if (Tletters p1.toNatClampNeg) = (110 : Int32) then
      (fX3_readCandidates N (p1 + (1 : Int32)) p2 Tletters Ccandidates Cballots Cseats Cwithdrawn Crank).bind fun u17 =>
        if ¬ (u17.1 = 0 ∨ u17.1 = 1) then none else
        some (u17.1, u17.2.1, u17.2.2.1, u17.2.2.2.1, u17.2.2.2.2.1, Cvoters, Csets, u17.2.2.2.2.2)
    else
      (if Ccandidates = 0 then
        some ((0 : Int32), Ccandidates, Cballots, Cseats, Cwithdrawn, Cvoters, Csets, Crank)
      else
        (if (Tletters p1.toNatClampNeg) = 98 then
          (fX3_readBallot N (p1 + (1 : Int32)) p2 Tletters Ccandidates Cballots Cvoters Csets).bind fun u6 =>
            if ¬ (u6.1 = 0 ∨ u6.1 = 1) then none else
            some (u6.1, Ccandidates, u6.2.1, Cseats, Cwithdrawn, u6.2.2.1, u6.2.2.2, Crank)
        else
          (if (Tletters p1.toNatClampNeg) = 107 then
            (fX3_readSeats N (p1 + (1 : Int32)) p2 Tletters Cseats).bind fun u10 =>
              if ¬ (u10.1 = 0 ∨ u10.1 = 1) then none else
              some (u10.1, Ccandidates, Cballots, u10.2, Cwithdrawn, Cvoters, Csets, Crank)
          else
            (if (Tletters p1.toNatClampNeg) = 111 then
              (fX3_readRank N (p1 + (1 : Int32)) p2 Tletters Ccandidates Crank).bind fun u14 =>
                if ¬ (u14.1 = 0 ∨ u14.1 = 1) then none else
                some (u14.1, Ccandidates, Cballots, Cseats, Cwithdrawn, Cvoters, Csets, u14.2)
            else
              some ((0 : Int32), Ccandidates, Cballots, Cseats, Cwithdrawn, Cvoters, Csets, Crank))))))
  else
    some ((0 : Int32), Ccandidates, Cballots, Cseats, Cwithdrawn, Cvoters, Csets, Crank))
def fX3_readInto_b50 (N : Nat) (x2 : Int32) (Tlength : Int32) (Ccandidates : Int32) (Cballots : Int32) (Cseats : Int32) (Cwithdrawn : Int32) (Cvoters : Nat → Int32) (Csets : Nat → Int32) (Crank : Nat → Int32) : Option (Int32 × (Int32) × (Int32) × (Int32) × (Int32) × (Nat → Int32) × (Nat → Int32) × (Nat → Int32)) :=
  (if Tlength ≤ x2 then
    some ((-4 : Int32), Ccandidates, Cballots, Cseats, Cwithdrawn, Cvoters, Csets, Crank)
  else
    some (x2, Ccandidates, Cballots, Cseats, Cwithdrawn, Cvoters, Csets, Crank))
def fX3_readInto_b44 (N : Nat) (k9 : Int32 → Int32 → (Nat → Int32) → Int32 → Int32 → Int32 → Int32 → Int32 → (Nat → Int32) → (Nat → Int32) → (Nat → Int32) → Option (Int32 × (Int32) × (Int32) × (Int32) × (Int32) × (Nat → Int32) × (Nat → Int32) × (Nat → Int32))) (x2 : Int32) (x3 : Int32) (Tletters : Nat → Int32) (Tlength : Int32) (Ccandidates : Int32) (Cballots : Int32) (Cseats : Int32) (Cwithdrawn : Int32) (Cvoters : Nat → Int32) (Csets : Nat → Int32) (Crank : Nat → Int32) : Option (Int32 × (Int32) × (Int32) × (Int32) × (Int32) × (Nat → Int32) × (Nat → Int32) × (Nat → Int32)) :=
  k9 x2 (x3 + (1 : Int32)) Tletters Tlength Ccandidates Cballots Cseats Cwithdrawn Cvoters Csets Crank
def fX3_readInto_b9 (N : Nat) : Nat → Int32 → Int32 → (Nat → Int32) → Int32 → Int32 → Int32 → Int32 → Int32 → (Nat → Int32) → (Nat → Int32) → (Nat → Int32) → Option (Int32 × (Int32) × (Int32) × (Int32) × (Int32) × (Nat → Int32) × (Nat → Int32) × (Nat → Int32))
  | 0, _, _, _, _, _, _, _, _, _, _, _ => none
  | n + 1, x2, x3, Tletters, Tlength, Ccandidates, Cballots, Cseats, Cwithdrawn, Cvoters, Csets, Crank =>
    (if Tlength ≤ x3 then
      fX3_readInto_b50 N x2 Tlength Ccandidates Cballots Cseats Cwithdrawn Cvoters Csets Crank
    else
      if x3 < 0 ∨ 200 ≤ x3.toNatClampNeg then none else
        (if (Tletters x3.toNatClampNeg) = (59 : Int32) then
        (fX3_readItem N x2 x3 Tletters Ccandidates Cballots Cseats Cwithdrawn Cvoters Csets Crank).bind fun u5 =>
          (if u5.1 = 0 then
          some (x2, u5.2.1, u5.2.2.1, u5.2.2.2.1, u5.2.2.2.2.1, u5.2.2.2.2.2.1, u5.2.2.2.2.2.2.1, u5.2.2.2.2.2.2.2)
        else
          fX3_readInto_b44 N (fun z0 z1 z2 z3 z4 z5 z6 z7 z8 z9 z10 => fX3_readInto_b9 N n z0 z1 z2 z3 z4 z5 z6 z7 z8 z9 z10) (x3 + (1 : Int32)) x3 Tletters Tlength u5.2.1 u5.2.2.1 u5.2.2.2.1 u5.2.2.2.2.1 u5.2.2.2.2.2.1 u5.2.2.2.2.2.2.1 u5.2.2.2.2.2.2.2)
      else
        fX3_readInto_b44 N (fun z0 z1 z2 z3 z4 z5 z6 z7 z8 z9 z10 => fX3_readInto_b9 N n z0 z1 z2 z3 z4 z5 z6 z7 z8 z9 z10) x2 x3 Tletters Tlength Ccandidates Cballots Cseats Cwithdrawn Cvoters Csets Crank))
def fX3_readInto (N : Nat) (Tletters : Nat → Int32) (Tlength : Int32) (Ccandidates : Int32) (Cballots : Int32) (Cseats : Int32) (Cwithdrawn : Int32) (Cvoters : Nat → Int32) (Csets : Nat → Int32) (Crank : Nat → Int32) : Option (Int32 × (Int32) × (Int32) × (Int32) × (Int32) × (Nat → Int32) × (Nat → Int32) × (Nat → Int32)) :=
  (fX0_beginWith N (0 : Int32) Ccandidates Cballots Cseats Cwithdrawn Crank).bind fun u8 =>
    fX3_readInto_b9 N N (0 : Int32) (0 : Int32) Tletters Tlength u8.1 u8.2.1 u8.2.2.1 u8.2.2.2.1 Cvoters Csets u8.2.2.2.2
def fX4_write (N : Nat) (p0 : Int32) (Tletters : Nat → Int32) (Tlength : Int32) : Option (Int32 × (Nat → Int32) × (Int32)) :=
  (if p0 < (32 : Int32) then
    some ((-1 : Int32), Tletters, Tlength)
  else
    (if p0 ≤ (126 : Int32) then
      (fX3_add N p0 Tletters Tlength).bind fun u3 =>
        (if u3.1 = 0 then
        some ((-3 : Int32), u3.2.1, u3.2.2)
      else
        some (u3.2.2, u3.2.1, u3.2.2))
    else
      some ((-1 : Int32), Tletters, Tlength)))
def fX4_wipe (N : Nat) (Tlength : Int32) : Option (Int32 × (Int32)) :=
  (fX3_clear N Tlength).bind fun u1 =>
    some (Tlength, u1)
def fX4_fault (N : Nat) (Tletters : Nat → Int32) (Tlength : Int32) (Rcandidates : Int32) (Rballots : Int32) (Rseats : Int32) (Rwithdrawn : Int32) (Rvoters : Nat → Int32) (Rsets : Nat → Int32) (Rrank : Nat → Int32) : Option (Int32 × (Int32) × (Int32) × (Int32) × (Int32) × (Nat → Int32) × (Nat → Int32) × (Nat → Int32)) :=
  (fX3_readInto N Tletters Tlength Rcandidates Rballots Rseats Rwithdrawn Rvoters Rsets Rrank).bind fun u1 =>
    some (u1.1, u1.2.1, u1.2.2.1, u1.2.2.2.1, u1.2.2.2.2.1, u1.2.2.2.2.2.1, u1.2.2.2.2.2.2.1, u1.2.2.2.2.2.2.2)
def fX4_lay (N : Nat) (Tletters : Nat → Int32) (Tlength : Int32) (Psize : Int32) (Ncandidates : Int32) (Nballots : Int32) (Nseats : Int32) (Nwithdrawn : Int32) (Nvoters : Nat → Int32) (Nsets : Nat → Int32) (Nrank : Nat → Int32) (Rcandidates : Int32) (Rballots : Int32) (Rseats : Int32) (Rwithdrawn : Int32) (Rvoters : Nat → Int32) (Rsets : Nat → Int32) (Rrank : Nat → Int32) : Option (Int32 × (Int32) × (Int32) × (Int32) × (Int32) × (Int32) × (Nat → Int32) × (Nat → Int32) × (Nat → Int32) × (Int32) × (Int32) × (Int32) × (Int32) × (Nat → Int32) × (Nat → Int32) × (Nat → Int32)) :=
  (fX3_readInto N Tletters Tlength Rcandidates Rballots Rseats Rwithdrawn Rvoters Rsets Rrank).bind fun u1 =>
    (if u1.1 = (-4 : Int32) then
    (if u1.2.1 = 0 then
      some ((-2 : Int32), Psize, Ncandidates, Nballots, Nseats, Nwithdrawn, Nvoters, Nsets, Nrank, u1.2.1, u1.2.2.1, u1.2.2.2.1, u1.2.2.2.2.1, u1.2.2.2.2.2.1, u1.2.2.2.2.2.2.1, u1.2.2.2.2.2.2.2)
    else
      (fX0_copyFrom N Ncandidates Nballots Nseats Nwithdrawn Nvoters Nsets Nrank u1.2.1 u1.2.2.1 u1.2.2.2.1 u1.2.2.2.2.1 u1.2.2.2.2.2.1 u1.2.2.2.2.2.2.1 u1.2.2.2.2.2.2.2).bind fun u5 =>
        (fX2_forget N Psize).bind fun u7 =>
        some (u5.1, u7, u5.1, u5.2.1, u5.2.2.1, u5.2.2.2.1, u5.2.2.2.2.1, u5.2.2.2.2.2.1, u5.2.2.2.2.2.2, u1.2.1, u1.2.2.1, u1.2.2.2.1, u1.2.2.2.2.1, u1.2.2.2.2.2.1, u1.2.2.2.2.2.2.1, u1.2.2.2.2.2.2.2))
  else
    some ((-2 : Int32), Psize, Ncandidates, Nballots, Nseats, Nwithdrawn, Nvoters, Nsets, Nrank, u1.2.1, u1.2.2.1, u1.2.2.2.1, u1.2.2.2.2.1, u1.2.2.2.2.2.1, u1.2.2.2.2.2.2.1, u1.2.2.2.2.2.2.2))
def fX4_isSet (N : Nat) (p0 : Int32) (Ncandidates : Int32) : Option (Int32) :=
  (if p0 < (1 : Int32) then
    some (0 : Int32)
  else
    (if ((1 : Int32) <<< (Ncandidates &&& 31)) ≤ p0 then
      some (0 : Int32)
    else
      some (1 : Int32)))
def fX4_ballot (N : Nat) (p0 : Int32) (p1 : Int32) (Ptop : Int32) (Psize : Int32) (Ncandidates : Int32) (Nballots : Int32) (Nseats : Int32) (Nwithdrawn : Int32) (Nvoters : Nat → Int32) (Nsets : Nat → Int32) (Nrank : Nat → Int32) (Qcandidates : Int32) (Qballots : Int32) (Qseats : Int32) (Qwithdrawn : Int32) (Qvoters : Nat → Int32) (Qsets : Nat → Int32) (Qrank : Nat → Int32) : Option (Int32 × (Int32) × (Int32) × (Int32) × (Nat → Int32) × (Nat → Int32) × (Int32) × (Int32) × (Int32) × (Int32) × (Nat → Int32) × (Nat → Int32) × (Nat → Int32)) :=
  (fX4_isVoters N p0).bind fun u1 =>
    (if u1 = 0 then
    some ((-1 : Int32), Ptop, Psize, Nballots, Nvoters, Nsets, Qcandidates, Qballots, Qseats, Qwithdrawn, Qvoters, Qsets, Qrank)
  else
    (fX4_isSet N p1 Ncandidates).bind fun u4 =>
      (if u4 = 0 then
      some ((-1 : Int32), Ptop, Psize, Nballots, Nvoters, Nsets, Qcandidates, Qballots, Qseats, Qwithdrawn, Qvoters, Qsets, Qrank)
    else
      (if (10 : Int32) ≤ Nballots then
        some ((-3 : Int32), Ptop, Psize, Nballots, Nvoters, Nsets, Qcandidates, Qballots, Qseats, Qwithdrawn, Qvoters, Qsets, Qrank)
      else
        (fX0_allVoters N Nballots Nvoters Nsets).bind fun u8 =>
          (if (u8 + p0) ≤ (40 : Int32) then
          (fX2_keep N Ptop Psize Ncandidates Nballots Nseats Nwithdrawn Nvoters Nsets Nrank Qcandidates Qballots Qseats Qwithdrawn Qvoters Qsets Qrank).bind fun u11 =>
            (fX0_addBallot N p0 p1 Nballots Nvoters Nsets).bind fun u13 =>
            some ((u13.1 - (1 : Int32)), u11.1, u11.2.1, u13.1, u13.2.1, u13.2.2, u11.2.2.1, u11.2.2.2.1, u11.2.2.2.2.1, u11.2.2.2.2.2.1, u11.2.2.2.2.2.2.1, u11.2.2.2.2.2.2.2.1, u11.2.2.2.2.2.2.2.2)
        else
          some ((-3 : Int32), Ptop, Psize, Nballots, Nvoters, Nsets, Qcandidates, Qballots, Qseats, Qwithdrawn, Qvoters, Qsets, Qrank)))))
def fX4_isBallot (N : Nat) (p0 : Int32) (Nballots : Int32) : Option (Int32) :=
  (if p0 < 0 then
    some (0 : Int32)
  else
    (if Nballots ≤ p0 then
      some (0 : Int32)
    else
      some (1 : Int32)))
def fX4_voters (N : Nat) (p0 : Int32) (p1 : Int32) (Ptop : Int32) (Psize : Int32) (Ncandidates : Int32) (Nballots : Int32) (Nseats : Int32) (Nwithdrawn : Int32) (Nvoters : Nat → Int32) (Nsets : Nat → Int32) (Nrank : Nat → Int32) (Qcandidates : Int32) (Qballots : Int32) (Qseats : Int32) (Qwithdrawn : Int32) (Qvoters : Nat → Int32) (Qsets : Nat → Int32) (Qrank : Nat → Int32) : Option (Int32 × (Int32) × (Int32) × (Nat → Int32) × (Int32) × (Int32) × (Int32) × (Int32) × (Nat → Int32) × (Nat → Int32) × (Nat → Int32)) :=
  (fX4_isBallot N p0 Nballots).bind fun u1 =>
    (if u1 = 0 then
    some ((-1 : Int32), Ptop, Psize, Nvoters, Qcandidates, Qballots, Qseats, Qwithdrawn, Qvoters, Qsets, Qrank)
  else
    (fX4_isVoters N p1).bind fun u4 =>
      (if u4 = 0 then
      some ((-1 : Int32), Ptop, Psize, Nvoters, Qcandidates, Qballots, Qseats, Qwithdrawn, Qvoters, Qsets, Qrank)
    else
      if p0 < 0 ∨ 11 ≤ p0.toNatClampNeg then none else
        (if (Nvoters p0.toNatClampNeg) = p1 then
        some ((-2 : Int32), Ptop, Psize, Nvoters, Qcandidates, Qballots, Qseats, Qwithdrawn, Qvoters, Qsets, Qrank)
      else
        (fX0_allVoters N Nballots Nvoters Nsets).bind fun u9 =>
          (if ((u9 - (Nvoters p0.toNatClampNeg)) + p1) ≤ (40 : Int32) then
          (fX2_keep N Ptop Psize Ncandidates Nballots Nseats Nwithdrawn Nvoters Nsets Nrank Qcandidates Qballots Qseats Qwithdrawn Qvoters Qsets Qrank).bind fun u12 =>
            some ((Nvoters p0.toNatClampNeg), u12.1, u12.2.1, (upd Nvoters p0.toNatClampNeg p1), u12.2.2.1, u12.2.2.2.1, u12.2.2.2.2.1, u12.2.2.2.2.2.1, u12.2.2.2.2.2.2.1, u12.2.2.2.2.2.2.2.1, u12.2.2.2.2.2.2.2.2)
        else
          some ((-3 : Int32), Ptop, Psize, Nvoters, Qcandidates, Qballots, Qseats, Qwithdrawn, Qvoters, Qsets, Qrank)))))
def fX4_approve (N : Nat) (p0 : Int32) (p1 : Int32) (Ptop : Int32) (Psize : Int32) (Ncandidates : Int32) (Nballots : Int32) (Nseats : Int32) (Nwithdrawn : Int32) (Nvoters : Nat → Int32) (Nsets : Nat → Int32) (Nrank : Nat → Int32) (Qcandidates : Int32) (Qballots : Int32) (Qseats : Int32) (Qwithdrawn : Int32) (Qvoters : Nat → Int32) (Qsets : Nat → Int32) (Qrank : Nat → Int32) : Option (Int32 × (Int32) × (Int32) × (Nat → Int32) × (Int32) × (Int32) × (Int32) × (Int32) × (Nat → Int32) × (Nat → Int32) × (Nat → Int32)) :=
  (fX4_isBallot N p0 Nballots).bind fun u1 =>
    (if u1 = 0 then
    some ((-1 : Int32), Ptop, Psize, Nsets, Qcandidates, Qballots, Qseats, Qwithdrawn, Qvoters, Qsets, Qrank)
  else
    (fX4_isSet N p1 Ncandidates).bind fun u4 =>
      (if u4 = 0 then
      some ((-1 : Int32), Ptop, Psize, Nsets, Qcandidates, Qballots, Qseats, Qwithdrawn, Qvoters, Qsets, Qrank)
    else
      if p0 < 0 ∨ 11 ≤ p0.toNatClampNeg then none else
        (if (Nsets p0.toNatClampNeg) = p1 then
        some ((-2 : Int32), Ptop, Psize, Nsets, Qcandidates, Qballots, Qseats, Qwithdrawn, Qvoters, Qsets, Qrank)
      else
        (fX2_keep N Ptop Psize Ncandidates Nballots Nseats Nwithdrawn Nvoters Nsets Nrank Qcandidates Qballots Qseats Qwithdrawn Qvoters Qsets Qrank).bind fun u9 =>
          some ((Nsets p0.toNatClampNeg), u9.1, u9.2.1, (upd Nsets p0.toNatClampNeg p1), u9.2.2.1, u9.2.2.2.1, u9.2.2.2.2.1, u9.2.2.2.2.2.1, u9.2.2.2.2.2.2.1, u9.2.2.2.2.2.2.2.1, u9.2.2.2.2.2.2.2.2))))
def fX4_seats (N : Nat) (p0 : Int32) (Ptop : Int32) (Psize : Int32) (Ncandidates : Int32) (Nballots : Int32) (Nseats : Int32) (Nwithdrawn : Int32) (Nvoters : Nat → Int32) (Nsets : Nat → Int32) (Nrank : Nat → Int32) (Qcandidates : Int32) (Qballots : Int32) (Qseats : Int32) (Qwithdrawn : Int32) (Qvoters : Nat → Int32) (Qsets : Nat → Int32) (Qrank : Nat → Int32) : Option (Int32 × (Int32) × (Int32) × (Int32) × (Int32) × (Int32) × (Int32) × (Int32) × (Nat → Int32) × (Nat → Int32) × (Nat → Int32)) :=
  (if p0 < (1 : Int32) then
    some ((-1 : Int32), Ptop, Psize, Nseats, Qcandidates, Qballots, Qseats, Qwithdrawn, Qvoters, Qsets, Qrank)
  else
    (if p0 ≤ (8 : Int32) then
      (if Nseats = p0 then
        some ((-2 : Int32), Ptop, Psize, Nseats, Qcandidates, Qballots, Qseats, Qwithdrawn, Qvoters, Qsets, Qrank)
      else
        (fX2_keep N Ptop Psize Ncandidates Nballots Nseats Nwithdrawn Nvoters Nsets Nrank Qcandidates Qballots Qseats Qwithdrawn Qvoters Qsets Qrank).bind fun u4 =>
          some (Nseats, u4.1, u4.2.1, p0, u4.2.2.1, u4.2.2.2.1, u4.2.2.2.2.1, u4.2.2.2.2.2.1, u4.2.2.2.2.2.2.1, u4.2.2.2.2.2.2.2.1, u4.2.2.2.2.2.2.2.2))
    else
      some ((-1 : Int32), Ptop, Psize, Nseats, Qcandidates, Qballots, Qseats, Qwithdrawn, Qvoters, Qsets, Qrank)))
def fX4_isCandidate (N : Nat) (p0 : Int32) (Ncandidates : Int32) : Option (Int32) :=
  (if p0 < 0 then
    some (0 : Int32)
  else
    (if Ncandidates ≤ p0 then
      some (0 : Int32)
    else
      some (1 : Int32)))
def fX4_withdraw_b37 (N : Nat) (x1 : Int32) (t0 : Int32) (t1 : Int32) (Ptop : Int32) (Psize : Int32) (Ncandidates : Int32) (Nballots : Int32) (Nseats : Int32) (Nwithdrawn : Int32) (Nvoters : Nat → Int32) (Nsets : Nat → Int32) (Nrank : Nat → Int32) (Qcandidates : Int32) (Qballots : Int32) (Qseats : Int32) (Qwithdrawn : Int32) (Qvoters : Nat → Int32) (Qsets : Nat → Int32) (Qrank : Nat → Int32) : Option (Int32 × (Int32) × (Int32) × (Int32) × (Int32) × (Int32) × (Int32) × (Int32) × (Nat → Int32) × (Nat → Int32) × (Nat → Int32)) :=
  (if t0 = t1 then
    some ((-2 : Int32), Ptop, Psize, Nwithdrawn, Qcandidates, Qballots, Qseats, Qwithdrawn, Qvoters, Qsets, Qrank)
  else
    (fX2_keep N Ptop Psize Ncandidates Nballots Nseats Nwithdrawn Nvoters Nsets Nrank Qcandidates Qballots Qseats Qwithdrawn Qvoters Qsets Qrank).bind fun u2 =>
      (fJ6_bitCount_0f7a4 N (Nwithdrawn ^^^ ((1 : Int32) <<< (x1 &&& 31)))).bind fun u4 =>
      some (u4, u2.1, u2.2.1, (Nwithdrawn ^^^ ((1 : Int32) <<< (x1 &&& 31))), u2.2.2.1, u2.2.2.2.1, u2.2.2.2.2.1, u2.2.2.2.2.2.1, u2.2.2.2.2.2.2.1, u2.2.2.2.2.2.2.2.1, u2.2.2.2.2.2.2.2.2))
def fX4_withdraw (N : Nat) (p0 : Int32) (p1 : Int32) (Ptop : Int32) (Psize : Int32) (Ncandidates : Int32) (Nballots : Int32) (Nseats : Int32) (Nwithdrawn : Int32) (Nvoters : Nat → Int32) (Nsets : Nat → Int32) (Nrank : Nat → Int32) (Qcandidates : Int32) (Qballots : Int32) (Qseats : Int32) (Qwithdrawn : Int32) (Qvoters : Nat → Int32) (Qsets : Nat → Int32) (Qrank : Nat → Int32) : Option (Int32 × (Int32) × (Int32) × (Int32) × (Int32) × (Int32) × (Int32) × (Int32) × (Nat → Int32) × (Nat → Int32) × (Nat → Int32)) :=
  (fX4_isCandidate N p0 Ncandidates).bind fun u6 =>
    (if u6 = 0 then
    some ((-1 : Int32), Ptop, Psize, Nwithdrawn, Qcandidates, Qballots, Qseats, Qwithdrawn, Qvoters, Qsets, Qrank)
  else
    (if p1 < 0 then
      some ((-1 : Int32), Ptop, Psize, Nwithdrawn, Qcandidates, Qballots, Qseats, Qwithdrawn, Qvoters, Qsets, Qrank)
    else
      (if p1 ≤ (1 : Int32) then
        (fX0_isWithdrawn N p0 Nwithdrawn).bind fun u11 =>
          (if p1 = (1 : Int32) then
          fX4_withdraw_b37 N p0 u11 (1 : Int32) Ptop Psize Ncandidates Nballots Nseats Nwithdrawn Nvoters Nsets Nrank Qcandidates Qballots Qseats Qwithdrawn Qvoters Qsets Qrank
        else
          fX4_withdraw_b37 N p0 u11 (0 : Int32) Ptop Psize Ncandidates Nballots Nseats Nwithdrawn Nvoters Nsets Nrank Qcandidates Qballots Qseats Qwithdrawn Qvoters Qsets Qrank)
      else
        some ((-1 : Int32), Ptop, Psize, Nwithdrawn, Qcandidates, Qballots, Qseats, Qwithdrawn, Qvoters, Qsets, Qrank))))
def fX4_prefer (N : Nat) (p0 : Int32) (Ptop : Int32) (Psize : Int32) (Ncandidates : Int32) (Nballots : Int32) (Nseats : Int32) (Nwithdrawn : Int32) (Nvoters : Nat → Int32) (Nsets : Nat → Int32) (Nrank : Nat → Int32) (Qcandidates : Int32) (Qballots : Int32) (Qseats : Int32) (Qwithdrawn : Int32) (Qvoters : Nat → Int32) (Qsets : Nat → Int32) (Qrank : Nat → Int32) : Option (Int32 × (Int32) × (Int32) × (Nat → Int32) × (Int32) × (Int32) × (Int32) × (Int32) × (Nat → Int32) × (Nat → Int32) × (Nat → Int32)) :=
  (fX4_isCandidate N p0 Ncandidates).bind fun u1 =>
    (if u1 = 0 then
    some ((-1 : Int32), Ptop, Psize, Nrank, Qcandidates, Qballots, Qseats, Qwithdrawn, Qvoters, Qsets, Qrank)
  else
    (fX0_placeOf N p0 Ncandidates Nrank).bind fun u4 =>
      (if u4 = 0 then
      some ((-2 : Int32), Ptop, Psize, Nrank, Qcandidates, Qballots, Qseats, Qwithdrawn, Qvoters, Qsets, Qrank)
    else
      (fX2_keep N Ptop Psize Ncandidates Nballots Nseats Nwithdrawn Nvoters Nsets Nrank Qcandidates Qballots Qseats Qwithdrawn Qvoters Qsets Qrank).bind fun u7 =>
        (fX0_bringToFront N u4 Nrank).bind fun u9 =>
        some (u4, u7.1, u7.2.1, u9, u7.2.2.1, u7.2.2.2.1, u7.2.2.2.2.1, u7.2.2.2.2.2.1, u7.2.2.2.2.2.2.1, u7.2.2.2.2.2.2.2.1, u7.2.2.2.2.2.2.2.2)))
def fX4_undo (N : Nat) (Ptop : Int32) (Psize : Int32) (Ncandidates : Int32) (Nballots : Int32) (Nseats : Int32) (Nwithdrawn : Int32) (Nvoters : Nat → Int32) (Nsets : Nat → Int32) (Nrank : Nat → Int32) (Qcandidates : Int32) (Qballots : Int32) (Qseats : Int32) (Qwithdrawn : Int32) (Qvoters : Nat → Int32) (Qsets : Nat → Int32) (Qrank : Nat → Int32) : Option (Int32 × (Int32) × (Int32) × (Int32) × (Int32) × (Int32) × (Int32) × (Nat → Int32) × (Nat → Int32) × (Nat → Int32)) :=
  (if Psize = 0 then
    some ((-2 : Int32), Ptop, Psize, Ncandidates, Nballots, Nseats, Nwithdrawn, Nvoters, Nsets, Nrank)
  else
    (fX2_bringBack N Ptop Psize Ncandidates Nballots Nseats Nwithdrawn Nvoters Nsets Nrank Qcandidates Qballots Qseats Qwithdrawn Qvoters Qsets Qrank).bind fun u2 =>
      some (u2.2.1, u2.1, u2.2.1, u2.2.2.1, u2.2.2.2.1, u2.2.2.2.2.1, u2.2.2.2.2.2.1, u2.2.2.2.2.2.2.1, u2.2.2.2.2.2.2.2.1, u2.2.2.2.2.2.2.2.2))
def fX4_lawsThatElect_b34 (N : Nat) (k4 : Int32 → Int32 → Int32 → (Nat → Int32) → (Nat → Int64) → (Nat → Int64) → Int32 → Int32 → (Nat → Int32) → (Nat → Int64) → (Nat → Int64) → Int64 → Int32 → Int32 → Int32 → Int32 → (Nat → Int32) → (Nat → Int32) → (Nat → Int32) → Option (Int32 × (Nat → Int32) × (Nat → Int64) × (Nat → Int64) × (Int32) × (Int32) × (Nat → Int32) × (Nat → Int64) × (Nat → Int64) × (Int64))) (x1 : Int32) (x2 : Int32) (x3 : Int32) (Eorder : Nat → Int32) (Eabove : Nat → Int64) (Ebelow : Nat → Int64) (Eelected : Int32) (Eset : Int32) (Esupport : Nat → Int32) (Eworth : Nat → Int64) (Eloads : Nat → Int64) (Eunit : Int64) (Ncandidates : Int32) (Nballots : Int32) (Nseats : Int32) (Nwithdrawn : Int32) (Nvoters : Nat → Int32) (Nsets : Nat → Int32) (Nrank : Nat → Int32) : Option (Int32 × (Nat → Int32) × (Nat → Int64) × (Nat → Int64) × (Int32) × (Int32) × (Nat → Int32) × (Nat → Int64) × (Nat → Int64) × (Int64)) :=
  k4 x1 x2 (x3 + (1 : Int32)) Eorder Eabove Ebelow Eelected Eset Esupport Eworth Eloads Eunit Ncandidates Nballots Nseats Nwithdrawn Nvoters Nsets Nrank
def fX4_lawsThatElect_b4 (N : Nat) : Nat → Int32 → Int32 → Int32 → (Nat → Int32) → (Nat → Int64) → (Nat → Int64) → Int32 → Int32 → (Nat → Int32) → (Nat → Int64) → (Nat → Int64) → Int64 → Int32 → Int32 → Int32 → Int32 → (Nat → Int32) → (Nat → Int32) → (Nat → Int32) → Option (Int32 × (Nat → Int32) × (Nat → Int64) × (Nat → Int64) × (Int32) × (Int32) × (Nat → Int32) × (Nat → Int64) × (Nat → Int64) × (Int64))
  | 0, _, _, _, _, _, _, _, _, _, _, _, _, _, _, _, _, _, _, _ => none
  | n + 1, x1, x2, x3, Eorder, Eabove, Ebelow, Eelected, Eset, Esupport, Eworth, Eloads, Eunit, Ncandidates, Nballots, Nseats, Nwithdrawn, Nvoters, Nsets, Nrank =>
    (if (4 : Int32) ≤ x3 then
      some (x2, Eorder, Eabove, Ebelow, Eelected, Eset, Esupport, Eworth, Eloads, Eunit)
    else
      (fX1_hold N x3 Eorder Eabove Ebelow Eelected Eset Esupport Eworth Eloads Eunit Ncandidates Nballots Nseats Nwithdrawn Nvoters Nsets Nrank).bind fun u2 =>
        (fX4_hasBit N u2.1 x1).bind fun u4 =>
        (if u4 = 0 then
        fX4_lawsThatElect_b34 N (fun z0 z1 z2 z3 z4 z5 z6 z7 z8 z9 z10 z11 z12 z13 z14 z15 z16 z17 z18 => fX4_lawsThatElect_b4 N n z0 z1 z2 z3 z4 z5 z6 z7 z8 z9 z10 z11 z12 z13 z14 z15 z16 z17 z18) x1 x2 x3 u2.2.1 u2.2.2.1 u2.2.2.2.1 u2.2.2.2.2.1 u2.2.2.2.2.2.1 u2.2.2.2.2.2.2.1 u2.2.2.2.2.2.2.2.1 u2.2.2.2.2.2.2.2.2.1 u2.2.2.2.2.2.2.2.2.2 Ncandidates Nballots Nseats Nwithdrawn Nvoters Nsets Nrank
      else
        fX4_lawsThatElect_b34 N (fun z0 z1 z2 z3 z4 z5 z6 z7 z8 z9 z10 z11 z12 z13 z14 z15 z16 z17 z18 => fX4_lawsThatElect_b4 N n z0 z1 z2 z3 z4 z5 z6 z7 z8 z9 z10 z11 z12 z13 z14 z15 z16 z17 z18) x1 (x2 ||| ((1 : Int32) <<< (x3 &&& 31))) x3 u2.2.1 u2.2.2.1 u2.2.2.2.1 u2.2.2.2.2.1 u2.2.2.2.2.2.1 u2.2.2.2.2.2.2.1 u2.2.2.2.2.2.2.2.1 u2.2.2.2.2.2.2.2.2.1 u2.2.2.2.2.2.2.2.2.2 Ncandidates Nballots Nseats Nwithdrawn Nvoters Nsets Nrank))
def fX4_lawsThatElect (N : Nat) (p0 : Int32) (Eorder : Nat → Int32) (Eabove : Nat → Int64) (Ebelow : Nat → Int64) (Eelected : Int32) (Eset : Int32) (Esupport : Nat → Int32) (Eworth : Nat → Int64) (Eloads : Nat → Int64) (Eunit : Int64) (Ncandidates : Int32) (Nballots : Int32) (Nseats : Int32) (Nwithdrawn : Int32) (Nvoters : Nat → Int32) (Nsets : Nat → Int32) (Nrank : Nat → Int32) : Option (Int32 × (Nat → Int32) × (Nat → Int64) × (Nat → Int64) × (Int32) × (Int32) × (Nat → Int32) × (Nat → Int64) × (Nat → Int64) × (Int64)) :=
  fX4_lawsThatElect_b4 N N p0 (0 : Int32) (0 : Int32) Eorder Eabove Ebelow Eelected Eset Esupport Eworth Eloads Eunit Ncandidates Nballots Nseats Nwithdrawn Nvoters Nsets Nrank
def fX4_candidate (N : Nat) (p0 : Int32) (p1 : Int32) (Eorder : Nat → Int32) (Eabove : Nat → Int64) (Ebelow : Nat → Int64) (Eelected : Int32) (Eset : Int32) (Esupport : Nat → Int32) (Eworth : Nat → Int64) (Eloads : Nat → Int64) (Eunit : Int64) (Ncandidates : Int32) (Nballots : Int32) (Nseats : Int32) (Nwithdrawn : Int32) (Nvoters : Nat → Int32) (Nsets : Nat → Int32) (Nrank : Nat → Int32) : Option (Int32 × (Nat → Int32) × (Nat → Int64) × (Nat → Int64) × (Int32) × (Int32) × (Nat → Int32) × (Nat → Int64) × (Nat → Int64) × (Int64)) :=
  (fX4_isCandidate N p0 Ncandidates).bind fun u1 =>
    (if u1 = 0 then
    some ((-1 : Int32), Eorder, Eabove, Ebelow, Eelected, Eset, Esupport, Eworth, Eloads, Eunit)
  else
    (if p1 = 0 then
      (fX0_supportOf N p0 Nballots Nvoters Nsets).bind fun u5 =>
        some (u5, Eorder, Eabove, Ebelow, Eelected, Eset, Esupport, Eworth, Eloads, Eunit)
    else
      (if p1 = 1 then
        (fX0_placeOf N p0 Ncandidates Nrank).bind fun u8 =>
          some (u8, Eorder, Eabove, Ebelow, Eelected, Eset, Esupport, Eworth, Eloads, Eunit)
      else
        (if p1 = 2 then
          (fX0_isWithdrawn N p0 Nwithdrawn).bind fun u11 =>
            (if u11 = 0 then
            some ((0 : Int32), Eorder, Eabove, Ebelow, Eelected, Eset, Esupport, Eworth, Eloads, Eunit)
          else
            some ((1 : Int32), Eorder, Eabove, Ebelow, Eelected, Eset, Esupport, Eworth, Eloads, Eunit))
        else
          (if p1 = 3 then
            (fX4_lawsThatElect N p0 Eorder Eabove Ebelow Eelected Eset Esupport Eworth Eloads Eunit Ncandidates Nballots Nseats Nwithdrawn Nvoters Nsets Nrank).bind fun u15 =>
              some (u15.1, u15.2.1, u15.2.2.1, u15.2.2.2.1, u15.2.2.2.2.1, u15.2.2.2.2.2.1, u15.2.2.2.2.2.2.1, u15.2.2.2.2.2.2.2.1, u15.2.2.2.2.2.2.2.2.1, u15.2.2.2.2.2.2.2.2.2)
          else
            some ((-1 : Int32), Eorder, Eabove, Ebelow, Eelected, Eset, Esupport, Eworth, Eloads, Eunit))))))
def fX4_vote (N : Nat) (p0 : Int32) (p1 : Int32) (Eorder : Nat → Int32) (Eabove : Nat → Int64) (Ebelow : Nat → Int64) (Eelected : Int32) (Eset : Int32) (Esupport : Nat → Int32) (Eworth : Nat → Int64) (Eloads : Nat → Int64) (Eunit : Int64) (Ncandidates : Int32) (Nballots : Int32) (Nseats : Int32) (Nwithdrawn : Int32) (Nvoters : Nat → Int32) (Nsets : Nat → Int32) (Nrank : Nat → Int32) : Option (Int32 × (Nat → Int32) × (Nat → Int64) × (Nat → Int64) × (Int32) × (Int32) × (Nat → Int32) × (Nat → Int64) × (Nat → Int64) × (Int64)) :=
  (fX4_isBallot N p0 Nballots).bind fun u1 =>
    (if u1 = 0 then
    some ((-1 : Int32), Eorder, Eabove, Ebelow, Eelected, Eset, Esupport, Eworth, Eloads, Eunit)
  else
    (if p1 < 0 then
      some ((-1 : Int32), Eorder, Eabove, Ebelow, Eelected, Eset, Esupport, Eworth, Eloads, Eunit)
    else
      (if p1 ≤ (5 : Int32) then
        (if p1 = 0 then
          if p0 < 0 ∨ 11 ≤ p0.toNatClampNeg then none else
            some ((Nvoters p0.toNatClampNeg), Eorder, Eabove, Ebelow, Eelected, Eset, Esupport, Eworth, Eloads, Eunit)
        else
          (if p1 = (1 : Int32) then
            if p0 < 0 ∨ 11 ≤ p0.toNatClampNeg then none else
              some ((Nsets p0.toNatClampNeg), Eorder, Eabove, Ebelow, Eelected, Eset, Esupport, Eworth, Eloads, Eunit)
          else
            (fX1_hold N (p1 - (2 : Int32)) Eorder Eabove Ebelow Eelected Eset Esupport Eworth Eloads Eunit Ncandidates Nballots Nseats Nwithdrawn Nvoters Nsets Nrank).bind fun u8 =>
              if p0 < 0 ∨ 11 ≤ p0.toNatClampNeg then none else
              (fJ6_bitCount_0f7a4 N (u8.1 &&& (Nsets p0.toNatClampNeg))).bind fun u11 =>
              some (u11, u8.2.1, u8.2.2.1, u8.2.2.2.1, u8.2.2.2.2.1, u8.2.2.2.2.2.1, u8.2.2.2.2.2.2.1, u8.2.2.2.2.2.2.2.1, u8.2.2.2.2.2.2.2.2.1, u8.2.2.2.2.2.2.2.2.2)))
      else
        some ((-1 : Int32), Eorder, Eabove, Ebelow, Eelected, Eset, Esupport, Eworth, Eloads, Eunit))))
def fX4_isLaw (N : Nat) (p0 : Int32) : Option (Int32) :=
  (if p0 < 0 then
    some (0 : Int32)
  else
    (if (4 : Int32) ≤ p0 then
      some (0 : Int32)
    else
      some (1 : Int32)))
def fX4_member (N : Nat) (p0 : Int32) (p1 : Int32) (Eorder : Nat → Int32) (Eabove : Nat → Int64) (Ebelow : Nat → Int64) (Eelected : Int32) (Eset : Int32) (Esupport : Nat → Int32) (Eworth : Nat → Int64) (Eloads : Nat → Int64) (Eunit : Int64) (Ncandidates : Int32) (Nballots : Int32) (Nseats : Int32) (Nwithdrawn : Int32) (Nvoters : Nat → Int32) (Nsets : Nat → Int32) (Nrank : Nat → Int32) : Option (Int32 × (Nat → Int32) × (Nat → Int64) × (Nat → Int64) × (Int32) × (Int32) × (Nat → Int32) × (Nat → Int64) × (Nat → Int64) × (Int64)) :=
  (fX4_isLaw N p0).bind fun u1 =>
    (if u1 = 0 then
    some ((-1 : Int32), Eorder, Eabove, Ebelow, Eelected, Eset, Esupport, Eworth, Eloads, Eunit)
  else
    (if (-1 : Int32) ≤ p1 then
      (fX1_hold N p0 Eorder Eabove Ebelow Eelected Eset Esupport Eworth Eloads Eunit Ncandidates Nballots Nseats Nwithdrawn Nvoters Nsets Nrank).bind fun u5 =>
        (if p1 = (-1 : Int32) then
        some (u5.2.2.2.2.1, u5.2.1, u5.2.2.1, u5.2.2.2.1, u5.2.2.2.2.1, u5.2.2.2.2.2.1, u5.2.2.2.2.2.2.1, u5.2.2.2.2.2.2.2.1, u5.2.2.2.2.2.2.2.2.1, u5.2.2.2.2.2.2.2.2.2)
      else
        (if u5.2.2.2.2.1 ≤ p1 then
          some ((-4 : Int32), u5.2.1, u5.2.2.1, u5.2.2.2.1, u5.2.2.2.2.1, u5.2.2.2.2.2.1, u5.2.2.2.2.2.2.1, u5.2.2.2.2.2.2.2.1, u5.2.2.2.2.2.2.2.2.1, u5.2.2.2.2.2.2.2.2.2)
        else
          if p1 < 0 ∨ 8 ≤ p1.toNatClampNeg then none else
            some ((u5.2.1 p1.toNatClampNeg), u5.2.1, u5.2.2.1, u5.2.2.2.1, u5.2.2.2.2.1, u5.2.2.2.2.2.1, u5.2.2.2.2.2.2.1, u5.2.2.2.2.2.2.2.1, u5.2.2.2.2.2.2.2.2.1, u5.2.2.2.2.2.2.2.2.2)))
    else
      some ((-1 : Int32), Eorder, Eabove, Ebelow, Eelected, Eset, Esupport, Eworth, Eloads, Eunit)))
def fX4_members (N : Nat) (p0 : Int32) (Eorder : Nat → Int32) (Eabove : Nat → Int64) (Ebelow : Nat → Int64) (Eelected : Int32) (Eset : Int32) (Esupport : Nat → Int32) (Eworth : Nat → Int64) (Eloads : Nat → Int64) (Eunit : Int64) (Ncandidates : Int32) (Nballots : Int32) (Nseats : Int32) (Nwithdrawn : Int32) (Nvoters : Nat → Int32) (Nsets : Nat → Int32) (Nrank : Nat → Int32) : Option (Int32 × (Nat → Int32) × (Nat → Int64) × (Nat → Int64) × (Int32) × (Int32) × (Nat → Int32) × (Nat → Int64) × (Nat → Int64) × (Int64)) :=
  (fX4_isLaw N p0).bind fun u1 =>
    (if u1 = 0 then
    some ((-1 : Int32), Eorder, Eabove, Ebelow, Eelected, Eset, Esupport, Eworth, Eloads, Eunit)
  else
    (fX1_hold N p0 Eorder Eabove Ebelow Eelected Eset Esupport Eworth Eloads Eunit Ncandidates Nballots Nseats Nwithdrawn Nvoters Nsets Nrank).bind fun u4 =>
      some (u4.1, u4.2.1, u4.2.2.1, u4.2.2.2.1, u4.2.2.2.2.1, u4.2.2.2.2.2.1, u4.2.2.2.2.2.2.1, u4.2.2.2.2.2.2.2.1, u4.2.2.2.2.2.2.2.2.1, u4.2.2.2.2.2.2.2.2.2))
def fX4_isPart_b9 (N : Nat) : Option (Int32) :=
  some (1 : Int32)
def fX4_isPart (N : Nat) (p0 : Int32) : Option (Int32) :=
  (if p0 = 0 then
    fX4_isPart_b9 N 
  else
    (if p0 = (1 : Int32) then
      fX4_isPart_b9 N 
    else
      some (0 : Int32)))
def fX4_greatestDivisor_b9 (N : Nat) : Nat → Int64 → Int64 → Int32 → Option (Int64)
  | 0, _, _, _ => none
  | n + 1, x4, x6, x8 =>
    (if (128 : Int32) ≤ x8 then
      some x4
    else
      (if (lg_cmp x6 (0 : Int64)) = 0 then
        some x4
      else
        if x6 = 0 then none else
          fX4_greatestDivisor_b9 N n x6 (x4 - x4 / x6 * x6) (x8 + (1 : Int32))))
def fX4_greatestDivisor (N : Nat) (p0 : Int64) (p1 : Int64) : Option (Int64) :=
  fX4_greatestDivisor_b9 N N p0 p1 (0 : Int32)
def fX4_partOf_b21 (N : Nat) (x5 : Int64) (t0 : Int64) : Option (Int64) :=
  if x5 = 0 then none else
    some (t0 / x5)
def fX4_partOf (N : Nat) (p0 : Int64) (p1 : Int64) (p2 : Int32) : Option (Int64) :=
  (fX4_greatestDivisor N p0 p1).bind fun u2 =>
    (if p2 = 0 then
    fX4_partOf_b21 N (if u2 < (1 : Int64) then (1 : Int64) else u2) p0
  else
    fX4_partOf_b21 N (if u2 < (1 : Int64) then (1 : Int64) else u2) p1)
def fX4_came (N : Nat) (p0 : Int32) (p1 : Int32) (p2 : Int32) (Eorder : Nat → Int32) (Eabove : Nat → Int64) (Ebelow : Nat → Int64) (Eelected : Int32) (Eset : Int32) (Esupport : Nat → Int32) (Eworth : Nat → Int64) (Eloads : Nat → Int64) (Eunit : Int64) (Ncandidates : Int32) (Nballots : Int32) (Nseats : Int32) (Nwithdrawn : Int32) (Nvoters : Nat → Int32) (Nsets : Nat → Int32) (Nrank : Nat → Int32) : Option (Int64 × (Nat → Int32) × (Nat → Int64) × (Nat → Int64) × (Int32) × (Int32) × (Nat → Int32) × (Nat → Int64) × (Nat → Int64) × (Int64)) :=
  (fX4_isLaw N p0).bind fun u1 =>
    (if u1 = 0 then
    some ((-1 : Int64), Eorder, Eabove, Ebelow, Eelected, Eset, Esupport, Eworth, Eloads, Eunit)
  else
    (if p1 < 0 then
      some ((-1 : Int64), Eorder, Eabove, Ebelow, Eelected, Eset, Esupport, Eworth, Eloads, Eunit)
    else
      (fX4_isPart N p2).bind fun u5 =>
        (if u5 = 0 then
        some ((-1 : Int64), Eorder, Eabove, Ebelow, Eelected, Eset, Esupport, Eworth, Eloads, Eunit)
      else
        (fX1_hold N p0 Eorder Eabove Ebelow Eelected Eset Esupport Eworth Eloads Eunit Ncandidates Nballots Nseats Nwithdrawn Nvoters Nsets Nrank).bind fun u8 =>
          (if u8.2.2.2.2.1 ≤ p1 then
          some ((-4 : Int64), u8.2.1, u8.2.2.1, u8.2.2.2.1, u8.2.2.2.2.1, u8.2.2.2.2.2.1, u8.2.2.2.2.2.2.1, u8.2.2.2.2.2.2.2.1, u8.2.2.2.2.2.2.2.2.1, u8.2.2.2.2.2.2.2.2.2)
        else
          if p1 < 0 ∨ 8 ≤ p1.toNatClampNeg then none else
            (if (lg_cmp (u8.2.2.2.1 p1.toNatClampNeg) (0 : Int64)) = 0 then
            some ((-4 : Int64), u8.2.1, u8.2.2.1, u8.2.2.2.1, u8.2.2.2.2.1, u8.2.2.2.2.2.1, u8.2.2.2.2.2.2.1, u8.2.2.2.2.2.2.2.1, u8.2.2.2.2.2.2.2.2.1, u8.2.2.2.2.2.2.2.2.2)
          else
            (fX4_partOf N (u8.2.2.1 p1.toNatClampNeg) (u8.2.2.2.1 p1.toNatClampNeg) p2).bind fun u13 =>
              some (u13, u8.2.1, u8.2.2.1, u8.2.2.2.1, u8.2.2.2.2.1, u8.2.2.2.2.2.1, u8.2.2.2.2.2.2.1, u8.2.2.2.2.2.2.2.1, u8.2.2.2.2.2.2.2.2.1, u8.2.2.2.2.2.2.2.2.2))))))
def fX4_load (N : Nat) (p0 : Int32) (p1 : Int32) (Eorder : Nat → Int32) (Eabove : Nat → Int64) (Ebelow : Nat → Int64) (Eelected : Int32) (Eset : Int32) (Esupport : Nat → Int32) (Eworth : Nat → Int64) (Eloads : Nat → Int64) (Eunit : Int64) (Ncandidates : Int32) (Nballots : Int32) (Nseats : Int32) (Nwithdrawn : Int32) (Nvoters : Nat → Int32) (Nsets : Nat → Int32) (Nrank : Nat → Int32) : Option (Int64 × (Nat → Int32) × (Nat → Int64) × (Nat → Int64) × (Int32) × (Int32) × (Nat → Int32) × (Nat → Int64) × (Nat → Int64) × (Int64)) :=
  (fX4_isBallot N p0 Nballots).bind fun u1 =>
    (if u1 = 0 then
    some ((-1 : Int64), Eorder, Eabove, Ebelow, Eelected, Eset, Esupport, Eworth, Eloads, Eunit)
  else
    (fX4_isPart N p1).bind fun u4 =>
      (if u4 = 0 then
      some ((-1 : Int64), Eorder, Eabove, Ebelow, Eelected, Eset, Esupport, Eworth, Eloads, Eunit)
    else
      (fX1_hold N (0 : Int32) Eorder Eabove Ebelow Eelected Eset Esupport Eworth Eloads Eunit Ncandidates Nballots Nseats Nwithdrawn Nvoters Nsets Nrank).bind fun u7 =>
        if p0 < 0 ∨ 11 ≤ p0.toNatClampNeg then none else
        (fX4_partOf N (u7.2.2.2.2.2.2.2.2.1 p0.toNatClampNeg) u7.2.2.2.2.2.2.2.2.2 p1).bind fun u10 =>
        some (u10, u7.2.1, u7.2.2.1, u7.2.2.2.1, u7.2.2.2.2.1, u7.2.2.2.2.2.1, u7.2.2.2.2.2.2.1, u7.2.2.2.2.2.2.2.1, u7.2.2.2.2.2.2.2.2.1, u7.2.2.2.2.2.2.2.2.2)))
def fX4_greatest_b62 (N : Nat) (x1 : Int32) (x2 : Int64) (Eorder : Nat → Int32) (Eabove : Nat → Int64) (Ebelow : Nat → Int64) (Eelected : Int32) (Eset : Int32) (Esupport : Nat → Int32) (Eworth : Nat → Int64) (Eloads : Nat → Int64) (Eunit : Int64) : Option (Int64 × (Nat → Int32) × (Nat → Int64) × (Nat → Int64) × (Int32) × (Int32) × (Nat → Int32) × (Nat → Int64) × (Nat → Int64) × (Int64)) :=
  (fX4_partOf N x2 Eunit x1).bind fun u1 =>
    some (u1, Eorder, Eabove, Ebelow, Eelected, Eset, Esupport, Eworth, Eloads, Eunit)
def fX4_greatest_b29 (N : Nat) : Nat → Int32 → Int64 → Int32 → (Nat → Int32) → (Nat → Int64) → (Nat → Int64) → Int32 → Int32 → (Nat → Int32) → (Nat → Int64) → (Nat → Int64) → Int64 → Int32 → Option (Int64 × (Nat → Int32) × (Nat → Int64) × (Nat → Int64) × (Int32) × (Int32) × (Nat → Int32) × (Nat → Int64) × (Nat → Int64) × (Int64))
  | 0, _, _, _, _, _, _, _, _, _, _, _, _, _ => none
  | n + 1, x1, x2, x4, Eorder, Eabove, Ebelow, Eelected, Eset, Esupport, Eworth, Eloads, Eunit, Nballots =>
    (if Nballots ≤ x4 then
      fX4_greatest_b62 N x1 x2 Eorder Eabove Ebelow Eelected Eset Esupport Eworth Eloads Eunit
    else
      if x4 < 0 ∨ 11 ≤ x4.toNatClampNeg then none else
        fX4_greatest_b29 N n x1 (if (Eloads x4.toNatClampNeg) < x2 then x2 else (Eloads x4.toNatClampNeg)) (x4 + (1 : Int32)) Eorder Eabove Ebelow Eelected Eset Esupport Eworth Eloads Eunit Nballots)
def fX4_greatest (N : Nat) (p0 : Int32) (Eorder : Nat → Int32) (Eabove : Nat → Int64) (Ebelow : Nat → Int64) (Eelected : Int32) (Eset : Int32) (Esupport : Nat → Int32) (Eworth : Nat → Int64) (Eloads : Nat → Int64) (Eunit : Int64) (Ncandidates : Int32) (Nballots : Int32) (Nseats : Int32) (Nwithdrawn : Int32) (Nvoters : Nat → Int32) (Nsets : Nat → Int32) (Nrank : Nat → Int32) : Option (Int64 × (Nat → Int32) × (Nat → Int64) × (Nat → Int64) × (Int32) × (Int32) × (Nat → Int32) × (Nat → Int64) × (Nat → Int64) × (Int64)) :=
  (fX4_isPart N p0).bind fun u5 =>
    (if u5 = 0 then
    some ((-1 : Int64), Eorder, Eabove, Ebelow, Eelected, Eset, Esupport, Eworth, Eloads, Eunit)
  else
    (fX1_hold N (0 : Int32) Eorder Eabove Ebelow Eelected Eset Esupport Eworth Eloads Eunit Ncandidates Nballots Nseats Nwithdrawn Nvoters Nsets Nrank).bind fun u8 =>
      fX4_greatest_b29 N N p0 (0 : Int64) (0 : Int32) u8.2.1 u8.2.2.1 u8.2.2.2.1 u8.2.2.2.2.1 u8.2.2.2.2.2.1 u8.2.2.2.2.2.2.1 u8.2.2.2.2.2.2.2.1 u8.2.2.2.2.2.2.2.2.1 u8.2.2.2.2.2.2.2.2.2 Nballots)
def fX4_agrees (N : Nat) (p0 : Int32) (p1 : Int32) (Eorder : Nat → Int32) (Eabove : Nat → Int64) (Ebelow : Nat → Int64) (Eelected : Int32) (Eset : Int32) (Esupport : Nat → Int32) (Eworth : Nat → Int64) (Eloads : Nat → Int64) (Eunit : Int64) (Ncandidates : Int32) (Nballots : Int32) (Nseats : Int32) (Nwithdrawn : Int32) (Nvoters : Nat → Int32) (Nsets : Nat → Int32) (Nrank : Nat → Int32) : Option (Int32 × (Nat → Int32) × (Nat → Int64) × (Nat → Int64) × (Int32) × (Int32) × (Nat → Int32) × (Nat → Int64) × (Nat → Int64) × (Int64)) :=
  (fX4_isSet N p0 Ncandidates).bind fun u1 =>
    (if u1 = 0 then
    some ((-1 : Int32), Eorder, Eabove, Ebelow, Eelected, Eset, Esupport, Eworth, Eloads, Eunit)
  else
    (if p1 < 0 then
      some ((-1 : Int32), Eorder, Eabove, Ebelow, Eelected, Eset, Esupport, Eworth, Eloads, Eunit)
    else
      (if p1 ≤ (5 : Int32) then
        (if p1 = 0 then
          (fX0_votersWhoAgree N p0 Nballots Nvoters Nsets).bind fun u17 =>
            some (u17, Eorder, Eabove, Ebelow, Eelected, Eset, Esupport, Eworth, Eloads, Eunit)
        else
          (if p1 = (1 : Int32) then
            (fX0_isOwed N p0 Nballots Nseats Nvoters Nsets).bind fun u14 =>
              (if u14 = 0 then
              some ((0 : Int32), Eorder, Eabove, Ebelow, Eelected, Eset, Esupport, Eworth, Eloads, Eunit)
            else
              some ((1 : Int32), Eorder, Eabove, Ebelow, Eelected, Eset, Esupport, Eworth, Eloads, Eunit))
          else
            (fX1_hold N (p1 - (2 : Int32)) Eorder Eabove Ebelow Eelected Eset Esupport Eworth Eloads Eunit Ncandidates Nballots Nseats Nwithdrawn Nvoters Nsets Nrank).bind fun u8 =>
              (fX0_approvedByThoseWhoAgree N p0 Nballots Nsets).bind fun u10 =>
              (fJ6_bitCount_0f7a4 N (u8.1 &&& u10)).bind fun u12 =>
              some (u12, u8.2.1, u8.2.2.1, u8.2.2.2.1, u8.2.2.2.2.1, u8.2.2.2.2.2.1, u8.2.2.2.2.2.2.1, u8.2.2.2.2.2.2.2.1, u8.2.2.2.2.2.2.2.2.1, u8.2.2.2.2.2.2.2.2.2)))
      else
        some ((-1 : Int32), Eorder, Eabove, Ebelow, Eelected, Eset, Esupport, Eworth, Eloads, Eunit))))
def fX4_shorts_b78 (N : Nat) (x2 : Int32) (x4 : Int32) (Eorder : Nat → Int32) (Eabove : Nat → Int64) (Ebelow : Nat → Int64) (Eelected : Int32) (Eset : Int32) (Esupport : Nat → Int32) (Eworth : Nat → Int64) (Eloads : Nat → Int64) (Eunit : Int64) : Option (Int32 × (Nat → Int32) × (Nat → Int64) × (Nat → Int64) × (Int32) × (Int32) × (Nat → Int32) × (Nat → Int64) × (Nat → Int64) × (Int64)) :=
  (if x2 = (-1 : Int32) then
    some (x4, Eorder, Eabove, Ebelow, Eelected, Eset, Esupport, Eworth, Eloads, Eunit)
  else
    some ((-4 : Int32), Eorder, Eabove, Ebelow, Eelected, Eset, Esupport, Eworth, Eloads, Eunit))
def fX4_shorts_b72 (N : Nat) (k33 : Int32 → Int32 → Int32 → Int32 → (Nat → Int32) → (Nat → Int64) → (Nat → Int64) → Int32 → Int32 → (Nat → Int32) → (Nat → Int64) → (Nat → Int64) → Int64 → Int32 → Int32 → Int32 → (Nat → Int32) → (Nat → Int32) → Option (Int32 × (Nat → Int32) × (Nat → Int64) × (Nat → Int64) × (Int32) × (Int32) × (Nat → Int32) × (Nat → Int64) × (Nat → Int64) × (Int64))) (x2 : Int32) (x3 : Int32) (x4 : Int32) (x5 : Int32) (Eorder : Nat → Int32) (Eabove : Nat → Int64) (Ebelow : Nat → Int64) (Eelected : Int32) (Eset : Int32) (Esupport : Nat → Int32) (Eworth : Nat → Int64) (Eloads : Nat → Int64) (Eunit : Int64) (Ncandidates : Int32) (Nballots : Int32) (Nseats : Int32) (Nvoters : Nat → Int32) (Nsets : Nat → Int32) : Option (Int32 × (Nat → Int32) × (Nat → Int64) × (Nat → Int64) × (Int32) × (Int32) × (Nat → Int32) × (Nat → Int64) × (Nat → Int64) × (Int64)) :=
  k33 x2 x3 x4 (x5 + (1 : Int32)) Eorder Eabove Ebelow Eelected Eset Esupport Eworth Eloads Eunit Ncandidates Nballots Nseats Nvoters Nsets
def fX4_shorts_b33 (N : Nat) : Nat → Int32 → Int32 → Int32 → Int32 → (Nat → Int32) → (Nat → Int64) → (Nat → Int64) → Int32 → Int32 → (Nat → Int32) → (Nat → Int64) → (Nat → Int64) → Int64 → Int32 → Int32 → Int32 → (Nat → Int32) → (Nat → Int32) → Option (Int32 × (Nat → Int32) × (Nat → Int64) × (Nat → Int64) × (Int32) × (Int32) × (Nat → Int32) × (Nat → Int64) × (Nat → Int64) × (Int64))
  | 0, _, _, _, _, _, _, _, _, _, _, _, _, _, _, _, _, _, _ => none
  | n + 1, x2, x3, x4, x5, Eorder, Eabove, Ebelow, Eelected, Eset, Esupport, Eworth, Eloads, Eunit, Ncandidates, Nballots, Nseats, Nvoters, Nsets =>
    (if ((1 : Int32) <<< (Ncandidates &&& 31)) ≤ x5 then
      fX4_shorts_b78 N x2 x4 Eorder Eabove Ebelow Eelected Eset Esupport Eworth Eloads Eunit
    else
      (fX0_isShort N x5 x3 Nballots Nseats Nvoters Nsets).bind fun u3 =>
        (if u3 = 0 then
        fX4_shorts_b72 N (fun z0 z1 z2 z3 z4 z5 z6 z7 z8 z9 z10 z11 z12 z13 z14 z15 z16 z17 => fX4_shorts_b33 N n z0 z1 z2 z3 z4 z5 z6 z7 z8 z9 z10 z11 z12 z13 z14 z15 z16 z17) x2 x3 x4 x5 Eorder Eabove Ebelow Eelected Eset Esupport Eworth Eloads Eunit Ncandidates Nballots Nseats Nvoters Nsets
      else
        (if x4 = x2 then
          some (x5, Eorder, Eabove, Ebelow, Eelected, Eset, Esupport, Eworth, Eloads, Eunit)
        else
          fX4_shorts_b72 N (fun z0 z1 z2 z3 z4 z5 z6 z7 z8 z9 z10 z11 z12 z13 z14 z15 z16 z17 => fX4_shorts_b33 N n z0 z1 z2 z3 z4 z5 z6 z7 z8 z9 z10 z11 z12 z13 z14 z15 z16 z17) x2 x3 (x4 + (1 : Int32)) x5 Eorder Eabove Ebelow Eelected Eset Esupport Eworth Eloads Eunit Ncandidates Nballots Nseats Nvoters Nsets)))
def fX4_shorts (N : Nat) (p0 : Int32) (p1 : Int32) (Eorder : Nat → Int32) (Eabove : Nat → Int64) (Ebelow : Nat → Int64) (Eelected : Int32) (Eset : Int32) (Esupport : Nat → Int32) (Eworth : Nat → Int64) (Eloads : Nat → Int64) (Eunit : Int64) (Ncandidates : Int32) (Nballots : Int32) (Nseats : Int32) (Nwithdrawn : Int32) (Nvoters : Nat → Int32) (Nsets : Nat → Int32) (Nrank : Nat → Int32) : Option (Int32 × (Nat → Int32) × (Nat → Int64) × (Nat → Int64) × (Int32) × (Int32) × (Nat → Int32) × (Nat → Int64) × (Nat → Int64) × (Int64)) :=
  (fX4_isLaw N p0).bind fun u7 =>
    (if u7 = 0 then
    some ((-1 : Int32), Eorder, Eabove, Ebelow, Eelected, Eset, Esupport, Eworth, Eloads, Eunit)
  else
    (if (-1 : Int32) ≤ p1 then
      (fX1_hold N p0 Eorder Eabove Ebelow Eelected Eset Esupport Eworth Eloads Eunit Ncandidates Nballots Nseats Nwithdrawn Nvoters Nsets Nrank).bind fun u11 =>
        fX4_shorts_b33 N N p1 u11.1 (0 : Int32) (1 : Int32) u11.2.1 u11.2.2.1 u11.2.2.2.1 u11.2.2.2.2.1 u11.2.2.2.2.2.1 u11.2.2.2.2.2.2.1 u11.2.2.2.2.2.2.2.1 u11.2.2.2.2.2.2.2.2.1 u11.2.2.2.2.2.2.2.2.2 Ncandidates Nballots Nseats Nvoters Nsets
    else
      some ((-1 : Int32), Eorder, Eabove, Ebelow, Eelected, Eset, Esupport, Eworth, Eloads, Eunit)))
def fX4_joins_b55 (N : Nat) : Nat → Int32 → Int32 → Int32 → (Nat → Int32) → (Nat → Int64) → (Nat → Int64) → Int32 → Int32 → (Nat → Int32) → (Nat → Int64) → (Nat → Int64) → Int64 → Int32 → Int32 → Int32 → Int32 → Int32 → (Nat → Int32) → (Nat → Int32) → (Nat → Int32) → Option (Int32 × (Nat → Int32) × (Nat → Int64) × (Nat → Int64) × (Int32) × (Int32) × (Nat → Int32) × (Nat → Int64) × (Nat → Int64) × (Int64) × (Int32) × (Int32) × (Int32) × (Int32) × (Nat → Int32) × (Nat → Int32) × (Nat → Int32))
  | 0, _, _, _, _, _, _, _, _, _, _, _, _, _, _, _, _, _, _, _, _ => none
  | n + 1, x1, x2, x3, Eorder, Eabove, Ebelow, Eelected, Eset, Esupport, Eworth, Eloads, Eunit, Nballots, Rcandidates, Rballots, Rseats, Rwithdrawn, Rvoters, Rsets, Rrank =>
    (if (20 : Int32) < x3 then
      some ((-4 : Int32), Eorder, Eabove, Ebelow, Eelected, Eset, Esupport, Eworth, Eloads, Eunit, Rcandidates, Rballots, Rseats, Rwithdrawn, Rvoters, Rsets, Rrank)
    else
      if Nballots < 0 ∨ 11 ≤ Nballots.toNatClampNeg then none else
        (fX1_hold N x1 Eorder Eabove Ebelow Eelected Eset Esupport Eworth Eloads Eunit Rcandidates Rballots Rseats Rwithdrawn (upd Rvoters Nballots.toNatClampNeg x3) Rsets Rrank).bind fun u3 =>
        (fX4_hasBit N u3.1 x2).bind fun u5 =>
        (if u5 = 0 then
        fX4_joins_b55 N n x1 x2 (x3 + (1 : Int32)) u3.2.1 u3.2.2.1 u3.2.2.2.1 u3.2.2.2.2.1 u3.2.2.2.2.2.1 u3.2.2.2.2.2.2.1 u3.2.2.2.2.2.2.2.1 u3.2.2.2.2.2.2.2.2.1 u3.2.2.2.2.2.2.2.2.2 Nballots Rcandidates Rballots Rseats Rwithdrawn (upd Rvoters Nballots.toNatClampNeg x3) Rsets Rrank
      else
        some (x3, u3.2.1, u3.2.2.1, u3.2.2.2.1, u3.2.2.2.2.1, u3.2.2.2.2.2.1, u3.2.2.2.2.2.2.1, u3.2.2.2.2.2.2.2.1, u3.2.2.2.2.2.2.2.2.1, u3.2.2.2.2.2.2.2.2.2, Rcandidates, Rballots, Rseats, Rwithdrawn, (upd Rvoters Nballots.toNatClampNeg x3), Rsets, Rrank)))
def fX4_joins (N : Nat) (p0 : Int32) (p1 : Int32) (Eorder : Nat → Int32) (Eabove : Nat → Int64) (Ebelow : Nat → Int64) (Eelected : Int32) (Eset : Int32) (Esupport : Nat → Int32) (Eworth : Nat → Int64) (Eloads : Nat → Int64) (Eunit : Int64) (Ncandidates : Int32) (Nballots : Int32) (Nseats : Int32) (Nwithdrawn : Int32) (Nvoters : Nat → Int32) (Nsets : Nat → Int32) (Nrank : Nat → Int32) (Rcandidates : Int32) (Rballots : Int32) (Rseats : Int32) (Rwithdrawn : Int32) (Rvoters : Nat → Int32) (Rsets : Nat → Int32) (Rrank : Nat → Int32) : Option (Int32 × (Nat → Int32) × (Nat → Int64) × (Nat → Int64) × (Int32) × (Int32) × (Nat → Int32) × (Nat → Int64) × (Nat → Int64) × (Int64) × (Int32) × (Int32) × (Int32) × (Int32) × (Nat → Int32) × (Nat → Int32) × (Nat → Int32)) :=
  (fX4_isLaw N p0).bind fun u8 =>
    (if u8 = 0 then
    some ((-1 : Int32), Eorder, Eabove, Ebelow, Eelected, Eset, Esupport, Eworth, Eloads, Eunit, Rcandidates, Rballots, Rseats, Rwithdrawn, Rvoters, Rsets, Rrank)
  else
    (fX4_isCandidate N p1 Ncandidates).bind fun u11 =>
      (if u11 = 0 then
      some ((-1 : Int32), Eorder, Eabove, Ebelow, Eelected, Eset, Esupport, Eworth, Eloads, Eunit, Rcandidates, Rballots, Rseats, Rwithdrawn, Rvoters, Rsets, Rrank)
    else
      (fX0_isWithdrawn N p1 Nwithdrawn).bind fun u14 =>
        (if u14 = 0 then
        (fX0_copyFrom N Rcandidates Rballots Rseats Rwithdrawn Rvoters Rsets Rrank Ncandidates Nballots Nseats Nwithdrawn Nvoters Nsets Nrank).bind fun u17 =>
          (fX0_addBallot N (0 : Int32) ((1 : Int32) <<< (p1 &&& 31)) u17.2.1 u17.2.2.2.2.1 u17.2.2.2.2.2.1).bind fun u19 =>
          fX4_joins_b55 N N p0 p1 (0 : Int32) Eorder Eabove Ebelow Eelected Eset Esupport Eworth Eloads Eunit Nballots u17.1 u19.1 u17.2.2.1 u17.2.2.2.1 u19.2.1 u19.2.2 u17.2.2.2.2.2.2
      else
        some ((-2 : Int32), Eorder, Eabove, Ebelow, Eelected, Eset, Esupport, Eworth, Eloads, Eunit, Rcandidates, Rballots, Rseats, Rwithdrawn, Rvoters, Rsets, Rrank))))
def fX4_matters_b95 (N : Nat) (k38 : Int32 → Int32 → Int32 → Int32 → (Nat → Int32) → (Nat → Int64) → (Nat → Int64) → Int32 → Int32 → (Nat → Int32) → (Nat → Int64) → (Nat → Int64) → Int64 → Int32 → (Nat → Int32) → Int32 → Int32 → Int32 → Int32 → (Nat → Int32) → (Nat → Int32) → (Nat → Int32) → Option (Int32 × (Nat → Int32) × (Nat → Int64) × (Nat → Int64) × (Int32) × (Int32) × (Nat → Int32) × (Nat → Int64) × (Nat → Int64) × (Int64) × (Int32) × (Int32) × (Int32) × (Int32) × (Nat → Int32) × (Nat → Int32) × (Nat → Int32))) (x1 : Int32) (x2 : Int32) (x3 : Int32) (x4 : Int32) (Eorder : Nat → Int32) (Eabove : Nat → Int64) (Ebelow : Nat → Int64) (Eelected : Int32) (Eset : Int32) (Esupport : Nat → Int32) (Eworth : Nat → Int64) (Eloads : Nat → Int64) (Eunit : Int64) (Nballots : Int32) (Nvoters : Nat → Int32) (Rcandidates : Int32) (Rballots : Int32) (Rseats : Int32) (Rwithdrawn : Int32) (Rvoters : Nat → Int32) (Rsets : Nat → Int32) (Rrank : Nat → Int32) : Option (Int32 × (Nat → Int32) × (Nat → Int64) × (Nat → Int64) × (Int32) × (Int32) × (Nat → Int32) × (Nat → Int64) × (Nat → Int64) × (Int64) × (Int32) × (Int32) × (Int32) × (Int32) × (Nat → Int32) × (Nat → Int32) × (Nat → Int32)) :=
  if x4 < 0 ∨ 11 ≤ x4.toNatClampNeg then none else
    k38 x1 x2 x3 (x4 + (1 : Int32)) Eorder Eabove Ebelow Eelected Eset Esupport Eworth Eloads Eunit Nballots Nvoters Rcandidates Rballots Rseats Rwithdrawn (upd Rvoters x4.toNatClampNeg (Nvoters x4.toNatClampNeg)) Rsets Rrank
def fX4_matters_b38 (N : Nat) : Nat → Int32 → Int32 → Int32 → Int32 → (Nat → Int32) → (Nat → Int64) → (Nat → Int64) → Int32 → Int32 → (Nat → Int32) → (Nat → Int64) → (Nat → Int64) → Int64 → Int32 → (Nat → Int32) → Int32 → Int32 → Int32 → Int32 → (Nat → Int32) → (Nat → Int32) → (Nat → Int32) → Option (Int32 × (Nat → Int32) × (Nat → Int64) × (Nat → Int64) × (Int32) × (Int32) × (Nat → Int32) × (Nat → Int64) × (Nat → Int64) × (Int64) × (Int32) × (Int32) × (Int32) × (Int32) × (Nat → Int32) × (Nat → Int32) × (Nat → Int32))
  | 0, _, _, _, _, _, _, _, _, _, _, _, _, _, _, _, _, _, _, _, _, _, _ => none
  | n + 1, x1, x2, x3, x4, Eorder, Eabove, Ebelow, Eelected, Eset, Esupport, Eworth, Eloads, Eunit, Nballots, Nvoters, Rcandidates, Rballots, Rseats, Rwithdrawn, Rvoters, Rsets, Rrank =>
    (if Nballots ≤ x4 then
      some (x3, Eorder, Eabove, Ebelow, Eelected, Eset, Esupport, Eworth, Eloads, Eunit, Rcandidates, Rballots, Rseats, Rwithdrawn, Rvoters, Rsets, Rrank)
    else
      if x4 < 0 ∨ 11 ≤ x4.toNatClampNeg then none else
        (fX1_hold N x1 Eorder Eabove Ebelow Eelected Eset Esupport Eworth Eloads Eunit Rcandidates Rballots Rseats Rwithdrawn (upd Rvoters x4.toNatClampNeg ((Nvoters x4.toNatClampNeg) - (1 : Int32))) Rsets Rrank).bind fun u4 =>
        (if u4.1 = x2 then
        fX4_matters_b95 N (fun z0 z1 z2 z3 z4 z5 z6 z7 z8 z9 z10 z11 z12 z13 z14 z15 z16 z17 z18 z19 z20 z21 => fX4_matters_b38 N n z0 z1 z2 z3 z4 z5 z6 z7 z8 z9 z10 z11 z12 z13 z14 z15 z16 z17 z18 z19 z20 z21) x1 x2 x3 x4 u4.2.1 u4.2.2.1 u4.2.2.2.1 u4.2.2.2.2.1 u4.2.2.2.2.2.1 u4.2.2.2.2.2.2.1 u4.2.2.2.2.2.2.2.1 u4.2.2.2.2.2.2.2.2.1 u4.2.2.2.2.2.2.2.2.2 Nballots Nvoters Rcandidates Rballots Rseats Rwithdrawn (upd Rvoters x4.toNatClampNeg ((Nvoters x4.toNatClampNeg) - (1 : Int32))) Rsets Rrank
      else
        fX4_matters_b95 N (fun z0 z1 z2 z3 z4 z5 z6 z7 z8 z9 z10 z11 z12 z13 z14 z15 z16 z17 z18 z19 z20 z21 => fX4_matters_b38 N n z0 z1 z2 z3 z4 z5 z6 z7 z8 z9 z10 z11 z12 z13 z14 z15 z16 z17 z18 z19 z20 z21) x1 x2 (x3 ||| ((1 : Int32) <<< (x4 &&& 31))) x4 u4.2.1 u4.2.2.1 u4.2.2.2.1 u4.2.2.2.2.1 u4.2.2.2.2.2.1 u4.2.2.2.2.2.2.1 u4.2.2.2.2.2.2.2.1 u4.2.2.2.2.2.2.2.2.1 u4.2.2.2.2.2.2.2.2.2 Nballots Nvoters Rcandidates Rballots Rseats Rwithdrawn (upd Rvoters x4.toNatClampNeg ((Nvoters x4.toNatClampNeg) - (1 : Int32))) Rsets Rrank))
def fX4_matters (N : Nat) (p0 : Int32) (Eorder : Nat → Int32) (Eabove : Nat → Int64) (Ebelow : Nat → Int64) (Eelected : Int32) (Eset : Int32) (Esupport : Nat → Int32) (Eworth : Nat → Int64) (Eloads : Nat → Int64) (Eunit : Int64) (Ncandidates : Int32) (Nballots : Int32) (Nseats : Int32) (Nwithdrawn : Int32) (Nvoters : Nat → Int32) (Nsets : Nat → Int32) (Nrank : Nat → Int32) (Rcandidates : Int32) (Rballots : Int32) (Rseats : Int32) (Rwithdrawn : Int32) (Rvoters : Nat → Int32) (Rsets : Nat → Int32) (Rrank : Nat → Int32) : Option (Int32 × (Nat → Int32) × (Nat → Int64) × (Nat → Int64) × (Int32) × (Int32) × (Nat → Int32) × (Nat → Int64) × (Nat → Int64) × (Int64) × (Int32) × (Int32) × (Int32) × (Int32) × (Nat → Int32) × (Nat → Int32) × (Nat → Int32)) :=
  (fX4_isLaw N p0).bind fun u7 =>
    (if u7 = 0 then
    some ((-1 : Int32), Eorder, Eabove, Ebelow, Eelected, Eset, Esupport, Eworth, Eloads, Eunit, Rcandidates, Rballots, Rseats, Rwithdrawn, Rvoters, Rsets, Rrank)
  else
    (fX1_hold N p0 Eorder Eabove Ebelow Eelected Eset Esupport Eworth Eloads Eunit Ncandidates Nballots Nseats Nwithdrawn Nvoters Nsets Nrank).bind fun u10 =>
      (fX0_copyFrom N Rcandidates Rballots Rseats Rwithdrawn Rvoters Rsets Rrank Ncandidates Nballots Nseats Nwithdrawn Nvoters Nsets Nrank).bind fun u12 =>
      fX4_matters_b38 N N p0 u10.1 (0 : Int32) (0 : Int32) u10.2.1 u10.2.2.1 u10.2.2.2.1 u10.2.2.2.2.1 u10.2.2.2.2.2.1 u10.2.2.2.2.2.2.1 u10.2.2.2.2.2.2.2.1 u10.2.2.2.2.2.2.2.2.1 u10.2.2.2.2.2.2.2.2.2 Nballots Nvoters u12.1 u12.2.1 u12.2.2.1 u12.2.2.2.1 u12.2.2.2.2.1 u12.2.2.2.2.2.1 u12.2.2.2.2.2.2)
def fX4_rather_b152 (N : Nat) (x6 : Int32) (Eorder : Nat → Int32) (Eabove : Nat → Int64) (Ebelow : Nat → Int64) (Eelected : Int32) (Eset : Int32) (Esupport : Nat → Int32) (Eworth : Nat → Int64) (Eloads : Nat → Int64) (Eunit : Int64) (Rcandidates : Int32) (Rballots : Int32) (Rseats : Int32) (Rwithdrawn : Int32) (Rvoters : Nat → Int32) (Rsets : Nat → Int32) (Rrank : Nat → Int32) : Option (Int32 × (Nat → Int32) × (Nat → Int64) × (Nat → Int64) × (Int32) × (Int32) × (Nat → Int32) × (Nat → Int64) × (Nat → Int64) × (Int64) × (Int32) × (Int32) × (Int32) × (Int32) × (Nat → Int32) × (Nat → Int32) × (Nat → Int32)) :=
  some (x6, Eorder, Eabove, Ebelow, Eelected, Eset, Esupport, Eworth, Eloads, Eunit, Rcandidates, Rballots, Rseats, Rwithdrawn, Rvoters, Rsets, Rrank)
def fX4_rather_b141 (N : Nat) (x3 : Int32) (x5 : Int32) (x6 : Int32) (Eorder : Nat → Int32) (Eabove : Nat → Int64) (Ebelow : Nat → Int64) (Eelected : Int32) (Eset : Int32) (Esupport : Nat → Int32) (Eworth : Nat → Int64) (Eloads : Nat → Int64) (Eunit : Int64) (Rcandidates : Int32) (Rballots : Int32) (Rseats : Int32) (Rwithdrawn : Int32) (Rvoters : Nat → Int32) (Rsets : Nat → Int32) (Rrank : Nat → Int32) : Option (Int32 × (Nat → Int32) × (Nat → Int64) × (Nat → Int64) × (Int32) × (Int32) × (Nat → Int32) × (Nat → Int64) × (Nat → Int64) × (Int64) × (Int32) × (Int32) × (Int32) × (Int32) × (Nat → Int32) × (Nat → Int32) × (Nat → Int32)) :=
  (if x6 = (-4 : Int32) then
    fX4_rather_b152 N x6 Eorder Eabove Ebelow Eelected Eset Esupport Eworth Eloads Eunit Rcandidates Rballots Rseats Rwithdrawn Rvoters Rsets Rrank
  else
    (if x3 = 0 then
      fX4_rather_b152 N x6 Eorder Eabove Ebelow Eelected Eset Esupport Eworth Eloads Eunit Rcandidates Rballots Rseats Rwithdrawn Rvoters Rsets Rrank
    else
      some (x5, Eorder, Eabove, Ebelow, Eelected, Eset, Esupport, Eworth, Eloads, Eunit, Rcandidates, Rballots, Rseats, Rwithdrawn, Rvoters, Rsets, Rrank)))
def fX4_rather_b135 (N : Nat) (k75 : Int32 → Int32 → Int32 → Int32 → Int32 → Int32 → Int32 → (Nat → Int32) → (Nat → Int64) → (Nat → Int64) → Int32 → Int32 → (Nat → Int32) → (Nat → Int64) → (Nat → Int64) → Int64 → Int32 → Int32 → Int32 → Int32 → Int32 → (Nat → Int32) → (Nat → Int32) → (Nat → Int32) → Option (Int32 × (Nat → Int32) × (Nat → Int64) × (Nat → Int64) × (Int32) × (Int32) × (Nat → Int32) × (Nat → Int64) × (Nat → Int64) × (Int64) × (Int32) × (Int32) × (Int32) × (Int32) × (Nat → Int32) × (Nat → Int32) × (Nat → Int32))) (x1 : Int32) (x2 : Int32) (x3 : Int32) (x4 : Int32) (x5 : Int32) (x6 : Int32) (x7 : Int32) (Eorder : Nat → Int32) (Eabove : Nat → Int64) (Ebelow : Nat → Int64) (Eelected : Int32) (Eset : Int32) (Esupport : Nat → Int32) (Eworth : Nat → Int64) (Eloads : Nat → Int64) (Eunit : Int64) (Ncandidates : Int32) (Rcandidates : Int32) (Rballots : Int32) (Rseats : Int32) (Rwithdrawn : Int32) (Rvoters : Nat → Int32) (Rsets : Nat → Int32) (Rrank : Nat → Int32) : Option (Int32 × (Nat → Int32) × (Nat → Int64) × (Nat → Int64) × (Int32) × (Int32) × (Nat → Int32) × (Nat → Int64) × (Nat → Int64) × (Int64) × (Int32) × (Int32) × (Int32) × (Int32) × (Nat → Int32) × (Nat → Int32) × (Nat → Int32)) :=
  k75 x1 x2 x3 x4 x5 x6 (x7 + (1 : Int32)) Eorder Eabove Ebelow Eelected Eset Esupport Eworth Eloads Eunit Ncandidates Rcandidates Rballots Rseats Rwithdrawn Rvoters Rsets Rrank
def fX4_rather_b75 (N : Nat) : Nat → Int32 → Int32 → Int32 → Int32 → Int32 → Int32 → Int32 → (Nat → Int32) → (Nat → Int64) → (Nat → Int64) → Int32 → Int32 → (Nat → Int32) → (Nat → Int64) → (Nat → Int64) → Int64 → Int32 → Int32 → Int32 → Int32 → Int32 → (Nat → Int32) → (Nat → Int32) → (Nat → Int32) → Option (Int32 × (Nat → Int32) × (Nat → Int64) × (Nat → Int64) × (Int32) × (Int32) × (Nat → Int32) × (Nat → Int64) × (Nat → Int64) × (Int64) × (Int32) × (Int32) × (Int32) × (Int32) × (Nat → Int32) × (Nat → Int32) × (Nat → Int32))
  | 0, _, _, _, _, _, _, _, _, _, _, _, _, _, _, _, _, _, _, _, _, _, _, _, _ => none
  | n + 1, x1, x2, x3, x4, x5, x6, x7, Eorder, Eabove, Ebelow, Eelected, Eset, Esupport, Eworth, Eloads, Eunit, Ncandidates, Rcandidates, Rballots, Rseats, Rwithdrawn, Rvoters, Rsets, Rrank =>
    (if ((1 : Int32) <<< (Ncandidates &&& 31)) ≤ x7 then
      fX4_rather_b141 N x3 x5 x6 Eorder Eabove Ebelow Eelected Eset Esupport Eworth Eloads Eunit Rcandidates Rballots Rseats Rwithdrawn Rvoters Rsets Rrank
    else
      if x2 < 0 ∨ 11 ≤ x2.toNatClampNeg then none else
        (fX1_hold N x1 Eorder Eabove Ebelow Eelected Eset Esupport Eworth Eloads Eunit Rcandidates Rballots Rseats Rwithdrawn Rvoters (upd Rsets x2.toNatClampNeg x7) Rrank).bind fun u5 =>
        (fJ6_bitCount_0f7a4 N (u5.1 &&& x4)).bind fun u7 =>
        (if u7 ≤ x5 then
        fX4_rather_b135 N (fun z0 z1 z2 z3 z4 z5 z6 z7 z8 z9 z10 z11 z12 z13 z14 z15 z16 z17 z18 z19 z20 z21 z22 z23 => fX4_rather_b75 N n z0 z1 z2 z3 z4 z5 z6 z7 z8 z9 z10 z11 z12 z13 z14 z15 z16 z17 z18 z19 z20 z21 z22 z23) x1 x2 x3 x4 x5 x6 x7 u5.2.1 u5.2.2.1 u5.2.2.2.1 u5.2.2.2.2.1 u5.2.2.2.2.2.1 u5.2.2.2.2.2.2.1 u5.2.2.2.2.2.2.2.1 u5.2.2.2.2.2.2.2.2.1 u5.2.2.2.2.2.2.2.2.2 Ncandidates Rcandidates Rballots Rseats Rwithdrawn Rvoters (upd Rsets x2.toNatClampNeg x7) Rrank
      else
        fX4_rather_b135 N (fun z0 z1 z2 z3 z4 z5 z6 z7 z8 z9 z10 z11 z12 z13 z14 z15 z16 z17 z18 z19 z20 z21 z22 z23 => fX4_rather_b75 N n z0 z1 z2 z3 z4 z5 z6 z7 z8 z9 z10 z11 z12 z13 z14 z15 z16 z17 z18 z19 z20 z21 z22 z23) x1 x2 x3 x4 u7 x7 x7 u5.2.1 u5.2.2.1 u5.2.2.2.1 u5.2.2.2.2.1 u5.2.2.2.2.2.1 u5.2.2.2.2.2.2.1 u5.2.2.2.2.2.2.2.1 u5.2.2.2.2.2.2.2.2.1 u5.2.2.2.2.2.2.2.2.2 Ncandidates Rcandidates Rballots Rseats Rwithdrawn Rvoters (upd Rsets x2.toNatClampNeg x7) Rrank))
def fX4_rather (N : Nat) (p0 : Int32) (p1 : Int32) (p2 : Int32) (Eorder : Nat → Int32) (Eabove : Nat → Int64) (Ebelow : Nat → Int64) (Eelected : Int32) (Eset : Int32) (Esupport : Nat → Int32) (Eworth : Nat → Int64) (Eloads : Nat → Int64) (Eunit : Int64) (Ncandidates : Int32) (Nballots : Int32) (Nseats : Int32) (Nwithdrawn : Int32) (Nvoters : Nat → Int32) (Nsets : Nat → Int32) (Nrank : Nat → Int32) (Rcandidates : Int32) (Rballots : Int32) (Rseats : Int32) (Rwithdrawn : Int32) (Rvoters : Nat → Int32) (Rsets : Nat → Int32) (Rrank : Nat → Int32) : Option (Int32 × (Nat → Int32) × (Nat → Int64) × (Nat → Int64) × (Int32) × (Int32) × (Nat → Int32) × (Nat → Int64) × (Nat → Int64) × (Int64) × (Int32) × (Int32) × (Int32) × (Int32) × (Nat → Int32) × (Nat → Int32) × (Nat → Int32)) :=
  (fX4_isLaw N p0).bind fun u10 =>
    (if u10 = 0 then
    some ((-1 : Int32), Eorder, Eabove, Ebelow, Eelected, Eset, Esupport, Eworth, Eloads, Eunit, Rcandidates, Rballots, Rseats, Rwithdrawn, Rvoters, Rsets, Rrank)
  else
    (fX4_isBallot N p1 Nballots).bind fun u13 =>
      (if u13 = 0 then
      some ((-1 : Int32), Eorder, Eabove, Ebelow, Eelected, Eset, Esupport, Eworth, Eloads, Eunit, Rcandidates, Rballots, Rseats, Rwithdrawn, Rvoters, Rsets, Rrank)
    else
      (if p2 < 0 then
        some ((-1 : Int32), Eorder, Eabove, Ebelow, Eelected, Eset, Esupport, Eworth, Eloads, Eunit, Rcandidates, Rballots, Rseats, Rwithdrawn, Rvoters, Rsets, Rrank)
      else
        (if p2 ≤ (1 : Int32) then
          if p1 < 0 ∨ 11 ≤ p1.toNatClampNeg then none else
            (fX1_hold N p0 Eorder Eabove Ebelow Eelected Eset Esupport Eworth Eloads Eunit Ncandidates Nballots Nseats Nwithdrawn Nvoters Nsets Nrank).bind fun u19 =>
            (fJ6_bitCount_0f7a4 N (u19.1 &&& (Nsets p1.toNatClampNeg))).bind fun u21 =>
            (fX0_copyFrom N Rcandidates Rballots Rseats Rwithdrawn Rvoters Rsets Rrank Ncandidates Nballots Nseats Nwithdrawn Nvoters Nsets Nrank).bind fun u23 =>
            fX4_rather_b75 N N p0 p1 p2 (Nsets p1.toNatClampNeg) u21 (-4 : Int32) (1 : Int32) u19.2.1 u19.2.2.1 u19.2.2.2.1 u19.2.2.2.2.1 u19.2.2.2.2.2.1 u19.2.2.2.2.2.2.1 u19.2.2.2.2.2.2.2.1 u19.2.2.2.2.2.2.2.2.1 u19.2.2.2.2.2.2.2.2.2 Ncandidates u23.1 u23.2.1 u23.2.2.1 u23.2.2.2.1 u23.2.2.2.2.1 u23.2.2.2.2.2.1 u23.2.2.2.2.2.2
        else
          some ((-1 : Int32), Eorder, Eabove, Ebelow, Eelected, Eset, Esupport, Eworth, Eloads, Eunit, Rcandidates, Rballots, Rseats, Rwithdrawn, Rvoters, Rsets, Rrank)))))
def fX4_decided (N : Nat) (p0 : Int32) (Eorder : Nat → Int32) (Eabove : Nat → Int64) (Ebelow : Nat → Int64) (Eelected : Int32) (Eset : Int32) (Esupport : Nat → Int32) (Eworth : Nat → Int64) (Eloads : Nat → Int64) (Eunit : Int64) (Ncandidates : Int32) (Nballots : Int32) (Nseats : Int32) (Nwithdrawn : Int32) (Nvoters : Nat → Int32) (Nsets : Nat → Int32) (Nrank : Nat → Int32) (Rcandidates : Int32) (Rballots : Int32) (Rseats : Int32) (Rwithdrawn : Int32) (Rvoters : Nat → Int32) (Rsets : Nat → Int32) (Rrank : Nat → Int32) : Option (Int32 × (Nat → Int32) × (Nat → Int64) × (Nat → Int64) × (Int32) × (Int32) × (Nat → Int32) × (Nat → Int64) × (Nat → Int64) × (Int64) × (Int32) × (Int32) × (Int32) × (Int32) × (Nat → Int32) × (Nat → Int32) × (Nat → Int32)) :=
  (fX4_isLaw N p0).bind fun u1 =>
    (if u1 = 0 then
    some ((-1 : Int32), Eorder, Eabove, Ebelow, Eelected, Eset, Esupport, Eworth, Eloads, Eunit, Rcandidates, Rballots, Rseats, Rwithdrawn, Rvoters, Rsets, Rrank)
  else
    (fX1_hold N p0 Eorder Eabove Ebelow Eelected Eset Esupport Eworth Eloads Eunit Ncandidates Nballots Nseats Nwithdrawn Nvoters Nsets Nrank).bind fun u4 =>
      (fX0_copyFrom N Rcandidates Rballots Rseats Rwithdrawn Rvoters Rsets Rrank Ncandidates Nballots Nseats Nwithdrawn Nvoters Nsets Nrank).bind fun u6 =>
      (fX0_turnRankRound N u6.1 u6.2.2.2.2.2.2).bind fun u8 =>
      (fX1_hold N p0 u4.2.1 u4.2.2.1 u4.2.2.2.1 u4.2.2.2.2.1 u4.2.2.2.2.2.1 u4.2.2.2.2.2.2.1 u4.2.2.2.2.2.2.2.1 u4.2.2.2.2.2.2.2.2.1 u4.2.2.2.2.2.2.2.2.2 u6.1 u6.2.1 u6.2.2.1 u6.2.2.2.1 u6.2.2.2.2.1 u6.2.2.2.2.2.1 u8).bind fun u10 =>
      (if u10.1 = u4.1 then
      some ((0 : Int32), u10.2.1, u10.2.2.1, u10.2.2.2.1, u10.2.2.2.2.1, u10.2.2.2.2.2.1, u10.2.2.2.2.2.2.1, u10.2.2.2.2.2.2.2.1, u10.2.2.2.2.2.2.2.2.1, u10.2.2.2.2.2.2.2.2.2, u6.1, u6.2.1, u6.2.2.1, u6.2.2.2.1, u6.2.2.2.2.1, u6.2.2.2.2.2.1, u8)
    else
      some ((1 : Int32), u10.2.1, u10.2.2.1, u10.2.2.2.1, u10.2.2.2.2.1, u10.2.2.2.2.2.1, u10.2.2.2.2.2.2.1, u10.2.2.2.2.2.2.2.1, u10.2.2.2.2.2.2.2.2.1, u10.2.2.2.2.2.2.2.2.2, u6.1, u6.2.1, u6.2.2.1, u6.2.2.2.1, u6.2.2.2.2.1, u6.2.2.2.2.2.1, u8)))
def fX4_both (N : Nat) (p0 : Int32) (p1 : Int32) (Eorder : Nat → Int32) (Eabove : Nat → Int64) (Ebelow : Nat → Int64) (Eelected : Int32) (Eset : Int32) (Esupport : Nat → Int32) (Eworth : Nat → Int64) (Eloads : Nat → Int64) (Eunit : Int64) (Ncandidates : Int32) (Nballots : Int32) (Nseats : Int32) (Nwithdrawn : Int32) (Nvoters : Nat → Int32) (Nsets : Nat → Int32) (Nrank : Nat → Int32) : Option (Int32 × (Nat → Int32) × (Nat → Int64) × (Nat → Int64) × (Int32) × (Int32) × (Nat → Int32) × (Nat → Int64) × (Nat → Int64) × (Int64)) :=
  (fX4_isLaw N p0).bind fun u1 =>
    (if u1 = 0 then
    some ((-1 : Int32), Eorder, Eabove, Ebelow, Eelected, Eset, Esupport, Eworth, Eloads, Eunit)
  else
    (fX4_isLaw N p1).bind fun u4 =>
      (if u4 = 0 then
      some ((-1 : Int32), Eorder, Eabove, Ebelow, Eelected, Eset, Esupport, Eworth, Eloads, Eunit)
    else
      (fX1_hold N p0 Eorder Eabove Ebelow Eelected Eset Esupport Eworth Eloads Eunit Ncandidates Nballots Nseats Nwithdrawn Nvoters Nsets Nrank).bind fun u7 =>
        (fX1_hold N p1 u7.2.1 u7.2.2.1 u7.2.2.2.1 u7.2.2.2.2.1 u7.2.2.2.2.2.1 u7.2.2.2.2.2.2.1 u7.2.2.2.2.2.2.2.1 u7.2.2.2.2.2.2.2.2.1 u7.2.2.2.2.2.2.2.2.2 Ncandidates Nballots Nseats Nwithdrawn Nvoters Nsets Nrank).bind fun u9 =>
        (fJ6_bitCount_0f7a4 N (u7.1 &&& u9.1)).bind fun u11 =>
        some (u11, u9.2.1, u9.2.2.1, u9.2.2.2.1, u9.2.2.2.2.1, u9.2.2.2.2.2.1, u9.2.2.2.2.2.2.1, u9.2.2.2.2.2.2.2.1, u9.2.2.2.2.2.2.2.2.1, u9.2.2.2.2.2.2.2.2.2)))
def fX4_count (N : Nat) (p0 : Int32) (Tlength : Int32) (Psize : Int32) (Ncandidates : Int32) (Nballots : Int32) (Nseats : Int32) (Nwithdrawn : Int32) (Nvoters : Nat → Int32) (Nsets : Nat → Int32) : Option (Int32) :=
  (if p0 = 0 then
    some Ncandidates
  else
    (if p0 = 1 then
      some Nballots
    else
      (if p0 = 2 then
        (fX0_allVoters N Nballots Nvoters Nsets).bind fun u4 =>
          some u4
      else
        (if p0 = 3 then
          some Nseats
        else
          (if p0 = 4 then
            (fJ6_bitCount_0f7a4 N Nwithdrawn).bind fun u8 =>
              some u8
          else
            (if p0 = 5 then
              some Psize
            else
              (if p0 = 6 then
                some Tlength
              else
                some (-1 : Int32))))))))
def fX5_in (N : Nat) (p0 : Int32) (p1 : Int32) (p2 : Int32) : Option (Int32) :=
  (if p0 < p1 then
    some (0 : Int32)
  else
    (if p2 < p0 then
      some (0 : Int32)
    else
      some (1 : Int32)))
def fX5_has (N : Nat) (p0 : Int32) (p1 : Int32) : Option (Int32) :=
  (if ((p0 >>> (p1 &&& 31)) &&& (1 : Int32)) = (1 : Int32) then
    some (1 : Int32)
  else
    some (0 : Int32))
def fX5_ones_b4 (N : Nat) : Nat → Int32 → Int32 → Int32 → Option (Int32)
  | 0, _, _, _ => none
  | n + 1, x0, x1, x2 =>
    (if (11 : Int32) ≤ x2 then
      some x1
    else
      fX5_ones_b4 N n x0 (x1 + ((x0 >>> (x2 &&& 31)) &&& (1 : Int32))) (x2 + (1 : Int32)))
def fX5_ones (N : Nat) (p0 : Int32) : Option (Int32) :=
  fX5_ones_b4 N N p0 (0 : Int32) (0 : Int32)
def fX5_adds (N : Nat) (p0 : Int32) (p1 : Int32) (Mnow : Nat → Int32) : Option ((Nat → Int32)) :=
  if ((2 : Int32) + (Mnow 1)) < 0 ∨ 32 ≤ ((2 : Int32) + (Mnow 1)).toNatClampNeg then none else
    if ((12 : Int32) + ((upd Mnow (((2 : Int32) + (Mnow 1)).toNatClampNeg) p0) 1)) < 0 ∨ 32 ≤ ((12 : Int32) + ((upd Mnow (((2 : Int32) + (Mnow 1)).toNatClampNeg) p0) 1)).toNatClampNeg then none else
    some (upd (upd (upd Mnow (((2 : Int32) + (Mnow 1)).toNatClampNeg) p0) (((12 : Int32) + ((upd Mnow (((2 : Int32) + (Mnow 1)).toNatClampNeg) p0) 1)).toNatClampNeg) p1) 1 (((upd (upd Mnow (((2 : Int32) + (Mnow 1)).toNatClampNeg) p0) (((12 : Int32) + ((upd Mnow (((2 : Int32) + (Mnow 1)).toNatClampNeg) p0) 1)).toNatClampNeg) p1) 1) + (1 : Int32)))
def fX5_isCandidate (N : Nat) (p0 : Int32) (Mnow : Nat → Int32) : Option (Int32) :=
  (fX5_in N p0 (0 : Int32) ((Mnow 0) - (1 : Int32))).bind fun u1 =>
    if ¬ (u1 = 0 ∨ u1 = 1) then none else
    some u1
def fX5_isBallot (N : Nat) (p0 : Int32) (Mnow : Nat → Int32) : Option (Int32) :=
  (fX5_in N p0 (0 : Int32) ((Mnow 1) - (1 : Int32))).bind fun u1 =>
    if ¬ (u1 = 0 ∨ u1 = 1) then none else
    some u1
def fX5_isSet (N : Nat) (p0 : Int32) (Mnow : Nat → Int32) : Option (Int32) :=
  (fX5_in N p0 (1 : Int32) (((1 : Int32) <<< ((Mnow 0) &&& 31)) - (1 : Int32))).bind fun u1 =>
    if ¬ (u1 = 0 ∨ u1 = 1) then none else
    some u1
def fX5_isLaw (N : Nat) (p0 : Int32) : Option (Int32) :=
  (fX5_in N p0 (0 : Int32) (3 : Int32)).bind fun u1 =>
    if ¬ (u1 = 0 ∨ u1 = 1) then none else
    some u1
def fX5_allVoters_b4 (N : Nat) : Nat → Int32 → Int32 → (Nat → Int32) → Option (Int32)
  | 0, _, _, _ => none
  | n + 1, x1, x2, Mnow =>
    (if (Mnow 1) ≤ x2 then
      some x1
    else
      if ((2 : Int32) + x2) < 0 ∨ 32 ≤ ((2 : Int32) + x2).toNatClampNeg then none else
        fX5_allVoters_b4 N n (x1 + (Mnow (((2 : Int32) + x2).toNatClampNeg))) (x2 + (1 : Int32)) Mnow)
def fX5_allVoters (N : Nat) (Mnow : Nat → Int32) : Option (Int32) :=
  fX5_allVoters_b4 N N (0 : Int32) (0 : Int32) Mnow
def fX5_write (N : Nat) (p0 : Int32) (Mtext : Nat → Int32) (Mletters : Int32) : Option (Int32 × (Nat → Int32) × (Int32)) :=
  (fX5_in N p0 (32 : Int32) (126 : Int32)).bind fun u1 =>
    (if u1 = 0 then
    some ((-1 : Int32), Mtext, Mletters)
  else
    (if Mletters = (200 : Int32) then
      some ((-3 : Int32), Mtext, Mletters)
    else
      if Mletters < 0 ∨ 200 ≤ Mletters.toNatClampNeg then none else
        some ((Mletters + (1 : Int32)), (upd Mtext Mletters.toNatClampNeg p0), (Mletters + (1 : Int32)))))
def fX5_wipe (N : Nat) (Mletters : Int32) : Option (Int32 × (Int32)) :=
  some (Mletters, (0 : Int32))
def fX5_letterAt (N : Nat) (p0 : Int32) (Mtext : Nat → Int32) (Mletters : Int32) : Option (Int32) :=
  (if Mletters ≤ p0 then
    some (-4 : Int32)
  else
    if p0 < 0 ∨ 200 ≤ p0.toNatClampNeg then none else
      some (Mtext p0.toNatClampNeg))
def fX5_takesNumber_b75 (N : Nat) (x1 : Int32) (x2 : Int32) (x3 : Int32) (Mspot : Int32) (Mvalue : Int32) : Option (Int32 × (Int32) × (Int32)) :=
  (if Mspot ≤ x3 then
    some ((0 : Int32), Mspot, Mvalue)
  else
    (fX5_in N Mvalue x1 x2).bind fun u2 =>
      (if u2 = 0 then
      some ((0 : Int32), Mspot, Mvalue)
    else
      some ((1 : Int32), Mspot, Mvalue)))
def fX5_takesNumber_b10 (N : Nat) : Nat → Int32 → Int32 → Int32 → (Nat → Int32) → Int32 → Int32 → Int32 → Option (Int32 × (Int32) × (Int32))
  | 0, _, _, _, _, _, _, _ => none
  | n + 1, x1, x2, x3, Mtext, Mletters, Mspot, Mvalue =>
    (fX5_letterAt N Mspot Mtext Mletters).bind fun u5 =>
      (fX5_in N u5 (48 : Int32) (57 : Int32)).bind fun u7 =>
      (if u7 = 0 then
      fX5_takesNumber_b75 N x1 x2 x3 Mspot Mvalue
    else
      (if (x3 + (2 : Int32)) ≤ Mspot then
        fX5_takesNumber_b75 N x1 x2 x3 Mspot Mvalue
      else
        if Mspot < 0 ∨ 200 ≤ Mspot.toNatClampNeg then none else
          fX5_takesNumber_b10 N n x1 x2 x3 Mtext Mletters (Mspot + (1 : Int32)) ((((10 : Int32) * Mvalue) + (Mtext Mspot.toNatClampNeg)) - (48 : Int32))))
def fX5_takesNumber (N : Nat) (p0 : Int32) (p1 : Int32) (Mtext : Nat → Int32) (Mletters : Int32) (Mspot : Int32) (Mvalue : Int32) : Option (Int32 × (Int32) × (Int32)) :=
  fX5_takesNumber_b10 N N p0 p1 Mspot Mtext Mletters Mspot (0 : Int32)
def fX5_takes_b17 (N : Nat) (t0 : Int32) (Mspot : Int32) : Option (Int32 × (Int32)) :=
  (if t0 = 0 then
    if ¬ (t0 = 0 ∨ t0 = 1) then none else
      some (t0, (Mspot + (0 : Int32)))
  else
    if ¬ (t0 = 0 ∨ t0 = 1) then none else
      some (t0, (Mspot + (1 : Int32))))
def fX5_takes (N : Nat) (p0 : Int32) (Mtext : Nat → Int32) (Mletters : Int32) (Mspot : Int32) : Option (Int32 × (Int32)) :=
  (fX5_letterAt N Mspot Mtext Mletters).bind fun u4 =>
    (if u4 = p0 then
    fX5_takes_b17 N (1 : Int32) Mspot
  else
    fX5_takes_b17 N (0 : Int32) Mspot)
def fX5_isName (N : Nat) (Mread : Nat → Int32) (Mtext : Nat → Int32) (Mletters : Int32) (Mspot : Int32) : Option (Int32) :=
  (fX5_letterAt N Mspot Mtext Mletters).bind fun u1 =>
    (fX5_in N u1 (97 : Int32) (((97 : Int32) + (Mread 0)) - (1 : Int32))).bind fun u3 =>
    if ¬ (u3 = 0 ∨ u3 = 1) then none else
    some u3
def fX5_takesSet_b68 (N : Nat) (Mspot : Int32) (Mvalue : Int32) : Option (Int32 × (Int32) × (Int32)) :=
  (if Mvalue ≤ 0 then
    some ((0 : Int32), Mspot, Mvalue)
  else
    some ((1 : Int32), Mspot, Mvalue))
def fX5_takesSet_b7 (N : Nat) : Nat → Int32 → (Nat → Int32) → (Nat → Int32) → Int32 → Int32 → Int32 → Option (Int32 × (Int32) × (Int32))
  | 0, _, _, _, _, _, _ => none
  | n + 1, x1, Mread, Mtext, Mletters, Mspot, Mvalue =>
    (fX5_isName N Mread Mtext Mletters Mspot).bind fun u2 =>
      (if u2 = 0 then
      fX5_takesSet_b68 N Mspot Mvalue
    else
      if Mspot < 0 ∨ 200 ≤ Mspot.toNatClampNeg then none else
        (if ((Mtext Mspot.toNatClampNeg) - (97 : Int32)) ≤ x1 then
        fX5_takesSet_b68 N Mspot Mvalue
      else
        fX5_takesSet_b7 N n ((Mtext Mspot.toNatClampNeg) - (97 : Int32)) Mread Mtext Mletters (Mspot + (1 : Int32)) (Mvalue ||| ((1 : Int32) <<< (((Mtext Mspot.toNatClampNeg) - (97 : Int32)) &&& 31)))))
def fX5_takesSet (N : Nat) (Mread : Nat → Int32) (Mtext : Nat → Int32) (Mletters : Int32) (Mspot : Int32) (Mvalue : Int32) : Option (Int32 × (Int32) × (Int32)) :=
  fX5_takesSet_b7 N N (-1 : Int32) Mread Mtext Mletters Mspot (0 : Int32)
def fX5_readVoters_b4 (N : Nat) : Nat → Int32 → Int32 → (Nat → Int32) → Option (Int32)
  | 0, _, _, _ => none
  | n + 1, x1, x2, Mread =>
    (if (Mread 1) ≤ x2 then
      some x1
    else
      if ((2 : Int32) + x2) < 0 ∨ 32 ≤ ((2 : Int32) + x2).toNatClampNeg then none else
        fX5_readVoters_b4 N n (x1 + (Mread (((2 : Int32) + x2).toNatClampNeg))) (x2 + (1 : Int32)) Mread)
def fX5_readVoters (N : Nat) (Mread : Nat → Int32) : Option (Int32) :=
  fX5_readVoters_b4 N N (0 : Int32) (0 : Int32) Mread
def fX5_takesBallot (N : Nat) (Mread : Nat → Int32) (Mtext : Nat → Int32) (Mletters : Int32) (Mspot : Int32) (Mvalue : Int32) : Option (Int32 × (Nat → Int32) × (Int32) × (Int32)) :=
  (fX5_takesNumber N (1 : Int32) (20 : Int32) Mtext Mletters Mspot Mvalue).bind fun u1 =>
    (if u1.1 = 0 then
    some ((0 : Int32), Mread, u1.2.1, u1.2.2)
  else
    (if (Mread 1) = (10 : Int32) then
      some ((0 : Int32), Mread, u1.2.1, u1.2.2)
    else
      (fX5_takes N (44 : Int32) Mtext Mletters u1.2.1).bind fun u5 =>
        (if u5.1 = 0 then
        some ((0 : Int32), Mread, u5.2, u1.2.2)
      else
        (fX5_takesSet N Mread Mtext Mletters u5.2 u1.2.2).bind fun u8 =>
          (if u8.1 = 0 then
          some ((0 : Int32), Mread, u8.2.1, u8.2.2)
        else
          (fX5_readVoters N Mread).bind fun u11 =>
            (if (u11 + u1.2.2) ≤ (40 : Int32) then
            if ((2 : Int32) + (Mread 1)) < 0 ∨ 32 ≤ ((2 : Int32) + (Mread 1)).toNatClampNeg then none else
              if ((12 : Int32) + ((upd Mread (((2 : Int32) + (Mread 1)).toNatClampNeg) u1.2.2) 1)) < 0 ∨ 32 ≤ ((12 : Int32) + ((upd Mread (((2 : Int32) + (Mread 1)).toNatClampNeg) u1.2.2) 1)).toNatClampNeg then none else
              some ((1 : Int32), (upd (upd (upd Mread (((2 : Int32) + (Mread 1)).toNatClampNeg) u1.2.2) (((12 : Int32) + ((upd Mread (((2 : Int32) + (Mread 1)).toNatClampNeg) u1.2.2) 1)).toNatClampNeg) u8.2.2) 1 (((upd (upd Mread (((2 : Int32) + (Mread 1)).toNatClampNeg) u1.2.2) (((12 : Int32) + ((upd Mread (((2 : Int32) + (Mread 1)).toNatClampNeg) u1.2.2) 1)).toNatClampNeg) u8.2.2) 1) + (1 : Int32))), u8.2.1, u8.2.2)
          else
            some ((0 : Int32), Mread, u8.2.1, u8.2.2))))))
def fX5_takesRank_b4 (N : Nat) : Nat → Int32 → Int32 → (Nat → Int32) → (Nat → Int32) → Int32 → Int32 → Option (Int32 × (Nat → Int32) × (Int32))
  | 0, _, _, _, _, _, _ => none
  | n + 1, x1, x2, Mread, Mtext, Mletters, Mspot =>
    (if (Mread 0) ≤ x2 then
      some ((1 : Int32), Mread, Mspot)
    else
      (fX5_isName N Mread Mtext Mletters Mspot).bind fun u2 =>
        (if u2 = 0 then
        some ((0 : Int32), Mread, Mspot)
      else
        if Mspot < 0 ∨ 200 ≤ Mspot.toNatClampNeg then none else
          (fX5_has N x1 ((Mtext Mspot.toNatClampNeg) - (97 : Int32))).bind fun u6 =>
          (if u6 = 0 then
          if ((24 : Int32) + x2) < 0 ∨ 32 ≤ ((24 : Int32) + x2).toNatClampNeg then none else
            fX5_takesRank_b4 N n (x1 ||| ((1 : Int32) <<< (((upd Mread (((24 : Int32) + x2).toNatClampNeg) ((Mtext Mspot.toNatClampNeg) - (97 : Int32))) (((24 : Int32) + x2).toNatClampNeg)) &&& 31))) (x2 + (1 : Int32)) (upd Mread (((24 : Int32) + x2).toNatClampNeg) ((Mtext Mspot.toNatClampNeg) - (97 : Int32))) Mtext Mletters (Mspot + (1 : Int32))
        else
          some ((0 : Int32), Mread, Mspot))))
def fX5_takesRank (N : Nat) (Mread : Nat → Int32) (Mtext : Nat → Int32) (Mletters : Int32) (Mspot : Int32) : Option (Int32 × (Nat → Int32) × (Int32)) :=
  fX5_takesRank_b4 N N (0 : Int32) (0 : Int32) Mread Mtext Mletters Mspot
def fX5_takesCandidates_b33 (N : Nat) : Nat → Int32 → (Nat → Int32) → Int32 → Int32 → Option (Int32 × (Nat → Int32) × (Int32) × (Int32))
  | 0, _, _, _, _ => none
  | n + 1, x1, Mread, Mspot, Mvalue =>
    (if Mvalue ≤ x1 then
      some ((1 : Int32), Mread, Mspot, Mvalue)
    else
      if ((24 : Int32) + x1) < 0 ∨ 32 ≤ ((24 : Int32) + x1).toNatClampNeg then none else
        fX5_takesCandidates_b33 N n (x1 + (1 : Int32)) (upd Mread (((24 : Int32) + x1).toNatClampNeg) x1) Mspot Mvalue)
def fX5_takesCandidates (N : Nat) (Mread : Nat → Int32) (Mtext : Nat → Int32) (Mletters : Int32) (Mspot : Int32) (Mvalue : Int32) : Option (Int32 × (Nat → Int32) × (Int32) × (Int32)) :=
  (if 0 < (Mread 0) then
    some ((0 : Int32), Mread, Mspot, Mvalue)
  else
    (fX5_takesNumber N (1 : Int32) (8 : Int32) Mtext Mletters Mspot Mvalue).bind fun u4 =>
      (if u4.1 = 0 then
      some ((0 : Int32), Mread, u4.2.1, u4.2.2)
    else
      fX5_takesCandidates_b33 N N (0 : Int32) (upd Mread 0 u4.2.2) u4.2.1 u4.2.2))
def fX5_takesSeats (N : Nat) (Mread : Nat → Int32) (Mtext : Nat → Int32) (Mletters : Int32) (Mspot : Int32) (Mvalue : Int32) : Option (Int32 × (Nat → Int32) × (Int32) × (Int32)) :=
  (fX5_takesNumber N (1 : Int32) (8 : Int32) Mtext Mletters Mspot Mvalue).bind fun u1 =>
    if ¬ (u1.1 = 0 ∨ u1.1 = 1) then none else
    some (u1.1, (upd Mread 22 u1.2.2), u1.2.1, u1.2.2)
def fX5_takesItem_b39 (N : Nat) (x1 : Int32) (t0 : Int32) (Mread : Nat → Int32) (Mtext : Nat → Int32) (Mletters : Int32) (Mspot : Int32) (Mvalue : Int32) : Option (Int32 × (Nat → Int32) × (Int32) × (Int32)) :=
  (if x1 = 98 then
    (if t0 = 0 then
      some ((0 : Int32), Mread, Mspot, Mvalue)
    else
      (fX5_takesBallot N Mread Mtext Mletters Mspot Mvalue).bind fun u3 =>
        (if u3.1 = 0 then
        some ((0 : Int32), u3.2.1, u3.2.2.1, u3.2.2.2)
      else
        (fX5_takes N (59 : Int32) Mtext Mletters u3.2.2.1).bind fun u6 =>
          (if u6.1 = 0 then
          some ((0 : Int32), u3.2.1, u6.2, u3.2.2.2)
        else
          some ((1 : Int32), u3.2.1, u6.2, u3.2.2.2))))
  else
    (if x1 = 107 then
      (if t0 = 0 then
        some ((0 : Int32), Mread, Mspot, Mvalue)
      else
        (fX5_takesSeats N Mread Mtext Mletters Mspot Mvalue).bind fun u11 =>
          (if u11.1 = 0 then
          some ((0 : Int32), u11.2.1, u11.2.2.1, u11.2.2.2)
        else
          (fX5_takes N (59 : Int32) Mtext Mletters u11.2.2.1).bind fun u14 =>
            (if u14.1 = 0 then
            some ((0 : Int32), u11.2.1, u14.2, u11.2.2.2)
          else
            some ((1 : Int32), u11.2.1, u14.2, u11.2.2.2))))
    else
      (if x1 = 110 then
        (fX5_takesCandidates N Mread Mtext Mletters Mspot Mvalue).bind fun u18 =>
          (if u18.1 = 0 then
          some ((0 : Int32), u18.2.1, u18.2.2.1, u18.2.2.2)
        else
          (fX5_takes N (59 : Int32) Mtext Mletters u18.2.2.1).bind fun u21 =>
            (if u21.1 = 0 then
            some ((0 : Int32), u18.2.1, u21.2, u18.2.2.2)
          else
            some ((1 : Int32), u18.2.1, u21.2, u18.2.2.2)))
      else
        (if x1 = 111 then
          (if t0 = 0 then
            some ((0 : Int32), Mread, Mspot, Mvalue)
          else
            (fX5_takesRank N Mread Mtext Mletters Mspot).bind fun u26 =>
              (if u26.1 = 0 then
              some ((0 : Int32), u26.2.1, u26.2.2, Mvalue)
            else
              (fX5_takes N (59 : Int32) Mtext Mletters u26.2.2).bind fun u29 =>
                (if u29.1 = 0 then
                some ((0 : Int32), u26.2.1, u29.2, Mvalue)
              else
                some ((1 : Int32), u26.2.1, u29.2, Mvalue))))
        else
          some ((0 : Int32), Mread, Mspot, Mvalue)))))
def fX5_takesItem_b34 (N : Nat) (x1 : Int32) (Mread : Nat → Int32) (Mtext : Nat → Int32) (Mletters : Int32) (Mspot : Int32) (Mvalue : Int32) : Option (Int32 × (Nat → Int32) × (Int32) × (Int32)) :=
  fX5_takesItem_b39 N x1 (1 : Int32) Mread Mtext Mletters Mspot Mvalue
def fX5_takesItem (N : Nat) (Mread : Nat → Int32) (Mtext : Nat → Int32) (Mletters : Int32) (Mspot : Int32) (Mvalue : Int32) : Option (Int32 × (Nat → Int32) × (Int32) × (Int32)) :=
  (fX5_letterAt N Mspot Mtext Mletters).bind fun u32 =>
    (if u32 = (110 : Int32) then
    fX5_takesItem_b34 N u32 Mread Mtext Mletters (Mspot + (1 : Int32)) Mvalue
  else
    (if (Mread 0) ≤ 0 then
      fX5_takesItem_b39 N u32 (0 : Int32) Mread Mtext Mletters (Mspot + (1 : Int32)) Mvalue
    else
      fX5_takesItem_b34 N u32 Mread Mtext Mletters (Mspot + (1 : Int32)) Mvalue))
def fX5_faultOf_b34 (N : Nat) : Nat → (Nat → Int32) → (Nat → Int32) → Int32 → Int32 → Int32 → Option (Int32 × (Nat → Int32) × (Int32) × (Int32))
  | 0, _, _, _, _, _ => none
  | n + 1, Mread, Mtext, Mletters, Mspot, Mvalue =>
    (if Mletters ≤ Mspot then
      some ((-4 : Int32), Mread, Mspot, Mvalue)
    else
      (fX5_takesItem N Mread Mtext Mletters Mspot Mvalue).bind fun u2 =>
        (if u2.1 = 0 then
        some (Mspot, u2.2.1, u2.2.2.1, u2.2.2.2)
      else
        fX5_faultOf_b34 N n u2.2.1 Mtext Mletters u2.2.2.1 u2.2.2.2))
def fX5_faultOf_b21 (N : Nat) (Mread : Nat → Int32) (Mtext : Nat → Int32) (Mletters : Int32) (Mspot : Int32) (Mvalue : Int32) : Option (Int32 × (Nat → Int32) × (Int32) × (Int32)) :=
  fX5_faultOf_b34 N N (upd Mread 22 (3 : Int32)) Mtext Mletters (0 : Int32) Mvalue
def fX5_faultOf_b2 (N : Nat) : Nat → Int32 → (Nat → Int32) → (Nat → Int32) → Int32 → Int32 → Int32 → Option (Int32 × (Nat → Int32) × (Int32) × (Int32))
  | 0, _, _, _, _, _, _ => none
  | n + 1, x1, Mread, Mtext, Mletters, Mspot, Mvalue =>
    (if (32 : Int32) ≤ x1 then
      fX5_faultOf_b21 N Mread Mtext Mletters Mspot Mvalue
    else
      if x1 < 0 ∨ 32 ≤ x1.toNatClampNeg then none else
        fX5_faultOf_b2 N n (x1 + (1 : Int32)) (upd Mread x1.toNatClampNeg (0 : Int32)) Mtext Mletters Mspot Mvalue)
def fX5_faultOf (N : Nat) (Mread : Nat → Int32) (Mtext : Nat → Int32) (Mletters : Int32) (Mspot : Int32) (Mvalue : Int32) : Option (Int32 × (Nat → Int32) × (Int32) × (Int32)) :=
  fX5_faultOf_b2 N N (0 : Int32) Mread Mtext Mletters Mspot Mvalue
def fX5_fault (N : Nat) (Mread : Nat → Int32) (Mtext : Nat → Int32) (Mletters : Int32) (Mspot : Int32) (Mvalue : Int32) : Option (Int32 × (Nat → Int32) × (Int32) × (Int32)) :=
  (fX5_faultOf N Mread Mtext Mletters Mspot Mvalue).bind fun u1 =>
    some (u1.1, u1.2.1, u1.2.2.1, u1.2.2.2)
def fX5_lay_b47 (N : Nat) (Mnow : Nat → Int32) (Mread : Nat → Int32) (Mchanges : Int32) (Mspot : Int32) (Mvalue : Int32) : Option (Int32 × (Nat → Int32) × (Nat → Int32) × (Int32) × (Int32) × (Int32)) :=
  some ((Mnow 0), Mnow, Mread, (0 : Int32), Mspot, Mvalue)
def fX5_lay_b23 (N : Nat) : Nat → Int32 → (Nat → Int32) → (Nat → Int32) → Int32 → Int32 → Int32 → Option (Int32 × (Nat → Int32) × (Nat → Int32) × (Int32) × (Int32) × (Int32))
  | 0, _, _, _, _, _, _ => none
  | n + 1, x1, Mnow, Mread, Mchanges, Mspot, Mvalue =>
    (if (32 : Int32) ≤ x1 then
      fX5_lay_b47 N Mnow Mread Mchanges Mspot Mvalue
    else
      if x1 < 0 ∨ 32 ≤ x1.toNatClampNeg then none else
        fX5_lay_b23 N n (x1 + (1 : Int32)) (upd Mnow x1.toNatClampNeg (Mread x1.toNatClampNeg)) Mread Mchanges Mspot Mvalue)
def fX5_lay (N : Nat) (Mnow : Nat → Int32) (Mread : Nat → Int32) (Mchanges : Int32) (Mtext : Nat → Int32) (Mletters : Int32) (Mspot : Int32) (Mvalue : Int32) : Option (Int32 × (Nat → Int32) × (Nat → Int32) × (Int32) × (Int32) × (Int32)) :=
  (fX5_faultOf N Mread Mtext Mletters Mspot Mvalue).bind fun u3 =>
    (if u3.1 = (-4 : Int32) then
    (if (u3.2.1 0) = 0 then
      some ((-2 : Int32), Mnow, u3.2.1, Mchanges, u3.2.2.1, u3.2.2.2)
    else
      fX5_lay_b23 N N (0 : Int32) Mnow u3.2.1 Mchanges u3.2.2.1 u3.2.2.2)
  else
    some ((-2 : Int32), Mnow, u3.2.1, Mchanges, u3.2.2.1, u3.2.2.2))
def fX5_remembers_b83 (N : Nat) (Mpast : Nat → Int32) (Mchanges : Int32) : Option ((Nat → Int32) × (Int32)) :=
  some (Mpast, (Mchanges + (1 : Int32)))
def fX5_remembers_b51 (N : Nat) : Nat → Int32 → (Nat → Int32) → (Nat → Int32) → Int32 → Option ((Nat → Int32) × (Int32))
  | 0, _, _, _, _ => none
  | n + 1, x1, Mnow, Mpast, Mchanges =>
    (if (32 : Int32) ≤ x1 then
      fX5_remembers_b83 N Mpast Mchanges
    else
      if x1 < 0 ∨ 32 ≤ x1.toNatClampNeg then none else
        if (((32 : Int32) * Mchanges) + x1) < 0 ∨ 192 ≤ (((32 : Int32) * Mchanges) + x1).toNatClampNeg then none else
        fX5_remembers_b51 N n (x1 + (1 : Int32)) Mnow (upd Mpast ((((32 : Int32) * Mchanges) + x1).toNatClampNeg) (Mnow x1.toNatClampNeg)) Mchanges)
def fX5_remembers_b49 (N : Nat) (Mnow : Nat → Int32) (Mpast : Nat → Int32) (Mchanges : Int32) : Option ((Nat → Int32) × (Int32)) :=
  fX5_remembers_b51 N N (0 : Int32) Mnow Mpast Mchanges
def fX5_remembers_b39 (N : Nat) (Mnow : Nat → Int32) (Mpast : Nat → Int32) (Mchanges : Int32) : Option ((Nat → Int32) × (Int32)) :=
  fX5_remembers_b49 N Mnow Mpast (Mchanges - (1 : Int32))
def fX5_remembers_b11 (N : Nat) : Nat → Int32 → (Nat → Int32) → (Nat → Int32) → Int32 → Option ((Nat → Int32) × (Int32))
  | 0, _, _, _, _ => none
  | n + 1, x1, Mnow, Mpast, Mchanges =>
    (if (160 : Int32) ≤ x1 then
      fX5_remembers_b39 N Mnow Mpast Mchanges
    else
      if (x1 + (32 : Int32)) < 0 ∨ 192 ≤ (x1 + (32 : Int32)).toNatClampNeg then none else
        if x1 < 0 ∨ 192 ≤ x1.toNatClampNeg then none else
        fX5_remembers_b11 N n (x1 + (1 : Int32)) Mnow (upd Mpast x1.toNatClampNeg (Mpast ((x1 + (32 : Int32)).toNatClampNeg))) Mchanges)
def fX5_remembers (N : Nat) (Mnow : Nat → Int32) (Mpast : Nat → Int32) (Mchanges : Int32) : Option ((Nat → Int32) × (Int32)) :=
  (if Mchanges = (6 : Int32) then
    fX5_remembers_b11 N N (0 : Int32) Mnow Mpast Mchanges
  else
    fX5_remembers_b49 N Mnow Mpast Mchanges)
def fX5_exchanges (N : Nat) (p0 : Int32) (p1 : Int32) (Mnow : Nat → Int32) (Mpast : Nat → Int32) (Mchanges : Int32) : Option (Int32 × (Nat → Int32) × (Nat → Int32) × (Int32)) :=
  (fX5_remembers N Mnow Mpast Mchanges).bind fun u1 =>
    if p0 < 0 ∨ 32 ≤ p0.toNatClampNeg then none else
    some ((Mnow p0.toNatClampNeg), (upd Mnow p0.toNatClampNeg p1), u1.1, u1.2)
def fX5_ballot (N : Nat) (p0 : Int32) (p1 : Int32) (Mnow : Nat → Int32) (Mpast : Nat → Int32) (Mchanges : Int32) : Option (Int32 × (Nat → Int32) × (Nat → Int32) × (Int32)) :=
  (fX5_in N p0 (1 : Int32) (20 : Int32)).bind fun u1 =>
    (if u1 = 0 then
    some ((-1 : Int32), Mnow, Mpast, Mchanges)
  else
    (fX5_isSet N p1 Mnow).bind fun u4 =>
      (if u4 = 0 then
      some ((-1 : Int32), Mnow, Mpast, Mchanges)
    else
      (if (Mnow 1) = (10 : Int32) then
        some ((-3 : Int32), Mnow, Mpast, Mchanges)
      else
        (fX5_allVoters N Mnow).bind fun u8 =>
          (if (u8 + p0) ≤ (40 : Int32) then
          (fX5_remembers N Mnow Mpast Mchanges).bind fun u11 =>
            (fX5_adds N p0 p1 Mnow).bind fun u13 =>
            some (((u13 1) - (1 : Int32)), u13, u11.1, u11.2)
        else
          some ((-3 : Int32), Mnow, Mpast, Mchanges)))))
def fX5_voters (N : Nat) (p0 : Int32) (p1 : Int32) (Mnow : Nat → Int32) (Mpast : Nat → Int32) (Mchanges : Int32) : Option (Int32 × (Nat → Int32) × (Nat → Int32) × (Int32)) :=
  (fX5_isBallot N p0 Mnow).bind fun u1 =>
    (if u1 = 0 then
    some ((-1 : Int32), Mnow, Mpast, Mchanges)
  else
    (fX5_in N p1 (1 : Int32) (20 : Int32)).bind fun u4 =>
      (if u4 = 0 then
      some ((-1 : Int32), Mnow, Mpast, Mchanges)
    else
      if ((2 : Int32) + p0) < 0 ∨ 32 ≤ ((2 : Int32) + p0).toNatClampNeg then none else
        (if (Mnow (((2 : Int32) + p0).toNatClampNeg)) = p1 then
        some ((-2 : Int32), Mnow, Mpast, Mchanges)
      else
        (fX5_allVoters N Mnow).bind fun u9 =>
          (if ((u9 - (Mnow (((2 : Int32) + p0).toNatClampNeg))) + p1) ≤ (40 : Int32) then
          (fX5_exchanges N ((2 : Int32) + p0) p1 Mnow Mpast Mchanges).bind fun u12 =>
            some (u12.1, u12.2.1, u12.2.2.1, u12.2.2.2)
        else
          some ((-3 : Int32), Mnow, Mpast, Mchanges)))))
def fX5_approve (N : Nat) (p0 : Int32) (p1 : Int32) (Mnow : Nat → Int32) (Mpast : Nat → Int32) (Mchanges : Int32) : Option (Int32 × (Nat → Int32) × (Nat → Int32) × (Int32)) :=
  (fX5_isBallot N p0 Mnow).bind fun u1 =>
    (if u1 = 0 then
    some ((-1 : Int32), Mnow, Mpast, Mchanges)
  else
    (fX5_isSet N p1 Mnow).bind fun u4 =>
      (if u4 = 0 then
      some ((-1 : Int32), Mnow, Mpast, Mchanges)
    else
      if ((12 : Int32) + p0) < 0 ∨ 32 ≤ ((12 : Int32) + p0).toNatClampNeg then none else
        (if (Mnow (((12 : Int32) + p0).toNatClampNeg)) = p1 then
        some ((-2 : Int32), Mnow, Mpast, Mchanges)
      else
        (fX5_exchanges N ((12 : Int32) + p0) p1 Mnow Mpast Mchanges).bind fun u9 =>
          some (u9.1, u9.2.1, u9.2.2.1, u9.2.2.2))))
def fX5_seats (N : Nat) (p0 : Int32) (Mnow : Nat → Int32) (Mpast : Nat → Int32) (Mchanges : Int32) : Option (Int32 × (Nat → Int32) × (Nat → Int32) × (Int32)) :=
  (fX5_in N p0 (1 : Int32) (8 : Int32)).bind fun u1 =>
    (if u1 = 0 then
    some ((-1 : Int32), Mnow, Mpast, Mchanges)
  else
    (if (Mnow 22) = p0 then
      some ((-2 : Int32), Mnow, Mpast, Mchanges)
    else
      (fX5_exchanges N (22 : Int32) p0 Mnow Mpast Mchanges).bind fun u5 =>
        some (u5.1, u5.2.1, u5.2.2.1, u5.2.2.2)))
def fX5_withdraw_b40 (N : Nat) (x1 : Int32) (t0 : Int32) (t1 : Int32) (Mnow : Nat → Int32) (Mpast : Nat → Int32) (Mchanges : Int32) : Option (Int32 × (Nat → Int32) × (Nat → Int32) × (Int32)) :=
  (if t0 = t1 then
    some ((-2 : Int32), Mnow, Mpast, Mchanges)
  else
    (fX5_exchanges N (23 : Int32) ((Mnow 23) ^^^ ((1 : Int32) <<< (x1 &&& 31))) Mnow Mpast Mchanges).bind fun u2 =>
      (if 0 ≤ u2.1 then
      (fX5_ones N (u2.2.1 23)).bind fun u5 =>
        some (u5, u2.2.1, u2.2.2.1, u2.2.2.2)
    else
      some ((-4 : Int32), u2.2.1, u2.2.2.1, u2.2.2.2)))
def fX5_withdraw (N : Nat) (p0 : Int32) (p1 : Int32) (Mnow : Nat → Int32) (Mpast : Nat → Int32) (Mchanges : Int32) : Option (Int32 × (Nat → Int32) × (Nat → Int32) × (Int32)) :=
  (fX5_isCandidate N p0 Mnow).bind fun u7 =>
    (if u7 = 0 then
    some ((-1 : Int32), Mnow, Mpast, Mchanges)
  else
    (fX5_in N p1 (0 : Int32) (1 : Int32)).bind fun u10 =>
      (if u10 = 0 then
      some ((-1 : Int32), Mnow, Mpast, Mchanges)
    else
      (fX5_has N (Mnow 23) p0).bind fun u13 =>
        (if p1 = (1 : Int32) then
        fX5_withdraw_b40 N p0 u13 (1 : Int32) Mnow Mpast Mchanges
      else
        fX5_withdraw_b40 N p0 u13 (0 : Int32) Mnow Mpast Mchanges)))
def fX5_placeOf_b2 (N : Nat) : Nat → Int32 → Int32 → (Nat → Int32) → Option (Int32)
  | 0, _, _, _ => none
  | n + 1, x1, x2, Mnow =>
    if ((24 : Int32) + x2) < 0 ∨ 32 ≤ ((24 : Int32) + x2).toNatClampNeg then none else
      (if (Mnow (((24 : Int32) + x2).toNatClampNeg)) = x1 then
      some x2
    else
      fX5_placeOf_b2 N n x1 (x2 + (1 : Int32)) Mnow)
def fX5_placeOf (N : Nat) (p0 : Int32) (Mnow : Nat → Int32) : Option (Int32) :=
  fX5_placeOf_b2 N N p0 (0 : Int32) Mnow
def fX5_prefer_b59 (N : Nat) (x1 : Int32) (x2 : Int32) (Mnow : Nat → Int32) (Mpast : Nat → Int32) (Mchanges : Int32) : Option (Int32 × (Nat → Int32) × (Nat → Int32) × (Int32)) :=
  some (x2, (upd Mnow 24 x1), Mpast, Mchanges)
def fX5_prefer_b29 (N : Nat) : Nat → Int32 → Int32 → Int32 → (Nat → Int32) → (Nat → Int32) → Int32 → Option (Int32 × (Nat → Int32) × (Nat → Int32) × (Int32))
  | 0, _, _, _, _, _, _ => none
  | n + 1, x1, x2, x3, Mnow, Mpast, Mchanges =>
    (if x3 ≤ 0 then
      fX5_prefer_b59 N x1 x2 Mnow Mpast Mchanges
    else
      if (((24 : Int32) + x3) - (1 : Int32)) < 0 ∨ 32 ≤ (((24 : Int32) + x3) - (1 : Int32)).toNatClampNeg then none else
        if ((24 : Int32) + x3) < 0 ∨ 32 ≤ ((24 : Int32) + x3).toNatClampNeg then none else
        fX5_prefer_b29 N n x1 x2 (x3 + (-1 : Int32)) (upd Mnow (((24 : Int32) + x3).toNatClampNeg) (Mnow ((((24 : Int32) + x3) - (1 : Int32)).toNatClampNeg))) Mpast Mchanges)
def fX5_prefer (N : Nat) (p0 : Int32) (Mnow : Nat → Int32) (Mpast : Nat → Int32) (Mchanges : Int32) : Option (Int32 × (Nat → Int32) × (Nat → Int32) × (Int32)) :=
  (fX5_isCandidate N p0 Mnow).bind fun u4 =>
    (if u4 = 0 then
    some ((-1 : Int32), Mnow, Mpast, Mchanges)
  else
    (fX5_placeOf N p0 Mnow).bind fun u7 =>
      (if u7 = 0 then
      some ((-2 : Int32), Mnow, Mpast, Mchanges)
    else
      (fX5_remembers N Mnow Mpast Mchanges).bind fun u10 =>
        fX5_prefer_b29 N N p0 u7 u7 Mnow u10.1 u10.2))
def fX5_undo_b22 (N : Nat) : Nat → Int32 → (Nat → Int32) → (Nat → Int32) → Int32 → Option (Int32 × (Nat → Int32) × (Int32))
  | 0, _, _, _, _ => none
  | n + 1, x1, Mnow, Mpast, Mchanges =>
    (if (32 : Int32) ≤ x1 then
      some (Mchanges, Mnow, Mchanges)
    else
      if (((32 : Int32) * Mchanges) + x1) < 0 ∨ 192 ≤ (((32 : Int32) * Mchanges) + x1).toNatClampNeg then none else
        if x1 < 0 ∨ 32 ≤ x1.toNatClampNeg then none else
        fX5_undo_b22 N n (x1 + (1 : Int32)) (upd Mnow x1.toNatClampNeg (Mpast ((((32 : Int32) * Mchanges) + x1).toNatClampNeg))) Mpast Mchanges)
def fX5_undo (N : Nat) (Mnow : Nat → Int32) (Mpast : Nat → Int32) (Mchanges : Int32) : Option (Int32 × (Nat → Int32) × (Int32)) :=
  (if Mchanges = 0 then
    some ((-2 : Int32), Mnow, Mchanges)
  else
    fX5_undo_b22 N N (0 : Int32) Mnow Mpast (Mchanges - (1 : Int32)))
def fX5_lays_b57 (N : Nat) : Nat → Int32 → (Nat → Int32) → (Nat → Int32) → (Nat → Int32) → Int32 → (Nat → Int32) → Option ((Nat → Int32) × (Nat → Int32) × (Int32) × (Nat → Int32))
  | 0, _, _, _, _, _, _ => none
  | n + 1, x1, Mnow, Mheads, Msets, Mballots, Mranks =>
    (if (Mnow 0) ≤ x1 then
      some (Mheads, Msets, Mballots, Mranks)
    else
      if ((24 : Int32) + x1) < 0 ∨ 32 ≤ ((24 : Int32) + x1).toNatClampNeg then none else
        if x1 < 0 ∨ 8 ≤ x1.toNatClampNeg then none else
        fX5_lays_b57 N n (x1 + (1 : Int32)) Mnow Mheads Msets Mballots (upd Mranks x1.toNatClampNeg (Mnow (((24 : Int32) + x1).toNatClampNeg))))
def fX5_lays_b55 (N : Nat) (Mnow : Nat → Int32) (Mheads : Nat → Int32) (Msets : Nat → Int32) (Mballots : Int32) (Mranks : Nat → Int32) : Option ((Nat → Int32) × (Nat → Int32) × (Int32) × (Nat → Int32)) :=
  fX5_lays_b57 N N (0 : Int32) Mnow Mheads Msets Mballots Mranks
def fX5_lays_b12 (N : Nat) : Nat → Int32 → (Nat → Int32) → (Nat → Int32) → (Nat → Int32) → Int32 → (Nat → Int32) → Option ((Nat → Int32) × (Nat → Int32) × (Int32) × (Nat → Int32))
  | 0, _, _, _, _, _, _ => none
  | n + 1, x1, Mnow, Mheads, Msets, Mballots, Mranks =>
    (if Mballots ≤ x1 then
      fX5_lays_b55 N Mnow Mheads Msets Mballots Mranks
    else
      if ((2 : Int32) + x1) < 0 ∨ 32 ≤ ((2 : Int32) + x1).toNatClampNeg then none else
        if x1 < 0 ∨ 11 ≤ x1.toNatClampNeg then none else
        if ((12 : Int32) + x1) < 0 ∨ 32 ≤ ((12 : Int32) + x1).toNatClampNeg then none else
        fX5_lays_b12 N n (x1 + (1 : Int32)) Mnow (upd Mheads x1.toNatClampNeg (Mnow (((2 : Int32) + x1).toNatClampNeg))) (upd Msets x1.toNatClampNeg (Mnow (((12 : Int32) + x1).toNatClampNeg))) Mballots Mranks)
def fX5_lays (N : Nat) (Mnow : Nat → Int32) (Mheads : Nat → Int32) (Msets : Nat → Int32) (Mballots : Int32) (Mranks : Nat → Int32) : Option ((Nat → Int32) × (Nat → Int32) × (Int32) × (Nat → Int32)) :=
  fX5_lays_b12 N N (0 : Int32) Mnow Mheads Msets (Mnow 1) Mranks
def fX5_supportOf_b36 (N : Nat) (k4 : Int32 → Int32 → Int32 → (Nat → Int32) → (Nat → Int32) → Int32 → Option (Int32)) (x1 : Int32) (x3 : Int32) (t0 : Int32) (t1 : Int32) (Mheads : Nat → Int32) (Msets : Nat → Int32) (Mballots : Int32) : Option (Int32) :=
  k4 x1 (t0 + t1) (x3 + (1 : Int32)) Mheads Msets Mballots
def fX5_supportOf_b4 (N : Nat) : Nat → Int32 → Int32 → Int32 → (Nat → Int32) → (Nat → Int32) → Int32 → Option (Int32)
  | 0, _, _, _, _, _, _ => none
  | n + 1, x1, x2, x3, Mheads, Msets, Mballots =>
    (if Mballots ≤ x3 then
      some x2
    else
      if x3 < 0 ∨ 11 ≤ x3.toNatClampNeg then none else
        (fX5_has N (Msets x3.toNatClampNeg) x1).bind fun u3 =>
        (if u3 = 0 then
        fX5_supportOf_b36 N (fun z0 z1 z2 z3 z4 z5 => fX5_supportOf_b4 N n z0 z1 z2 z3 z4 z5) x1 x3 x2 (0 : Int32) Mheads Msets Mballots
      else
        fX5_supportOf_b36 N (fun z0 z1 z2 z3 z4 z5 => fX5_supportOf_b4 N n z0 z1 z2 z3 z4 z5) x1 x3 x2 (Mheads x3.toNatClampNeg) Mheads Msets Mballots))
def fX5_supportOf (N : Nat) (p0 : Int32) (Mheads : Nat → Int32) (Msets : Nat → Int32) (Mballots : Int32) : Option (Int32) :=
  fX5_supportOf_b4 N N p0 (0 : Int32) (0 : Int32) Mheads Msets Mballots
def fX5_loadOf_b52 (N : Nat) (k8 : Int32 → Int64 → Int32 → (Nat → Int32) → (Nat → Int32) → Int32 → (Nat → Int64) → Option (Int64)) (x1 : Int32) (x4 : Int32) (t0 : Int64) (t1 : Int64) (Mheads : Nat → Int32) (Msets : Nat → Int32) (Mballots : Int32) (Mloads : Nat → Int64) : Option (Int64) :=
  k8 x1 (t0 + t1) (x4 + (1 : Int32)) Mheads Msets Mballots Mloads
def fX5_loadOf_b8 (N : Nat) : Nat → Int32 → Int64 → Int32 → (Nat → Int32) → (Nat → Int32) → Int32 → (Nat → Int64) → Option (Int64)
  | 0, _, _, _, _, _, _, _ => none
  | n + 1, x1, x2, x4, Mheads, Msets, Mballots, Mloads =>
    (if Mballots ≤ x4 then
      some x2
    else
      if x4 < 0 ∨ 11 ≤ x4.toNatClampNeg then none else
        (fX5_has N (Msets x4.toNatClampNeg) x1).bind fun u3 =>
        (if u3 = 0 then
        fX5_loadOf_b52 N (fun z0 z1 z2 z3 z4 z5 z6 => fX5_loadOf_b8 N n z0 z1 z2 z3 z4 z5 z6) x1 x4 x2 (0 : Int64) Mheads Msets Mballots Mloads
      else
        fX5_loadOf_b52 N (fun z0 z1 z2 z3 z4 z5 z6 => fX5_loadOf_b8 N n z0 z1 z2 z3 z4 z5 z6) x1 x4 x2 (((Mheads x4.toNatClampNeg).toInt64) * (Mloads x4.toNatClampNeg)) Mheads Msets Mballots Mloads))
def fX5_loadOf (N : Nat) (p0 : Int32) (Mheads : Nat → Int32) (Msets : Nat → Int32) (Mballots : Int32) (Mloads : Nat → Int64) (Mbelow : Int64) : Option (Int64) :=
  fX5_loadOf_b8 N N p0 Mbelow (0 : Int32) Mheads Msets Mballots Mloads
def fX5_weightOf_b61 (N : Nat) (k4 : Int32 → Int32 → Int32 → (Nat → Int32) → (Nat → Int32) → Int32 → Int32 → Option (Int32)) (x1 : Int32) (x3 : Int32) (t0 : Int32) (t1 : Int32) (Mheads : Nat → Int32) (Msets : Nat → Int32) (Mballots : Int32) (Mmembers : Int32) : Option (Int32) :=
  k4 x1 (t0 + t1) (x3 + (1 : Int32)) Mheads Msets Mballots Mmembers
def fX5_weightOf_b4 (N : Nat) : Nat → Int32 → Int32 → Int32 → (Nat → Int32) → (Nat → Int32) → Int32 → Int32 → Option (Int32)
  | 0, _, _, _, _, _, _, _ => none
  | n + 1, x1, x2, x3, Mheads, Msets, Mballots, Mmembers =>
    (if Mballots ≤ x3 then
      some x2
    else
      if x3 < 0 ∨ 11 ≤ x3.toNatClampNeg then none else
        (fX5_ones N ((Msets x3.toNatClampNeg) &&& Mmembers)).bind fun u3 =>
        (fX5_has N (Msets x3.toNatClampNeg) x1).bind fun u5 =>
        (if u5 = 0 then
        fX5_weightOf_b61 N (fun z0 z1 z2 z3 z4 z5 z6 => fX5_weightOf_b4 N n z0 z1 z2 z3 z4 z5 z6) x1 x3 x2 (0 : Int32) Mheads Msets Mballots Mmembers
      else
        if ((1 : Int32) + u3) = 0 then none else
          fX5_weightOf_b61 N (fun z0 z1 z2 z3 z4 z5 z6 => fX5_weightOf_b4 N n z0 z1 z2 z3 z4 z5 z6) x1 x3 x2 ((Mheads x3.toNatClampNeg) * ((2520 : Int32) / ((1 : Int32) + u3))) Mheads Msets Mballots Mmembers))
def fX5_weightOf (N : Nat) (p0 : Int32) (Mheads : Nat → Int32) (Msets : Nat → Int32) (Mballots : Int32) (Mmembers : Int32) : Option (Int32) :=
  fX5_weightOf_b4 N N p0 (0 : Int32) (0 : Int32) Mheads Msets Mballots Mmembers
def fX5_isAhead (N : Nat) (p0 : Int32) (p1 : Int32) (p2 : Int32) (Mheads : Nat → Int32) (Msets : Nat → Int32) (Mballots : Int32) (Mloads : Nat → Int64) (Mbelow : Int64) (Mmembers : Int32) : Option (Int32) :=
  (if p0 = 1 then
    (fX5_supportOf N p1 Mheads Msets Mballots).bind fun u2 =>
      (fX5_supportOf N p2 Mheads Msets Mballots).bind fun u4 =>
      (if u2 ≤ u4 then
      some (0 : Int32)
    else
      some (1 : Int32))
  else
    (if p0 = 2 then
      (fX5_weightOf N p1 Mheads Msets Mballots Mmembers).bind fun u8 =>
        (fX5_weightOf N p2 Mheads Msets Mballots Mmembers).bind fun u10 =>
        (if u8 ≤ u10 then
        some (0 : Int32)
      else
        some (1 : Int32))
    else
      (fX5_loadOf N p1 Mheads Msets Mballots Mloads Mbelow).bind fun u13 =>
        (fX5_supportOf N p2 Mheads Msets Mballots).bind fun u15 =>
        (fX5_loadOf N p2 Mheads Msets Mballots Mloads Mbelow).bind fun u17 =>
        (fX5_supportOf N p1 Mheads Msets Mballots).bind fun u19 =>
        (if 0 ≤ (lg_cmp (u13 * (u15.toInt64)) (u17 * (u19.toInt64))) then
        some (0 : Int32)
      else
        some (1 : Int32))))
def fX5_nextOf_b122 (N : Nat) (k6 : Int32 → Int32 → Int32 → Int32 → (Nat → Int32) → (Nat → Int32) → (Nat → Int32) → Int32 → (Nat → Int32) → (Nat → Int64) → Int64 → Int32 → Option (Int32)) (x1 : Int32) (x2 : Int32) (x4 : Int32) (t0 : Int32) (Mnow : Nat → Int32) (Mheads : Nat → Int32) (Msets : Nat → Int32) (Mballots : Int32) (Mranks : Nat → Int32) (Mloads : Nat → Int64) (Mbelow : Int64) (Mmembers : Int32) : Option (Int32) :=
  k6 x1 x2 t0 (x4 + (1 : Int32)) Mnow Mheads Msets Mballots Mranks Mloads Mbelow Mmembers
def fX5_nextOf_b109 (N : Nat) (k6 : Int32 → Int32 → Int32 → Int32 → (Nat → Int32) → (Nat → Int32) → (Nat → Int32) → Int32 → (Nat → Int32) → (Nat → Int64) → Int64 → Int32 → Option (Int32)) (x1 : Int32) (x2 : Int32) (x3 : Int32) (x4 : Int32) (x5 : Int32) (t0 : Int32) (Mnow : Nat → Int32) (Mheads : Nat → Int32) (Msets : Nat → Int32) (Mballots : Int32) (Mranks : Nat → Int32) (Mloads : Nat → Int64) (Mbelow : Int64) (Mmembers : Int32) : Option (Int32) :=
  (if t0 = 0 then
    fX5_nextOf_b122 N k6 x1 x2 x4 x3 Mnow Mheads Msets Mballots Mranks Mloads Mbelow Mmembers
  else
    fX5_nextOf_b122 N k6 x1 x2 x4 x5 Mnow Mheads Msets Mballots Mranks Mloads Mbelow Mmembers)
def fX5_nextOf_b108 (N : Nat) (k6 : Int32 → Int32 → Int32 → Int32 → (Nat → Int32) → (Nat → Int32) → (Nat → Int32) → Int32 → (Nat → Int32) → (Nat → Int64) → Int64 → Int32 → Option (Int32)) (x1 : Int32) (x2 : Int32) (x3 : Int32) (x4 : Int32) (x5 : Int32) (Mnow : Nat → Int32) (Mheads : Nat → Int32) (Msets : Nat → Int32) (Mballots : Int32) (Mranks : Nat → Int32) (Mloads : Nat → Int64) (Mbelow : Int64) (Mmembers : Int32) : Option (Int32) :=
  fX5_nextOf_b109 N k6 x1 x2 x3 x4 x5 (0 : Int32) Mnow Mheads Msets Mballots Mranks Mloads Mbelow Mmembers
def fX5_nextOf_b104 (N : Nat) (k6 : Int32 → Int32 → Int32 → Int32 → (Nat → Int32) → (Nat → Int32) → (Nat → Int32) → Int32 → (Nat → Int32) → (Nat → Int64) → Int64 → Int32 → Option (Int32)) (x1 : Int32) (x2 : Int32) (x3 : Int32) (x4 : Int32) (x5 : Int32) (Mnow : Nat → Int32) (Mheads : Nat → Int32) (Msets : Nat → Int32) (Mballots : Int32) (Mranks : Nat → Int32) (Mloads : Nat → Int64) (Mbelow : Int64) (Mmembers : Int32) : Option (Int32) :=
  fX5_nextOf_b109 N k6 x1 x2 x3 x4 x5 (1 : Int32) Mnow Mheads Msets Mballots Mranks Mloads Mbelow Mmembers
def fX5_nextOf_b76 (N : Nat) (k6 : Int32 → Int32 → Int32 → Int32 → (Nat → Int32) → (Nat → Int32) → (Nat → Int32) → Int32 → (Nat → Int32) → (Nat → Int64) → Int64 → Int32 → Option (Int32)) (x1 : Int32) (x2 : Int32) (x3 : Int32) (x4 : Int32) (x5 : Int32) (t0 : Int32) (Mnow : Nat → Int32) (Mheads : Nat → Int32) (Msets : Nat → Int32) (Mballots : Int32) (Mranks : Nat → Int32) (Mloads : Nat → Int64) (Mbelow : Int64) (Mmembers : Int32) : Option (Int32) :=
  (if t0 = 0 then
    fX5_nextOf_b108 N k6 x1 x2 x3 x4 x5 Mnow Mheads Msets Mballots Mranks Mloads Mbelow Mmembers
  else
    (if x3 = (-4 : Int32) then
      fX5_nextOf_b104 N k6 x1 x2 x3 x4 x5 Mnow Mheads Msets Mballots Mranks Mloads Mbelow Mmembers
    else
      (if x2 = 0 then
        fX5_nextOf_b108 N k6 x1 x2 x3 x4 x5 Mnow Mheads Msets Mballots Mranks Mloads Mbelow Mmembers
      else
        (fX5_isAhead N x1 x5 x3 Mheads Msets Mballots Mloads Mbelow Mmembers).bind fun u5 =>
          (if u5 = 0 then
          fX5_nextOf_b108 N k6 x1 x2 x3 x4 x5 Mnow Mheads Msets Mballots Mranks Mloads Mbelow Mmembers
        else
          fX5_nextOf_b104 N k6 x1 x2 x3 x4 x5 Mnow Mheads Msets Mballots Mranks Mloads Mbelow Mmembers))))
def fX5_nextOf_b75 (N : Nat) (k6 : Int32 → Int32 → Int32 → Int32 → (Nat → Int32) → (Nat → Int32) → (Nat → Int32) → Int32 → (Nat → Int32) → (Nat → Int64) → Int64 → Int32 → Option (Int32)) (x1 : Int32) (x2 : Int32) (x3 : Int32) (x4 : Int32) (x5 : Int32) (Mnow : Nat → Int32) (Mheads : Nat → Int32) (Msets : Nat → Int32) (Mballots : Int32) (Mranks : Nat → Int32) (Mloads : Nat → Int64) (Mbelow : Int64) (Mmembers : Int32) : Option (Int32) :=
  fX5_nextOf_b76 N k6 x1 x2 x3 x4 x5 (0 : Int32) Mnow Mheads Msets Mballots Mranks Mloads Mbelow Mmembers
def fX5_nextOf_b67 (N : Nat) (k6 : Int32 → Int32 → Int32 → Int32 → (Nat → Int32) → (Nat → Int32) → (Nat → Int32) → Int32 → (Nat → Int32) → (Nat → Int64) → Int64 → Int32 → Option (Int32)) (x1 : Int32) (x2 : Int32) (x3 : Int32) (x4 : Int32) (x5 : Int32) (t0 : Int32) (Mnow : Nat → Int32) (Mheads : Nat → Int32) (Msets : Nat → Int32) (Mballots : Int32) (Mranks : Nat → Int32) (Mloads : Nat → Int64) (Mbelow : Int64) (Mmembers : Int32) : Option (Int32) :=
  (if t0 = x2 then
    fX5_nextOf_b76 N k6 x1 x2 x3 x4 x5 (1 : Int32) Mnow Mheads Msets Mballots Mranks Mloads Mbelow Mmembers
  else
    fX5_nextOf_b75 N k6 x1 x2 x3 x4 x5 Mnow Mheads Msets Mballots Mranks Mloads Mbelow Mmembers)
def fX5_nextOf_b6 (N : Nat) : Nat → Int32 → Int32 → Int32 → Int32 → (Nat → Int32) → (Nat → Int32) → (Nat → Int32) → Int32 → (Nat → Int32) → (Nat → Int64) → Int64 → Int32 → Option (Int32)
  | 0, _, _, _, _, _, _, _, _, _, _, _, _ => none
  | n + 1, x1, x2, x3, x4, Mnow, Mheads, Msets, Mballots, Mranks, Mloads, Mbelow, Mmembers =>
    (if (Mnow 0) ≤ x4 then
      some x3
    else
      if x4 < 0 ∨ 8 ≤ x4.toNatClampNeg then none else
        (fX5_has N (Mnow 23) (Mranks x4.toNatClampNeg)).bind fun u11 =>
        (if u11 = 0 then
        (fX5_has N Mmembers (Mranks x4.toNatClampNeg)).bind fun u14 =>
          (if u14 = 0 then
          (fX5_supportOf N (Mranks x4.toNatClampNeg) Mheads Msets Mballots).bind fun u17 =>
            (if u17 ≤ 0 then
            fX5_nextOf_b67 N (fun z0 z1 z2 z3 z4 z5 z6 z7 z8 z9 z10 z11 => fX5_nextOf_b6 N n z0 z1 z2 z3 z4 z5 z6 z7 z8 z9 z10 z11) x1 x2 x3 x4 (Mranks x4.toNatClampNeg) (0 : Int32) Mnow Mheads Msets Mballots Mranks Mloads Mbelow Mmembers
          else
            fX5_nextOf_b67 N (fun z0 z1 z2 z3 z4 z5 z6 z7 z8 z9 z10 z11 => fX5_nextOf_b6 N n z0 z1 z2 z3 z4 z5 z6 z7 z8 z9 z10 z11) x1 x2 x3 x4 (Mranks x4.toNatClampNeg) (1 : Int32) Mnow Mheads Msets Mballots Mranks Mloads Mbelow Mmembers)
        else
          fX5_nextOf_b75 N (fun z0 z1 z2 z3 z4 z5 z6 z7 z8 z9 z10 z11 => fX5_nextOf_b6 N n z0 z1 z2 z3 z4 z5 z6 z7 z8 z9 z10 z11) x1 x2 x3 x4 (Mranks x4.toNatClampNeg) Mnow Mheads Msets Mballots Mranks Mloads Mbelow Mmembers)
      else
        fX5_nextOf_b75 N (fun z0 z1 z2 z3 z4 z5 z6 z7 z8 z9 z10 z11 => fX5_nextOf_b6 N n z0 z1 z2 z3 z4 z5 z6 z7 z8 z9 z10 z11) x1 x2 x3 x4 (Mranks x4.toNatClampNeg) Mnow Mheads Msets Mballots Mranks Mloads Mbelow Mmembers))
def fX5_nextOf (N : Nat) (p0 : Int32) (p1 : Int32) (Mnow : Nat → Int32) (Mheads : Nat → Int32) (Msets : Nat → Int32) (Mballots : Int32) (Mranks : Nat → Int32) (Mloads : Nat → Int64) (Mbelow : Int64) (Mmembers : Int32) : Option (Int32) :=
  fX5_nextOf_b6 N N p0 p1 (-4 : Int32) (0 : Int32) Mnow Mheads Msets Mballots Mranks Mloads Mbelow Mmembers
def fX5_comesBy_b152 (N : Nat) (x3 : Int32) (Mloads : Nat → Int64) (Mbelow : Int64) (Mabove : Nat → Int64) (Munder : Nat → Int64) : Option ((Nat → Int64) × (Int64) × (Nat → Int64) × (Nat → Int64)) :=
  some (Mloads, (Mbelow * (x3.toInt64)), Mabove, Munder)
def fX5_comesBy_b145 (N : Nat) (k101 : Int32 → Int32 → Int64 → Int32 → (Nat → Int32) → Int32 → (Nat → Int64) → Int64 → (Nat → Int64) → (Nat → Int64) → Option ((Nat → Int64) × (Int64) × (Nat → Int64) × (Nat → Int64))) (x2 : Int32) (x3 : Int32) (x4 : Int64) (x6 : Int32) (t1 : Int32) (t2 : Int64) (Msets : Nat → Int32) (Mballots : Int32) (Mloads : Nat → Int64) (Mbelow : Int64) (Mabove : Nat → Int64) (Munder : Nat → Int64) : Option ((Nat → Int64) × (Int64) × (Nat → Int64) × (Nat → Int64)) :=
  if t1 < 0 ∨ 11 ≤ t1.toNatClampNeg then none else
    k101 x2 x3 x4 (x6 + (1 : Int32)) Msets Mballots (vp_updL Mloads t1.toNatClampNeg t2) Mbelow Mabove Munder
def fX5_comesBy_b101 (N : Nat) : Nat → Int32 → Int32 → Int64 → Int32 → (Nat → Int32) → Int32 → (Nat → Int64) → Int64 → (Nat → Int64) → (Nat → Int64) → Option ((Nat → Int64) × (Int64) × (Nat → Int64) × (Nat → Int64))
  | 0, _, _, _, _, _, _, _, _, _, _ => none
  | n + 1, x2, x3, x4, x6, Msets, Mballots, Mloads, Mbelow, Mabove, Munder =>
    (if Mballots ≤ x6 then
      fX5_comesBy_b152 N x3 Mloads Mbelow Mabove Munder
    else
      if x6 < 0 ∨ 11 ≤ x6.toNatClampNeg then none else
        (fX5_has N (Msets x6.toNatClampNeg) x2).bind fun u4 =>
        (if u4 = 0 then
        fX5_comesBy_b145 N (fun z0 z1 z2 z3 z4 z5 z6 z7 z8 z9 => fX5_comesBy_b101 N n z0 z1 z2 z3 z4 z5 z6 z7 z8 z9) x2 x3 x4 x6 x6 ((Mloads x6.toNatClampNeg) * (x3.toInt64)) Msets Mballots Mloads Mbelow Mabove Munder
      else
        fX5_comesBy_b145 N (fun z0 z1 z2 z3 z4 z5 z6 z7 z8 z9 => fX5_comesBy_b101 N n z0 z1 z2 z3 z4 z5 z6 z7 z8 z9) x2 x3 x4 x6 x6 x4 Msets Mballots Mloads Mbelow Mabove Munder))
def fX5_comesBy_b79 (N : Nat) (x1 : Int32) (x2 : Int32) (x3 : Int32) (t1 : Int32) (t2 : Int64) (Mheads : Nat → Int32) (Msets : Nat → Int32) (Mballots : Int32) (Mloads : Nat → Int64) (Mbelow : Int64) (Mabove : Nat → Int64) (Munder : Nat → Int64) : Option ((Nat → Int64) × (Int64) × (Nat → Int64) × (Nat → Int64)) :=
  if t1 < 0 ∨ 8 ≤ t1.toNatClampNeg then none else
    (if x1 = (1 : Int32) then
    some (Mloads, Mbelow, Mabove, (vp_updL Munder t1.toNatClampNeg t2))
  else
    (if x1 = (2 : Int32) then
      some (Mloads, Mbelow, Mabove, (vp_updL Munder t1.toNatClampNeg t2))
    else
      (fX5_loadOf N x2 Mheads Msets Mballots Mloads Mbelow).bind fun u10 =>
        fX5_comesBy_b101 N N x2 x3 u10 (0 : Int32) Msets Mballots Mloads Mbelow Mabove (vp_updL Munder t1.toNatClampNeg t2)))
def fX5_comesBy_b43 (N : Nat) (x1 : Int32) (x2 : Int32) (x3 : Int32) (t1 : Int32) (t2 : Int64) (Mheads : Nat → Int32) (Msets : Nat → Int32) (Mballots : Int32) (Mloads : Nat → Int64) (Mbelow : Int64) (Melected : Int32) (Mabove : Nat → Int64) (Munder : Nat → Int64) : Option ((Nat → Int64) × (Int64) × (Nat → Int64) × (Nat → Int64)) :=
  if t1 < 0 ∨ 8 ≤ t1.toNatClampNeg then none else
    (if x1 = (1 : Int32) then
    fX5_comesBy_b79 N x1 x2 x3 Melected (1 : Int64) Mheads Msets Mballots Mloads Mbelow (vp_updL Mabove t1.toNatClampNeg t2) Munder
  else
    (if x1 = (2 : Int32) then
      fX5_comesBy_b79 N x1 x2 x3 Melected (2520 : Int64) Mheads Msets Mballots Mloads Mbelow (vp_updL Mabove t1.toNatClampNeg t2) Munder
    else
      fX5_comesBy_b79 N x1 x2 x3 Melected (Mbelow * (x3.toInt64)) Mheads Msets Mballots Mloads Mbelow (vp_updL Mabove t1.toNatClampNeg t2) Munder))
def fX5_comesBy (N : Nat) (p0 : Int32) (p1 : Int32) (Mheads : Nat → Int32) (Msets : Nat → Int32) (Mballots : Int32) (Mloads : Nat → Int64) (Mbelow : Int64) (Melected : Int32) (Mmembers : Int32) (Mabove : Nat → Int64) (Munder : Nat → Int64) : Option ((Nat → Int64) × (Int64) × (Nat → Int64) × (Nat → Int64)) :=
  (fX5_supportOf N p1 Mheads Msets Mballots).bind fun u15 =>
    (if p0 = (1 : Int32) then
    fX5_comesBy_b43 N p0 p1 u15 Melected (u15.toInt64) Mheads Msets Mballots Mloads Mbelow Melected Mabove Munder
  else
    (if p0 = (2 : Int32) then
      (fX5_weightOf N p1 Mheads Msets Mballots Mmembers).bind fun u21 =>
        fX5_comesBy_b43 N p0 p1 u15 Melected (u21.toInt64) Mheads Msets Mballots Mloads Mbelow Melected Mabove Munder
    else
      (fX5_loadOf N p1 Mheads Msets Mballots Mloads Mbelow).bind fun u19 =>
        fX5_comesBy_b43 N p0 p1 u15 Melected u19 Mheads Msets Mballots Mloads Mbelow Melected Mabove Munder))
def fX5_elects_b155 (N : Nat) (k40 : Int32 → Int32 → (Nat → Int32) → (Nat → Int32) → (Nat → Int32) → Int32 → (Nat → Int32) → (Nat → Int64) → Int64 → (Nat → Int32) → Int32 → Int32 → (Nat → Int64) → (Nat → Int64) → Option ((Nat → Int64) × (Int64) × (Nat → Int32) × (Int32) × (Int32) × (Nat → Int64) × (Nat → Int64))) (x1 : Int32) (x2 : Int32) (Mnow : Nat → Int32) (Mheads : Nat → Int32) (Msets : Nat → Int32) (Mballots : Int32) (Mranks : Nat → Int32) (Mloads : Nat → Int64) (Mbelow : Int64) (Morder : Nat → Int32) (Melected : Int32) (Mmembers : Int32) (Mabove : Nat → Int64) (Munder : Nat → Int64) : Option ((Nat → Int64) × (Int64) × (Nat → Int32) × (Int32) × (Int32) × (Nat → Int64) × (Nat → Int64)) :=
  k40 x1 x2 Mnow Mheads Msets Mballots Mranks Mloads Mbelow Morder Melected Mmembers Mabove Munder
def fX5_elects_b118 (N : Nat) (k40 : Int32 → Int32 → (Nat → Int32) → (Nat → Int32) → (Nat → Int32) → Int32 → (Nat → Int32) → (Nat → Int64) → Int64 → (Nat → Int32) → Int32 → Int32 → (Nat → Int64) → (Nat → Int64) → Option ((Nat → Int64) × (Int64) × (Nat → Int32) × (Int32) × (Int32) × (Nat → Int64) × (Nat → Int64))) (x1 : Int32) (x3 : Int32) (t0 : Int32) (Mnow : Nat → Int32) (Mheads : Nat → Int32) (Msets : Nat → Int32) (Mballots : Int32) (Mranks : Nat → Int32) (Mloads : Nat → Int64) (Mbelow : Int64) (Morder : Nat → Int32) (Melected : Int32) (Mmembers : Int32) (Mabove : Nat → Int64) (Munder : Nat → Int64) : Option ((Nat → Int64) × (Int64) × (Nat → Int32) × (Int32) × (Int32) × (Nat → Int64) × (Nat → Int64)) :=
  (if t0 = 0 then
    fX5_elects_b155 N k40 x1 t0 Mnow Mheads Msets Mballots Mranks Mloads Mbelow Morder Melected Mmembers Mabove Munder
  else
    if Melected < 0 ∨ 8 ≤ Melected.toNatClampNeg then none else
      fX5_elects_b155 N k40 x1 t0 Mnow Mheads Msets Mballots Mranks Mloads Mbelow (upd Morder Melected.toNatClampNeg x3) (Melected + (1 : Int32)) (Mmembers ||| ((1 : Int32) <<< (x3 &&& 31))) Mabove Munder)
def fX5_elects_b107 (N : Nat) (k40 : Int32 → Int32 → (Nat → Int32) → (Nat → Int32) → (Nat → Int32) → Int32 → (Nat → Int32) → (Nat → Int64) → Int64 → (Nat → Int32) → Int32 → Int32 → (Nat → Int64) → (Nat → Int64) → Option ((Nat → Int64) × (Int64) × (Nat → Int32) × (Int32) × (Int32) × (Nat → Int64) × (Nat → Int64))) (x1 : Int32) (x3 : Int32) (Mnow : Nat → Int32) (Mheads : Nat → Int32) (Msets : Nat → Int32) (Mballots : Int32) (Mranks : Nat → Int32) (Mloads : Nat → Int64) (Mbelow : Int64) (Morder : Nat → Int32) (Melected : Int32) (Mmembers : Int32) (Mabove : Nat → Int64) (Munder : Nat → Int64) : Option ((Nat → Int64) × (Int64) × (Nat → Int32) × (Int32) × (Int32) × (Nat → Int64) × (Nat → Int64)) :=
  (if x3 = (-4 : Int32) then
    fX5_elects_b118 N k40 x1 x3 (0 : Int32) Mnow Mheads Msets Mballots Mranks Mloads Mbelow Morder Melected Mmembers Mabove Munder
  else
    fX5_elects_b118 N k40 x1 x3 (1 : Int32) Mnow Mheads Msets Mballots Mranks Mloads Mbelow Morder Melected Mmembers Mabove Munder)
def fX5_elects_b40 (N : Nat) : Nat → Int32 → Int32 → (Nat → Int32) → (Nat → Int32) → (Nat → Int32) → Int32 → (Nat → Int32) → (Nat → Int64) → Int64 → (Nat → Int32) → Int32 → Int32 → (Nat → Int64) → (Nat → Int64) → Option ((Nat → Int64) × (Int64) × (Nat → Int32) × (Int32) × (Int32) × (Nat → Int64) × (Nat → Int64))
  | 0, _, _, _, _, _, _, _, _, _, _, _, _, _, _ => none
  | n + 1, x1, x2, Mnow, Mheads, Msets, Mballots, Mranks, Mloads, Mbelow, Morder, Melected, Mmembers, Mabove, Munder =>
    (if x2 = 0 then
      some (Mloads, Mbelow, Morder, Melected, Mmembers, Mabove, Munder)
    else
      (if (Mnow 22) ≤ Melected then
        some (Mloads, Mbelow, Morder, Melected, Mmembers, Mabove, Munder)
      else
        (fX5_nextOf N x1 (1 : Int32) Mnow Mheads Msets Mballots Mranks Mloads Mbelow Mmembers).bind fun u6 =>
          (if u6 = (-4 : Int32) then
          (fX5_nextOf N x1 (0 : Int32) Mnow Mheads Msets Mballots Mranks Mloads Mbelow Mmembers).bind fun u9 =>
            if Melected < 0 ∨ 8 ≤ Melected.toNatClampNeg then none else
            fX5_elects_b107 N (fun z0 z1 z2 z3 z4 z5 z6 z7 z8 z9 z10 z11 z12 z13 => fX5_elects_b40 N n z0 z1 z2 z3 z4 z5 z6 z7 z8 z9 z10 z11 z12 z13) x1 u9 Mnow Mheads Msets Mballots Mranks Mloads Mbelow Morder Melected Mmembers (vp_updL Mabove Melected.toNatClampNeg (0 : Int64)) (vp_updL Munder Melected.toNatClampNeg (0 : Int64))
        else
          (fX5_comesBy N x1 u6 Mheads Msets Mballots Mloads Mbelow Melected Mmembers Mabove Munder).bind fun u12 =>
            fX5_elects_b107 N (fun z0 z1 z2 z3 z4 z5 z6 z7 z8 z9 z10 z11 z12 z13 => fX5_elects_b40 N n z0 z1 z2 z3 z4 z5 z6 z7 z8 z9 z10 z11 z12 z13) x1 u6 Mnow Mheads Msets Mballots Mranks u12.1 u12.2.1 Morder Melected Mmembers u12.2.2.1 u12.2.2.2)))
def fX5_elects_b38 (N : Nat) (x1 : Int32) (Mnow : Nat → Int32) (Mheads : Nat → Int32) (Msets : Nat → Int32) (Mballots : Int32) (Mranks : Nat → Int32) (Mloads : Nat → Int64) (Mbelow : Int64) (Morder : Nat → Int32) (Melected : Int32) (Mmembers : Int32) (Mabove : Nat → Int64) (Munder : Nat → Int64) : Option ((Nat → Int64) × (Int64) × (Nat → Int32) × (Int32) × (Int32) × (Nat → Int64) × (Nat → Int64)) :=
  fX5_elects_b40 N N x1 (1 : Int32) Mnow Mheads Msets Mballots Mranks Mloads Mbelow Morder Melected Mmembers Mabove Munder
def fX5_elects_b17 (N : Nat) : Nat → Int32 → Int32 → (Nat → Int32) → (Nat → Int32) → (Nat → Int32) → Int32 → (Nat → Int32) → (Nat → Int64) → Int64 → (Nat → Int32) → Int32 → Int32 → (Nat → Int64) → (Nat → Int64) → Option ((Nat → Int64) × (Int64) × (Nat → Int32) × (Int32) × (Int32) × (Nat → Int64) × (Nat → Int64))
  | 0, _, _, _, _, _, _, _, _, _, _, _, _, _, _ => none
  | n + 1, x1, x2, Mnow, Mheads, Msets, Mballots, Mranks, Mloads, Mbelow, Morder, Melected, Mmembers, Mabove, Munder =>
    (if Mballots ≤ x2 then
      fX5_elects_b38 N x1 Mnow Mheads Msets Mballots Mranks Mloads Mbelow Morder Melected Mmembers Mabove Munder
    else
      if x2 < 0 ∨ 11 ≤ x2.toNatClampNeg then none else
        fX5_elects_b17 N n x1 (x2 + (1 : Int32)) Mnow Mheads Msets Mballots Mranks (vp_updL Mloads x2.toNatClampNeg (0 : Int64)) Mbelow Morder Melected Mmembers Mabove Munder)
def fX5_elects (N : Nat) (p0 : Int32) (Mnow : Nat → Int32) (Mheads : Nat → Int32) (Msets : Nat → Int32) (Mballots : Int32) (Mranks : Nat → Int32) (Mloads : Nat → Int64) (Mbelow : Int64) (Morder : Nat → Int32) (Melected : Int32) (Mmembers : Int32) (Mabove : Nat → Int64) (Munder : Nat → Int64) : Option ((Nat → Int64) × (Int64) × (Nat → Int32) × (Int32) × (Int32) × (Nat → Int64) × (Nat → Int64)) :=
  fX5_elects_b17 N N p0 (0 : Int32) Mnow Mheads Msets Mballots Mranks Mloads (1 : Int64) Morder (0 : Int32) (0 : Int32) Mabove Munder
def fX5_membersBy (N : Nat) (p0 : Int32) (Mnow : Nat → Int32) (Mheads : Nat → Int32) (Msets : Nat → Int32) (Mballots : Int32) (Mranks : Nat → Int32) (Mloads : Nat → Int64) (Mbelow : Int64) (Morder : Nat → Int32) (Melected : Int32) (Mmembers : Int32) (Mabove : Nat → Int64) (Munder : Nat → Int64) : Option (Int32 × (Nat → Int32) × (Nat → Int32) × (Int32) × (Nat → Int32) × (Nat → Int64) × (Int64) × (Nat → Int32) × (Int32) × (Int32) × (Nat → Int64) × (Nat → Int64)) :=
  (fX5_lays N Mnow Mheads Msets Mballots Mranks).bind fun u1 =>
    (fX5_elects N p0 Mnow u1.1 u1.2.1 u1.2.2.1 u1.2.2.2 Mloads Mbelow Morder Melected Mmembers Mabove Munder).bind fun u3 =>
    some (u3.2.2.2.2.1, u1.1, u1.2.1, u1.2.2.1, u1.2.2.2, u3.1, u3.2.1, u3.2.2.1, u3.2.2.2.1, u3.2.2.2.2.1, u3.2.2.2.2.2.1, u3.2.2.2.2.2.2)
def fX5_lawsOf_b29 (N : Nat) (k4 : Int32 → Int32 → Int32 → (Nat → Int32) → (Nat → Int32) → (Nat → Int32) → Int32 → (Nat → Int32) → (Nat → Int64) → Int64 → (Nat → Int32) → Int32 → Int32 → (Nat → Int64) → (Nat → Int64) → Option (Int32 × (Nat → Int32) × (Nat → Int32) × (Int32) × (Nat → Int32) × (Nat → Int64) × (Int64) × (Nat → Int32) × (Int32) × (Int32) × (Nat → Int64) × (Nat → Int64))) (x1 : Int32) (x3 : Int32) (t0 : Int32) (t1 : Int32) (Mnow : Nat → Int32) (Mheads : Nat → Int32) (Msets : Nat → Int32) (Mballots : Int32) (Mranks : Nat → Int32) (Mloads : Nat → Int64) (Mbelow : Int64) (Morder : Nat → Int32) (Melected : Int32) (Mmembers : Int32) (Mabove : Nat → Int64) (Munder : Nat → Int64) : Option (Int32 × (Nat → Int32) × (Nat → Int32) × (Int32) × (Nat → Int32) × (Nat → Int64) × (Int64) × (Nat → Int32) × (Int32) × (Int32) × (Nat → Int64) × (Nat → Int64)) :=
  k4 x1 (t0 ||| t1) (x3 + (1 : Int32)) Mnow Mheads Msets Mballots Mranks Mloads Mbelow Morder Melected Mmembers Mabove Munder
def fX5_lawsOf_b4 (N : Nat) : Nat → Int32 → Int32 → Int32 → (Nat → Int32) → (Nat → Int32) → (Nat → Int32) → Int32 → (Nat → Int32) → (Nat → Int64) → Int64 → (Nat → Int32) → Int32 → Int32 → (Nat → Int64) → (Nat → Int64) → Option (Int32 × (Nat → Int32) × (Nat → Int32) × (Int32) × (Nat → Int32) × (Nat → Int64) × (Int64) × (Nat → Int32) × (Int32) × (Int32) × (Nat → Int64) × (Nat → Int64))
  | 0, _, _, _, _, _, _, _, _, _, _, _, _, _, _, _ => none
  | n + 1, x1, x2, x3, Mnow, Mheads, Msets, Mballots, Mranks, Mloads, Mbelow, Morder, Melected, Mmembers, Mabove, Munder =>
    (if (4 : Int32) ≤ x3 then
      some (x2, Mheads, Msets, Mballots, Mranks, Mloads, Mbelow, Morder, Melected, Mmembers, Mabove, Munder)
    else
      (fX5_membersBy N x3 Mnow Mheads Msets Mballots Mranks Mloads Mbelow Morder Melected Mmembers Mabove Munder).bind fun u2 =>
        (fX5_has N u2.1 x1).bind fun u4 =>
        (if u4 = 0 then
        fX5_lawsOf_b29 N (fun z0 z1 z2 z3 z4 z5 z6 z7 z8 z9 z10 z11 z12 z13 z14 => fX5_lawsOf_b4 N n z0 z1 z2 z3 z4 z5 z6 z7 z8 z9 z10 z11 z12 z13 z14) x1 x3 x2 (0 : Int32) Mnow u2.2.1 u2.2.2.1 u2.2.2.2.1 u2.2.2.2.2.1 u2.2.2.2.2.2.1 u2.2.2.2.2.2.2.1 u2.2.2.2.2.2.2.2.1 u2.2.2.2.2.2.2.2.2.1 u2.2.2.2.2.2.2.2.2.2.1 u2.2.2.2.2.2.2.2.2.2.2.1 u2.2.2.2.2.2.2.2.2.2.2.2
      else
        fX5_lawsOf_b29 N (fun z0 z1 z2 z3 z4 z5 z6 z7 z8 z9 z10 z11 z12 z13 z14 => fX5_lawsOf_b4 N n z0 z1 z2 z3 z4 z5 z6 z7 z8 z9 z10 z11 z12 z13 z14) x1 x3 x2 ((1 : Int32) <<< (x3 &&& 31)) Mnow u2.2.1 u2.2.2.1 u2.2.2.2.1 u2.2.2.2.2.1 u2.2.2.2.2.2.1 u2.2.2.2.2.2.2.1 u2.2.2.2.2.2.2.2.1 u2.2.2.2.2.2.2.2.2.1 u2.2.2.2.2.2.2.2.2.2.1 u2.2.2.2.2.2.2.2.2.2.2.1 u2.2.2.2.2.2.2.2.2.2.2.2))
def fX5_lawsOf (N : Nat) (p0 : Int32) (Mnow : Nat → Int32) (Mheads : Nat → Int32) (Msets : Nat → Int32) (Mballots : Int32) (Mranks : Nat → Int32) (Mloads : Nat → Int64) (Mbelow : Int64) (Morder : Nat → Int32) (Melected : Int32) (Mmembers : Int32) (Mabove : Nat → Int64) (Munder : Nat → Int64) : Option (Int32 × (Nat → Int32) × (Nat → Int32) × (Int32) × (Nat → Int32) × (Nat → Int64) × (Int64) × (Nat → Int32) × (Int32) × (Int32) × (Nat → Int64) × (Nat → Int64)) :=
  fX5_lawsOf_b4 N N p0 (0 : Int32) (0 : Int32) Mnow Mheads Msets Mballots Mranks Mloads Mbelow Morder Melected Mmembers Mabove Munder
def fX5_aboutCandidate (N : Nat) (p0 : Int32) (p1 : Int32) (Mnow : Nat → Int32) (Mheads : Nat → Int32) (Msets : Nat → Int32) (Mballots : Int32) (Mranks : Nat → Int32) (Mloads : Nat → Int64) (Mbelow : Int64) (Morder : Nat → Int32) (Melected : Int32) (Mmembers : Int32) (Mabove : Nat → Int64) (Munder : Nat → Int64) : Option (Int32 × (Nat → Int32) × (Nat → Int32) × (Int32) × (Nat → Int32) × (Nat → Int64) × (Int64) × (Nat → Int32) × (Int32) × (Int32) × (Nat → Int64) × (Nat → Int64)) :=
  (fX5_lays N Mnow Mheads Msets Mballots Mranks).bind fun u1 =>
    (if p1 = 0 then
    (fX5_supportOf N p0 u1.1 u1.2.1 u1.2.2.1).bind fun u10 =>
      some (u10, u1.1, u1.2.1, u1.2.2.1, u1.2.2.2, Mloads, Mbelow, Morder, Melected, Mmembers, Mabove, Munder)
  else
    (if p1 = (1 : Int32) then
      (fX5_placeOf N p0 Mnow).bind fun u8 =>
        some (u8, u1.1, u1.2.1, u1.2.2.1, u1.2.2.2, Mloads, Mbelow, Morder, Melected, Mmembers, Mabove, Munder)
    else
      (if p1 = (2 : Int32) then
        some ((((Mnow 23) >>> (p0 &&& 31)) &&& (1 : Int32)), u1.1, u1.2.1, u1.2.2.1, u1.2.2.2, Mloads, Mbelow, Morder, Melected, Mmembers, Mabove, Munder)
      else
        (fX5_lawsOf N p0 Mnow u1.1 u1.2.1 u1.2.2.1 u1.2.2.2 Mloads Mbelow Morder Melected Mmembers Mabove Munder).bind fun u6 =>
          some (u6.1, u6.2.1, u6.2.2.1, u6.2.2.2.1, u6.2.2.2.2.1, u6.2.2.2.2.2.1, u6.2.2.2.2.2.2.1, u6.2.2.2.2.2.2.2.1, u6.2.2.2.2.2.2.2.2.1, u6.2.2.2.2.2.2.2.2.2.1, u6.2.2.2.2.2.2.2.2.2.2.1, u6.2.2.2.2.2.2.2.2.2.2.2))))
def fX5_candidate (N : Nat) (p0 : Int32) (p1 : Int32) (Mnow : Nat → Int32) (Mheads : Nat → Int32) (Msets : Nat → Int32) (Mballots : Int32) (Mranks : Nat → Int32) (Mloads : Nat → Int64) (Mbelow : Int64) (Morder : Nat → Int32) (Melected : Int32) (Mmembers : Int32) (Mabove : Nat → Int64) (Munder : Nat → Int64) : Option (Int32 × (Nat → Int32) × (Nat → Int32) × (Int32) × (Nat → Int32) × (Nat → Int64) × (Int64) × (Nat → Int32) × (Int32) × (Int32) × (Nat → Int64) × (Nat → Int64)) :=
  (fX5_isCandidate N p0 Mnow).bind fun u1 =>
    (if u1 = 0 then
    some ((-1 : Int32), Mheads, Msets, Mballots, Mranks, Mloads, Mbelow, Morder, Melected, Mmembers, Mabove, Munder)
  else
    (fX5_in N p1 (0 : Int32) (3 : Int32)).bind fun u4 =>
      (if u4 = 0 then
      some ((-1 : Int32), Mheads, Msets, Mballots, Mranks, Mloads, Mbelow, Morder, Melected, Mmembers, Mabove, Munder)
    else
      (fX5_aboutCandidate N p0 p1 Mnow Mheads Msets Mballots Mranks Mloads Mbelow Morder Melected Mmembers Mabove Munder).bind fun u7 =>
        some (u7.1, u7.2.1, u7.2.2.1, u7.2.2.2.1, u7.2.2.2.2.1, u7.2.2.2.2.2.1, u7.2.2.2.2.2.2.1, u7.2.2.2.2.2.2.2.1, u7.2.2.2.2.2.2.2.2.1, u7.2.2.2.2.2.2.2.2.2.1, u7.2.2.2.2.2.2.2.2.2.2.1, u7.2.2.2.2.2.2.2.2.2.2.2)))
def fX5_vote (N : Nat) (p0 : Int32) (p1 : Int32) (Mnow : Nat → Int32) (Mheads : Nat → Int32) (Msets : Nat → Int32) (Mballots : Int32) (Mranks : Nat → Int32) (Mloads : Nat → Int64) (Mbelow : Int64) (Morder : Nat → Int32) (Melected : Int32) (Mmembers : Int32) (Mabove : Nat → Int64) (Munder : Nat → Int64) : Option (Int32 × (Nat → Int32) × (Nat → Int32) × (Int32) × (Nat → Int32) × (Nat → Int64) × (Int64) × (Nat → Int32) × (Int32) × (Int32) × (Nat → Int64) × (Nat → Int64)) :=
  (fX5_isBallot N p0 Mnow).bind fun u1 =>
    (if u1 = 0 then
    some ((-1 : Int32), Mheads, Msets, Mballots, Mranks, Mloads, Mbelow, Morder, Melected, Mmembers, Mabove, Munder)
  else
    (fX5_in N p1 (0 : Int32) (5 : Int32)).bind fun u4 =>
      (if u4 = 0 then
      some ((-1 : Int32), Mheads, Msets, Mballots, Mranks, Mloads, Mbelow, Morder, Melected, Mmembers, Mabove, Munder)
    else
      (if p1 = 0 then
        if ((2 : Int32) + p0) < 0 ∨ 32 ≤ ((2 : Int32) + p0).toNatClampNeg then none else
          some ((Mnow (((2 : Int32) + p0).toNatClampNeg)), Mheads, Msets, Mballots, Mranks, Mloads, Mbelow, Morder, Melected, Mmembers, Mabove, Munder)
      else
        (if p1 = (1 : Int32) then
          if ((12 : Int32) + p0) < 0 ∨ 32 ≤ ((12 : Int32) + p0).toNatClampNeg then none else
            some ((Mnow (((12 : Int32) + p0).toNatClampNeg)), Mheads, Msets, Mballots, Mranks, Mloads, Mbelow, Morder, Melected, Mmembers, Mabove, Munder)
        else
          if ((12 : Int32) + p0) < 0 ∨ 32 ≤ ((12 : Int32) + p0).toNatClampNeg then none else
            (fX5_membersBy N (p1 - (2 : Int32)) Mnow Mheads Msets Mballots Mranks Mloads Mbelow Morder Melected Mmembers Mabove Munder).bind fun u10 =>
            (fX5_ones N ((Mnow (((12 : Int32) + p0).toNatClampNeg)) &&& u10.1)).bind fun u12 =>
            some (u12, u10.2.1, u10.2.2.1, u10.2.2.2.1, u10.2.2.2.2.1, u10.2.2.2.2.2.1, u10.2.2.2.2.2.2.1, u10.2.2.2.2.2.2.2.1, u10.2.2.2.2.2.2.2.2.1, u10.2.2.2.2.2.2.2.2.2.1, u10.2.2.2.2.2.2.2.2.2.2.1, u10.2.2.2.2.2.2.2.2.2.2.2)))))
def fX5_member (N : Nat) (p0 : Int32) (p1 : Int32) (Mnow : Nat → Int32) (Mheads : Nat → Int32) (Msets : Nat → Int32) (Mballots : Int32) (Mranks : Nat → Int32) (Mloads : Nat → Int64) (Mbelow : Int64) (Morder : Nat → Int32) (Melected : Int32) (Mmembers : Int32) (Mabove : Nat → Int64) (Munder : Nat → Int64) : Option (Int32 × (Nat → Int32) × (Nat → Int32) × (Int32) × (Nat → Int32) × (Nat → Int64) × (Int64) × (Nat → Int32) × (Int32) × (Int32) × (Nat → Int64) × (Nat → Int64)) :=
  (fX5_isLaw N p0).bind fun u1 =>
    (if u1 = 0 then
    some ((-1 : Int32), Mheads, Msets, Mballots, Mranks, Mloads, Mbelow, Morder, Melected, Mmembers, Mabove, Munder)
  else
    (if (-1 : Int32) ≤ p1 then
      (fX5_membersBy N p0 Mnow Mheads Msets Mballots Mranks Mloads Mbelow Morder Melected Mmembers Mabove Munder).bind fun u5 =>
        (if p1 = (-1 : Int32) then
        (fX5_ones N u5.1).bind fun u10 =>
          some (u10, u5.2.1, u5.2.2.1, u5.2.2.2.1, u5.2.2.2.2.1, u5.2.2.2.2.2.1, u5.2.2.2.2.2.2.1, u5.2.2.2.2.2.2.2.1, u5.2.2.2.2.2.2.2.2.1, u5.2.2.2.2.2.2.2.2.2.1, u5.2.2.2.2.2.2.2.2.2.2.1, u5.2.2.2.2.2.2.2.2.2.2.2)
      else
        (if u5.2.2.2.2.2.2.2.2.1 ≤ p1 then
          some ((-4 : Int32), u5.2.1, u5.2.2.1, u5.2.2.2.1, u5.2.2.2.2.1, u5.2.2.2.2.2.1, u5.2.2.2.2.2.2.1, u5.2.2.2.2.2.2.2.1, u5.2.2.2.2.2.2.2.2.1, u5.2.2.2.2.2.2.2.2.2.1, u5.2.2.2.2.2.2.2.2.2.2.1, u5.2.2.2.2.2.2.2.2.2.2.2)
        else
          if p1 < 0 ∨ 8 ≤ p1.toNatClampNeg then none else
            some ((u5.2.2.2.2.2.2.2.1 p1.toNatClampNeg), u5.2.1, u5.2.2.1, u5.2.2.2.1, u5.2.2.2.2.1, u5.2.2.2.2.2.1, u5.2.2.2.2.2.2.1, u5.2.2.2.2.2.2.2.1, u5.2.2.2.2.2.2.2.2.1, u5.2.2.2.2.2.2.2.2.2.1, u5.2.2.2.2.2.2.2.2.2.2.1, u5.2.2.2.2.2.2.2.2.2.2.2)))
    else
      some ((-1 : Int32), Mheads, Msets, Mballots, Mranks, Mloads, Mbelow, Morder, Melected, Mmembers, Mabove, Munder)))
def fX5_members (N : Nat) (p0 : Int32) (Mnow : Nat → Int32) (Mheads : Nat → Int32) (Msets : Nat → Int32) (Mballots : Int32) (Mranks : Nat → Int32) (Mloads : Nat → Int64) (Mbelow : Int64) (Morder : Nat → Int32) (Melected : Int32) (Mmembers : Int32) (Mabove : Nat → Int64) (Munder : Nat → Int64) : Option (Int32 × (Nat → Int32) × (Nat → Int32) × (Int32) × (Nat → Int32) × (Nat → Int64) × (Int64) × (Nat → Int32) × (Int32) × (Int32) × (Nat → Int64) × (Nat → Int64)) :=
  (fX5_isLaw N p0).bind fun u1 =>
    (if u1 = 0 then
    some ((-1 : Int32), Mheads, Msets, Mballots, Mranks, Mloads, Mbelow, Morder, Melected, Mmembers, Mabove, Munder)
  else
    (fX5_membersBy N p0 Mnow Mheads Msets Mballots Mranks Mloads Mbelow Morder Melected Mmembers Mabove Munder).bind fun u4 =>
      some (u4.1, u4.2.1, u4.2.2.1, u4.2.2.2.1, u4.2.2.2.2.1, u4.2.2.2.2.2.1, u4.2.2.2.2.2.2.1, u4.2.2.2.2.2.2.2.1, u4.2.2.2.2.2.2.2.2.1, u4.2.2.2.2.2.2.2.2.2.1, u4.2.2.2.2.2.2.2.2.2.2.1, u4.2.2.2.2.2.2.2.2.2.2.2))
def fX5_partOf_b31 (N : Nat) (x0 : Int64) (x2 : Int64) (x4 : Int32) (x5 : Int64) : Option (Int64) :=
  (if x4 = 0 then
    if x5 = 0 then none else
      some (x0 / x5)
  else
    if x5 = 0 then none else
      some (x2 / x5))
def fX5_partOf_b6 (N : Nat) : Nat → Int64 → Int64 → Int32 → Int64 → Int64 → Option (Int64)
  | 0, _, _, _, _, _ => none
  | n + 1, x0, x2, x4, x5, x7 =>
    (if (lg_cmp x7 (0 : Int64)) = 0 then
      fX5_partOf_b31 N x0 x2 x4 x5
    else
      if x7 = 0 then none else
        fX5_partOf_b6 N n x0 x2 x4 x7 (x5 - x5 / x7 * x7))
def fX5_partOf (N : Nat) (p0 : Int64) (p1 : Int64) (p2 : Int32) : Option (Int64) :=
  fX5_partOf_b6 N N p0 p1 p2 p0 p1
def fX5_isPart (N : Nat) (p0 : Int32) : Option (Int32) :=
  (fX5_in N p0 (0 : Int32) (1 : Int32)).bind fun u1 =>
    if ¬ (u1 = 0 ∨ u1 = 1) then none else
    some u1
def fX5_came (N : Nat) (p0 : Int32) (p1 : Int32) (p2 : Int32) (Mnow : Nat → Int32) (Mheads : Nat → Int32) (Msets : Nat → Int32) (Mballots : Int32) (Mranks : Nat → Int32) (Mloads : Nat → Int64) (Mbelow : Int64) (Morder : Nat → Int32) (Melected : Int32) (Mmembers : Int32) (Mabove : Nat → Int64) (Munder : Nat → Int64) : Option (Int64 × (Nat → Int32) × (Nat → Int32) × (Int32) × (Nat → Int32) × (Nat → Int64) × (Int64) × (Nat → Int32) × (Int32) × (Int32) × (Nat → Int64) × (Nat → Int64)) :=
  (fX5_isLaw N p0).bind fun u1 =>
    (if u1 = 0 then
    some ((-1 : Int64), Mheads, Msets, Mballots, Mranks, Mloads, Mbelow, Morder, Melected, Mmembers, Mabove, Munder)
  else
    (if p1 < 0 then
      some ((-1 : Int64), Mheads, Msets, Mballots, Mranks, Mloads, Mbelow, Morder, Melected, Mmembers, Mabove, Munder)
    else
      (fX5_isPart N p2).bind fun u5 =>
        (if u5 = 0 then
        some ((-1 : Int64), Mheads, Msets, Mballots, Mranks, Mloads, Mbelow, Morder, Melected, Mmembers, Mabove, Munder)
      else
        (fX5_lays N Mnow Mheads Msets Mballots Mranks).bind fun u8 =>
          (fX5_elects N p0 Mnow u8.1 u8.2.1 u8.2.2.1 u8.2.2.2 Mloads Mbelow Morder Melected Mmembers Mabove Munder).bind fun u10 =>
          (if u10.2.2.2.1 ≤ p1 then
          some ((-4 : Int64), u8.1, u8.2.1, u8.2.2.1, u8.2.2.2, u10.1, u10.2.1, u10.2.2.1, u10.2.2.2.1, u10.2.2.2.2.1, u10.2.2.2.2.2.1, u10.2.2.2.2.2.2)
        else
          if p1 < 0 ∨ 8 ≤ p1.toNatClampNeg then none else
            (if (lg_cmp (u10.2.2.2.2.2.2 p1.toNatClampNeg) (0 : Int64)) ≤ 0 then
            some ((-4 : Int64), u8.1, u8.2.1, u8.2.2.1, u8.2.2.2, u10.1, u10.2.1, u10.2.2.1, u10.2.2.2.1, u10.2.2.2.2.1, u10.2.2.2.2.2.1, u10.2.2.2.2.2.2)
          else
            (fX5_partOf N (u10.2.2.2.2.2.1 p1.toNatClampNeg) (u10.2.2.2.2.2.2 p1.toNatClampNeg) p2).bind fun u15 =>
              some (u15, u8.1, u8.2.1, u8.2.2.1, u8.2.2.2, u10.1, u10.2.1, u10.2.2.1, u10.2.2.2.1, u10.2.2.2.2.1, u10.2.2.2.2.2.1, u10.2.2.2.2.2.2))))))
def fX5_load (N : Nat) (p0 : Int32) (p1 : Int32) (Mnow : Nat → Int32) (Mheads : Nat → Int32) (Msets : Nat → Int32) (Mballots : Int32) (Mranks : Nat → Int32) (Mloads : Nat → Int64) (Mbelow : Int64) (Morder : Nat → Int32) (Melected : Int32) (Mmembers : Int32) (Mabove : Nat → Int64) (Munder : Nat → Int64) : Option (Int64 × (Nat → Int32) × (Nat → Int32) × (Int32) × (Nat → Int32) × (Nat → Int64) × (Int64) × (Nat → Int32) × (Int32) × (Int32) × (Nat → Int64) × (Nat → Int64)) :=
  (fX5_isBallot N p0 Mnow).bind fun u1 =>
    (if u1 = 0 then
    some ((-1 : Int64), Mheads, Msets, Mballots, Mranks, Mloads, Mbelow, Morder, Melected, Mmembers, Mabove, Munder)
  else
    (fX5_isPart N p1).bind fun u4 =>
      (if u4 = 0 then
      some ((-1 : Int64), Mheads, Msets, Mballots, Mranks, Mloads, Mbelow, Morder, Melected, Mmembers, Mabove, Munder)
    else
      (fX5_lays N Mnow Mheads Msets Mballots Mranks).bind fun u7 =>
        (fX5_elects N (0 : Int32) Mnow u7.1 u7.2.1 u7.2.2.1 u7.2.2.2 Mloads Mbelow Morder Melected Mmembers Mabove Munder).bind fun u9 =>
        if p0 < 0 ∨ 11 ≤ p0.toNatClampNeg then none else
        (fX5_partOf N (u9.1 p0.toNatClampNeg) u9.2.1 p1).bind fun u12 =>
        some (u12, u7.1, u7.2.1, u7.2.2.1, u7.2.2.2, u9.1, u9.2.1, u9.2.2.1, u9.2.2.2.1, u9.2.2.2.2.1, u9.2.2.2.2.2.1, u9.2.2.2.2.2.2)))
def fX5_greatest_b64 (N : Nat) (x1 : Int32) (x2 : Int64) (Mheads : Nat → Int32) (Msets : Nat → Int32) (Mballots : Int32) (Mranks : Nat → Int32) (Mloads : Nat → Int64) (Mbelow : Int64) (Morder : Nat → Int32) (Melected : Int32) (Mmembers : Int32) (Mabove : Nat → Int64) (Munder : Nat → Int64) : Option (Int64 × (Nat → Int32) × (Nat → Int32) × (Int32) × (Nat → Int32) × (Nat → Int64) × (Int64) × (Nat → Int32) × (Int32) × (Int32) × (Nat → Int64) × (Nat → Int64)) :=
  (fX5_partOf N x2 Mbelow x1).bind fun u1 =>
    some (u1, Mheads, Msets, Mballots, Mranks, Mloads, Mbelow, Morder, Melected, Mmembers, Mabove, Munder)
def fX5_greatest_b57 (N : Nat) (k25 : Int32 → Int64 → Int32 → (Nat → Int32) → (Nat → Int32) → Int32 → (Nat → Int32) → (Nat → Int64) → Int64 → (Nat → Int32) → Int32 → Int32 → (Nat → Int64) → (Nat → Int64) → Option (Int64 × (Nat → Int32) × (Nat → Int32) × (Int32) × (Nat → Int32) × (Nat → Int64) × (Int64) × (Nat → Int32) × (Int32) × (Int32) × (Nat → Int64) × (Nat → Int64))) (x1 : Int32) (x4 : Int32) (t0 : Int64) (Mheads : Nat → Int32) (Msets : Nat → Int32) (Mballots : Int32) (Mranks : Nat → Int32) (Mloads : Nat → Int64) (Mbelow : Int64) (Morder : Nat → Int32) (Melected : Int32) (Mmembers : Int32) (Mabove : Nat → Int64) (Munder : Nat → Int64) : Option (Int64 × (Nat → Int32) × (Nat → Int32) × (Int32) × (Nat → Int32) × (Nat → Int64) × (Int64) × (Nat → Int32) × (Int32) × (Int32) × (Nat → Int64) × (Nat → Int64)) :=
  k25 x1 t0 (x4 + (1 : Int32)) Mheads Msets Mballots Mranks Mloads Mbelow Morder Melected Mmembers Mabove Munder
def fX5_greatest_b25 (N : Nat) : Nat → Int32 → Int64 → Int32 → (Nat → Int32) → (Nat → Int32) → Int32 → (Nat → Int32) → (Nat → Int64) → Int64 → (Nat → Int32) → Int32 → Int32 → (Nat → Int64) → (Nat → Int64) → Option (Int64 × (Nat → Int32) × (Nat → Int32) × (Int32) × (Nat → Int32) × (Nat → Int64) × (Int64) × (Nat → Int32) × (Int32) × (Int32) × (Nat → Int64) × (Nat → Int64))
  | 0, _, _, _, _, _, _, _, _, _, _, _, _, _, _ => none
  | n + 1, x1, x2, x4, Mheads, Msets, Mballots, Mranks, Mloads, Mbelow, Morder, Melected, Mmembers, Mabove, Munder =>
    (if Mballots ≤ x4 then
      fX5_greatest_b64 N x1 x2 Mheads Msets Mballots Mranks Mloads Mbelow Morder Melected Mmembers Mabove Munder
    else
      if x4 < 0 ∨ 11 ≤ x4.toNatClampNeg then none else
        (if (lg_cmp (Mloads x4.toNatClampNeg) x2) ≤ 0 then
        fX5_greatest_b57 N (fun z0 z1 z2 z3 z4 z5 z6 z7 z8 z9 z10 z11 z12 z13 => fX5_greatest_b25 N n z0 z1 z2 z3 z4 z5 z6 z7 z8 z9 z10 z11 z12 z13) x1 x4 x2 Mheads Msets Mballots Mranks Mloads Mbelow Morder Melected Mmembers Mabove Munder
      else
        fX5_greatest_b57 N (fun z0 z1 z2 z3 z4 z5 z6 z7 z8 z9 z10 z11 z12 z13 => fX5_greatest_b25 N n z0 z1 z2 z3 z4 z5 z6 z7 z8 z9 z10 z11 z12 z13) x1 x4 (Mloads x4.toNatClampNeg) Mheads Msets Mballots Mranks Mloads Mbelow Morder Melected Mmembers Mabove Munder))
def fX5_greatest (N : Nat) (p0 : Int32) (Mnow : Nat → Int32) (Mheads : Nat → Int32) (Msets : Nat → Int32) (Mballots : Int32) (Mranks : Nat → Int32) (Mloads : Nat → Int64) (Mbelow : Int64) (Morder : Nat → Int32) (Melected : Int32) (Mmembers : Int32) (Mabove : Nat → Int64) (Munder : Nat → Int64) : Option (Int64 × (Nat → Int32) × (Nat → Int32) × (Int32) × (Nat → Int32) × (Nat → Int64) × (Int64) × (Nat → Int32) × (Int32) × (Int32) × (Nat → Int64) × (Nat → Int64)) :=
  (fX5_isPart N p0).bind fun u6 =>
    (if u6 = 0 then
    some ((-1 : Int64), Mheads, Msets, Mballots, Mranks, Mloads, Mbelow, Morder, Melected, Mmembers, Mabove, Munder)
  else
    (fX5_lays N Mnow Mheads Msets Mballots Mranks).bind fun u9 =>
      (fX5_elects N (0 : Int32) Mnow u9.1 u9.2.1 u9.2.2.1 u9.2.2.2 Mloads Mbelow Morder Melected Mmembers Mabove Munder).bind fun u11 =>
      fX5_greatest_b25 N N p0 (0 : Int64) (0 : Int32) u9.1 u9.2.1 u9.2.2.1 u9.2.2.2 u11.1 u11.2.1 u11.2.2.1 u11.2.2.2.1 u11.2.2.2.2.1 u11.2.2.2.2.2.1 u11.2.2.2.2.2.2)
def fX5_agreed_b42 (N : Nat) (k4 : Int32 → Int32 → Int32 → (Nat → Int32) → Option (Int32)) (x1 : Int32) (x3 : Int32) (t0 : Int32) (t1 : Int32) (Mnow : Nat → Int32) : Option (Int32) :=
  k4 x1 (t0 + t1) (x3 + (1 : Int32)) Mnow
def fX5_agreed_b4 (N : Nat) : Nat → Int32 → Int32 → Int32 → (Nat → Int32) → Option (Int32)
  | 0, _, _, _, _ => none
  | n + 1, x1, x2, x3, Mnow =>
    (if (Mnow 1) ≤ x3 then
      some x2
    else
      if ((12 : Int32) + x3) < 0 ∨ 32 ≤ ((12 : Int32) + x3).toNatClampNeg then none else
        (if ((Mnow (((12 : Int32) + x3).toNatClampNeg)) &&& x1) = x1 then
        if ((2 : Int32) + x3) < 0 ∨ 32 ≤ ((2 : Int32) + x3).toNatClampNeg then none else
          fX5_agreed_b42 N (fun z0 z1 z2 z3 => fX5_agreed_b4 N n z0 z1 z2 z3) x1 x3 x2 (Mnow (((2 : Int32) + x3).toNatClampNeg)) Mnow
      else
        fX5_agreed_b42 N (fun z0 z1 z2 z3 => fX5_agreed_b4 N n z0 z1 z2 z3) x1 x3 x2 (0 : Int32) Mnow))
def fX5_agreed (N : Nat) (p0 : Int32) (Mnow : Nat → Int32) : Option (Int32) :=
  fX5_agreed_b4 N N p0 (0 : Int32) (0 : Int32) Mnow
def fX5_isOwed (N : Nat) (p0 : Int32) (Mnow : Nat → Int32) : Option (Int32) :=
  (fX5_agreed N p0 Mnow).bind fun u1 =>
    (if u1 ≤ 0 then
    some (0 : Int32)
  else
    (fX5_ones N p0).bind fun u4 =>
      (fX5_allVoters N Mnow).bind fun u6 =>
      (if (u1 * (Mnow 22)) < (u4 * u6) then
      some (0 : Int32)
    else
      some (1 : Int32)))
def fX5_unionOf_b43 (N : Nat) (k4 : Int32 → Int32 → Int32 → (Nat → Int32) → Option (Int32)) (x1 : Int32) (x3 : Int32) (t0 : Int32) (t1 : Int32) (Mnow : Nat → Int32) : Option (Int32) :=
  k4 x1 (t0 ||| t1) (x3 + (1 : Int32)) Mnow
def fX5_unionOf_b4 (N : Nat) : Nat → Int32 → Int32 → Int32 → (Nat → Int32) → Option (Int32)
  | 0, _, _, _, _ => none
  | n + 1, x1, x2, x3, Mnow =>
    (if (Mnow 1) ≤ x3 then
      some x2
    else
      if ((12 : Int32) + x3) < 0 ∨ 32 ≤ ((12 : Int32) + x3).toNatClampNeg then none else
        (if ((Mnow (((12 : Int32) + x3).toNatClampNeg)) &&& x1) = x1 then
        fX5_unionOf_b43 N (fun z0 z1 z2 z3 => fX5_unionOf_b4 N n z0 z1 z2 z3) x1 x3 x2 (Mnow (((12 : Int32) + x3).toNatClampNeg)) Mnow
      else
        fX5_unionOf_b43 N (fun z0 z1 z2 z3 => fX5_unionOf_b4 N n z0 z1 z2 z3) x1 x3 x2 (0 : Int32) Mnow))
def fX5_unionOf (N : Nat) (p0 : Int32) (Mnow : Nat → Int32) : Option (Int32) :=
  fX5_unionOf_b4 N N p0 (0 : Int32) (0 : Int32) Mnow
def fX5_agrees (N : Nat) (p0 : Int32) (p1 : Int32) (Mnow : Nat → Int32) (Mheads : Nat → Int32) (Msets : Nat → Int32) (Mballots : Int32) (Mranks : Nat → Int32) (Mloads : Nat → Int64) (Mbelow : Int64) (Morder : Nat → Int32) (Melected : Int32) (Mmembers : Int32) (Mabove : Nat → Int64) (Munder : Nat → Int64) : Option (Int32 × (Nat → Int32) × (Nat → Int32) × (Int32) × (Nat → Int32) × (Nat → Int64) × (Int64) × (Nat → Int32) × (Int32) × (Int32) × (Nat → Int64) × (Nat → Int64)) :=
  (fX5_isSet N p0 Mnow).bind fun u1 =>
    (if u1 = 0 then
    some ((-1 : Int32), Mheads, Msets, Mballots, Mranks, Mloads, Mbelow, Morder, Melected, Mmembers, Mabove, Munder)
  else
    (fX5_in N p1 (0 : Int32) (5 : Int32)).bind fun u4 =>
      (if u4 = 0 then
      some ((-1 : Int32), Mheads, Msets, Mballots, Mranks, Mloads, Mbelow, Morder, Melected, Mmembers, Mabove, Munder)
    else
      (if p1 = 0 then
        (fX5_agreed N p0 Mnow).bind fun u18 =>
          some (u18, Mheads, Msets, Mballots, Mranks, Mloads, Mbelow, Morder, Melected, Mmembers, Mabove, Munder)
      else
        (if p1 = (1 : Int32) then
          (fX5_isOwed N p0 Mnow).bind fun u15 =>
            (if u15 = 0 then
            some ((0 : Int32), Mheads, Msets, Mballots, Mranks, Mloads, Mbelow, Morder, Melected, Mmembers, Mabove, Munder)
          else
            some ((1 : Int32), Mheads, Msets, Mballots, Mranks, Mloads, Mbelow, Morder, Melected, Mmembers, Mabove, Munder))
        else
          (fX5_unionOf N p0 Mnow).bind fun u9 =>
            (fX5_membersBy N (p1 - (2 : Int32)) Mnow Mheads Msets Mballots Mranks Mloads Mbelow Morder Melected Mmembers Mabove Munder).bind fun u11 =>
            (fX5_ones N (u9 &&& u11.1)).bind fun u13 =>
            some (u13, u11.2.1, u11.2.2.1, u11.2.2.2.1, u11.2.2.2.2.1, u11.2.2.2.2.2.1, u11.2.2.2.2.2.2.1, u11.2.2.2.2.2.2.2.1, u11.2.2.2.2.2.2.2.2.1, u11.2.2.2.2.2.2.2.2.2.1, u11.2.2.2.2.2.2.2.2.2.2.1, u11.2.2.2.2.2.2.2.2.2.2.2)))))
def fX5_shorts_b95 (N : Nat) (x2 : Int32) (x4 : Int32) (x5 : Int32) (Mheads : Nat → Int32) (Msets : Nat → Int32) (Mballots : Int32) (Mranks : Nat → Int32) (Mloads : Nat → Int64) (Mbelow : Int64) (Morder : Nat → Int32) (Melected : Int32) (Mmembers : Int32) (Mabove : Nat → Int64) (Munder : Nat → Int64) : Option (Int32 × (Nat → Int32) × (Nat → Int32) × (Int32) × (Nat → Int32) × (Nat → Int64) × (Int64) × (Nat → Int32) × (Int32) × (Int32) × (Nat → Int64) × (Nat → Int64)) :=
  (if x2 = (-1 : Int32) then
    some (x4, Mheads, Msets, Mballots, Mranks, Mloads, Mbelow, Morder, Melected, Mmembers, Mabove, Munder)
  else
    some (x5, Mheads, Msets, Mballots, Mranks, Mloads, Mbelow, Morder, Melected, Mmembers, Mabove, Munder))
def fX5_shorts_b89 (N : Nat) (k30 : Int32 → Int32 → Int32 → Int32 → Int32 → (Nat → Int32) → (Nat → Int32) → (Nat → Int32) → Int32 → (Nat → Int32) → (Nat → Int64) → Int64 → (Nat → Int32) → Int32 → Int32 → (Nat → Int64) → (Nat → Int64) → Option (Int32 × (Nat → Int32) × (Nat → Int32) × (Int32) × (Nat → Int32) × (Nat → Int64) × (Int64) × (Nat → Int32) × (Int32) × (Int32) × (Nat → Int64) × (Nat → Int64))) (x2 : Int32) (x3 : Int32) (x4 : Int32) (x5 : Int32) (x6 : Int32) (Mnow : Nat → Int32) (Mheads : Nat → Int32) (Msets : Nat → Int32) (Mballots : Int32) (Mranks : Nat → Int32) (Mloads : Nat → Int64) (Mbelow : Int64) (Morder : Nat → Int32) (Melected : Int32) (Mmembers : Int32) (Mabove : Nat → Int64) (Munder : Nat → Int64) : Option (Int32 × (Nat → Int32) × (Nat → Int32) × (Int32) × (Nat → Int32) × (Nat → Int64) × (Int64) × (Nat → Int32) × (Int32) × (Int32) × (Nat → Int64) × (Nat → Int64)) :=
  k30 x2 x3 x4 x5 (x6 + (1 : Int32)) Mnow Mheads Msets Mballots Mranks Mloads Mbelow Morder Melected Mmembers Mabove Munder
def fX5_shorts_b84 (N : Nat) (k30 : Int32 → Int32 → Int32 → Int32 → Int32 → (Nat → Int32) → (Nat → Int32) → (Nat → Int32) → Int32 → (Nat → Int32) → (Nat → Int64) → Int64 → (Nat → Int32) → Int32 → Int32 → (Nat → Int64) → (Nat → Int64) → Option (Int32 × (Nat → Int32) × (Nat → Int32) × (Int32) × (Nat → Int32) × (Nat → Int64) × (Int64) × (Nat → Int32) × (Int32) × (Int32) × (Nat → Int64) × (Nat → Int64))) (x2 : Int32) (x3 : Int32) (x4 : Int32) (x6 : Int32) (t0 : Int32) (Mnow : Nat → Int32) (Mheads : Nat → Int32) (Msets : Nat → Int32) (Mballots : Int32) (Mranks : Nat → Int32) (Mloads : Nat → Int64) (Mbelow : Int64) (Morder : Nat → Int32) (Melected : Int32) (Mmembers : Int32) (Mabove : Nat → Int64) (Munder : Nat → Int64) : Option (Int32 × (Nat → Int32) × (Nat → Int32) × (Int32) × (Nat → Int32) × (Nat → Int64) × (Int64) × (Nat → Int32) × (Int32) × (Int32) × (Nat → Int64) × (Nat → Int64)) :=
  fX5_shorts_b89 N k30 x2 x3 (x4 + (1 : Int32)) t0 x6 Mnow Mheads Msets Mballots Mranks Mloads Mbelow Morder Melected Mmembers Mabove Munder
def fX5_shorts_b30 (N : Nat) : Nat → Int32 → Int32 → Int32 → Int32 → Int32 → (Nat → Int32) → (Nat → Int32) → (Nat → Int32) → Int32 → (Nat → Int32) → (Nat → Int64) → Int64 → (Nat → Int32) → Int32 → Int32 → (Nat → Int64) → (Nat → Int64) → Option (Int32 × (Nat → Int32) × (Nat → Int32) × (Int32) × (Nat → Int32) × (Nat → Int64) × (Int64) × (Nat → Int32) × (Int32) × (Int32) × (Nat → Int64) × (Nat → Int64))
  | 0, _, _, _, _, _, _, _, _, _, _, _, _, _, _, _, _, _ => none
  | n + 1, x2, x3, x4, x5, x6, Mnow, Mheads, Msets, Mballots, Mranks, Mloads, Mbelow, Morder, Melected, Mmembers, Mabove, Munder =>
    (if ((1 : Int32) <<< ((Mnow 0) &&& 31)) ≤ x6 then
      fX5_shorts_b95 N x2 x4 x5 Mheads Msets Mballots Mranks Mloads Mbelow Morder Melected Mmembers Mabove Munder
    else
      (fX5_isOwed N x6 Mnow).bind fun u3 =>
        (if u3 = 0 then
        fX5_shorts_b89 N (fun z0 z1 z2 z3 z4 z5 z6 z7 z8 z9 z10 z11 z12 z13 z14 z15 z16 => fX5_shorts_b30 N n z0 z1 z2 z3 z4 z5 z6 z7 z8 z9 z10 z11 z12 z13 z14 z15 z16) x2 x3 x4 x5 x6 Mnow Mheads Msets Mballots Mranks Mloads Mbelow Morder Melected Mmembers Mabove Munder
      else
        (fX5_unionOf N x6 Mnow).bind fun u6 =>
          (fX5_ones N (u6 &&& x3)).bind fun u8 =>
          (fX5_ones N x6).bind fun u10 =>
          (if u10 ≤ u8 then
          fX5_shorts_b89 N (fun z0 z1 z2 z3 z4 z5 z6 z7 z8 z9 z10 z11 z12 z13 z14 z15 z16 => fX5_shorts_b30 N n z0 z1 z2 z3 z4 z5 z6 z7 z8 z9 z10 z11 z12 z13 z14 z15 z16) x2 x3 x4 x5 x6 Mnow Mheads Msets Mballots Mranks Mloads Mbelow Morder Melected Mmembers Mabove Munder
        else
          (if x4 = x2 then
            fX5_shorts_b84 N (fun z0 z1 z2 z3 z4 z5 z6 z7 z8 z9 z10 z11 z12 z13 z14 z15 z16 => fX5_shorts_b30 N n z0 z1 z2 z3 z4 z5 z6 z7 z8 z9 z10 z11 z12 z13 z14 z15 z16) x2 x3 x4 x6 x6 Mnow Mheads Msets Mballots Mranks Mloads Mbelow Morder Melected Mmembers Mabove Munder
          else
            fX5_shorts_b84 N (fun z0 z1 z2 z3 z4 z5 z6 z7 z8 z9 z10 z11 z12 z13 z14 z15 z16 => fX5_shorts_b30 N n z0 z1 z2 z3 z4 z5 z6 z7 z8 z9 z10 z11 z12 z13 z14 z15 z16) x2 x3 x4 x6 x5 Mnow Mheads Msets Mballots Mranks Mloads Mbelow Morder Melected Mmembers Mabove Munder))))
def fX5_shorts (N : Nat) (p0 : Int32) (p1 : Int32) (Mnow : Nat → Int32) (Mheads : Nat → Int32) (Msets : Nat → Int32) (Mballots : Int32) (Mranks : Nat → Int32) (Mloads : Nat → Int64) (Mbelow : Int64) (Morder : Nat → Int32) (Melected : Int32) (Mmembers : Int32) (Mabove : Nat → Int64) (Munder : Nat → Int64) : Option (Int32 × (Nat → Int32) × (Nat → Int32) × (Int32) × (Nat → Int32) × (Nat → Int64) × (Int64) × (Nat → Int32) × (Int32) × (Int32) × (Nat → Int64) × (Nat → Int64)) :=
  (fX5_isLaw N p0).bind fun u14 =>
    (if u14 = 0 then
    some ((-1 : Int32), Mheads, Msets, Mballots, Mranks, Mloads, Mbelow, Morder, Melected, Mmembers, Mabove, Munder)
  else
    (if (-1 : Int32) ≤ p1 then
      (fX5_membersBy N p0 Mnow Mheads Msets Mballots Mranks Mloads Mbelow Morder Melected Mmembers Mabove Munder).bind fun u18 =>
        fX5_shorts_b30 N N p1 u18.1 (0 : Int32) (-4 : Int32) (1 : Int32) Mnow u18.2.1 u18.2.2.1 u18.2.2.2.1 u18.2.2.2.2.1 u18.2.2.2.2.2.1 u18.2.2.2.2.2.2.1 u18.2.2.2.2.2.2.2.1 u18.2.2.2.2.2.2.2.2.1 u18.2.2.2.2.2.2.2.2.2.1 u18.2.2.2.2.2.2.2.2.2.2.1 u18.2.2.2.2.2.2.2.2.2.2.2
    else
      some ((-1 : Int32), Mheads, Msets, Mballots, Mranks, Mloads, Mbelow, Morder, Melected, Mmembers, Mabove, Munder)))
def fX5_joins_b83 (N : Nat) (k46 : Int32 → Int32 → Int32 → Int32 → (Nat → Int32) → (Nat → Int32) → (Nat → Int32) → Int32 → (Nat → Int32) → (Nat → Int64) → Int64 → (Nat → Int32) → Int32 → Int32 → (Nat → Int64) → (Nat → Int64) → Option (Int32 × (Nat → Int32) × (Nat → Int32) × (Int32) × (Nat → Int32) × (Nat → Int64) × (Int64) × (Nat → Int32) × (Int32) × (Int32) × (Nat → Int64) × (Nat → Int64))) (x1 : Int32) (x2 : Int32) (x3 : Int32) (x4 : Int32) (t1 : Int32) (Mnow : Nat → Int32) (Mheads : Nat → Int32) (Msets : Nat → Int32) (Mballots : Int32) (Mranks : Nat → Int32) (Mloads : Nat → Int64) (Mbelow : Int64) (Morder : Nat → Int32) (Melected : Int32) (Mmembers : Int32) (Mabove : Nat → Int64) (Munder : Nat → Int64) : Option (Int32 × (Nat → Int32) × (Nat → Int32) × (Int32) × (Nat → Int32) × (Nat → Int64) × (Int64) × (Nat → Int32) × (Int32) × (Int32) × (Nat → Int64) × (Nat → Int64)) :=
  (fX5_elects N x1 Mnow Mheads Msets t1 Mranks Mloads Mbelow Morder Melected Mmembers Mabove Munder).bind fun u1 =>
    (fX5_has N u1.2.2.2.2.1 x2).bind fun u3 =>
    (if u3 = 0 then
    k46 x1 x2 x3 (x4 + (1 : Int32)) Mnow Mheads Msets t1 Mranks u1.1 u1.2.1 u1.2.2.1 u1.2.2.2.1 u1.2.2.2.2.1 u1.2.2.2.2.2.1 u1.2.2.2.2.2.2
  else
    some (x4, Mheads, Msets, t1, Mranks, u1.1, u1.2.1, u1.2.2.1, u1.2.2.2.1, u1.2.2.2.2.1, u1.2.2.2.2.2.1, u1.2.2.2.2.2.2))
def fX5_joins_b46 (N : Nat) : Nat → Int32 → Int32 → Int32 → Int32 → (Nat → Int32) → (Nat → Int32) → (Nat → Int32) → Int32 → (Nat → Int32) → (Nat → Int64) → Int64 → (Nat → Int32) → Int32 → Int32 → (Nat → Int64) → (Nat → Int64) → Option (Int32 × (Nat → Int32) × (Nat → Int32) × (Int32) × (Nat → Int32) × (Nat → Int64) × (Int64) × (Nat → Int32) × (Int32) × (Int32) × (Nat → Int64) × (Nat → Int64))
  | 0, _, _, _, _, _, _, _, _, _, _, _, _, _, _, _, _ => none
  | n + 1, x1, x2, x3, x4, Mnow, Mheads, Msets, Mballots, Mranks, Mloads, Mbelow, Morder, Melected, Mmembers, Mabove, Munder =>
    (if (20 : Int32) < x4 then
      some ((-4 : Int32), Mheads, Msets, Mballots, Mranks, Mloads, Mbelow, Morder, Melected, Mmembers, Mabove, Munder)
    else
      if x3 < 0 ∨ 11 ≤ x3.toNatClampNeg then none else
        (if x4 = 0 then
        fX5_joins_b83 N (fun z0 z1 z2 z3 z4 z5 z6 z7 z8 z9 z10 z11 z12 z13 z14 z15 => fX5_joins_b46 N n z0 z1 z2 z3 z4 z5 z6 z7 z8 z9 z10 z11 z12 z13 z14 z15) x1 x2 x3 x4 x3 Mnow (upd Mheads x3.toNatClampNeg x4) (upd Msets x3.toNatClampNeg ((1 : Int32) <<< (x2 &&& 31))) Mballots Mranks Mloads Mbelow Morder Melected Mmembers Mabove Munder
      else
        fX5_joins_b83 N (fun z0 z1 z2 z3 z4 z5 z6 z7 z8 z9 z10 z11 z12 z13 z14 z15 => fX5_joins_b46 N n z0 z1 z2 z3 z4 z5 z6 z7 z8 z9 z10 z11 z12 z13 z14 z15) x1 x2 x3 x4 (x3 + (1 : Int32)) Mnow (upd Mheads x3.toNatClampNeg x4) (upd Msets x3.toNatClampNeg ((1 : Int32) <<< (x2 &&& 31))) Mballots Mranks Mloads Mbelow Morder Melected Mmembers Mabove Munder))
def fX5_joins (N : Nat) (p0 : Int32) (p1 : Int32) (Mnow : Nat → Int32) (Mheads : Nat → Int32) (Msets : Nat → Int32) (Mballots : Int32) (Mranks : Nat → Int32) (Mloads : Nat → Int64) (Mbelow : Int64) (Morder : Nat → Int32) (Melected : Int32) (Mmembers : Int32) (Mabove : Nat → Int64) (Munder : Nat → Int64) : Option (Int32 × (Nat → Int32) × (Nat → Int32) × (Int32) × (Nat → Int32) × (Nat → Int64) × (Int64) × (Nat → Int32) × (Int32) × (Int32) × (Nat → Int64) × (Nat → Int64)) :=
  (fX5_isLaw N p0).bind fun u9 =>
    (if u9 = 0 then
    some ((-1 : Int32), Mheads, Msets, Mballots, Mranks, Mloads, Mbelow, Morder, Melected, Mmembers, Mabove, Munder)
  else
    (fX5_isCandidate N p1 Mnow).bind fun u12 =>
      (if u12 = 0 then
      some ((-1 : Int32), Mheads, Msets, Mballots, Mranks, Mloads, Mbelow, Morder, Melected, Mmembers, Mabove, Munder)
    else
      (fX5_has N (Mnow 23) p1).bind fun u15 =>
        (if u15 = 0 then
        (fX5_lays N Mnow Mheads Msets Mballots Mranks).bind fun u18 =>
          fX5_joins_b46 N N p0 p1 u18.2.2.1 (0 : Int32) Mnow u18.1 u18.2.1 u18.2.2.1 u18.2.2.2 Mloads Mbelow Morder Melected Mmembers Mabove Munder
      else
        some ((-2 : Int32), Mheads, Msets, Mballots, Mranks, Mloads, Mbelow, Morder, Melected, Mmembers, Mabove, Munder))))
def fX5_matters_b73 (N : Nat) (k20 : Int32 → Int32 → Int32 → Int32 → (Nat → Int32) → (Nat → Int32) → (Nat → Int32) → Int32 → (Nat → Int32) → (Nat → Int64) → Int64 → (Nat → Int32) → Int32 → Int32 → (Nat → Int64) → (Nat → Int64) → Option (Int32 × (Nat → Int32) × (Nat → Int32) × (Int32) × (Nat → Int32) × (Nat → Int64) × (Int64) × (Nat → Int32) × (Int32) × (Int32) × (Nat → Int64) × (Nat → Int64))) (x1 : Int32) (x2 : Int32) (x4 : Int32) (t0 : Int32) (t1 : Int32) (Mnow : Nat → Int32) (Mheads : Nat → Int32) (Msets : Nat → Int32) (Mballots : Int32) (Mranks : Nat → Int32) (Mloads : Nat → Int64) (Mbelow : Int64) (Morder : Nat → Int32) (Melected : Int32) (Mmembers : Int32) (Mabove : Nat → Int64) (Munder : Nat → Int64) : Option (Int32 × (Nat → Int32) × (Nat → Int32) × (Int32) × (Nat → Int32) × (Nat → Int64) × (Int64) × (Nat → Int32) × (Int32) × (Int32) × (Nat → Int64) × (Nat → Int64)) :=
  k20 x1 x2 (t0 ||| t1) (x4 + (1 : Int32)) Mnow Mheads Msets Mballots Mranks Mloads Mbelow Morder Melected Mmembers Mabove Munder
def fX5_matters_b20 (N : Nat) : Nat → Int32 → Int32 → Int32 → Int32 → (Nat → Int32) → (Nat → Int32) → (Nat → Int32) → Int32 → (Nat → Int32) → (Nat → Int64) → Int64 → (Nat → Int32) → Int32 → Int32 → (Nat → Int64) → (Nat → Int64) → Option (Int32 × (Nat → Int32) × (Nat → Int32) × (Int32) × (Nat → Int32) × (Nat → Int64) × (Int64) × (Nat → Int32) × (Int32) × (Int32) × (Nat → Int64) × (Nat → Int64))
  | 0, _, _, _, _, _, _, _, _, _, _, _, _, _, _, _, _ => none
  | n + 1, x1, x2, x3, x4, Mnow, Mheads, Msets, Mballots, Mranks, Mloads, Mbelow, Morder, Melected, Mmembers, Mabove, Munder =>
    (if Mballots ≤ x4 then
      some (x3, Mheads, Msets, Mballots, Mranks, Mloads, Mbelow, Morder, Melected, Mmembers, Mabove, Munder)
    else
      if x4 < 0 ∨ 11 ≤ x4.toNatClampNeg then none else
        (fX5_elects N x1 Mnow (upd Mheads x4.toNatClampNeg ((Mheads x4.toNatClampNeg) - (1 : Int32))) Msets Mballots Mranks Mloads Mbelow Morder Melected Mmembers Mabove Munder).bind fun u3 =>
        (if u3.2.2.2.2.1 = x2 then
        fX5_matters_b73 N (fun z0 z1 z2 z3 z4 z5 z6 z7 z8 z9 z10 z11 z12 z13 z14 z15 => fX5_matters_b20 N n z0 z1 z2 z3 z4 z5 z6 z7 z8 z9 z10 z11 z12 z13 z14 z15) x1 x2 x4 x3 (0 : Int32) Mnow (upd (upd Mheads x4.toNatClampNeg ((Mheads x4.toNatClampNeg) - (1 : Int32))) x4.toNatClampNeg (((upd Mheads x4.toNatClampNeg ((Mheads x4.toNatClampNeg) - (1 : Int32))) x4.toNatClampNeg) + (1 : Int32))) Msets Mballots Mranks u3.1 u3.2.1 u3.2.2.1 u3.2.2.2.1 u3.2.2.2.2.1 u3.2.2.2.2.2.1 u3.2.2.2.2.2.2
      else
        fX5_matters_b73 N (fun z0 z1 z2 z3 z4 z5 z6 z7 z8 z9 z10 z11 z12 z13 z14 z15 => fX5_matters_b20 N n z0 z1 z2 z3 z4 z5 z6 z7 z8 z9 z10 z11 z12 z13 z14 z15) x1 x2 x4 x3 ((1 : Int32) <<< (x4 &&& 31)) Mnow (upd (upd Mheads x4.toNatClampNeg ((Mheads x4.toNatClampNeg) - (1 : Int32))) x4.toNatClampNeg (((upd Mheads x4.toNatClampNeg ((Mheads x4.toNatClampNeg) - (1 : Int32))) x4.toNatClampNeg) + (1 : Int32))) Msets Mballots Mranks u3.1 u3.2.1 u3.2.2.1 u3.2.2.2.1 u3.2.2.2.2.1 u3.2.2.2.2.2.1 u3.2.2.2.2.2.2))
def fX5_matters (N : Nat) (p0 : Int32) (Mnow : Nat → Int32) (Mheads : Nat → Int32) (Msets : Nat → Int32) (Mballots : Int32) (Mranks : Nat → Int32) (Mloads : Nat → Int64) (Mbelow : Int64) (Morder : Nat → Int32) (Melected : Int32) (Mmembers : Int32) (Mabove : Nat → Int64) (Munder : Nat → Int64) : Option (Int32 × (Nat → Int32) × (Nat → Int32) × (Int32) × (Nat → Int32) × (Nat → Int64) × (Int64) × (Nat → Int32) × (Int32) × (Int32) × (Nat → Int64) × (Nat → Int64)) :=
  (fX5_isLaw N p0).bind fun u6 =>
    (if u6 = 0 then
    some ((-1 : Int32), Mheads, Msets, Mballots, Mranks, Mloads, Mbelow, Morder, Melected, Mmembers, Mabove, Munder)
  else
    (fX5_membersBy N p0 Mnow Mheads Msets Mballots Mranks Mloads Mbelow Morder Melected Mmembers Mabove Munder).bind fun u9 =>
      fX5_matters_b20 N N p0 u9.1 (0 : Int32) (0 : Int32) Mnow u9.2.1 u9.2.2.1 u9.2.2.2.1 u9.2.2.2.2.1 u9.2.2.2.2.2.1 u9.2.2.2.2.2.2.1 u9.2.2.2.2.2.2.2.1 u9.2.2.2.2.2.2.2.2.1 u9.2.2.2.2.2.2.2.2.2.1 u9.2.2.2.2.2.2.2.2.2.2.1 u9.2.2.2.2.2.2.2.2.2.2.2)
def fX5_rather_b144 (N : Nat) (x6 : Int32) (Mheads : Nat → Int32) (Msets : Nat → Int32) (Mballots : Int32) (Mranks : Nat → Int32) (Mloads : Nat → Int64) (Mbelow : Int64) (Morder : Nat → Int32) (Melected : Int32) (Mmembers : Int32) (Mabove : Nat → Int64) (Munder : Nat → Int64) : Option (Int32 × (Nat → Int32) × (Nat → Int32) × (Int32) × (Nat → Int32) × (Nat → Int64) × (Int64) × (Nat → Int32) × (Int32) × (Int32) × (Nat → Int64) × (Nat → Int64)) :=
  some (x6, Mheads, Msets, Mballots, Mranks, Mloads, Mbelow, Morder, Melected, Mmembers, Mabove, Munder)
def fX5_rather_b133 (N : Nat) (x3 : Int32) (x5 : Int32) (x6 : Int32) (Mheads : Nat → Int32) (Msets : Nat → Int32) (Mballots : Int32) (Mranks : Nat → Int32) (Mloads : Nat → Int64) (Mbelow : Int64) (Morder : Nat → Int32) (Melected : Int32) (Mmembers : Int32) (Mabove : Nat → Int64) (Munder : Nat → Int64) : Option (Int32 × (Nat → Int32) × (Nat → Int32) × (Int32) × (Nat → Int32) × (Nat → Int64) × (Int64) × (Nat → Int32) × (Int32) × (Int32) × (Nat → Int64) × (Nat → Int64)) :=
  (if x6 = (-4 : Int32) then
    fX5_rather_b144 N x6 Mheads Msets Mballots Mranks Mloads Mbelow Morder Melected Mmembers Mabove Munder
  else
    (if x3 = 0 then
      fX5_rather_b144 N x6 Mheads Msets Mballots Mranks Mloads Mbelow Morder Melected Mmembers Mabove Munder
    else
      some (x5, Mheads, Msets, Mballots, Mranks, Mloads, Mbelow, Morder, Melected, Mmembers, Mabove, Munder)))
def fX5_rather_b125 (N : Nat) (k57 : Int32 → Int32 → Int32 → Int32 → Int32 → Int32 → Int32 → (Nat → Int32) → (Nat → Int32) → (Nat → Int32) → Int32 → (Nat → Int32) → (Nat → Int64) → Int64 → (Nat → Int32) → Int32 → Int32 → (Nat → Int64) → (Nat → Int64) → Option (Int32 × (Nat → Int32) × (Nat → Int32) × (Int32) × (Nat → Int32) × (Nat → Int64) × (Int64) × (Nat → Int32) × (Int32) × (Int32) × (Nat → Int64) × (Nat → Int64))) (x1 : Int32) (x2 : Int32) (x3 : Int32) (x4 : Int32) (x6 : Int32) (x7 : Int32) (t0 : Int32) (Mnow : Nat → Int32) (Mheads : Nat → Int32) (Msets : Nat → Int32) (Mballots : Int32) (Mranks : Nat → Int32) (Mloads : Nat → Int64) (Mbelow : Int64) (Morder : Nat → Int32) (Melected : Int32) (Mmembers : Int32) (Mabove : Nat → Int64) (Munder : Nat → Int64) : Option (Int32 × (Nat → Int32) × (Nat → Int32) × (Int32) × (Nat → Int32) × (Nat → Int64) × (Int64) × (Nat → Int32) × (Int32) × (Int32) × (Nat → Int64) × (Nat → Int64)) :=
  k57 x1 x2 x3 x4 t0 x6 (x7 + (1 : Int32)) Mnow Mheads Msets Mballots Mranks Mloads Mbelow Morder Melected Mmembers Mabove Munder
def fX5_rather_b109 (N : Nat) (k57 : Int32 → Int32 → Int32 → Int32 → Int32 → Int32 → Int32 → (Nat → Int32) → (Nat → Int32) → (Nat → Int32) → Int32 → (Nat → Int32) → (Nat → Int64) → Int64 → (Nat → Int32) → Int32 → Int32 → (Nat → Int64) → (Nat → Int64) → Option (Int32 × (Nat → Int32) × (Nat → Int32) × (Int32) × (Nat → Int32) × (Nat → Int64) × (Int64) × (Nat → Int32) × (Int32) × (Int32) × (Nat → Int64) × (Nat → Int64))) (x1 : Int32) (x2 : Int32) (x3 : Int32) (x4 : Int32) (x5 : Int32) (x7 : Int32) (x8 : Int32) (t0 : Int32) (Mnow : Nat → Int32) (Mheads : Nat → Int32) (Msets : Nat → Int32) (Mballots : Int32) (Mranks : Nat → Int32) (Mloads : Nat → Int64) (Mbelow : Int64) (Morder : Nat → Int32) (Melected : Int32) (Mmembers : Int32) (Mabove : Nat → Int64) (Munder : Nat → Int64) : Option (Int32 × (Nat → Int32) × (Nat → Int32) × (Int32) × (Nat → Int32) × (Nat → Int64) × (Int64) × (Nat → Int32) × (Int32) × (Int32) × (Nat → Int64) × (Nat → Int64)) :=
  (if x8 ≤ x5 then
    fX5_rather_b125 N k57 x1 x2 x3 x4 t0 x7 x5 Mnow Mheads Msets Mballots Mranks Mloads Mbelow Morder Melected Mmembers Mabove Munder
  else
    fX5_rather_b125 N k57 x1 x2 x3 x4 t0 x7 x8 Mnow Mheads Msets Mballots Mranks Mloads Mbelow Morder Melected Mmembers Mabove Munder)
def fX5_rather_b57 (N : Nat) : Nat → Int32 → Int32 → Int32 → Int32 → Int32 → Int32 → Int32 → (Nat → Int32) → (Nat → Int32) → (Nat → Int32) → Int32 → (Nat → Int32) → (Nat → Int64) → Int64 → (Nat → Int32) → Int32 → Int32 → (Nat → Int64) → (Nat → Int64) → Option (Int32 × (Nat → Int32) × (Nat → Int32) × (Int32) × (Nat → Int32) × (Nat → Int64) × (Int64) × (Nat → Int32) × (Int32) × (Int32) × (Nat → Int64) × (Nat → Int64))
  | 0, _, _, _, _, _, _, _, _, _, _, _, _, _, _, _, _, _, _, _ => none
  | n + 1, x1, x2, x3, x4, x5, x6, x7, Mnow, Mheads, Msets, Mballots, Mranks, Mloads, Mbelow, Morder, Melected, Mmembers, Mabove, Munder =>
    (if ((1 : Int32) <<< ((Mnow 0) &&& 31)) ≤ x7 then
      fX5_rather_b133 N x3 x5 x6 Mheads Msets Mballots Mranks Mloads Mbelow Morder Melected Mmembers Mabove Munder
    else
      if x2 < 0 ∨ 11 ≤ x2.toNatClampNeg then none else
        (fX5_elects N x1 Mnow Mheads (upd Msets x2.toNatClampNeg x7) Mballots Mranks Mloads Mbelow Morder Melected Mmembers Mabove Munder).bind fun u6 =>
        (fX5_ones N (u6.2.2.2.2.1 &&& x4)).bind fun u8 =>
        (if u8 ≤ x5 then
        fX5_rather_b109 N (fun z0 z1 z2 z3 z4 z5 z6 z7 z8 z9 z10 z11 z12 z13 z14 z15 z16 z17 z18 => fX5_rather_b57 N n z0 z1 z2 z3 z4 z5 z6 z7 z8 z9 z10 z11 z12 z13 z14 z15 z16 z17 z18) x1 x2 x3 x4 x5 x7 u8 x6 Mnow Mheads (upd Msets x2.toNatClampNeg x7) Mballots Mranks u6.1 u6.2.1 u6.2.2.1 u6.2.2.2.1 u6.2.2.2.2.1 u6.2.2.2.2.2.1 u6.2.2.2.2.2.2
      else
        fX5_rather_b109 N (fun z0 z1 z2 z3 z4 z5 z6 z7 z8 z9 z10 z11 z12 z13 z14 z15 z16 z17 z18 => fX5_rather_b57 N n z0 z1 z2 z3 z4 z5 z6 z7 z8 z9 z10 z11 z12 z13 z14 z15 z16 z17 z18) x1 x2 x3 x4 x5 x7 u8 x7 Mnow Mheads (upd Msets x2.toNatClampNeg x7) Mballots Mranks u6.1 u6.2.1 u6.2.2.1 u6.2.2.2.1 u6.2.2.2.2.1 u6.2.2.2.2.2.1 u6.2.2.2.2.2.2))
def fX5_rather (N : Nat) (p0 : Int32) (p1 : Int32) (p2 : Int32) (Mnow : Nat → Int32) (Mheads : Nat → Int32) (Msets : Nat → Int32) (Mballots : Int32) (Mranks : Nat → Int32) (Mloads : Nat → Int64) (Mbelow : Int64) (Morder : Nat → Int32) (Melected : Int32) (Mmembers : Int32) (Mabove : Nat → Int64) (Munder : Nat → Int64) : Option (Int32 × (Nat → Int32) × (Nat → Int32) × (Int32) × (Nat → Int32) × (Nat → Int64) × (Int64) × (Nat → Int32) × (Int32) × (Int32) × (Nat → Int64) × (Nat → Int64)) :=
  (fX5_isLaw N p0).bind fun u11 =>
    (if u11 = 0 then
    some ((-1 : Int32), Mheads, Msets, Mballots, Mranks, Mloads, Mbelow, Morder, Melected, Mmembers, Mabove, Munder)
  else
    (fX5_isBallot N p1 Mnow).bind fun u14 =>
      (if u14 = 0 then
      some ((-1 : Int32), Mheads, Msets, Mballots, Mranks, Mloads, Mbelow, Morder, Melected, Mmembers, Mabove, Munder)
    else
      (fX5_in N p2 (0 : Int32) (1 : Int32)).bind fun u17 =>
        (if u17 = 0 then
        some ((-1 : Int32), Mheads, Msets, Mballots, Mranks, Mloads, Mbelow, Morder, Melected, Mmembers, Mabove, Munder)
      else
        if ((12 : Int32) + p1) < 0 ∨ 32 ≤ ((12 : Int32) + p1).toNatClampNeg then none else
          (fX5_membersBy N p0 Mnow Mheads Msets Mballots Mranks Mloads Mbelow Morder Melected Mmembers Mabove Munder).bind fun u21 =>
          (fX5_ones N (u21.1 &&& (Mnow (((12 : Int32) + p1).toNatClampNeg)))).bind fun u23 =>
          fX5_rather_b57 N N p0 p1 p2 (Mnow (((12 : Int32) + p1).toNatClampNeg)) u23 (-4 : Int32) (1 : Int32) Mnow u21.2.1 u21.2.2.1 u21.2.2.2.1 u21.2.2.2.2.1 u21.2.2.2.2.2.1 u21.2.2.2.2.2.2.1 u21.2.2.2.2.2.2.2.1 u21.2.2.2.2.2.2.2.2.1 u21.2.2.2.2.2.2.2.2.2.1 u21.2.2.2.2.2.2.2.2.2.2.1 u21.2.2.2.2.2.2.2.2.2.2.2)))
def fX5_decided_b58 (N : Nat) (x1 : Int32) (x2 : Int32) (Mnow : Nat → Int32) (Mheads : Nat → Int32) (Msets : Nat → Int32) (Mballots : Int32) (Mranks : Nat → Int32) (Mloads : Nat → Int64) (Mbelow : Int64) (Morder : Nat → Int32) (Melected : Int32) (Mmembers : Int32) (Mabove : Nat → Int64) (Munder : Nat → Int64) : Option (Int32 × (Nat → Int32) × (Nat → Int32) × (Int32) × (Nat → Int32) × (Nat → Int64) × (Int64) × (Nat → Int32) × (Int32) × (Int32) × (Nat → Int64) × (Nat → Int64)) :=
  (fX5_elects N x1 Mnow Mheads Msets Mballots Mranks Mloads Mbelow Morder Melected Mmembers Mabove Munder).bind fun u1 =>
    (if u1.2.2.2.2.1 = x2 then
    some ((0 : Int32), Mheads, Msets, Mballots, Mranks, u1.1, u1.2.1, u1.2.2.1, u1.2.2.2.1, u1.2.2.2.2.1, u1.2.2.2.2.2.1, u1.2.2.2.2.2.2)
  else
    some ((1 : Int32), Mheads, Msets, Mballots, Mranks, u1.1, u1.2.1, u1.2.2.1, u1.2.2.2.1, u1.2.2.2.2.1, u1.2.2.2.2.2.1, u1.2.2.2.2.2.2))
def fX5_decided_b25 (N : Nat) : Nat → Int32 → Int32 → Int32 → Int32 → (Nat → Int32) → (Nat → Int32) → (Nat → Int32) → Int32 → (Nat → Int32) → (Nat → Int64) → Int64 → (Nat → Int32) → Int32 → Int32 → (Nat → Int64) → (Nat → Int64) → Option (Int32 × (Nat → Int32) × (Nat → Int32) × (Int32) × (Nat → Int32) × (Nat → Int64) × (Int64) × (Nat → Int32) × (Int32) × (Int32) × (Nat → Int64) × (Nat → Int64))
  | 0, _, _, _, _, _, _, _, _, _, _, _, _, _, _, _, _ => none
  | n + 1, x1, x2, x3, x4, Mnow, Mheads, Msets, Mballots, Mranks, Mloads, Mbelow, Morder, Melected, Mmembers, Mabove, Munder =>
    (if x3 ≤ x4 then
      fX5_decided_b58 N x1 x2 Mnow Mheads Msets Mballots Mranks Mloads Mbelow Morder Melected Mmembers Mabove Munder
    else
      if ((((24 : Int32) + x3) - (1 : Int32)) - x4) < 0 ∨ 32 ≤ ((((24 : Int32) + x3) - (1 : Int32)) - x4).toNatClampNeg then none else
        if x4 < 0 ∨ 8 ≤ x4.toNatClampNeg then none else
        fX5_decided_b25 N n x1 x2 x3 (x4 + (1 : Int32)) Mnow Mheads Msets Mballots (upd Mranks x4.toNatClampNeg (Mnow (((((24 : Int32) + x3) - (1 : Int32)) - x4).toNatClampNeg))) Mloads Mbelow Morder Melected Mmembers Mabove Munder)
def fX5_decided (N : Nat) (p0 : Int32) (Mnow : Nat → Int32) (Mheads : Nat → Int32) (Msets : Nat → Int32) (Mballots : Int32) (Mranks : Nat → Int32) (Mloads : Nat → Int64) (Mbelow : Int64) (Morder : Nat → Int32) (Melected : Int32) (Mmembers : Int32) (Mabove : Nat → Int64) (Munder : Nat → Int64) : Option (Int32 × (Nat → Int32) × (Nat → Int32) × (Int32) × (Nat → Int32) × (Nat → Int64) × (Int64) × (Nat → Int32) × (Int32) × (Int32) × (Nat → Int64) × (Nat → Int64)) :=
  (fX5_isLaw N p0).bind fun u7 =>
    (if u7 = 0 then
    some ((-1 : Int32), Mheads, Msets, Mballots, Mranks, Mloads, Mbelow, Morder, Melected, Mmembers, Mabove, Munder)
  else
    (fX5_membersBy N p0 Mnow Mheads Msets Mballots Mranks Mloads Mbelow Morder Melected Mmembers Mabove Munder).bind fun u10 =>
      fX5_decided_b25 N N p0 u10.1 (Mnow 0) (0 : Int32) Mnow u10.2.1 u10.2.2.1 u10.2.2.2.1 u10.2.2.2.2.1 u10.2.2.2.2.2.1 u10.2.2.2.2.2.2.1 u10.2.2.2.2.2.2.2.1 u10.2.2.2.2.2.2.2.2.1 u10.2.2.2.2.2.2.2.2.2.1 u10.2.2.2.2.2.2.2.2.2.2.1 u10.2.2.2.2.2.2.2.2.2.2.2)
def fX5_both (N : Nat) (p0 : Int32) (p1 : Int32) (Mnow : Nat → Int32) (Mheads : Nat → Int32) (Msets : Nat → Int32) (Mballots : Int32) (Mranks : Nat → Int32) (Mloads : Nat → Int64) (Mbelow : Int64) (Morder : Nat → Int32) (Melected : Int32) (Mmembers : Int32) (Mabove : Nat → Int64) (Munder : Nat → Int64) : Option (Int32 × (Nat → Int32) × (Nat → Int32) × (Int32) × (Nat → Int32) × (Nat → Int64) × (Int64) × (Nat → Int32) × (Int32) × (Int32) × (Nat → Int64) × (Nat → Int64)) :=
  (fX5_isLaw N p0).bind fun u1 =>
    (if u1 = 0 then
    some ((-1 : Int32), Mheads, Msets, Mballots, Mranks, Mloads, Mbelow, Morder, Melected, Mmembers, Mabove, Munder)
  else
    (fX5_isLaw N p1).bind fun u4 =>
      (if u4 = 0 then
      some ((-1 : Int32), Mheads, Msets, Mballots, Mranks, Mloads, Mbelow, Morder, Melected, Mmembers, Mabove, Munder)
    else
      (fX5_membersBy N p0 Mnow Mheads Msets Mballots Mranks Mloads Mbelow Morder Melected Mmembers Mabove Munder).bind fun u7 =>
        (fX5_membersBy N p1 Mnow u7.2.1 u7.2.2.1 u7.2.2.2.1 u7.2.2.2.2.1 u7.2.2.2.2.2.1 u7.2.2.2.2.2.2.1 u7.2.2.2.2.2.2.2.1 u7.2.2.2.2.2.2.2.2.1 u7.2.2.2.2.2.2.2.2.2.1 u7.2.2.2.2.2.2.2.2.2.2.1 u7.2.2.2.2.2.2.2.2.2.2.2).bind fun u9 =>
        (fX5_ones N (u7.1 &&& u9.1)).bind fun u11 =>
        some (u11, u9.2.1, u9.2.2.1, u9.2.2.2.1, u9.2.2.2.2.1, u9.2.2.2.2.2.1, u9.2.2.2.2.2.2.1, u9.2.2.2.2.2.2.2.1, u9.2.2.2.2.2.2.2.2.1, u9.2.2.2.2.2.2.2.2.2.1, u9.2.2.2.2.2.2.2.2.2.2.1, u9.2.2.2.2.2.2.2.2.2.2.2)))
def fX5_count (N : Nat) (p0 : Int32) (Mnow : Nat → Int32) (Mchanges : Int32) (Mletters : Int32) : Option (Int32) :=
  (if p0 = 0 then
    some (Mnow 0)
  else
    (if p0 = 1 then
      some (Mnow 1)
    else
      (if p0 = 2 then
        (fX5_allVoters N Mnow).bind fun u4 =>
          some u4
      else
        (if p0 = 3 then
          some (Mnow 22)
        else
          (if p0 = 4 then
            (fX5_ones N (Mnow 23)).bind fun u8 =>
              some u8
          else
            (if p0 = 5 then
              some Mchanges
            else
              (if p0 = 6 then
                some Mletters
              else
                some (-1 : Int32))))))))
