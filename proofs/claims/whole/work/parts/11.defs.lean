def fX0_copyFrom (N : Nat) (Ccandidates : Int32) (Cballots : Int32) (Cseats : Int32) (Cwithdrawn : Int32) (Cvoters : Nat → Int32) (Csets : Nat → Int32) (Crank : Nat → Int32) (Dcandidates : Int32) (Dballots : Int32) (Dseats : Int32) (Dwithdrawn : Int32) (Dvoters : Nat → Int32) (Dsets : Nat → Int32) (Drank : Nat → Int32) : Option ((Int32) × (Int32) × (Int32) × (Int32) × (Nat → Int32) × (Nat → Int32) × (Nat → Int32)) :=
  some (Dcandidates, Dballots, Dseats, Dwithdrawn, (va_cpy Dvoters Cvoters 0 0 11), (va_cpy Dsets Csets 0 0 11), (va_cpy Drank Crank 0 0 8))
def fX0_addBallot (N : Nat) (p0 : Int32) (p1 : Int32) (Cballots : Int32) (Cvoters : Nat → Int32) (Csets : Nat → Int32) : Option ((Int32) × (Nat → Int32) × (Nat → Int32)) :=
  (if (11 : Int32) ≤ Cballots then
    some (Cballots, Cvoters, Csets)
  else
    if Cballots < 0 ∨ 11 ≤ Cballots.toNatClampNeg then none else
      some ((Cballots + (1 : Int32)), (upd Cvoters Cballots.toNatClampNeg p0), (upd Csets Cballots.toNatClampNeg p1)))
def fX0_agreesTo (N : Nat) (p0 : Int32) (p1 : Int32) (Csets : Nat → Int32) : Option (Int32) :=
  if p0 < 0 ∨ 11 ≤ p0.toNatClampNeg then none else
    (if ((Csets p0.toNatClampNeg) &&& p1) = p1 then
    some (1 : Int32)
  else
    some (0 : Int32))
def fX0_votersWhoAgree_b30 (N : Nat) (k4 : Int32 → Int32 → Int32 → Int32 → (Nat → Int32) → (Nat → Int32) → Option (Int32)) (x1 : Int32) (x2 : Int32) (x3 : Int32) (Cballots : Int32) (Cvoters : Nat → Int32) (Csets : Nat → Int32) : Option (Int32) :=
  k4 x1 x2 (x3 + (1 : Int32)) Cballots Cvoters Csets
def fX0_votersWhoAgree_b4 (N : Nat) : Nat → Int32 → Int32 → Int32 → Int32 → (Nat → Int32) → (Nat → Int32) → Option (Int32)
  | 0, _, _, _, _, _, _ => none
  | n + 1, x1, x2, x3, Cballots, Cvoters, Csets =>
    (if Cballots ≤ x3 then
      some x2
    else
      (fX0_agreesTo N x3 x1 Csets).bind fun u2 =>
        (if u2 = 0 then
        fX0_votersWhoAgree_b30 N (fun z0 z1 z2 z3 z4 z5 => fX0_votersWhoAgree_b4 N n z0 z1 z2 z3 z4 z5) x1 x2 x3 Cballots Cvoters Csets
      else
        if x3 < 0 ∨ 11 ≤ x3.toNatClampNeg then none else
          fX0_votersWhoAgree_b30 N (fun z0 z1 z2 z3 z4 z5 => fX0_votersWhoAgree_b4 N n z0 z1 z2 z3 z4 z5) x1 (x2 + (Cvoters x3.toNatClampNeg)) x3 Cballots Cvoters Csets))
def fX0_votersWhoAgree (N : Nat) (p0 : Int32) (Cballots : Int32) (Cvoters : Nat → Int32) (Csets : Nat → Int32) : Option (Int32) :=
  fX0_votersWhoAgree_b4 N N p0 (0 : Int32) (0 : Int32) Cballots Cvoters Csets
def fX0_allVoters (N : Nat) (Cballots : Int32) (Cvoters : Nat → Int32) (Csets : Nat → Int32) : Option (Int32) :=
  (fX0_votersWhoAgree N (0 : Int32) Cballots Cvoters Csets).bind fun u1 =>
    some u1
def fX4_hasBit (N : Nat) (p0 : Int32) (p1 : Int32) : Option (Int32) :=
  (if ((p0 >>> (p1 &&& 31)) &&& (1 : Int32)) = (1 : Int32) then
    some (1 : Int32)
  else
    some (0 : Int32))
def fX0_isWithdrawn (N : Nat) (p0 : Int32) (Cwithdrawn : Int32) : Option (Int32) :=
  (fX4_hasBit N Cwithdrawn p0).bind fun u1 =>
    if ¬ (u1 = 0 ∨ u1 = 1) then none else
    some u1
def fX2_keep (N : Nat) (Ptop : Int32) (Psize : Int32) (Ccandidates : Int32) (Cballots : Int32) (Cseats : Int32) (Cwithdrawn : Int32) (Cvoters : Nat → Int32) (Csets : Nat → Int32) (Crank : Nat → Int32) (Qcandidates : Int32) (Qballots : Int32) (Qseats : Int32) (Qwithdrawn : Int32) (Qvoters : Nat → Int32) (Qsets : Nat → Int32) (Qrank : Nat → Int32) : Option ((Int32) × (Int32) × (Int32) × (Int32) × (Int32) × (Int32) × (Nat → Int32) × (Nat → Int32) × (Nat → Int32)) :=
  if Ptop < 0 ∨ 6 ≤ Ptop.toNatClampNeg then none else
    (fX0_copyFrom N Qcandidates Qballots Qseats Qwithdrawn Qvoters Qsets Qrank Ccandidates Cballots Cseats Cwithdrawn Cvoters Csets Crank).bind fun u2 =>
    some (((Ptop + (1 : Int32)) - (Ptop + (1 : Int32)) / (6 : Int32) * (6 : Int32)), (if (6 : Int32) < (Psize + (1 : Int32)) then (6 : Int32) else (Psize + (1 : Int32))), u2.1, u2.2.1, u2.2.2.1, u2.2.2.2.1, u2.2.2.2.2.1, u2.2.2.2.2.2.1, u2.2.2.2.2.2.2)
def fX4_isVoters (N : Nat) (p0 : Int32) : Option (Int32) :=
  (if p0 < (1 : Int32) then
    some (0 : Int32)
  else
    (if (20 : Int32) < p0 then
      some (0 : Int32)
    else
      some (1 : Int32)))
def fX4_isSet (N : Nat) (p0 : Int32) (Ncandidates : Int32) : Option (Int32) :=
  (if p0 < (1 : Int32) then
    some (0 : Int32)
  else
    (if ((1 : Int32) <<< (Ncandidates &&& 31)) ≤ p0 then
      some (0 : Int32)
    else
      some (1 : Int32)))
def fX4_ballot (N : Nat) (p0 : Int32) (p1 : Int32) (Ptop : Int32) (Psize : Int32) (Ncandidates : Int32) (Nballots : Int32) (Nseats : Int32) (Nwithdrawn : Int32) (Nvoters : Nat → Int32) (Nsets : Nat → Int32) (Nrank : Nat → Int32) (Qcandidates : Int32) (Qballots : Int32) (Qseats : Int32) (Qwithdrawn : Int32) (Qvoters : Nat → Int32) (Qsets : Nat → Int32) (Qrank : Nat → Int32) : Option (Int32 × (Int32) × (Int32) × (Int32) × (Nat → Int32) × (Nat → Int32) × (Int32) × (Int32) × (Int32) × (Int32) × (Nat → Int32) × (Nat → Int32) × (Nat → Int32)) :=
  (fX4_isVoters N p0).bind fun u1 =>
    (if u1 = 0 then
    some ((-1 : Int32), Ptop, Psize, Nballots, Nvoters, Nsets, Qcandidates, Qballots, Qseats, Qwithdrawn, Qvoters, Qsets, Qrank)
  else
    (fX4_isSet N p1 Ncandidates).bind fun u4 =>
      (if u4 = 0 then
      some ((-1 : Int32), Ptop, Psize, Nballots, Nvoters, Nsets, Qcandidates, Qballots, Qseats, Qwithdrawn, Qvoters, Qsets, Qrank)
    else
      (if (10 : Int32) ≤ Nballots then
        some ((-3 : Int32), Ptop, Psize, Nballots, Nvoters, Nsets, Qcandidates, Qballots, Qseats, Qwithdrawn, Qvoters, Qsets, Qrank)
      else
        (fX0_allVoters N Nballots Nvoters Nsets).bind fun u8 =>
          (if (u8 + p0) ≤ (40 : Int32) then
          (fX2_keep N Ptop Psize Ncandidates Nballots Nseats Nwithdrawn Nvoters Nsets Nrank Qcandidates Qballots Qseats Qwithdrawn Qvoters Qsets Qrank).bind fun u11 =>
            (fX0_addBallot N p0 p1 Nballots Nvoters Nsets).bind fun u13 =>
            some ((u13.1 - (1 : Int32)), u11.1, u11.2.1, u13.1, u13.2.1, u13.2.2, u11.2.2.1, u11.2.2.2.1, u11.2.2.2.2.1, u11.2.2.2.2.2.1, u11.2.2.2.2.2.2.1, u11.2.2.2.2.2.2.2.1, u11.2.2.2.2.2.2.2.2)
        else
          some ((-3 : Int32), Ptop, Psize, Nballots, Nvoters, Nsets, Qcandidates, Qballots, Qseats, Qwithdrawn, Qvoters, Qsets, Qrank)))))
def fX5_in (N : Nat) (p0 : Int32) (p1 : Int32) (p2 : Int32) : Option (Int32) :=
  (if p0 < p1 then
    some (0 : Int32)
  else
    (if p2 < p0 then
      some (0 : Int32)
    else
      some (1 : Int32)))
def fX5_has (N : Nat) (p0 : Int32) (p1 : Int32) : Option (Int32) :=
  (if ((p0 >>> (p1 &&& 31)) &&& (1 : Int32)) = (1 : Int32) then
    some (1 : Int32)
  else
    some (0 : Int32))
def fX5_ones_b4 (N : Nat) : Nat → Int32 → Int32 → Int32 → Option (Int32)
  | 0, _, _, _ => none
  | n + 1, x0, x1, x2 =>
    (if (11 : Int32) ≤ x2 then
      some x1
    else
      fX5_ones_b4 N n x0 (x1 + ((x0 >>> (x2 &&& 31)) &&& (1 : Int32))) (x2 + (1 : Int32)))
def fX5_ones (N : Nat) (p0 : Int32) : Option (Int32) :=
  fX5_ones_b4 N N p0 (0 : Int32) (0 : Int32)
def fX5_adds (N : Nat) (p0 : Int32) (p1 : Int32) (Mnow : Nat → Int32) : Option ((Nat → Int32)) :=
  if ((2 : Int32) + (Mnow 1)) < 0 ∨ 32 ≤ ((2 : Int32) + (Mnow 1)).toNatClampNeg then none else
    if ((12 : Int32) + ((upd Mnow (((2 : Int32) + (Mnow 1)).toNatClampNeg) p0) 1)) < 0 ∨ 32 ≤ ((12 : Int32) + ((upd Mnow (((2 : Int32) + (Mnow 1)).toNatClampNeg) p0) 1)).toNatClampNeg then none else
    some (upd (upd (upd Mnow (((2 : Int32) + (Mnow 1)).toNatClampNeg) p0) (((12 : Int32) + ((upd Mnow (((2 : Int32) + (Mnow 1)).toNatClampNeg) p0) 1)).toNatClampNeg) p1) 1 (((upd (upd Mnow (((2 : Int32) + (Mnow 1)).toNatClampNeg) p0) (((12 : Int32) + ((upd Mnow (((2 : Int32) + (Mnow 1)).toNatClampNeg) p0) 1)).toNatClampNeg) p1) 1) + (1 : Int32)))
def fX5_isCandidate (N : Nat) (p0 : Int32) (Mnow : Nat → Int32) : Option (Int32) :=
  (fX5_in N p0 (0 : Int32) ((Mnow 0) - (1 : Int32))).bind fun u1 =>
    if ¬ (u1 = 0 ∨ u1 = 1) then none else
    some u1
def fX5_allVoters_b4 (N : Nat) : Nat → Int32 → Int32 → (Nat → Int32) → Option (Int32)
  | 0, _, _, _ => none
  | n + 1, x1, x2, Mnow =>
    (if (Mnow 1) ≤ x2 then
      some x1
    else
      if ((2 : Int32) + x2) < 0 ∨ 32 ≤ ((2 : Int32) + x2).toNatClampNeg then none else
        fX5_allVoters_b4 N n (x1 + (Mnow (((2 : Int32) + x2).toNatClampNeg))) (x2 + (1 : Int32)) Mnow)
def fX5_allVoters (N : Nat) (Mnow : Nat → Int32) : Option (Int32) :=
  fX5_allVoters_b4 N N (0 : Int32) (0 : Int32) Mnow
def fX5_write (N : Nat) (p0 : Int32) (Mtext : Nat → Int32) (Mletters : Int32) : Option (Int32 × (Nat → Int32) × (Int32)) :=
  (fX5_in N p0 (32 : Int32) (126 : Int32)).bind fun u1 =>
    (if u1 = 0 then
    some ((-1 : Int32), Mtext, Mletters)
  else
    (if Mletters = (200 : Int32) then
      some ((-3 : Int32), Mtext, Mletters)
    else
      if Mletters < 0 ∨ 200 ≤ Mletters.toNatClampNeg then none else
        some ((Mletters + (1 : Int32)), (upd Mtext Mletters.toNatClampNeg p0), (Mletters + (1 : Int32)))))
def fX5_supportOf_b36 (N : Nat) (k4 : Int32 → Int32 → Int32 → (Nat → Int32) → (Nat → Int32) → Int32 → Option (Int32)) (x1 : Int32) (x3 : Int32) (t0 : Int32) (t1 : Int32) (Mheads : Nat → Int32) (Msets : Nat → Int32) (Mballots : Int32) : Option (Int32) :=
  k4 x1 (t0 + t1) (x3 + (1 : Int32)) Mheads Msets Mballots
def fX5_supportOf_b4 (N : Nat) : Nat → Int32 → Int32 → Int32 → (Nat → Int32) → (Nat → Int32) → Int32 → Option (Int32)
  | 0, _, _, _, _, _, _ => none
  | n + 1, x1, x2, x3, Mheads, Msets, Mballots =>
    (if Mballots ≤ x3 then
      some x2
    else
      if x3 < 0 ∨ 11 ≤ x3.toNatClampNeg then none else
        (fX5_has N (Msets x3.toNatClampNeg) x1).bind fun u3 =>
        (if u3 = 0 then
        fX5_supportOf_b36 N (fun z0 z1 z2 z3 z4 z5 => fX5_supportOf_b4 N n z0 z1 z2 z3 z4 z5) x1 x3 x2 (0 : Int32) Mheads Msets Mballots
      else
        fX5_supportOf_b36 N (fun z0 z1 z2 z3 z4 z5 => fX5_supportOf_b4 N n z0 z1 z2 z3 z4 z5) x1 x3 x2 (Mheads x3.toNatClampNeg) Mheads Msets Mballots))
def fX5_supportOf (N : Nat) (p0 : Int32) (Mheads : Nat → Int32) (Msets : Nat → Int32) (Mballots : Int32) : Option (Int32) :=
  fX5_supportOf_b4 N N p0 (0 : Int32) (0 : Int32) Mheads Msets Mballots
