def B_X5_forgetAll_25   : Nat → CS → Int32 → Option (CS × Unit) := lo2 fun self25 (σ : CS) (v1 : Int32) =>
(if (4 : Int32) ≤ v1 then
lt (pt σ 9 0 0 (0 : Int32)) fun σ108 =>
lt (pt σ108 10 0 0 (0 : Int32)) fun σ109 =>
lt (pt σ109 11 0 0 (0 : Int32)) fun σ110 =>
some (σ110, ())
else
gd (inb v1 4) (
bd (F_X0_reset σ (tn v1)) fun σ113 _ =>
lt (v1 + 1) fun x115 =>
self25 σ113 x115))
def B_X5_forgetAll_2   : Nat → CS → Int32 → Option (CS × Unit) := lo2 fun self2 (σ : CS) (v1 : Int32) =>
(if (7 : Int32) ≤ v1 then
B_X5_forgetAll_25 4096 σ (0 : Int32)
else
gd (inb v1 7) (
bd (F_X3_reset σ (tn v1)) fun σ104 _ =>
lt (v1 + 1) fun x106 =>
self2 σ104 x106))
def F_X5_forgetAll (σ : CS)  : Option (CS × Unit) :=
B_X5_forgetAll_2 4096 σ (0 : Int32)
def B_X5_begin_31 (x1 : Int32) (x2 : Int32)  (σ : CS)  : Option (CS × (Int32 ⊕ Nat)) :=
some (σ, .inr 2)
def B_X5_begin_11 (x1 : Int32) (x2 : Int32)  (σ : CS)  : Option (CS × (Int32 ⊕ Nat)) :=
some (σ, .inr 2)
def F_X5_begin (σ : CS) (x1 : Int32) (x2 : Int32) : Option (CS × (Int32 ⊕ Nat)) :=
(if x1 < (3 : Int32) then
B_X5_begin_11 x1 x2 σ
else
(if x1 ≤ (7 : Int32) then
(if x2 < (1 : Int32) then
B_X5_begin_31 x1 x2 σ
else
(if x2 ≤ (4 : Int32) then
lt (σ 6 0 0) fun x105 =>
lt (pt σ 6 0 0 x1) fun σ106 =>
lt (pt σ106 7 0 0 x2) fun σ107 =>
bd (F_X5_forgetAll σ107) fun σ108 _ =>
some (σ108, .inl x105)
else
B_X5_begin_31 x1 x2 σ))
else
B_X5_begin_11 x1 x2 σ))
def F_X5_setBarriers (σ : CS) (x1 : Int32) : Option (CS × Int32) :=
bd (F_X5_asNumber σ (σ 8 0 0)) fun σ101 r102 =>
gd (isb x1) (lt (pt σ101 8 0 0 x1) fun σ103 =>
some (σ103, r102))
def B_X5_isNode_16 (x1 : Int32)  (σ : CS)  : Option (CS × Int32) :=
some (σ, (0 : Int32))
def F_X5_isNode (σ : CS) (x1 : Int32) : Option (CS × Int32) :=
(if x1 < 0 then
B_X5_isNode_16 x1 σ
else
(if (σ 6 0 0) ≤ x1 then
B_X5_isNode_16 x1 σ
else
some (σ, (1 : Int32))))
def F_X5_requireNode (σ : CS) (x1 : Int32) : Option (CS × (Unit ⊕ Nat)) :=
bd (F_X5_isNode σ x1) fun σ101 r102 =>
(if r102 = 0 then
some (σ101, .inr 1)
else
some (σ101, .inl ()))
def B_X5_requireReached_15 (x1 : Int32)  (σ : CS)  : Option (CS × (Unit ⊕ Nat)) :=
some (σ, .inr 2)
def F_X5_requireReached (σ : CS) (x1 : Int32) : Option (CS × (Unit ⊕ Nat)) :=
(if x1 < (1 : Int32) then
B_X5_requireReached_15 x1 σ
else
(if x1 < ((1 : Int32) <<< ((σ 6 0 0) &&& 31)) then
some (σ, .inl ())
else
B_X5_requireReached_15 x1 σ))
def F_X5_isIn (σ : CS) (x0 : Int32) (x1 : Int32) : Option (CS × Int32) :=
(if ((x0 >>> (x1 &&& 31)) &&& (1 : Int32)) = (1 : Int32) then
some (σ, (1 : Int32))
else
some (σ, (0 : Int32)))
def B_X5_gets_24 (x1 : Int32) (x2 : Int32)  (σ : CS)  : Option (CS × Int32) :=
some (σ, (0 : Int32))
def F_X5_gets (σ : CS) (x1 : Int32) (x2 : Int32) : Option (CS × Int32) :=
bd (F_X5_isIn σ x2 x1) fun σ101 r102 =>
(if r102 = 0 then
B_X5_gets_24 x1 x2 σ101
else
gd (inb x1 7) (
bd (F_X3_takesPart σ101 (tn x1)) fun σ106 r107 =>
(if r107 = 0 then
B_X5_gets_24 x1 x2 σ106
else
some (σ106, (1 : Int32)))))
def B_X5_agrees_98 (o1 : Nat) (o2 : Nat) (x3 : Int32) (x4 : Int32) (x5 : Int32)  (σ : CS) (v7 : Int32) : Option (CS × Int32) :=
gd (isb v7) (some (σ, v7))
def B_X5_agrees_86 (o1 : Nat) (o2 : Nat) (x3 : Int32) (x4 : Int32) (x5 : Int32)  (σ : CS) (v7 : Int32) : Option (CS × Int32) :=
(if (σ 8 0 0) = 0 then
B_X5_agrees_98 o1 o2 x3 x4 x5 σ v7
else
bd (F_X3_carryOutAll σ o1) fun σ113 r114 =>
B_X5_agrees_98 o1 o2 x3 x4 x5 σ113 v7)
def B_X5_agrees_41 (o1 : Nat) (o2 : Nat) (x3 : Int32) (x4 : Int32) (x5 : Int32)  (σ : CS) (v6 : Int32) (w0 : Int32) : Option (CS × Int32) :=
lt (pt σ 9 0 0 ((σ 9 0 0) + (1 : Int32))) fun σ105 =>
(if w0 = 0 then
bd (F_X3_tell σ105 o2 v6) fun σ107 _ =>
B_X5_agrees_86 o1 o2 x3 x4 x5 σ107 w0
else
lt (pt σ105 10 0 0 ((σ105 10 0 0) + (1 : Int32))) fun σ109 =>
bd (F_X3_write σ109 o1 x3 x4 x5) fun σ110 _ =>
B_X5_agrees_86 o1 o2 x3 x4 x5 σ110 w0)
def F_X5_agrees (σ : CS) (o1 : Nat) (o2 : Nat) (x3 : Int32) (x4 : Int32) (x5 : Int32) : Option (CS × Int32) :=
lt (σ 60 (7 + o1) 0) fun x101 =>
(if x3 = (-1 : Int32) then
(if x4 ≤ x101 then
B_X5_agrees_41 o1 o2 x3 x4 x5 σ x101 (0 : Int32)
else
B_X5_agrees_41 o1 o2 x3 x4 x5 σ x101 (1 : Int32))
else
(if x4 < x101 then
B_X5_agrees_41 o1 o2 x3 x4 x5 σ x101 (0 : Int32)
else
B_X5_agrees_41 o1 o2 x3 x4 x5 σ x101 (1 : Int32)))
def F_X5_quorum (σ : CS)  : Option (CS × Int32) :=
some (σ, (((σ 6 0 0) / (2 : Int32)) + (1 : Int32)))
def B_X5_sendPrepare_112 (o1 : Nat) (x2 : Int32)  (σ : CS) (v4 : Int32) : Option (CS × Int32) :=
some (σ, v4)
def B_X5_sendPrepare_85 (o1 : Nat) (x2 : Int32) (self28 : CS → Int32 → Int32 → Int32 → Option (CS × Int32)) (σ : CS) (v3 : Int32) (v4 : Int32) (v5 : Int32) : Option (CS × Int32) :=
lt (v5 + 1) fun x127 =>
self28 σ v3 v4 x127
def B_X5_sendPrepare_28 (o1 : Nat) (x2 : Int32)  : Nat → CS → Int32 → Int32 → Int32 → Option (CS × Int32) := lo4 fun self28 (σ : CS) (v3 : Int32) (v4 : Int32) (v5 : Int32) =>
(if (σ 6 0 0) ≤ v5 then
bd (F_X5_quorum σ) fun σ109 r110 =>
(if v4 < r110 then
B_X5_sendPrepare_112 o1 x2 σ109 v4
else
bd (F_X3_openRound σ109 o1 v3 14) fun σ112 _ =>
B_X5_sendPrepare_112 o1 x2 σ112 v4)
else
bd (F_X5_gets σ v5 x2) fun σ114 r115 =>
(if r115 = 0 then
B_X5_sendPrepare_85 o1 x2 self28 σ114 v3 v4 v5
else
gd (inb v5 7) (
bd (F_X5_agrees σ114 (tn v5) o1 (-1 : Int32) v3 (-1 : Int32)) fun σ119 r120 =>
(if r120 = 0 then
B_X5_sendPrepare_85 o1 x2 self28 σ119 v3 v4 v5
else
gd (inb v5 7) (
bd (F_X1_takeNewer σ119 14 (7 + (tn v5))) fun σ124 _ =>
lt (v4 + 1) fun x126 =>
B_X5_sendPrepare_85 o1 x2 self28 σ124 v3 x126 v5)))))
def F_X5_sendPrepare (σ : CS) (o1 : Nat) (x2 : Int32) : Option (CS × Int32) :=
bd (F_X3_nextBallot σ o1) fun σ101 r102 =>
lt (pt σ101 29 o1 0 (-1 : Int32)) fun σ103 =>
bd (F_X3_tell σ103 o1 r102) fun σ104 _ =>
bd (F_X1_reset σ104 14) fun σ106 _ =>
B_X5_sendPrepare_28 o1 x2 8 σ106 r102 (0 : Int32) (0 : Int32)
def F_X5_prepare (σ : CS) (x1 : Int32) (x2 : Int32) : Option (CS × (Int32 ⊕ Nat)) :=
bx (F_X5_requireNode σ x1) fun σ101 _ =>
bx (F_X5_requireReached σ101 x2) fun σ103 _ =>
gd (inb x1 7) (
bd (F_X3_takesPart σ103 (tn x1)) fun σ107 r108 =>
(if r108 = 0 then
some (σ107, .inr 3)
else
gd (inb x1 7) (
bd (F_X5_sendPrepare σ107 (tn x1) x2) fun σ112 r113 =>
some (σ112, .inl r113))))
def B_X5_isSlot_16 (x1 : Int32)  (σ : CS)  : Option (CS × Int32) :=
some (σ, (0 : Int32))
def F_X5_isSlot (σ : CS) (x1 : Int32) : Option (CS × Int32) :=
(if x1 < 0 then
B_X5_isSlot_16 x1 σ
else
(if (σ 7 0 0) ≤ x1 then
B_X5_isSlot_16 x1 σ
else
some (σ, (1 : Int32))))
def F_X5_requireSlot (σ : CS) (x1 : Int32) : Option (CS × (Unit ⊕ Nat)) :=
bd (F_X5_isSlot σ x1) fun σ101 r102 =>
(if r102 = 0 then
some (σ101, .inr 1)
else
some (σ101, .inl ()))
def F_X5_requireRound (σ : CS) (x1 : Int32) : Option (CS × (Unit ⊕ Nat)) :=
gd (inb x1 7) (
bd (F_X3_hasRound σ (tn x1)) fun σ103 r104 =>
(if r104 = 0 then
some (σ103, .inr 3)
else
some (σ103, .inl ())))
def B_X5_sendAccept_128 (o1 : Nat) (x2 : Int32) (x3 : Int32) (x4 : Int32)  (σ : CS) (v8 : Int32) : Option (CS × Int32) :=
some (σ, v8)
def B_X5_sendAccept_116 (o1 : Nat) (x2 : Int32) (x3 : Int32) (x4 : Int32)  (σ : CS) (v7 : Int32) (v8 : Int32) : Option (CS × Int32) :=
(if v7 ≤ v8 then
B_X5_sendAccept_128 o1 x2 x3 x4 σ v8
else
lt (pt σ 29 o1 0 (-1 : Int32)) fun σ128 =>
B_X5_sendAccept_128 o1 x2 x3 x4 σ128 v8)
def B_X5_sendAccept_88 (o1 : Nat) (x2 : Int32) (x3 : Int32) (x4 : Int32) (self40 : CS → Int32 → Int32 → Int32 → Int32 → Int32 → Option (CS × Int32)) (σ : CS) (v5 : Int32) (v6 : Int32) (v7 : Int32) (v8 : Int32) (v9 : Int32) : Option (CS × Int32) :=
lt (v9 + 1) fun x129 =>
self40 σ v5 v6 v7 v8 x129
def B_X5_sendAccept_40 (o1 : Nat) (x2 : Int32) (x3 : Int32) (x4 : Int32)  : Nat → CS → Int32 → Int32 → Int32 → Int32 → Int32 → Option (CS × Int32) := lo6 fun self40 (σ : CS) (v5 : Int32) (v6 : Int32) (v7 : Int32) (v8 : Int32) (v9 : Int32) =>
(if (σ 6 0 0) ≤ v9 then
bd (F_X5_quorum σ) fun σ109 r110 =>
(if v8 < r110 then
B_X5_sendAccept_116 o1 x2 x3 x4 σ109 v7 v8
else
gd (inb x2 4) (
bd (F_X0_decide σ109 (tn x2) v5 v6) fun σ114 _ =>
B_X5_sendAccept_116 o1 x2 x3 x4 σ114 v7 v8))
else
bd (F_X5_gets σ v9 x4) fun σ116 r117 =>
(if r117 = 0 then
B_X5_sendAccept_88 o1 x2 x3 x4 self40 σ116 v5 v6 v7 v8 v9
else
lt (v7 + 1) fun x119 =>
gd (inb v9 7) (
bd (F_X5_agrees σ116 (tn v9) o1 x2 v5 v6) fun σ122 r123 =>
bd (F_X5_asNumber σ122 r123) fun σ124 r125 =>
lt (v8 + r125) fun x126 =>
B_X5_sendAccept_88 o1 x2 x3 x4 self40 σ124 v5 v6 x119 x126 v9)))
def B_X5_sendAccept_23 (o1 : Nat) (x2 : Int32) (x3 : Int32) (x4 : Int32)  (σ : CS) (v5 : Int32) : Option (CS × Int32) :=
gd (inb x2 4) (
lt (σ 41 o1 (tn x2)) fun x107 =>
B_X5_sendAccept_40 o1 x2 x3 x4 8 σ v5 x107 (0 : Int32) (0 : Int32) (0 : Int32))
def F_X5_sendAccept (σ : CS) (o1 : Nat) (x2 : Int32) (x3 : Int32) (x4 : Int32) : Option (CS × Int32) :=
lt (σ 29 o1 0) fun x101 =>
gd (inb x2 4) (
(if (σ 41 o1 (tn x2)) = (-1 : Int32) then
gd (inb x2 4) (lt (pt σ 41 o1 (tn x2) x3) fun σ105 =>
B_X5_sendAccept_23 o1 x2 x3 x4 σ105 x101)
else
B_X5_sendAccept_23 o1 x2 x3 x4 σ x101))
def B_X5_accept_20 (x1 : Int32) (x2 : Int32) (x3 : Int32) (x4 : Int32)  (σ : CS)  : Option (CS × (Int32 ⊕ Nat)) :=
some (σ, .inr 2)
def F_X5_accept (σ : CS) (x1 : Int32) (x2 : Int32) (x3 : Int32) (x4 : Int32) : Option (CS × (Int32 ⊕ Nat)) :=
bx (F_X5_requireNode σ x1) fun σ101 _ =>
bx (F_X5_requireSlot σ101 x2) fun σ103 _ =>
(if x3 < 0 then
B_X5_accept_20 x1 x2 x3 x4 σ103
else
(if x3 ≤ (9 : Int32) then
bx (F_X5_requireReached σ103 x4) fun σ107 _ =>
bx (F_X5_requireRound σ107 x1) fun σ109 _ =>
gd (inb x1 7) (
bd (F_X5_sendAccept σ109 (tn x1) x2 x3 x4) fun σ113 r114 =>
some (σ113, .inl r114))
else
B_X5_accept_20 x1 x2 x3 x4 σ103))
def F_X5_requireUp (σ : CS) (x1 : Int32) : Option (CS × (Unit ⊕ Nat)) :=
gd (inb x1 7) (
(if (σ 25 (tn x1) 0) = 0 then
some (σ, .inr 3)
else
some (σ, .inl ())))
def F_X5_barrier (σ : CS) (x1 : Int32) : Option (CS × (Int32 ⊕ Nat)) :=
bx (F_X5_requireNode σ x1) fun σ101 _ =>
bx (F_X5_requireUp σ101 x1) fun σ103 _ =>
gd (inb x1 7) (
bd (F_X3_carryOutAll σ103 (tn x1)) fun σ107 r108 =>
some (σ107, .inl r108))
def F_X5_requireLost (σ : CS) (x0 : Int32) : Option (CS × (Unit ⊕ Nat)) :=
(if 0 ≤ x0 then
some (σ, .inl ())
else
some (σ, .inr 2))
def F_X5_bringDown (σ : CS) (o1 : Nat) (x2 : Int32) : Option (CS × Int32) :=
bd (F_X3_fall σ o1 x2) fun σ101 r102 =>
lt (pt σ101 11 0 0 ((σ101 11 0 0) + r102)) fun σ103 =>
some (σ103, r102)
def F_X5_crash (σ : CS) (x1 : Int32) (x2 : Int32) : Option (CS × (Int32 ⊕ Nat)) :=
bx (F_X5_requireNode σ x1) fun σ101 _ =>
bx (F_X5_requireLost σ101 x2) fun σ103 _ =>
bx (F_X5_requireUp σ103 x1) fun σ105 _ =>
gd (inb x1 7) (
bd (F_X5_bringDown σ105 (tn x1) x2) fun σ109 r110 =>
some (σ109, .inl r110))
def F_X5_requireDown (σ : CS) (x1 : Int32) : Option (CS × (Unit ⊕ Nat)) :=
gd (inb x1 7) (
(if (σ 25 (tn x1) 0) = 0 then
some (σ, .inl ())
else
some (σ, .inr 3)))
def F_X5_wipe (σ : CS) (x1 : Int32) : Option (CS × (Int32 ⊕ Nat)) :=
bx (F_X5_requireNode σ x1) fun σ101 _ =>
bx (F_X5_requireDown σ101 x1) fun σ103 _ =>
gd (inb x1 7) (
bd (F_X3_loseDisk σ103 (tn x1)) fun σ107 r108 =>
some (σ107, .inl r108))
def F_X5_restart (σ : CS) (x1 : Int32) : Option (CS × (Int32 ⊕ Nat)) :=
bx (F_X5_requireNode σ x1) fun σ101 _ =>
bx (F_X5_requireDown σ101 x1) fun σ103 _ =>
gd (inb x1 7) (
bd (F_X3_bringUp σ103 (tn x1)) fun σ107 r108 =>
some (σ107, .inl r108))
def B_X5_readFromOthers_103 (o1 : Nat) (x2 : Int32)  (σ : CS) (v3 : Int32) : Option (CS × Int32) :=
some (σ, v3)
def B_X5_readFromOthers_81 (o1 : Nat) (x2 : Int32) (self12 : CS → Int32 → Int32 → Option (CS × Int32)) (σ : CS) (v3 : Int32) (v4 : Int32) : Option (CS × Int32) :=
lt (v4 + 1) fun x120 =>
self12 σ v3 x120
def B_X5_readFromOthers_12 (o1 : Nat) (x2 : Int32)  : Nat → CS → Int32 → Int32 → Option (CS × Int32) := lo3 fun self12 (σ : CS) (v3 : Int32) (v4 : Int32) =>
(if (σ 6 0 0) ≤ v4 then
bd (F_X5_quorum σ) fun σ104 r105 =>
(if v3 < r105 then
B_X5_readFromOthers_103 o1 x2 σ104 v3
else
bd (F_X3_join σ104 o1 14) fun σ107 _ =>
B_X5_readFromOthers_103 o1 x2 σ107 v3)
else
bd (F_X5_gets σ v4 x2) fun σ109 r110 =>
(if r110 = 0 then
B_X5_readFromOthers_81 o1 x2 self12 σ109 v3 v4
else
gd (inb v4 7) (
bd (F_X1_takeNewer σ109 14 (7 + (tn v4))) fun σ114 _ =>
gd (inb v4 7) (
lt (pt σ114 60 14 0 (imax (σ114 60 14 0) (σ114 60 (7 + (tn v4)) 0))) fun σ118 =>
lt (v3 + 1) fun x119 =>
B_X5_readFromOthers_81 o1 x2 self12 σ118 x119 v4))))
def F_X5_readFromOthers (σ : CS) (o1 : Nat) (x2 : Int32) : Option (CS × Int32) :=
bd (F_X1_reset σ 14) fun σ101 _ =>
B_X5_readFromOthers_12 o1 x2 4096 σ101 (0 : Int32) (0 : Int32)
def F_X5_rejoin (σ : CS) (x1 : Int32) (x2 : Int32) : Option (CS × (Int32 ⊕ Nat)) :=
bx (F_X5_requireNode σ x1) fun σ101 _ =>
bx (F_X5_requireReached σ101 x2) fun σ103 _ =>
gd (inb x1 7) (
bd (F_X3_canRejoin σ103 (tn x1)) fun σ107 r108 =>
(if r108 = 0 then
some (σ107, .inr 3)
else
gd (inb x1 7) (
bd (F_X5_readFromOthers σ107 (tn x1) x2) fun σ112 r113 =>
some (σ112, .inl r113))))
def B_X5_append_12 (x1 : Int32)  (σ : CS)  : Option (CS × (Int32 ⊕ Nat)) :=
some (σ, .inr 2)
def F_X5_append (σ : CS) (x1 : Int32) : Option (CS × (Int32 ⊕ Nat)) :=
(if x1 < (32 : Int32) then
B_X5_append_12 x1 σ
else
(if x1 ≤ (126 : Int32) then
(if (σ 5 0 0) < (60 : Int32) then
gd (inb (σ 5 0 0) 60) (lt (pt σ 40 0 (tn (σ 5 0 0)) x1) fun σ105 =>
lt (pt σ105 5 0 0 ((σ105 5 0 0) + (1 : Int32))) fun σ106 =>
some (σ106, .inl (σ106 5 0 0)))
else
some (σ, .inr 3))
else
B_X5_append_12 x1 σ))
def F_X5_clearInput (σ : CS)  : Option (CS × Int32) :=
lt (σ 5 0 0) fun x101 =>
lt (pt σ 5 0 0 (0 : Int32)) fun σ102 =>
some (σ102, x101)
def B_X5_readUpToError_9   : Nat → CS → Int32 → Option (CS × Int32) := lo2 fun self9 (σ : CS) (v1 : Int32) =>
(if (σ 5 0 0) ≤ v1 then
some (σ, (σ 5 0 0))
else
gd (inb v1 60) (
bd (F_X2_takes σ (σ 40 0 (tn v1)) (σ 6 0 0) (σ 7 0 0)) fun σ105 r106 =>
(if r106 = 0 then
some (σ105, v1)
else
lt (v1 + 1) fun x108 =>
self9 σ105 x108)))
def F_X5_readUpToError (σ : CS)  : Option (CS × Int32) :=
bd (F_X2_reset σ) fun σ101 _ =>
B_X5_readUpToError_9 4096 σ101 (0 : Int32)
def F_X5_firstError (σ : CS)  : Option (CS × Int32) :=
bd (F_X5_readUpToError σ) fun σ101 r102 =>
some (σ101, r102)
def B_X5_isPossible_94 (o1 : Nat)  (σ : CS)  : Option (CS × Int32) :=
some (σ, (0 : Int32))
def F_X5_isPossible (σ : CS) (o1 : Nat) : Option (CS × Int32) :=
lt (σ 70 0 0) fun x101 =>
(if x101 = 97 then
bd (F_X5_isSlot σ (σ 72 0 0)) fun σ103 r104 =>
(if r104 = 0 then
B_X5_isPossible_94 o1 σ103
else
bd (F_X3_hasRound σ103 o1) fun σ106 r107 =>
(if r107 = 0 then
B_X5_isPossible_94 o1 σ106
else
some (σ106, (1 : Int32))))
else
(if x101 = 99 then
gd (isb (σ 25 o1 0)) (some (σ, (σ 25 o1 0)))
else
(if x101 = 102 then
gd (isb (σ 25 o1 0)) (some (σ, (σ 25 o1 0)))
else
(if x101 = 112 then
bd (F_X3_takesPart σ o1) fun σ114 r115 =>
gd (isb r115) (some (σ114, r115))
else
(if x101 = 114 then
(if (σ 25 o1 0) = 0 then
some (σ, (1 : Int32))
else
some (σ, (0 : Int32)))
else
(if x101 = 119 then
(if (σ 25 o1 0) = 0 then
some (σ, (1 : Int32))
else
some (σ, (0 : Int32)))
else
bd (F_X3_canRejoin σ o1) fun σ121 r122 =>
gd (isb r122) (some (σ121, r122))))))))
def B_X5_carriesOutEvent_211   (σ : CS)  : Option (CS × Int32) :=
some (σ, (1 : Int32))
def B_X5_carriesOutEvent_33   (σ : CS)  : Option (CS × Int32) :=
some (σ, (0 : Int32))
def F_X5_carriesOutEvent (σ : CS)  : Option (CS × Int32) :=
bd (F_X5_isNode σ (σ 71 0 0)) fun σ101 r102 =>
(if r102 = 0 then
B_X5_carriesOutEvent_33 σ101
else
gd (inb (σ101 71 0 0) 7) (
bd (F_X5_isPossible σ101 (tn (σ101 71 0 0))) fun σ106 r107 =>
(if r107 = 0 then
B_X5_carriesOutEvent_33 σ106
else
gd (inb (σ106 71 0 0) 7) (
lt (σ106 70 0 0) fun x111 =>
(if x111 = 97 then
bd (F_X5_sendAccept σ106 (tn (σ106 71 0 0)) (σ106 72 0 0) (σ106 73 0 0) (σ106 74 0 0)) fun σ113 r114 =>
B_X5_carriesOutEvent_211 σ113
else
(if x111 = 99 then
bd (F_X5_bringDown σ106 (tn (σ106 71 0 0)) (σ106 75 0 0)) fun σ116 r117 =>
B_X5_carriesOutEvent_211 σ116
else
(if x111 = 102 then
bd (F_X3_carryOutAll σ106 (tn (σ106 71 0 0))) fun σ119 r120 =>
B_X5_carriesOutEvent_211 σ119
else
(if x111 = 112 then
bd (F_X5_sendPrepare σ106 (tn (σ106 71 0 0)) (σ106 74 0 0)) fun σ122 r123 =>
B_X5_carriesOutEvent_211 σ122
else
(if x111 = 114 then
bd (F_X3_bringUp σ106 (tn (σ106 71 0 0))) fun σ125 r126 =>
B_X5_carriesOutEvent_211 σ125
else
(if x111 = 119 then
bd (F_X3_loseDisk σ106 (tn (σ106 71 0 0))) fun σ128 r129 =>
B_X5_carriesOutEvent_211 σ128
else
bd (F_X5_readFromOthers σ106 (tn (σ106 71 0 0)) (σ106 74 0 0)) fun σ130 r131 =>
B_X5_carriesOutEvent_211 σ130))))))))))
def B_X5_load_105 (N0 : Nat) (self42 : CS → Int32 → Int32 → Option (CS × (Int32 ⊕ Nat))) (σ : CS) (v1 : Int32) (v2 : Int32) : Option (CS × (Int32 ⊕ Nat)) :=
lt (v2 + 1) fun x122 =>
self42 σ v1 x122
def B_X5_load_95 (N0 : Nat) (self42 : CS → Int32 → Int32 → Option (CS × (Int32 ⊕ Nat))) (σ : CS) (v1 : Int32) (v2 : Int32) : Option (CS × (Int32 ⊕ Nat)) :=
bd (F_X5_carriesOutEvent σ) fun σ117 r118 =>
bd (F_X5_asNumber σ117 r118) fun σ119 r120 =>
lt (v1 + r120) fun x121 =>
B_X5_load_105 N0 self42 σ119 x121 v2
def B_X5_load_42 (N0 : Nat)  : Nat → CS → Int32 → Int32 → Option (CS × (Int32 ⊕ Nat)) := lo3 fun self42 (σ : CS) (v1 : Int32) (v2 : Int32) =>
(if (σ 5 0 0) ≤ v2 then
lt (pt σ 5 0 0 (0 : Int32)) fun σ110 =>
some (σ110, .inl v1)
else
gd (inb v2 60) (
bd (F_X2_takes σ (σ 40 0 (tn v2)) (σ 6 0 0) (σ 7 0 0)) fun σ112 r113 =>
(if (v2 + (1 : Int32)) = (σ112 5 0 0) then
B_X5_load_95 N0 self42 σ112 v1 v2
else
gd (inb (v2 + (1 : Int32)) 60) (
(if (σ112 40 0 (tn (v2 + (1 : Int32)))) = (59 : Int32) then
B_X5_load_95 N0 self42 σ112 v1 v2
else
B_X5_load_105 N0 self42 σ112 v1 v2)))))
def B_X5_load_21 (N0 : Nat)  (σ : CS)  : Option (CS × (Int32 ⊕ Nat)) :=
some (σ, .inr 2)
def F_X5_load (σ : CS) (N0 : Nat) : Option (CS × (Int32 ⊕ Nat)) :=
bd (F_X5_readUpToError σ) fun σ101 r102 =>
(if r102 < (σ101 5 0 0) then
B_X5_load_21 N0 σ101
else
bd (F_X2_isComplete σ101) fun σ104 r105 =>
(if r105 = 0 then
B_X5_load_21 N0 σ104
else
bd (F_X2_reset σ104) fun σ107 _ =>
B_X5_load_42 N0 N0 σ107 (0 : Int32) (0 : Int32)))
def B_X5_nodesUp_4   : Nat → CS → Int32 → Int32 → Option (CS × Int32) := lo3 fun self4 (σ : CS) (v1 : Int32) (v2 : Int32) =>
(if (σ 6 0 0) ≤ v2 then
some (σ, v1)
else
gd (inb v2 7) (
bd (F_X5_asNumber σ (σ 25 (tn v2) 0)) fun σ104 r105 =>
lt (v1 + r105) fun x106 =>
lt (v2 + 1) fun x107 =>
self4 σ104 x106 x107))
def F_X5_nodesUp (σ : CS)  : Option (CS × Int32) :=
B_X5_nodesUp_4 4096 σ (0 : Int32) (0 : Int32)
def B_X5_nodesJoined_4   : Nat → CS → Int32 → Int32 → Option (CS × Int32) := lo3 fun self4 (σ : CS) (v1 : Int32) (v2 : Int32) =>
(if (σ 6 0 0) ≤ v2 then
some (σ, v1)
else
gd (inb v2 7) (
bd (F_X5_asNumber σ (σ 26 (tn v2) 0)) fun σ104 r105 =>
lt (v1 + r105) fun x106 =>
lt (v2 + 1) fun x107 =>
self4 σ104 x106 x107))
def F_X5_nodesJoined (σ : CS)  : Option (CS × Int32) :=
B_X5_nodesJoined_4 4096 σ (0 : Int32) (0 : Int32)
def B_X5_decidedSlots_4   : Nat → CS → Int32 → Int32 → Option (CS × Int32) := lo3 fun self4 (σ : CS) (v1 : Int32) (v2 : Int32) =>
(if (σ 7 0 0) ≤ v2 then
some (σ, v1)
else
gd (inb v2 4) (
bd (F_X0_isMade σ (tn v2)) fun σ104 r105 =>
bd (F_X5_asNumber σ104 r105) fun σ106 r107 =>
lt (v1 + r107) fun x108 =>
lt (v2 + 1) fun x109 =>
self4 σ106 x108 x109))
def F_X5_decidedSlots (σ : CS)  : Option (CS × Int32) :=
B_X5_decidedSlots_4 4096 σ (0 : Int32) (0 : Int32)
def B_X5_slotsInConflict_4   : Nat → CS → Int32 → Int32 → Option (CS × Int32) := lo3 fun self4 (σ : CS) (v1 : Int32) (v2 : Int32) =>
(if (σ 7 0 0) ≤ v2 then
some (σ, v1)
else
gd (inb v2 4) (
bd (F_X5_asNumber σ (σ 53 (tn v2) 0)) fun σ104 r105 =>
lt (v1 + r105) fun x106 =>
lt (v2 + 1) fun x107 =>
self4 σ104 x106 x107))
def F_X5_slotsInConflict (σ : CS)  : Option (CS × Int32) :=
B_X5_slotsInConflict_4 4096 σ (0 : Int32) (0 : Int32)
def B_X5_writesWaiting_4   : Nat → CS → Int32 → Int32 → Option (CS × Int32) := lo3 fun self4 (σ : CS) (v1 : Int32) (v2 : Int32) =>
(if (σ 6 0 0) ≤ v2 then
some (σ, v1)
else
gd (inb v2 7) (
lt (v1 + (σ 83 (tn v2) 0)) fun x104 =>
lt (v2 + 1) fun x105 =>
self4 σ x104 x105))
def F_X5_writesWaiting (σ : CS)  : Option (CS × Int32) :=
B_X5_writesWaiting_4 4096 σ (0 : Int32) (0 : Int32)
def F_X5_count (σ : CS) (x1 : Int32) : Option (CS × (Int32 ⊕ Nat)) :=
(if x1 = 0 then
some (σ, .inl (σ 6 0 0))
else
(if x1 = 1 then
some (σ, .inl (σ 7 0 0))
else
(if x1 = 2 then
bd (F_X5_quorum σ) fun σ104 r105 =>
some (σ104, .inl r105)
else
(if x1 = 3 then
bd (F_X5_asNumber σ (σ 8 0 0)) fun σ107 r108 =>
some (σ107, .inl r108)
else
(if x1 = 4 then
bd (F_X5_nodesUp σ) fun σ110 r111 =>
some (σ110, .inl r111)
else
(if x1 = 5 then
bd (F_X5_nodesJoined σ) fun σ113 r114 =>
some (σ113, .inl r114)
else
(if x1 = 6 then
bd (F_X5_decidedSlots σ) fun σ116 r117 =>
some (σ116, .inl r117)
else
(if x1 = 7 then
bd (F_X5_slotsInConflict σ) fun σ119 r120 =>
some (σ119, .inl r120)
else
(if x1 = 8 then
some (σ, .inl (σ 9 0 0))
else
(if x1 = 9 then
some (σ, .inl (σ 10 0 0))
else
(if x1 = 10 then
bd (F_X5_writesWaiting σ) fun σ124 r125 =>
some (σ124, .inl r125)
else
(if x1 = 11 then
some (σ, .inl (σ 11 0 0))
else
some (σ, .inr 2)))))))))))))
def F_X5_node (σ : CS) (x1 : Int32) (x2 : Int32) : Option (CS × (Int32 ⊕ Nat)) :=
bx (F_X5_requireNode σ x1) fun σ101 _ =>
gd (inb x1 7) (
(if x2 = 0 then
bd (F_X5_asNumber σ101 (σ101 25 (tn x1) 0)) fun σ106 r107 =>
some (σ106, .inl r107)
else
(if x2 = 1 then
bd (F_X5_asNumber σ101 (σ101 26 (tn x1) 0)) fun σ109 r110 =>
some (σ109, .inl r110)
else
(if x2 = 2 then
some (σ101, .inl (σ101 27 (tn x1) 0))
else
(if x2 = 3 then
some (σ101, .inl (σ101 60 (7 + (tn x1)) 0))
else
(if x2 = 4 then
some (σ101, .inl (σ101 60 (tn x1) 0))
else
(if x2 = 5 then
some (σ101, .inl (σ101 83 (tn x1) 0))
else
(if x2 = 6 then
some (σ101, .inl (σ101 28 (tn x1) 0))
else
(if x2 = 7 then
some (σ101, .inl (σ101 29 (tn x1) 0))
else
(if x2 = 8 then
bd (F_X3_nextBallot σ101 (tn x1)) fun σ118 r119 =>
some (σ118, .inl r119)
else
some (σ101, .inr 2)))))))))))
def F_X5_accepted (σ : CS) (x1 : Int32) (x2 : Int32) (x3 : Int32) : Option (CS × (Int32 ⊕ Nat)) :=
bx (F_X5_requireNode σ x1) fun σ101 _ =>
bx (F_X5_requireSlot σ101 x2) fun σ103 _ =>
gd (inb x1 7) (
(if x3 = 0 then
gd (inb x2 4) (
some (σ103, .inl (σ103 42 (7 + (tn x1)) (tn x2))))
else
(if x3 = 1 then
gd (inb x2 4) (
some (σ103, .inl (σ103 43 (7 + (tn x1)) (tn x2))))
else
(if x3 = 2 then
gd (inb x2 4) (
some (σ103, .inl (σ103 42 (tn x1) (tn x2))))
else
(if x3 = 3 then
gd (inb x2 4) (
some (σ103, .inl (σ103 43 (tn x1) (tn x2))))
else
some (σ103, .inr 2))))))
def B_X5_waiting_29 (x1 : Int32) (x2 : Int32) (x3 : Int32)  (σ : CS)  : Option (CS × (Int32 ⊕ Nat)) :=
some (σ, .inr 1)
def F_X5_waiting (σ : CS) (x1 : Int32) (x2 : Int32) (x3 : Int32) : Option (CS × (Int32 ⊕ Nat)) :=
bx (F_X5_requireNode σ x1) fun σ101 _ =>
gd (inb x1 7) (
(if x2 < 0 then
B_X5_waiting_29 x1 x2 x3 σ101
else
(if x2 < (σ101 83 (tn x1) 0) then
(if x3 = 0 then
gd (inb x2 (tn (σ101 47 (tn x1) 0))) (
some (σ101, .inl (σ101 44 (tn x1) (tn x2))))
else
(if x3 = 1 then
gd (inb x2 (tn (σ101 48 (tn x1) 0))) (
some (σ101, .inl (σ101 45 (tn x1) (tn x2))))
else
(if x3 = 2 then
gd (inb x2 (tn (σ101 49 (tn x1) 0))) (
some (σ101, .inl (σ101 46 (tn x1) (tn x2))))
else
some (σ101, .inr 2))))
else
B_X5_waiting_29 x1 x2 x3 σ101)))
def F_X5_holds (σ : CS) (o1 : Nat) (x2 : Int32) : Option (CS × Int32) :=
gd (inb x2 4) (
gd (inb x2 4) (
gd (inb x2 4) (
bd (F_X0_isHeldBy σ (tn x2) (σ 42 o1 (tn x2)) (σ 43 o1 (tn x2))) fun σ105 r106 =>
gd (isb r106) (some (σ105, r106)))))
def B_X5_holders_4 (x1 : Int32)  : Nat → CS → Int32 → Int32 → Option (CS × Int32) := lo3 fun self4 (σ : CS) (v2 : Int32) (v3 : Int32) =>
(if (σ 6 0 0) ≤ v3 then
some (σ, v2)
else
gd (inb v3 7) (
bd (F_X5_holds σ (7 + (tn v3)) x1) fun σ104 r105 =>
bd (F_X5_asNumber σ104 r105) fun σ106 r107 =>
lt (v2 + r107) fun x108 =>
lt (v3 + 1) fun x109 =>
self4 σ106 x108 x109))
def F_X5_holders (σ : CS) (x1 : Int32) : Option (CS × Int32) :=
B_X5_holders_4 x1 4096 σ (0 : Int32) (0 : Int32)
def B_X5_diskHolders_4 (x1 : Int32)  : Nat → CS → Int32 → Int32 → Option (CS × Int32) := lo3 fun self4 (σ : CS) (v2 : Int32) (v3 : Int32) =>
(if (σ 6 0 0) ≤ v3 then
some (σ, v2)
else
gd (inb v3 7) (
bd (F_X5_holds σ (tn v3) x1) fun σ104 r105 =>
bd (F_X5_asNumber σ104 r105) fun σ106 r107 =>
lt (v2 + r107) fun x108 =>
lt (v3 + 1) fun x109 =>
self4 σ106 x108 x109))
def F_X5_diskHolders (σ : CS) (x1 : Int32) : Option (CS × Int32) :=
B_X5_diskHolders_4 x1 4096 σ (0 : Int32) (0 : Int32)
def F_X5_areEnough (σ : CS) (x1 : Int32) : Option (CS × Int32) :=
bd (F_X5_quorum σ) fun σ101 r102 =>
(if r102 ≤ ((σ 6 0 0) - x1) then
some (σ101, (0 : Int32))
else
some (σ101, (1 : Int32)))
def B_X5_isProtectedNow_28 (x1 : Int32)  (σ : CS)  : Option (CS × Int32) :=
some (σ, (0 : Int32))
def F_X5_isProtectedNow (σ : CS) (x1 : Int32) : Option (CS × Int32) :=
gd (inb x1 4) (
bd (F_X0_isMade σ (tn x1)) fun σ103 r104 =>
(if r104 = 0 then
B_X5_isProtectedNow_28 x1 σ103
else
bd (F_X5_holders σ103 x1) fun σ106 r107 =>
bd (F_X5_areEnough σ106 r107) fun σ108 r109 =>
(if r109 = 0 then
B_X5_isProtectedNow_28 x1 σ108
else
some (σ108, (1 : Int32)))))
def F_X5_slot (σ : CS) (x1 : Int32) (x2 : Int32) : Option (CS × (Int32 ⊕ Nat)) :=
bx (F_X5_requireSlot σ x1) fun σ101 _ =>
gd (inb x1 4) (
(if x2 = 0 then
some (σ101, .inl (σ101 50 (tn x1) 0))
else
(if x2 = 1 then
some (σ101, .inl (σ101 51 (tn x1) 0))
else
(if x2 = 2 then
some (σ101, .inl (σ101 52 (tn x1) 0))
else
(if x2 = 3 then
bd (F_X5_holders σ101 x1) fun σ109 r110 =>
some (σ109, .inl r110)
else
(if x2 = 4 then
bd (F_X5_diskHolders σ101 x1) fun σ112 r113 =>
some (σ112, .inl r113)
else
(if x2 = 5 then
bd (F_X5_isProtectedNow σ101 x1) fun σ115 r116 =>
bd (F_X5_asNumber σ115 r116) fun σ117 r118 =>
some (σ117, .inl r118)
else
(if x2 = 6 then
bd (F_X5_asNumber σ101 (σ101 53 (tn x1) 0)) fun σ120 r121 =>
some (σ120, .inl r121)
else
some (σ101, .inr 2)))))))))
def F_X5_roundValue (σ : CS) (x1 : Int32) (x2 : Int32) : Option (CS × (Int32 ⊕ Nat)) :=
bx (F_X5_requireNode σ x1) fun σ101 _ =>
bx (F_X5_requireSlot σ101 x2) fun σ103 _ =>
bx (F_X5_requireRound σ103 x1) fun σ105 _ =>
gd (inb x1 7) (
gd (inb x2 4) (
some (σ105, .inl (σ105 41 (tn x1) (tn x2)))))
def F_X5_holdersAfterLoss (σ : CS) (o1 : Nat) (x2 : Int32) (x3 : Int32) : Option (CS × Int32) :=
bd (F_X1_copyFrom σ 14 o1) fun σ101 _ =>
bd (F_X4_keptOf σ101 o1 x2) fun σ103 r104 =>
bd (F_X4_carryOutOn σ103 o1 14 r104) fun σ105 _ =>
bd (F_X5_holders σ105 x3) fun σ107 r108 =>
bd (F_X5_holds σ107 (7 + o1) x3) fun σ109 r110 =>
bd (F_X5_asNumber σ109 r110) fun σ111 r112 =>
bd (F_X5_holds σ111 14 x3) fun σ113 r114 =>
bd (F_X5_asNumber σ113 r114) fun σ115 r116 =>
some (σ115, ((r108 - r112) + r116))
def F_X5_ifCrashed (σ : CS) (x1 : Int32) (x2 : Int32) (x3 : Int32) : Option (CS × (Int32 ⊕ Nat)) :=
bx (F_X5_requireNode σ x1) fun σ101 _ =>
bx (F_X5_requireSlot σ101 x3) fun σ103 _ =>
bx (F_X5_requireLost σ103 x2) fun σ105 _ =>
gd (inb x1 7) (
bd (F_X5_holdersAfterLoss σ105 (tn x1) x2 x3) fun σ109 r110 =>
some (σ109, .inl r110))
def B_X5_slotsThatNeed_57 (o1 : Nat) (self4 : CS → Int32 → Int32 → Option (CS × Int32)) (σ : CS) (v2 : Int32) (v3 : Int32) : Option (CS × Int32) :=
lt (v3 + 1) fun x114 =>
self4 σ v2 x114
def B_X5_slotsThatNeed_4 (o1 : Nat)  : Nat → CS → Int32 → Int32 → Option (CS × Int32) := lo3 fun self4 (σ : CS) (v2 : Int32) (v3 : Int32) =>
(if (σ 7 0 0) ≤ v3 then
some (σ, v2)
else
bd (F_X5_holders σ v3) fun σ102 r103 =>
bd (F_X5_holds σ102 (7 + o1) v3) fun σ104 r105 =>
(if r105 = 0 then
B_X5_slotsThatNeed_57 o1 self4 σ104 v2 v3
else
bd (F_X5_areEnough σ104 r103) fun σ107 r108 =>
(if r108 = 0 then
B_X5_slotsThatNeed_57 o1 self4 σ107 v2 v3
else
bd (F_X5_areEnough σ107 (r103 - (1 : Int32))) fun σ110 r111 =>
(if r111 = 0 then
lt (v2 ||| ((1 : Int32) <<< (v3 &&& 31))) fun x113 =>
B_X5_slotsThatNeed_57 o1 self4 σ110 x113 v3
else
B_X5_slotsThatNeed_57 o1 self4 σ110 v2 v3))))
def F_X5_slotsThatNeed (σ : CS) (o1 : Nat) : Option (CS × Int32) :=
B_X5_slotsThatNeed_4 o1 4096 σ (0 : Int32) (0 : Int32)
def B_X5_holdsAll_29 (o1 : Nat) (x2 : Int32) (self2 : CS → Int32 → Option (CS × Int32)) (σ : CS) (v3 : Int32) : Option (CS × Int32) :=
lt (v3 + 1) fun x108 =>
self2 σ x108
def B_X5_holdsAll_2 (o1 : Nat) (x2 : Int32)  : Nat → CS → Int32 → Option (CS × Int32) := lo2 fun self2 (σ : CS) (v3 : Int32) =>
(if (σ 7 0 0) ≤ v3 then
some (σ, (1 : Int32))
else
bd (F_X5_isIn σ x2 v3) fun σ102 r103 =>
(if r103 = 0 then
B_X5_holdsAll_29 o1 x2 self2 σ102 v3
else
bd (F_X5_holds σ102 o1 v3) fun σ105 r106 =>
(if r106 = 0 then
some (σ105, (0 : Int32))
else
B_X5_holdsAll_29 o1 x2 self2 σ105 v3)))
def F_X5_holdsAll (σ : CS) (o1 : Nat) (x2 : Int32) : Option (CS × Int32) :=
B_X5_holdsAll_2 o1 x2 4096 σ (0 : Int32)
def B_X5_mostHarmlessLosses_25 (o1 : Nat)  : Nat → CS → Int32 → Nat → Int32 → Option (CS × Int32) := lo4 fun self25 (σ : CS) (v2 : Int32) (v3 : Nat) (v4 : Int32) =>
(if (σ 83 v3 0) ≤ v4 then
some (σ, (0 : Int32))
else
bd (F_X5_holdsAll σ 14 v2) fun σ106 r107 =>
(if r107 = 0 then
gd (inb v4 (tn (σ106 47 v3 0))) (
gd (inb v4 (tn (σ106 48 v3 0))) (
gd (inb v4 (tn (σ106 49 v3 0))) (
bd (F_X1_carryOut σ106 14 (σ106 44 v3 (tn v4)) (σ106 45 v3 (tn v4)) (σ106 46 v3 (tn v4))) fun σ112 _ =>
lt (v4 + 1) fun x114 =>
self25 σ112 v2 v3 x114)))
else
some (σ106, ((σ106 83 v3 0) - v4))))
def F_X5_mostHarmlessLosses (σ : CS) (o1 : Nat) : Option (CS × Int32) :=
bd (F_X5_slotsThatNeed σ o1) fun σ101 r102 =>
bd (F_X1_copyFrom σ101 14 o1) fun σ103 _ =>
B_X5_mostHarmlessLosses_25 o1 4096 σ103 r102 o1 (0 : Int32)
def F_X5_harmless (σ : CS) (x1 : Int32) : Option (CS × (Int32 ⊕ Nat)) :=
bx (F_X5_requireNode σ x1) fun σ101 _ =>
gd (inb x1 7) (
bd (F_X5_mostHarmlessLosses σ101 (tn x1)) fun σ105 r106 =>
some (σ105, .inl r106))
def B_X5_fewestLosers_72 (x1 : Int32)  : Nat → CS → Int32 → Int32 → Int32 → Option (CS × Int32) := lo4 fun self72 (σ : CS) (v2 : Int32) (v3 : Int32) (v4 : Int32) =>
(if v2 < v4 then
some (σ, (-1 : Int32))
else
bd (F_X5_areEnough σ (v3 - v4)) fun σ115 r116 =>
(if r116 = 0 then
some (σ115, v4)
else
lt (v4 + 1) fun x118 =>
self72 σ115 v2 v3 x118))
def B_X5_fewestLosers_52 (x1 : Int32) (self4 : CS → Int32 → Int32 → Option (CS × Int32)) (σ : CS) (v3 : Int32) (w0 : Int32) (w1 : Int32) : Option (CS × Int32) :=
bd (F_X5_asNumber σ w0) fun σ119 r120 =>
lt (w1 + r120) fun x121 =>
lt (v3 + 1) fun x122 =>
self4 σ119 x121 x122
def B_X5_fewestLosers_51 (x1 : Int32) (self4 : CS → Int32 → Int32 → Option (CS × Int32)) (σ : CS) (v3 : Int32) (w0 : Int32) : Option (CS × Int32) :=
B_X5_fewestLosers_52 x1 self4 σ v3 (0 : Int32) w0
def B_X5_fewestLosers_4 (x1 : Int32)  : Nat → CS → Int32 → Int32 → Option (CS × Int32) := lo3 fun self4 (σ : CS) (v2 : Int32) (v3 : Int32) =>
(if (σ 6 0 0) ≤ v3 then
bd (F_X5_holders σ x1) fun σ102 r103 =>
B_X5_fewestLosers_72 x1 4096 σ102 v2 r103 (0 : Int32)
else
gd (inb v3 7) (
bd (F_X5_holds σ (7 + (tn v3)) x1) fun σ106 r107 =>
(if r107 = 0 then
B_X5_fewestLosers_51 x1 self4 σ106 v3 v2
else
gd (inb v3 7) (
bd (F_X5_holds σ106 (tn v3) x1) fun σ111 r112 =>
(if r112 = 0 then
B_X5_fewestLosers_52 x1 self4 σ111 v3 (1 : Int32) v2
else
B_X5_fewestLosers_51 x1 self4 σ111 v3 v2)))))
def F_X5_fewestLosers (σ : CS) (x1 : Int32) : Option (CS × Int32) :=
B_X5_fewestLosers_4 x1 4096 σ (0 : Int32) (0 : Int32)
def F_X5_leastLosses (σ : CS) (x1 : Int32) : Option (CS × (Int32 ⊕ Nat)) :=
bx (F_X5_requireSlot σ x1) fun σ101 _ =>
gd (inb x1 4) (
bd (F_X0_isMade σ101 (tn x1)) fun σ105 r106 =>
(if r106 = 0 then
some (σ105, .inr 3)
else
bd (F_X5_fewestLosers σ105 x1) fun σ108 r109 =>
some (σ108, .inl r109)))
def F_X5_shareAnswered (σ : CS)  : Option (CS × UInt32) :=
(if 0 < (σ 9 0 0) then
gd (fok (FP.fdiv (FP.i2f (σ 10 0 0)) (FP.i2f (σ 9 0 0)))) (
some (σ, (FP.fdiv (FP.i2f (σ 10 0 0)) (FP.i2f (σ 9 0 0)))))
else
some (σ, FP.fconst1))
def B_X5_bitsOfFloat_34 (f0 : UInt32)  (σ : CS) (v1 : UInt32) (v2 : Int32) : Option (CS × Int32) :=
gd (fok (FP.fsub v1 (FP.fconst1))) (
gd (fok (FP.fmul (FP.fsub v1 (FP.fconst1)) (1258291200 : UInt32))) (
some (σ, ((v2 <<< ((23 : Int32) &&& 31)) + (FP.f2i (FP.fmul (FP.fsub v1 (FP.fconst1)) (1258291200 : UInt32)))))))
def B_X5_bitsOfFloat_13 (f0 : UInt32)  : Nat → CS → UInt32 → Int32 → Option (CS × Int32) := lo3 fun self13 (σ : CS) (v1 : UInt32) (v2 : Int32) =>
(if 0 ≤ (Op.cmpValue (FP.fcmp v1 (FP.fconst1)) .g) then
B_X5_bitsOfFloat_34 f0 σ v1 v2
else
(if v2 ≤ (1 : Int32) then
B_X5_bitsOfFloat_34 f0 σ v1 v2
else
gd (fok (FP.fmul v1 (FP.fconst2))) (
lt (FP.fmul v1 (FP.fconst2)) fun f105 =>
lt (v2 + (-1)) fun x106 =>
self13 σ f105 x106)))
def F_X5_bitsOfFloat (σ : CS) (f0 : UInt32) : Option (CS × Int32) :=
(if 0 < (Op.cmpValue (FP.fcmp f0 (FP.fconst0)) .l) then
B_X5_bitsOfFloat_13 f0 4096 σ f0 (127 : Int32)
else
some (σ, (0 : Int32)))
def F_X5_answered (σ : CS)  : Option (CS × Int32) :=
bd (F_X5_shareAnswered σ) fun σ101 r102 =>
bd (F_X5_bitsOfFloat σ101 r102) fun σ103 r104 =>
some (σ103, r104)
def B_X5_onDisks_22   : Nat → CS → Int32 → Int32 → Int32 → Option (CS × UInt64) := lo4 fun self22 (σ : CS) (v1 : Int32) (v2 : Int32) (v3 : Int32) =>
(if (σ 7 0 0) ≤ v3 then
gd (dok (FP.ddiv (FP.i2d v2) (FP.i2d (v1 * (σ 6 0 0))))) (
some (σ, (FP.ddiv (FP.i2d v2) (FP.i2d (v1 * (σ 6 0 0))))))
else
bd (F_X5_diskHolders σ v3) fun σ107 r108 =>
lt (v2 + r108) fun x109 =>
lt (v3 + 1) fun x110 =>
self22 σ107 v1 x109 x110)
def B_X5_onDisks_16   (σ : CS)  : Option (CS × UInt64) :=
some (σ, FP.dconst0)
def F_X5_onDisks (σ : CS)  : Option (CS × UInt64) :=
bd (F_X5_decidedSlots σ) fun σ101 r102 =>
(if r102 ≤ 0 then
B_X5_onDisks_16 σ101
else
(if 0 < (σ101 6 0 0) then
B_X5_onDisks_22 4096 σ101 r102 (0 : Int32) (0 : Int32)
else
B_X5_onDisks_16 σ101))
def B_X5_hashOfNode_215 (y1 : Int64) (x3 : Int32)  (σ : CS) (v4 : Int64) : Option (CS × (Int64 ⊕ Nat)) :=
some (σ, .inl v4)
def B_X5_hashOfNode_183 (y1 : Int64) (x3 : Int32)  : Nat → CS → Int64 → Int32 → Option (CS × (Int64 ⊕ Nat)) := lo3 fun self183 (σ : CS) (v4 : Int64) (v6 : Int32) =>
(if (σ 7 0 0) ≤ v6 then
B_X5_hashOfNode_215 y1 x3 σ v4
else
bx (F_X5_roundValue σ x3 v6) fun σ127 r128 =>
lt (((31 : Int64) * v4) + r128.toInt64) fun y129 =>
lt (v6 + 1) fun x130 =>
self183 σ127 y129 x130)
def B_X5_hashOfNode_131 (y1 : Int64) (x3 : Int32) (self111 : CS → Int64 → Int32 → Option (CS × (Int64 ⊕ Nat))) : Nat → CS → Int64 → Int32 → Int32 → Option (CS × (Int64 ⊕ Nat)) := lo4 fun self131 (σ : CS) (v4 : Int64) (v6 : Int32) (v7 : Int32) =>
(if (3 : Int32) ≤ v7 then
lt (v6 + 1) fun x132 =>
self111 σ v4 x132
else
bx (F_X5_waiting σ x3 v6 v7) fun σ133 r134 =>
lt (((31 : Int64) * v4) + r134.toInt64) fun y135 =>
lt (v7 + 1) fun x136 =>
self131 σ133 y135 v6 x136)
def B_X5_hashOfNode_111 (y1 : Int64) (x3 : Int32)  : Nat → CS → Int64 → Int32 → Option (CS × (Int64 ⊕ Nat)) := lo3 fun self111 (σ : CS) (v4 : Int64) (v6 : Int32) =>
gd (inb x3 7) (
(if (σ 83 (tn x3) 0) ≤ v6 then
gd (inb x3 7) (
bd (F_X3_hasRound σ (tn x3)) fun σ117 r118 =>
(if r118 = 0 then
B_X5_hashOfNode_215 y1 x3 σ117 v4
else
B_X5_hashOfNode_183 y1 x3 4096 σ117 v4 (0 : Int32)))
else
B_X5_hashOfNode_131 y1 x3 self111 4096 σ v4 v6 (0 : Int32)))
def B_X5_hashOfNode_71 (y1 : Int64) (x3 : Int32) (self59 : CS → Int64 → Int32 → Option (CS × (Int64 ⊕ Nat))) : Nat → CS → Int64 → Int32 → Int32 → Option (CS × (Int64 ⊕ Nat)) := lo4 fun self71 (σ : CS) (v4 : Int64) (v6 : Int32) (v7 : Int32) =>
(if (4 : Int32) ≤ v7 then
lt (v6 + 1) fun x121 =>
self59 σ v4 x121
else
bx (F_X5_accepted σ x3 v6 v7) fun σ122 r123 =>
lt (((31 : Int64) * v4) + r123.toInt64) fun y124 =>
lt (v7 + 1) fun x125 =>
self71 σ122 y124 v6 x125)
def B_X5_hashOfNode_59 (y1 : Int64) (x3 : Int32)  : Nat → CS → Int64 → Int32 → Option (CS × (Int64 ⊕ Nat)) := lo3 fun self59 (σ : CS) (v4 : Int64) (v6 : Int32) =>
(if (σ 7 0 0) ≤ v6 then
B_X5_hashOfNode_111 y1 x3 4096 σ v4 (0 : Int32)
else
B_X5_hashOfNode_71 y1 x3 self59 4096 σ v4 v6 (0 : Int32))
def B_X5_hashOfNode_6 (y1 : Int64) (x3 : Int32)  : Nat → CS → Int64 → Int32 → Option (CS × (Int64 ⊕ Nat)) := lo3 fun self6 (σ : CS) (v4 : Int64) (v6 : Int32) =>
(if (9 : Int32) ≤ v6 then
gd (inb x3 7) (
bd (F_X5_mostHarmlessLosses σ (tn x3)) fun σ104 r105 =>
lt (((31 : Int64) * v4) + r105.toInt64) fun y106 =>
B_X5_hashOfNode_59 y1 x3 4096 σ104 y106 (0 : Int32))
else
bx (F_X5_node σ x3 v6) fun σ107 r108 =>
lt (((31 : Int64) * v4) + r108.toInt64) fun y109 =>
lt (v6 + 1) fun x110 =>
self6 σ107 y109 x110)
def F_X5_hashOfNode (σ : CS) (y1 : Int64) (x3 : Int32) : Option (CS × (Int64 ⊕ Nat)) :=
B_X5_hashOfNode_6 y1 x3 4096 σ y1 (0 : Int32)
def B_X5_bitsOfDouble_43 (d0 : UInt64)  (σ : CS) (v2 : UInt64) (v4 : Int64) : Option (CS × Int64) :=
gd (dok (FP.dsub v2 (FP.dconst1))) (
gd (dok (FP.dmul (FP.dsub v2 (FP.dconst1)) (4841369599423283200 : UInt64))) (
some (σ, ((v4 <<< ((52 : Int32).toInt64 &&& 63)) + (FP.d2l (FP.dmul (FP.dsub v2 (FP.dconst1)) (4841369599423283200 : UInt64)))))))
def B_X5_bitsOfDouble_15 (d0 : UInt64)  : Nat → CS → UInt64 → Int64 → Option (CS × Int64) := lo3 fun self15 (σ : CS) (v2 : UInt64) (v4 : Int64) =>
(if 0 ≤ (Op.cmpValue (FP.dcmp v2 (FP.dconst1)) .g) then
B_X5_bitsOfDouble_43 d0 σ v2 v4
else
(if (lg_cmp v4 (1 : Int64)) ≤ 0 then
B_X5_bitsOfDouble_43 d0 σ v2 v4
else
gd (dok (FP.dmul v2 (4611686018427387904 : UInt64))) (
lt (FP.dmul v2 (4611686018427387904 : UInt64)) fun d105 =>
lt (v4 - (1 : Int64)) fun y106 =>
self15 σ d105 y106)))
def F_X5_bitsOfDouble (σ : CS) (d0 : UInt64) : Option (CS × Int64) :=
(if 0 < (Op.cmpValue (FP.dcmp d0 (FP.dconst0)) .l) then
B_X5_bitsOfDouble_15 d0 4096 σ d0 (1023 : Int64)
else
some (σ, (0 : Int64)))
def B_X5_digest_141   : Nat → CS → Int64 → Int32 → Option (CS × (Int64 ⊕ Nat)) := lo3 fun self141 (σ : CS) (v1 : Int64) (v3 : Int32) =>
(if (σ 5 0 0) ≤ v3 then
some (σ, .inl v1)
else
gd (inb v3 60) (
lt (((31 : Int64) * v1) + (σ 40 0 (tn v3)).toInt64) fun y122 =>
lt (v3 + 1) fun x123 =>
self141 σ y122 x123))
def B_X5_digest_67  (self56 : CS → Int64 → Int32 → Option (CS × (Int64 ⊕ Nat))) : Nat → CS → Int64 → Int32 → Int32 → Option (CS × (Int64 ⊕ Nat)) := lo4 fun self67 (σ : CS) (v1 : Int64) (v3 : Int32) (v4 : Int32) =>
(if (7 : Int32) ≤ v4 then
lt (v3 + 1) fun x125 =>
self56 σ v1 x125
else
bx (F_X5_slot σ v3 v4) fun σ126 r127 =>
lt (((31 : Int64) * v1) + r127.toInt64) fun y128 =>
lt (v4 + 1) fun x129 =>
self67 σ126 y128 v3 x129)
def B_X5_digest_56   : Nat → CS → Int64 → Int32 → Option (CS × (Int64 ⊕ Nat)) := lo3 fun self56 (σ : CS) (v1 : Int64) (v3 : Int32) =>
(if (σ 7 0 0) ≤ v3 then
bd (F_X5_answered σ) fun σ111 r112 =>
lt (((31 : Int64) * v1) + r112.toInt64) fun y113 =>
bd (F_X5_onDisks σ111) fun σ114 r115 =>
bd (F_X5_bitsOfDouble σ114 r115) fun σ116 r117 =>
lt (((31 : Int64) * y113) + r117) fun y118 =>
lt (((31 : Int64) * y118) + (σ116 5 0 0).toInt64) fun y119 =>
B_X5_digest_141 4096 σ116 y119 (0 : Int32)
else
B_X5_digest_67 self56 4096 σ v1 v3 (0 : Int32))
def B_X5_digest_33   : Nat → CS → Int64 → Int32 → Option (CS × (Int64 ⊕ Nat)) := lo3 fun self33 (σ : CS) (v1 : Int64) (v3 : Int32) =>
(if (σ 6 0 0) ≤ v3 then
B_X5_digest_56 4096 σ v1 (0 : Int32)
else
bx (F_X5_hashOfNode σ v1 v3) fun σ107 r108 =>
lt (v3 + 1) fun x109 =>
self33 σ107 r108 x109)
def B_X5_digest_6   : Nat → CS → Int64 → Int32 → Option (CS × (Int64 ⊕ Nat)) := lo3 fun self6 (σ : CS) (v1 : Int64) (v3 : Int32) =>
(if (12 : Int32) ≤ v3 then
B_X5_digest_33 4096 σ v1 (0 : Int32)
else
bx (F_X5_count σ v3) fun σ102 r103 =>
lt (((31 : Int64) * v1) + r103.toInt64) fun y104 =>
lt (v3 + 1) fun x105 =>
self6 σ102 y104 x105)
def F_X5_digest (σ : CS)  : Option (CS × (Int64 ⊕ Nat)) :=
B_X5_digest_6 4096 σ (1997 : Int64) (0 : Int32)
