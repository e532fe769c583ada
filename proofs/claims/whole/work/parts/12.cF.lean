def F_X0_reset (σ : CS) (o0 : Nat) : Option (CS × Unit) :=
lt (pt σ 50 o0 0 (-1 : Int32)) fun σ101 =>
lt (pt σ101 51 o0 0 (-1 : Int32)) fun σ102 =>
lt (pt σ102 52 o0 0 (0 : Int32)) fun σ103 =>
lt (pt σ103 53 o0 0 (0 : Int32)) fun σ104 =>
some (σ104, ())
def F_X0_isMade (σ : CS) (o0 : Nat) : Option (CS × Int32) :=
(if (σ 52 o0 0) ≤ 0 then
some (σ, (0 : Int32))
else
some (σ, (1 : Int32)))
def B_X0_decide_33 (o0 : Nat) (x1 : Int32) (x2 : Int32)  (σ : CS)  : Option (CS × Unit) :=
lt (pt σ 52 o0 0 ((σ 52 o0 0) + (1 : Int32))) fun σ108 =>
some (σ108, ())
def F_X0_decide (σ : CS) (o0 : Nat) (x1 : Int32) (x2 : Int32) : Option (CS × Unit) :=
bd (F_X0_isMade σ o0) fun σ101 r102 =>
(if r102 = 0 then
lt (pt σ101 50 o0 0 x1) fun σ106 =>
lt (pt σ106 51 o0 0 x2) fun σ107 =>
B_X0_decide_33 o0 x1 x2 σ107
else
(if x2 = (σ101 51 o0 0) then
B_X0_decide_33 o0 x1 x2 σ101
else
lt (pt σ101 53 o0 0 (1 : Int32)) fun σ105 =>
B_X0_decide_33 o0 x1 x2 σ105))
def B_X0_isHeldBy_27 (o0 : Nat) (x1 : Int32) (x2 : Int32)  (σ : CS)  : Option (CS × Int32) :=
some (σ, (0 : Int32))
def F_X0_isHeldBy (σ : CS) (o0 : Nat) (x1 : Int32) (x2 : Int32) : Option (CS × Int32) :=
(if (σ 52 o0 0) ≤ 0 then
B_X0_isHeldBy_27 o0 x1 x2 σ
else
(if x2 = (σ 51 o0 0) then
(if x1 < (σ 50 o0 0) then
B_X0_isHeldBy_27 o0 x1 x2 σ
else
some (σ, (1 : Int32)))
else
B_X0_isHeldBy_27 o0 x1 x2 σ))
def F_X1_reset (σ : CS) (o0 : Nat) : Option (CS × Unit) :=
lt (pt σ 60 o0 0 (0 : Int32)) fun σ101 =>
lt (pf σ101 42 o0 4 (0 : Int32)) fun σ102 =>
lt (pf σ102 43 o0 4 (-1 : Int32)) fun σ103 =>
some (σ103, ())
def F_X1_copyFrom (σ : CS) (o0 : Nat) (o1 : Nat) : Option (CS × Unit) :=
lt (pt σ 60 o0 0 (σ 60 o1 0)) fun σ101 =>
lt (pcp σ101 42 o0 42 o1 4) fun σ102 =>
lt (pcp σ102 43 o0 43 o1 4) fun σ103 =>
some (σ103, ())
def F_X1_carryOut (σ : CS) (o0 : Nat) (x1 : Int32) (x2 : Int32) (x3 : Int32) : Option (CS × Unit) :=
lt (pt σ 60 o0 0 x2) fun σ101 =>
(if x1 < 0 then
some (σ101, ())
else
(if (4 : Int32) ≤ x1 then
some (σ101, ())
else
gd (inb x1 4) (lt (pt σ101 42 o0 (tn x1) x2) fun σ105 =>
gd (inb x1 4) (lt (pt σ105 43 o0 (tn x1) x3) fun σ107 =>
some (σ107, ())))))
def B_X1_takeNewer_46 (o0 : Nat) (o1 : Nat) (self2 : CS → Int32 → Option (CS × Unit)) (σ : CS) (v2 : Int32) : Option (CS × Unit) :=
lt (v2 + 1) fun x111 =>
self2 σ x111
def B_X1_takeNewer_2 (o0 : Nat) (o1 : Nat)  : Nat → CS → Int32 → Option (CS × Unit) := lo2 fun self2 (σ : CS) (v2 : Int32) =>
(if (4 : Int32) ≤ v2 then
some (σ, ())
else
gd (inb v2 4) (
gd (inb v2 4) (
(if (σ 42 o1 (tn v2)) ≤ (σ 42 o0 (tn v2)) then
B_X1_takeNewer_46 o0 o1 self2 σ v2
else
gd (inb v2 4) (
gd (inb v2 4) (lt (pt σ 42 o0 (tn v2) (σ 42 o1 (tn v2))) fun σ107 =>
gd (inb v2 4) (
gd (inb v2 4) (lt (pt σ107 43 o0 (tn v2) (σ107 43 o1 (tn v2))) fun σ110 =>
B_X1_takeNewer_46 o0 o1 self2 σ110 v2))))))))
def F_X1_takeNewer (σ : CS) (o0 : Nat) (o1 : Nat) : Option (CS × Unit) :=
B_X1_takeNewer_2 o0 o1 4096 σ (0 : Int32)
def F_X5_asNumber (σ : CS) (x0 : Int32) : Option (CS × Int32) :=
(if x0 = 0 then
some (σ, (0 : Int32))
else
some (σ, (1 : Int32)))
def B_X1_acceptedSlots_25 (o0 : Nat) (self4 : CS → Int32 → Int32 → Option (CS × Int32)) (σ : CS) (v2 : Int32) (w0 : Int32) (w1 : Int32) : Option (CS × Int32) :=
bd (F_X5_asNumber σ w0) fun σ104 r105 =>
lt (w1 + r105) fun x106 =>
lt (v2 + 1) fun x107 =>
self4 σ104 x106 x107
def B_X1_acceptedSlots_4 (o0 : Nat)  : Nat → CS → Int32 → Int32 → Option (CS × Int32) := lo3 fun self4 (σ : CS) (v1 : Int32) (v2 : Int32) =>
(if (4 : Int32) ≤ v2 then
some (σ, v1)
else
gd (inb v2 4) (
(if (σ 43 o0 (tn v2)) = (-1 : Int32) then
B_X1_acceptedSlots_25 o0 self4 σ v2 (0 : Int32) v1
else
B_X1_acceptedSlots_25 o0 self4 σ v2 (1 : Int32) v1)))
def F_X1_acceptedSlots (σ : CS) (o0 : Nat) : Option (CS × Int32) :=
B_X1_acceptedSlots_4 o0 4096 σ (0 : Int32) (0 : Int32)
def F_X2_reset (σ : CS)  : Option (CS × Unit) :=
lt (pt σ 76 0 0 (0 : Int32)) fun σ101 =>
some (σ101, ())
def B_X2_isComplete_18   (σ : CS)  : Option (CS × Int32) :=
some (σ, (1 : Int32))
def F_X2_isComplete (σ : CS)  : Option (CS × Int32) :=
(if (σ 76 0 0) = (11 : Int32) then
B_X2_isComplete_18 σ
else
(if (σ 76 0 0) = (8 : Int32) then
B_X2_isComplete_18 σ
else
some (σ, (0 : Int32))))
def F_X2_isLetter (σ : CS) (x0 : Int32) : Option (CS × Int32) :=
(if x0 = 97 then
some (σ, (1 : Int32))
else
(if x0 = 98 then
some (σ, (0 : Int32))
else
(if x0 = 99 then
some (σ, (1 : Int32))
else
(if x0 = 100 then
some (σ, (0 : Int32))
else
(if x0 = 101 then
some (σ, (0 : Int32))
else
(if x0 = 102 then
some (σ, (1 : Int32))
else
(if x0 = 103 then
some (σ, (0 : Int32))
else
(if x0 = 104 then
some (σ, (0 : Int32))
else
(if x0 = 105 then
some (σ, (0 : Int32))
else
(if x0 = 106 then
some (σ, (1 : Int32))
else
(if x0 = 107 then
some (σ, (0 : Int32))
else
(if x0 = 108 then
some (σ, (0 : Int32))
else
(if x0 = 109 then
some (σ, (0 : Int32))
else
(if x0 = 110 then
some (σ, (0 : Int32))
else
(if x0 = 111 then
some (σ, (0 : Int32))
else
(if x0 = 112 then
some (σ, (1 : Int32))
else
(if x0 = 113 then
some (σ, (0 : Int32))
else
(if x0 = 114 then
some (σ, (1 : Int32))
else
(if x0 = 115 then
some (σ, (0 : Int32))
else
(if x0 = 116 then
some (σ, (0 : Int32))
else
(if x0 = 117 then
some (σ, (0 : Int32))
else
(if x0 = 118 then
some (σ, (0 : Int32))
else
(if x0 = 119 then
some (σ, (1 : Int32))
else
some (σ, (0 : Int32)))))))))))))))))))))))))
def B_X2_goesOn_9 (x1 : Int32) (x2 : Int32)  (σ : CS)  : Option (CS × Int32) :=
gd (isb x1) (some (σ, x1))
def F_X2_goesOn (σ : CS) (x1 : Int32) (x2 : Int32) : Option (CS × Int32) :=
(if x1 = 0 then
B_X2_goesOn_9 x1 x2 σ
else
lt (pt σ 76 0 0 x2) fun σ102 =>
B_X2_goesOn_9 x1 x2 σ102)
def F_X2_takesLetter (σ : CS) (x1 : Int32) : Option (CS × Int32) :=
lt (pt σ 70 0 0 x1) fun σ101 =>
lt (pt σ101 74 0 0 (0 : Int32)) fun σ102 =>
bd (F_X2_isLetter σ102 x1) fun σ103 r104 =>
bd (F_X2_goesOn σ103 r104 (1 : Int32)) fun σ105 r106 =>
gd (isb r106) (some (σ105, r106))
def B_X2_digit_18 (x0 : Int32) (x1 : Int32)  (σ : CS)  : Option (CS × Int32) :=
some (σ, (-1 : Int32))
def F_X2_digit (σ : CS) (x0 : Int32) (x1 : Int32) : Option (CS × Int32) :=
lt (x0 - (48 : Int32)) fun x101 =>
(if x101 < 0 then
B_X2_digit_18 x0 x1 σ
else
(if x1 ≤ x101 then
B_X2_digit_18 x0 x1 σ
else
some (σ, x101)))
def F_X2_placeBehindNode (σ : CS)  : Option (CS × Int32) :=
lt (σ 70 0 0) fun x101 =>
(if x101 = 97 then
some (σ, (2 : Int32))
else
(if x101 = 99 then
some (σ, (9 : Int32))
else
(if x101 = 106 then
some (σ, (6 : Int32))
else
(if x101 = 112 then
some (σ, (6 : Int32))
else
some (σ, (11 : Int32))))))
def B_X2_takesReached_14 (x1 : Int32)  (σ : CS)  : Option (CS × Int32) :=
some (σ, (0 : Int32))
def F_X2_takesReached (σ : CS) (x1 : Int32) : Option (CS × Int32) :=
(if x1 = (-1 : Int32) then
B_X2_takesReached_14 x1 σ
else
(if ((σ 74 0 0) >>> (x1 &&& 31)) = 0 then
lt (pt σ 74 0 0 ((σ 74 0 0) ||| ((1 : Int32) <<< (x1 &&& 31)))) fun σ103 =>
lt (pt σ103 76 0 0 (8 : Int32)) fun σ104 =>
some (σ104, (1 : Int32))
else
B_X2_takesReached_14 x1 σ))
def B_X2_takes_318 (x1 : Int32) (x2 : Int32) (x3 : Int32)  (σ : CS) (w0 : Int32) : Option (CS × Int32) :=
bd (F_X2_goesOn σ w0 (0 : Int32)) fun σ177 r178 =>
gd (isb r178) (some (σ177, r178))
def B_X2_takes_300 (x1 : Int32) (x2 : Int32) (x3 : Int32)  (σ : CS) (w0 : Int32) : Option (CS × Int32) :=
bd (F_X2_goesOn σ w0 (11 : Int32)) fun σ174 r175 =>
gd (isb r175) (some (σ174, r175))
def B_X2_takes_270 (x1 : Int32) (x2 : Int32) (x3 : Int32)  (σ : CS) (w0 : Int32) : Option (CS × Int32) :=
bd (F_X2_goesOn σ w0 (10 : Int32)) fun σ171 r172 =>
gd (isb r172) (some (σ171, r172))
def B_X2_takes_252 (x1 : Int32) (x2 : Int32) (x3 : Int32)  (σ : CS)  : Option (CS × Int32) :=
some (σ, (1 : Int32))
def B_X2_takes_233 (x1 : Int32) (x2 : Int32) (x3 : Int32)  (σ : CS) (w0 : Int32) : Option (CS × Int32) :=
bd (F_X2_goesOn σ w0 (0 : Int32)) fun σ163 r164 =>
(if r164 = 0 then
bd (F_X2_digit σ163 x1 x2) fun σ166 r167 =>
bd (F_X2_takesReached σ166 r167) fun σ168 r169 =>
(if r169 = 0 then
some (σ168, (0 : Int32))
else
B_X2_takes_252 x1 x2 x3 σ168)
else
B_X2_takes_252 x1 x2 x3 σ163)
def B_X2_takes_205 (x1 : Int32) (x2 : Int32) (x3 : Int32)  (σ : CS) (w0 : Int32) : Option (CS × Int32) :=
bd (F_X2_goesOn σ w0 (7 : Int32)) fun σ160 r161 =>
gd (isb r161) (some (σ160, r161))
def B_X2_takes_187 (x1 : Int32) (x2 : Int32) (x3 : Int32)  (σ : CS) (w0 : Int32) : Option (CS × Int32) :=
bd (F_X2_goesOn σ w0 (6 : Int32)) fun σ157 r158 =>
gd (isb r158) (some (σ157, r158))
def B_X2_takes_158 (x1 : Int32) (x2 : Int32) (x3 : Int32)  (σ : CS) (w0 : Int32) : Option (CS × Int32) :=
bd (F_X2_goesOn σ w0 (5 : Int32)) fun σ154 r155 =>
gd (isb r155) (some (σ154, r155))
def B_X2_takes_141 (x1 : Int32) (x2 : Int32) (x3 : Int32)  (σ : CS) (w0 : Int32) : Option (CS × Int32) :=
bd (F_X2_goesOn σ w0 (4 : Int32)) fun σ151 r152 =>
gd (isb r152) (some (σ151, r152))
def B_X2_takes_113 (x1 : Int32) (x2 : Int32) (x3 : Int32)  (σ : CS) (w0 : Int32) : Option (CS × Int32) :=
bd (F_X2_goesOn σ w0 (3 : Int32)) fun σ148 r149 =>
gd (isb r149) (some (σ148, r149))
def B_X2_takes_93 (x1 : Int32) (x2 : Int32) (x3 : Int32)  (σ : CS) (w0 : Int32) : Option (CS × Int32) :=
bd (F_X2_placeBehindNode σ) fun σ143 r144 =>
bd (F_X2_goesOn σ143 w0 r144) fun σ145 r146 =>
gd (isb r146) (some (σ145, r146))
def F_X2_takes (σ : CS) (x1 : Int32) (x2 : Int32) (x3 : Int32) : Option (CS × Int32) :=
lt (σ 76 0 0) fun x101 =>
(if x101 = 0 then
bd (F_X2_takesLetter σ x1) fun σ103 r104 =>
gd (isb r104) (some (σ103, r104))
else
(if x101 = 1 then
bd (F_X2_digit σ x1 x2) fun σ107 r108 =>
lt (pt σ107 71 0 0 r108) fun σ109 =>
(if (σ109 71 0 0) = (-1 : Int32) then
B_X2_takes_93 x1 x2 x3 σ109 (0 : Int32)
else
B_X2_takes_93 x1 x2 x3 σ109 (1 : Int32))
else
(if x101 = 2 then
(if x1 = (115 : Int32) then
B_X2_takes_113 x1 x2 x3 σ (1 : Int32)
else
B_X2_takes_113 x1 x2 x3 σ (0 : Int32))
else
(if x101 = 3 then
bd (F_X2_digit σ x1 x3) fun σ114 r115 =>
lt (pt σ114 72 0 0 r115) fun σ116 =>
(if (σ116 72 0 0) = (-1 : Int32) then
B_X2_takes_141 x1 x2 x3 σ116 (0 : Int32)
else
B_X2_takes_141 x1 x2 x3 σ116 (1 : Int32))
else
(if x101 = 4 then
(if x1 = (61 : Int32) then
B_X2_takes_158 x1 x2 x3 σ (1 : Int32)
else
B_X2_takes_158 x1 x2 x3 σ (0 : Int32))
else
(if x101 = 5 then
bd (F_X2_digit σ x1 (10 : Int32)) fun σ121 r122 =>
lt (pt σ121 73 0 0 r122) fun σ123 =>
(if (σ123 73 0 0) = (-1 : Int32) then
B_X2_takes_187 x1 x2 x3 σ123 (0 : Int32)
else
B_X2_takes_187 x1 x2 x3 σ123 (1 : Int32))
else
(if x101 = 6 then
(if x1 = (62 : Int32) then
B_X2_takes_205 x1 x2 x3 σ (1 : Int32)
else
B_X2_takes_205 x1 x2 x3 σ (0 : Int32))
else
(if x101 = 7 then
bd (F_X2_digit σ x1 x2) fun σ128 r129 =>
bd (F_X2_takesReached σ128 r129) fun σ130 r131 =>
gd (isb r131) (some (σ130, r131))
else
(if x101 = 8 then
(if x1 = (59 : Int32) then
B_X2_takes_233 x1 x2 x3 σ (1 : Int32)
else
B_X2_takes_233 x1 x2 x3 σ (0 : Int32))
else
(if x101 = 9 then
(if x1 = (45 : Int32) then
B_X2_takes_270 x1 x2 x3 σ (1 : Int32)
else
B_X2_takes_270 x1 x2 x3 σ (0 : Int32))
else
(if x101 = 10 then
bd (F_X2_digit σ x1 (10 : Int32)) fun σ138 r139 =>
lt (pt σ138 75 0 0 r139) fun σ140 =>
(if (σ140 75 0 0) = (-1 : Int32) then
B_X2_takes_300 x1 x2 x3 σ140 (0 : Int32)
else
B_X2_takes_300 x1 x2 x3 σ140 (1 : Int32))
else
(if x1 = (59 : Int32) then
B_X2_takes_318 x1 x2 x3 σ (1 : Int32)
else
B_X2_takes_318 x1 x2 x3 σ (0 : Int32)))))))))))))
def F_X3_reset (σ : CS) (o0 : Nat) : Option (CS × Unit) :=
bd (F_X1_reset σ o0) fun σ101 _ =>
bd (F_X1_reset σ101 (7 + o0)) fun σ103 _ =>
lt (pt σ103 83 o0 0 (0 : Int32)) fun σ105 =>
lt (pt σ105 25 o0 0 (1 : Int32)) fun σ106 =>
lt (pt σ106 26 o0 0 (1 : Int32)) fun σ107 =>
lt (pt σ107 27 o0 0 (0 : Int32)) fun σ108 =>
lt (pt σ108 28 o0 0 (0 : Int32)) fun σ109 =>
lt (pt σ109 29 o0 0 (-1 : Int32)) fun σ110 =>
some (σ110, ())
def B_X3_takesPart_18 (o0 : Nat)  (σ : CS)  : Option (CS × Int32) :=
some (σ, (0 : Int32))
def F_X3_takesPart (σ : CS) (o0 : Nat) : Option (CS × Int32) :=
(if (σ 25 o0 0) = 0 then
B_X3_takesPart_18 o0 σ
else
(if (σ 26 o0 0) = 0 then
B_X3_takesPart_18 o0 σ
else
some (σ, (1 : Int32))))
def B_X3_canRejoin_18 (o0 : Nat)  (σ : CS)  : Option (CS × Int32) :=
some (σ, (0 : Int32))
def F_X3_canRejoin (σ : CS) (o0 : Nat) : Option (CS × Int32) :=
(if (σ 25 o0 0) = 0 then
B_X3_canRejoin_18 o0 σ
else
(if (σ 26 o0 0) = 0 then
some (σ, (1 : Int32))
else
B_X3_canRejoin_18 o0 σ))
def F_X3_hasRound (σ : CS) (o0 : Nat) : Option (CS × Int32) :=
(if (σ 29 o0 0) = (-1 : Int32) then
some (σ, (0 : Int32))
else
some (σ, (1 : Int32)))
def B_J9_floorDiv_7cf53_21 (x0 : Int32) (x1 : Int32)  (σ : CS) (v2 : Int32) : Option (CS × Int32) :=
some (σ, v2)
def F_J9_floorDiv_7cf53 (σ : CS) (x0 : Int32) (x1 : Int32) : Option (CS × Int32) :=
gd (nz x1) (
lt (x0 / x1) fun x102 =>
(if 0 ≤ (x0 ^^^ x1) then
B_J9_floorDiv_7cf53_21 x0 x1 σ x102
else
(if (x102 * x1) = x0 then
B_J9_floorDiv_7cf53_21 x0 x1 σ x102
else
some (σ, (x102 - (1 : Int32))))))
def F_X3_nextBallot (σ : CS) (o0 : Nat) : Option (CS × Int32) :=
lt (imax (σ 28 o0 0) (σ 60 (7 + o0) 0)) fun x101 =>
bd (F_J9_floorDiv_7cf53 σ (x101 - (nI o0)) (8 : Int32)) fun σ102 r103 =>
lt (r103 + (1 : Int32)) fun x104 =>
some (σ102, (((8 : Int32) * (imax x104 (1 : Int32))) + (nI o0)))
def F_X3_tell (σ : CS) (o0 : Nat) (x1 : Int32) : Option (CS × Unit) :=
lt (pt σ 28 o0 0 (imax (σ 28 o0 0) x1)) fun σ101 =>
some (σ101, ())
def F_X3_openRound (σ : CS) (o0 : Nat) (x1 : Int32) (o2 : Nat) : Option (CS × Unit) :=
lt (pt σ 29 o0 0 x1) fun σ101 =>
lt (pcp σ101 41 o0 43 o2 4) fun σ102 =>
some (σ102, ())
/-- the three rows of waiting writes are twice as long, with zeros behind -/
def pgr (σ : CS) (f h o : Nat) : CS := fun f' i' j' => if f' = h ∧ i' = o ∧ j' = 0 then nI (tn (σ h o 0) * 2) else if f' = f ∧ i' = o ∧ tn (σ h o 0) ≤ j' then 0 else σ f' i' j'
def F_X4_grow (σ : CS) (o0 : Nat) : Option (CS × Unit) := gd (decide (tn (σ 47 o0 0) ≤ 256 ∧ tn (σ 48 o0 0) = tn (σ 47 o0 0) ∧ tn (σ 49 o0 0) = tn (σ 47 o0 0) ∧ 0 < tn (σ 47 o0 0))) (some (pgr (pgr (pgr σ 44 47 o0) 45 48 o0) 46 49 o0, ()))
def B_X4_add_27 (o0 : Nat) (x1 : Int32) (x2 : Int32) (x3 : Int32)  (σ : CS)  : Option (CS × Unit) :=
gd (inb (σ 83 o0 0) (tn (σ 47 o0 0))) (lt (pt σ 44 o0 (tn (σ 83 o0 0)) x1) fun σ106 =>
gd (inb (σ106 83 o0 0) (tn (σ106 48 o0 0))) (lt (pt σ106 45 o0 (tn (σ106 83 o0 0)) x2) fun σ108 =>
gd (inb (σ108 83 o0 0) (tn (σ108 49 o0 0))) (lt (pt σ108 46 o0 (tn (σ108 83 o0 0)) x3) fun σ110 =>
lt (pt σ110 83 o0 0 ((σ110 83 o0 0) + (1 : Int32))) fun σ111 =>
some (σ111, ()))))
def F_X4_add (σ : CS) (o0 : Nat) (x1 : Int32) (x2 : Int32) (x3 : Int32) : Option (CS × Unit) :=
(if (σ 83 o0 0) < (512 : Int32) then
(if (σ 83 o0 0) < (nI (tn (σ 47 o0 0))) then
B_X4_add_27 o0 x1 x2 x3 σ
else
bd (F_X4_grow σ o0) fun σ103 _ =>
B_X4_add_27 o0 x1 x2 x3 σ103)
else
some (σ, ()))
def F_X3_write (σ : CS) (o0 : Nat) (x1 : Int32) (x2 : Int32) (x3 : Int32) : Option (CS × Unit) :=
bd (F_X4_add σ o0 x1 x2 x3) fun σ101 _ =>
bd (F_X1_carryOut σ101 (7 + o0) x1 x2 x3) fun σ103 _ =>
some (σ103, ())
def B_X4_carryOutOn_2 (o0 : Nat) (o1 : Nat) (x2 : Int32)  : Nat → CS → Int32 → Option (CS × Unit) := lo2 fun self2 (σ : CS) (v3 : Int32) =>
(if x2 ≤ v3 then
some (σ, ())
else
(if (σ 83 o0 0) ≤ v3 then
some (σ, ())
else
gd (inb v3 (tn (σ 47 o0 0))) (
gd (inb v3 (tn (σ 48 o0 0))) (
gd (inb v3 (tn (σ 49 o0 0))) (
bd (F_X1_carryOut σ o1 (σ 44 o0 (tn v3)) (σ 45 o0 (tn v3)) (σ 46 o0 (tn v3))) fun σ106 _ =>
lt (v3 + 1) fun x108 =>
self2 σ106 x108)))))
def F_X4_carryOutOn (σ : CS) (o0 : Nat) (o1 : Nat) (x2 : Int32) : Option (CS × Unit) :=
B_X4_carryOutOn_2 o0 o1 x2 4096 σ (0 : Int32)
def F_X3_carryOutAll (σ : CS) (o0 : Nat) : Option (CS × Int32) :=
lt (σ 83 o0 0) fun x101 =>
bd (F_X4_carryOutOn σ o0 o0 x101) fun σ102 _ =>
lt (pt σ102 83 o0 0 (0 : Int32)) fun σ104 =>
some (σ104, x101)
def F_X4_keptOf (σ : CS) (o0 : Nat) (x1 : Int32) : Option (CS × Int32) :=
some (σ, ((σ 83 o0 0) - (imin x1 (σ 83 o0 0))))
def F_X3_fall (σ : CS) (o0 : Nat) (x1 : Int32) : Option (CS × Int32) :=
lt (σ 83 o0 0) fun x101 =>
bd (F_X4_keptOf σ o0 x1) fun σ102 r103 =>
bd (F_X4_carryOutOn σ102 o0 o0 r103) fun σ104 _ =>
lt (pt σ104 83 o0 0 (0 : Int32)) fun σ106 =>
bd (F_X1_copyFrom σ106 (7 + o0) o0) fun σ107 _ =>
lt (pt σ107 25 o0 0 (0 : Int32)) fun σ109 =>
lt (pt σ109 29 o0 0 (-1 : Int32)) fun σ110 =>
lt (pt σ110 28 o0 0 (0 : Int32)) fun σ111 =>
some (σ111, (x101 - r103))
def F_X3_loseDisk (σ : CS) (o0 : Nat) : Option (CS × Int32) :=
bd (F_X1_acceptedSlots σ o0) fun σ101 r102 =>
bd (F_X1_reset σ101 o0) fun σ103 _ =>
bd (F_X1_reset σ103 (7 + o0)) fun σ105 _ =>
lt (pt σ105 26 o0 0 (0 : Int32)) fun σ107 =>
some (σ107, r102)
def F_X3_bringUp (σ : CS) (o0 : Nat) : Option (CS × Int32) :=
lt (pt σ 25 o0 0 (1 : Int32)) fun σ101 =>
lt (pt σ101 27 o0 0 ((σ101 27 o0 0) + (1 : Int32))) fun σ102 =>
some (σ102, (σ102 27 o0 0))
def F_X3_join (σ : CS) (o0 : Nat) (o1 : Nat) : Option (CS × Unit) :=
bd (F_X1_copyFrom σ o0 o1) fun σ101 _ =>
bd (F_X1_copyFrom σ101 (7 + o0) o1) fun σ103 _ =>
lt (pt σ103 26 o0 0 (1 : Int32)) fun σ105 =>
bd (F_X3_tell σ105 o0 (σ105 60 o1 0)) fun σ106 _ =>
some (σ106, ())
