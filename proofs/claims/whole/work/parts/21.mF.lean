def F_X6_thrown (σ : RS)  : Option (RS × Int32) :=
some (σ, (σ.1 0 0))
def B_X6_within_14 (x0 : Int32) (x1 : Int32) (x2 : Int32)  (σ : RS)  : Option (RS × Int32) :=
some (σ, (0 : Int32))
def F_X6_within (σ : RS) (x0 : Int32) (x1 : Int32) (x2 : Int32) : Option (RS × Int32) :=
(if x0 < x1 then
B_X6_within_14 x0 x1 x2 σ
else
(if x2 < x0 then
B_X6_within_14 x0 x1 x2 σ
else
some (σ, (1 : Int32))))
def F_X6_isNode (σ : RS) (x1 : Int32) : Option (RS × Int32) :=
bd (F_X6_within σ x1 (0 : Int32) ((σ.1 1 0) - (1 : Int32))) fun σ101 r102 =>
gd (isb r102) (some (σ101, r102))
def F_X6_isSlot (σ : RS) (x1 : Int32) : Option (RS × Int32) :=
bd (F_X6_within σ x1 (0 : Int32) ((σ.1 2 0) - (1 : Int32))) fun σ101 r102 =>
gd (isb r102) (some (σ101, r102))
def F_X6_q (σ : RS)  : Option (RS × Int32) :=
some (σ, (((σ.1 1 0) / (2 : Int32)) + (1 : Int32)))
def F_X6_isSet (σ : RS) (x1 : Int32) : Option (RS × Int32) :=
bd (F_X6_within σ x1 (1 : Int32) (((1 : Int32) <<< ((σ.1 1 0) &&& 31)) - (1 : Int32))) fun σ101 r102 =>
gd (isb r102) (some (σ101, r102))
def F_X6_at (σ : RS) (x0 : Int32) (x1 : Int32) : Option (RS × Int32) :=
some (σ, (((4 : Int32) * x0) + x1))
def B_X6_showDisk_14 (x1 : Int32)  : Nat → RS → Int32 → Option (RS × Unit) := lo2 fun self14 (σ : RS) (v2 : Int32) =>
(if (4 : Int32) ≤ v2 then
some (σ, ())
else
bd (F_X6_at σ x1 v2) fun σ105 r106 =>
bd (F_X6_at σ105 x1 v2) fun σ107 r108 =>
gd (inb r108 28) (
gd (inb r106 28) (lt (rp σ107 12 (tn r106) (σ107.1 9 (tn r108))) fun σ111 =>
bd (F_X6_at σ111 x1 v2) fun σ112 r113 =>
bd (F_X6_at σ112 x1 v2) fun σ114 r115 =>
gd (inb r115 28) (
gd (inb r113 28) (lt (rp σ114 13 (tn r113) (σ114.1 10 (tn r115))) fun σ118 =>
lt (v2 + 1) fun x119 =>
self14 σ118 x119)))))
def F_X6_showDisk (σ : RS) (x1 : Int32) : Option (RS × Unit) :=
gd (inb x1 7) (
gd (inb x1 7) (lt (rp σ 11 (tn x1) (σ.1 8 (tn x1))) fun σ103 =>
B_X6_showDisk_14 x1 4096 σ103 (0 : Int32)))
def B_X6_wipeDisk_9 (x1 : Int32)  : Nat → RS → Int32 → Option (RS × Unit) := lo2 fun self9 (σ : RS) (v2 : Int32) =>
(if (4 : Int32) ≤ v2 then
bd (F_X6_showDisk σ x1) fun σ104 _ =>
some (σ104, ())
else
bd (F_X6_at σ x1 v2) fun σ106 r107 =>
gd (inb r107 28) (lt (rp σ106 9 (tn r107) (0 : Int32)) fun σ109 =>
bd (F_X6_at σ109 x1 v2) fun σ110 r111 =>
gd (inb r111 28) (lt (rp σ110 10 (tn r111) (-1 : Int32)) fun σ113 =>
lt (v2 + 1) fun x114 =>
self9 σ113 x114)))
def F_X6_wipeDisk (σ : RS) (x1 : Int32) : Option (RS × Unit) :=
gd (inb x1 7) (lt (rp σ 8 (tn x1) (0 : Int32)) fun σ102 =>
B_X6_wipeDisk_9 x1 4096 σ102 (0 : Int32))
def B_X6_fresh_73 (x1 : Int32) (x2 : Int32)  : Nat → RS → Int32 → Option (RS × Unit) := lo2 fun self73 (σ : RS) (v3 : Int32) =>
(if (4 : Int32) ≤ v3 then
lt (rp σ 24 0 (0 : Int32)) fun σ120 =>
lt (rp σ120 25 0 (0 : Int32)) fun σ121 =>
lt (rp σ121 26 0 (0 : Int32)) fun σ122 =>
some (σ122, ())
else
gd (inb v3 4) (lt (rp σ 20 (tn v3) (0 : Int32)) fun σ124 =>
gd (inb v3 4) (lt (rp σ124 21 (tn v3) (-1 : Int32)) fun σ126 =>
gd (inb v3 4) (lt (rp σ126 22 (tn v3) (-1 : Int32)) fun σ128 =>
gd (inb v3 4) (lt (rp σ128 23 (tn v3) (0 : Int32)) fun σ130 =>
lt (v3 + 1) fun x131 =>
self73 σ130 x131)))))
def B_X6_fresh_12 (x1 : Int32) (x2 : Int32)  : Nat → RS → Int32 → Option (RS × Unit) := lo2 fun self12 (σ : RS) (v3 : Int32) =>
(if (7 : Int32) ≤ v3 then
B_X6_fresh_73 x1 x2 4096 σ (0 : Int32)
else
gd (inb v3 7) (lt (rp σ 4 (tn v3) (1 : Int32)) fun σ105 =>
gd (inb v3 7) (lt (rp σ105 5 (tn v3) (1 : Int32)) fun σ107 =>
gd (inb v3 7) (lt (rp σ107 6 (tn v3) (0 : Int32)) fun σ109 =>
gd (inb v3 7) (lt (rp σ109 7 (tn v3) (0 : Int32)) fun σ111 =>
gd (inb v3 7) (lt (rp σ111 14 (tn v3) (0 : Int32)) fun σ113 =>
gd (inb v3 7) (lt (rp σ113 18 (tn v3) (-1 : Int32)) fun σ115 =>
bd (F_X6_wipeDisk σ115 v3) fun σ116 _ =>
lt (v3 + 1) fun x118 =>
self12 σ116 x118)))))))
def F_X6_fresh (σ : RS) (x1 : Int32) (x2 : Int32) : Option (RS × Unit) :=
lt (rp σ 1 0 x1) fun σ101 =>
lt (rp σ101 2 0 x2) fun σ102 =>
B_X6_fresh_12 x1 x2 4096 σ102 (0 : Int32)
def F_X6_write (σ : RS) (x1 : Int32) (x2 : Int32) (x3 : Int32) (x4 : Int32) : Option (RS × Unit) :=
gd (inb x1 7) (
lt (((2048 : Int32) * x1) + (σ.1 14 (tn x1))) fun x102 =>
gd (inb x102 14336) (lt (rp σ 15 (tn x102) x2) fun σ104 =>
gd (inb x102 14336) (lt (rp σ104 16 (tn x102) x3) fun σ106 =>
gd (inb x102 14336) (lt (rp σ106 17 (tn x102) x4) fun σ108 =>
gd (inb x1 7) (
gd (inb x1 7) (lt (rp σ108 14 (tn x1) ((σ108.1 14 (tn x1)) + (1 : Int32))) fun σ111 =>
gd (inb x1 7) (lt (rp σ111 11 (tn x1) x3) fun σ113 =>
(if x2 = (-1 : Int32) then
some (σ113, ())
else
bd (F_X6_at σ113 x1 x2) fun σ115 r116 =>
gd (inb r116 28) (lt (rp σ115 12 (tn r116) x3) fun σ118 =>
bd (F_X6_at σ118 x1 x2) fun σ119 r120 =>
gd (inb r120 28) (lt (rp σ119 13 (tn r120) x4) fun σ122 =>
some (σ122, ())))))))))))
def B_X6_flush_86 (x1 : Int32) (self6 : RS → Int32 → Option (RS × Unit)) (σ : RS) (v2 : Int32) : Option (RS × Unit) :=
lt (v2 + 1) fun x123 =>
self6 σ x123
def B_X6_flush_6 (x1 : Int32)  : Nat → RS → Int32 → Option (RS × Unit) := lo2 fun self6 (σ : RS) (v2 : Int32) =>
gd (inb x1 7) (
(if (((2048 : Int32) * x1) + (σ.1 14 (tn x1))) ≤ v2 then
gd (inb x1 7) (lt (rp σ 14 (tn x1) (0 : Int32)) fun σ105 =>
some (σ105, ()))
else
gd (inb v2 14336) (
gd (inb x1 7) (lt (rp σ 8 (tn x1) (σ.1 16 (tn v2))) fun σ108 =>
gd (inb v2 14336) (
(if (σ108.1 15 (tn v2)) = (-1 : Int32) then
B_X6_flush_86 x1 self6 σ108 v2
else
gd (inb v2 14336) (
bd (F_X6_at σ108 x1 (σ108.1 15 (tn v2))) fun σ112 r113 =>
gd (inb v2 14336) (
gd (inb r113 28) (lt (rp σ112 9 (tn r113) (σ112.1 16 (tn v2))) fun σ116 =>
gd (inb v2 14336) (
bd (F_X6_at σ116 x1 (σ116.1 15 (tn v2))) fun σ118 r119 =>
gd (inb v2 14336) (
gd (inb r119 28) (lt (rp σ118 10 (tn r119) (σ118.1 17 (tn v2))) fun σ122 =>
B_X6_flush_86 x1 self6 σ122 v2))))))))))))
def F_X6_flush (σ : RS) (x1 : Int32) : Option (RS × Unit) :=
lt ((2048 : Int32) * x1) fun x101 =>
B_X6_flush_6 x1 4096 σ x101
def B_X6_tell_25 (x1 : Int32) (x2 : Int32)  (σ : RS) (w0 : Int32) (w1 : Int32) : Option (RS × Unit) :=
gd (inb w1 7) (lt (rp σ 7 (tn w1) w0) fun σ105 =>
some (σ105, ()))
def F_X6_tell (σ : RS) (x1 : Int32) (x2 : Int32) : Option (RS × Unit) :=
gd (inb x1 7) (
(if x2 ≤ (σ.1 7 (tn x1)) then
gd (inb x1 7) (
B_X6_tell_25 x1 x2 σ (σ.1 7 (tn x1)) x1)
else
B_X6_tell_25 x1 x2 σ x2 x1))
def B_X6_nextBallot_65 (x1 : Int32)  (σ : RS) (v3 : Int32) : Option (RS × Int32) :=
some (σ, v3)
def B_X6_nextBallot_63 (x1 : Int32)  (σ : RS) (w0 : Int32) (w1 : Int32) : Option (RS × Int32) :=
lt (w1 + w0) fun x110 =>
B_X6_nextBallot_65 x1 σ x110
def B_X6_nextBallot_30 (x1 : Int32)  (σ : RS) (w0 : Int32) : Option (RS × Int32) :=
lt ((8 : Int32) + x1) fun x106 =>
(if w0 < x106 then
B_X6_nextBallot_65 x1 σ x106
else
lt (((w0 / (8 : Int32)) * (8 : Int32)) + x1) fun x108 =>
(if w0 < x108 then
B_X6_nextBallot_63 x1 σ (0 : Int32) x108
else
B_X6_nextBallot_63 x1 σ (8 : Int32) x108))
def F_X6_nextBallot (σ : RS) (x1 : Int32) : Option (RS × Int32) :=
gd (inb x1 7) (
gd (inb x1 7) (
(if (σ.1 7 (tn x1)) ≤ (σ.1 11 (tn x1)) then
gd (inb x1 7) (
B_X6_nextBallot_30 x1 σ (σ.1 11 (tn x1)))
else
gd (inb x1 7) (
B_X6_nextBallot_30 x1 σ (σ.1 7 (tn x1))))))
def B_X6_gets_31 (x1 : Int32) (x2 : Int32)  (σ : RS)  : Option (RS × Int32) :=
some (σ, (0 : Int32))
def F_X6_gets (σ : RS) (x1 : Int32) (x2 : Int32) : Option (RS × Int32) :=
(if ((x2 >>> (x1 &&& 31)) &&& (1 : Int32)) = (1 : Int32) then
gd (inb x1 7) (
(if (σ.1 4 (tn x1)) = 0 then
B_X6_gets_31 x1 x2 σ
else
gd (inb x1 7) (
(if (σ.1 5 (tn x1)) = 0 then
B_X6_gets_31 x1 x2 σ
else
some (σ, (1 : Int32))))))
else
B_X6_gets_31 x1 x2 σ)
def B_X6_begin_25 (x1 : Int32) (x2 : Int32)  (σ : RS) (w0 : Int32) : Option (RS × Int32) :=
lt (rp σ 0 0 w0) fun σ107 =>
(if (σ107.1 0 0) ≤ 0 then
lt (σ107.1 1 0) fun x109 =>
bd (F_X6_fresh σ107 x1 x2) fun σ110 _ =>
some (σ110, x109)
else
some (σ107, (0 : Int32)))
def B_X6_begin_24 (x1 : Int32) (x2 : Int32)  (σ : RS)  : Option (RS × Int32) :=
B_X6_begin_25 x1 x2 σ (1 : Int32)
def F_X6_begin (σ : RS) (x1 : Int32) (x2 : Int32) : Option (RS × Int32) :=
bd (F_X6_within σ x1 (3 : Int32) (7 : Int32)) fun σ101 r102 =>
(if r102 = 0 then
B_X6_begin_24 x1 x2 σ101
else
bd (F_X6_within σ101 x2 (1 : Int32) (4 : Int32)) fun σ104 r105 =>
(if r105 = 0 then
B_X6_begin_24 x1 x2 σ104
else
B_X6_begin_25 x1 x2 σ104 (0 : Int32)))
def B_X6_setBarriers_17 (x1 : Int32)  (σ : RS) (w0 : Int32) : Option (RS × Int32) :=
gd (isb x1) (lt (rp σ 3 0 x1) fun σ103 =>
some (σ103, w0))
def F_X6_setBarriers (σ : RS) (x1 : Int32) : Option (RS × Int32) :=
lt (rp σ 0 0 (0 : Int32)) fun σ101 =>
(if (σ101.1 3 0) = 0 then
B_X6_setBarriers_17 x1 σ101 (0 : Int32)
else
B_X6_setBarriers_17 x1 σ101 (1 : Int32))
def B_X6_hear_65 (x1 : Int32) (x2 : Int32) (self2 : RS → Int32 → Option (RS × Unit)) (σ : RS) (v3 : Int32) : Option (RS × Unit) :=
lt (v3 + 1) fun x119 =>
self2 σ x119
def B_X6_hear_2 (x1 : Int32) (x2 : Int32)  : Nat → RS → Int32 → Option (RS × Unit) := lo2 fun self2 (σ : RS) (v3 : Int32) =>
(if (σ.1 2 0) ≤ v3 then
some (σ, ())
else
bd (F_X6_at σ x2 v3) fun σ102 r103 =>
gd (inb r103 28) (
gd (inb v3 4) (
(if (σ102.1 12 (tn r103)) ≤ (σ102.1 29 (tn v3)) then
B_X6_hear_65 x1 x2 self2 σ102 v3
else
bd (F_X6_at σ102 x2 v3) fun σ107 r108 =>
gd (inb r108 28) (
gd (inb v3 4) (lt (rp σ107 29 (tn v3) (σ107.1 12 (tn r108))) fun σ111 =>
bd (F_X6_at σ111 x1 v3) fun σ112 r113 =>
bd (F_X6_at σ112 x2 v3) fun σ114 r115 =>
gd (inb r115 28) (
gd (inb r113 28) (lt (rp σ114 19 (tn r113) (σ114.1 13 (tn r115))) fun σ118 =>
B_X6_hear_65 x1 x2 self2 σ118 v3))))))))
def F_X6_hear (σ : RS) (x1 : Int32) (x2 : Int32) : Option (RS × Unit) :=
B_X6_hear_2 x1 x2 4096 σ (0 : Int32)
def B_X6_doPrepare_194 (x1 : Int32) (x2 : Int32)  (σ : RS) (v4 : Int32) (w0 : Int32) (w1 : Int32) : Option (RS × Int32) :=
gd (inb w1 7) (lt (rp σ 18 (tn w1) w0) fun σ125 =>
some (σ125, v4))
def B_X6_doPrepare_169 (x1 : Int32) (x2 : Int32) (self60 : RS → Int32 → Int32 → Int32 → Option (RS × Int32)) (σ : RS) (v3 : Int32) (v4 : Int32) (v5 : Int32) : Option (RS × Int32) :=
lt (v5 + 1) fun x126 =>
self60 σ v3 v4 x126
def B_X6_doPrepare_156 (x1 : Int32) (x2 : Int32) (self60 : RS → Int32 → Int32 → Int32 → Option (RS × Int32)) (σ : RS) (v3 : Int32) (v4 : Int32) (v5 : Int32) : Option (RS × Int32) :=
(if (σ.1 3 0) = 0 then
B_X6_doPrepare_169 x1 x2 self60 σ v3 v4 v5
else
bd (F_X6_flush σ v5) fun σ139 _ =>
B_X6_doPrepare_169 x1 x2 self60 σ139 v3 v4 v5)
def B_X6_doPrepare_95 (x1 : Int32) (x2 : Int32) (self60 : RS → Int32 → Int32 → Int32 → Option (RS × Int32)) (σ : RS) (v3 : Int32) (v4 : Int32) (v5 : Int32) (w0 : Int32) : Option (RS × Int32) :=
lt (rp σ 24 0 ((σ.1 24 0) + (1 : Int32))) fun σ127 =>
(if w0 = 0 then
gd (inb v5 7) (
bd (F_X6_tell σ127 x1 (σ127.1 11 (tn v5))) fun σ130 _ =>
B_X6_doPrepare_156 x1 x2 self60 σ130 v3 v4 v5)
else
bd (F_X6_write σ127 v5 (-1 : Int32) v3 (-1 : Int32)) fun σ132 _ =>
bd (F_X6_hear σ132 x1 v5) fun σ134 _ =>
lt (v4 + 1) fun x136 =>
lt (rp σ134 25 0 ((σ134.1 25 0) + (1 : Int32))) fun σ137 =>
B_X6_doPrepare_156 x1 x2 self60 σ137 v3 x136 v5)
def B_X6_doPrepare_60 (x1 : Int32) (x2 : Int32)  : Nat → RS → Int32 → Int32 → Int32 → Option (RS × Int32) := lo4 fun self60 (σ : RS) (v3 : Int32) (v4 : Int32) (v5 : Int32) =>
(if (σ.1 1 0) ≤ v5 then
bd (F_X6_q σ) fun σ116 r117 =>
(if v4 < r117 then
B_X6_doPrepare_194 x1 x2 σ116 v4 (-1 : Int32) x1
else
B_X6_doPrepare_194 x1 x2 σ116 v4 v3 x1)
else
bd (F_X6_gets σ v5 x2) fun σ119 r120 =>
(if r120 = 0 then
B_X6_doPrepare_169 x1 x2 self60 σ119 v3 v4 v5
else
gd (inb v5 7) (
(if v3 ≤ (σ119.1 11 (tn v5)) then
B_X6_doPrepare_95 x1 x2 self60 σ119 v3 v4 v5 (0 : Int32)
else
B_X6_doPrepare_95 x1 x2 self60 σ119 v3 v4 v5 (1 : Int32)))))
def B_X6_doPrepare_25 (x1 : Int32) (x2 : Int32)  : Nat → RS → Int32 → Int32 → Int32 → Option (RS × Int32) := lo4 fun self25 (σ : RS) (v3 : Int32) (v4 : Int32) (v5 : Int32) =>
(if (4 : Int32) ≤ v5 then
B_X6_doPrepare_60 x1 x2 4096 σ v3 v4 (0 : Int32)
else
gd (inb v5 4) (lt (rp σ 29 (tn v5) (0 : Int32)) fun σ109 =>
bd (F_X6_at σ109 x1 v5) fun σ110 r111 =>
gd (inb r111 28) (lt (rp σ110 19 (tn r111) (-1 : Int32)) fun σ113 =>
lt (v5 + 1) fun x114 =>
self25 σ113 v3 v4 x114)))
def F_X6_doPrepare (σ : RS) (x1 : Int32) (x2 : Int32) : Option (RS × Int32) :=
bd (F_X6_nextBallot σ x1) fun σ101 r102 =>
bd (F_X6_tell σ101 x1 r102) fun σ103 _ =>
gd (inb x1 7) (lt (rp σ103 18 (tn x1) (-1 : Int32)) fun σ106 =>
B_X6_doPrepare_25 x1 x2 4096 σ106 r102 (0 : Int32) (0 : Int32))
def B_X6_prepareFault_46 (x1 : Int32) (x2 : Int32)  (σ : RS)  : Option (RS × Int32) :=
some (σ, (3 : Int32))
def F_X6_prepareFault (σ : RS) (x1 : Int32) (x2 : Int32) : Option (RS × Int32) :=
bd (F_X6_isNode σ x1) fun σ101 r102 =>
(if r102 = 0 then
some (σ101, (1 : Int32))
else
bd (F_X6_isSet σ101 x2) fun σ104 r105 =>
(if r105 = 0 then
some (σ104, (2 : Int32))
else
gd (inb x1 7) (
(if (σ104.1 4 (tn x1)) = 0 then
B_X6_prepareFault_46 x1 x2 σ104
else
gd (inb x1 7) (
(if (σ104.1 5 (tn x1)) = 0 then
B_X6_prepareFault_46 x1 x2 σ104
else
some (σ104, (0 : Int32))))))))
def F_X6_prepare (σ : RS) (x1 : Int32) (x2 : Int32) : Option (RS × Int32) :=
bd (F_X6_prepareFault σ x1 x2) fun σ101 r102 =>
lt (rp σ101 0 0 r102) fun σ103 =>
(if (σ103.1 0 0) ≤ 0 then
bd (F_X6_doPrepare σ103 x1 x2) fun σ105 r106 =>
some (σ105, r106)
else
some (σ103, (0 : Int32)))
def B_X6_decide_62 (x1 : Int32) (x2 : Int32) (x3 : Int32)  (σ : RS) (w0 : Int32) (w1 : Int32) : Option (RS × Unit) :=
gd (inb w1 4) (gd (isb w0) (lt (rp σ 23 (tn w1) w0) fun σ115 =>
some (σ115, ())))
def B_X6_decide_57 (x1 : Int32) (x2 : Int32) (x3 : Int32)  (σ : RS) (w0 : Int32) : Option (RS × Unit) :=
B_X6_decide_62 x1 x2 x3 σ (1 : Int32) w0
def B_X6_decide_23 (x1 : Int32) (x2 : Int32) (x3 : Int32)  (σ : RS)  : Option (RS × Unit) :=
gd (inb x1 4) (
gd (inb x1 4) (lt (rp σ 20 (tn x1) ((σ.1 20 (tn x1)) + (1 : Int32))) fun σ109 =>
gd (inb x1 4) (
(if (σ109.1 23 (tn x1)) = 0 then
gd (inb x1 4) (
(if x3 = (σ109.1 22 (tn x1)) then
B_X6_decide_62 x1 x2 x3 σ109 (0 : Int32) x1
else
B_X6_decide_57 x1 x2 x3 σ109 x1))
else
B_X6_decide_57 x1 x2 x3 σ109 x1))))
def F_X6_decide (σ : RS) (x1 : Int32) (x2 : Int32) (x3 : Int32) : Option (RS × Unit) :=
gd (inb x1 4) (
(if (σ.1 20 (tn x1)) = 0 then
gd (inb x1 4) (lt (rp σ 21 (tn x1) x2) fun σ104 =>
gd (inb x1 4) (lt (rp σ104 22 (tn x1) x3) fun σ106 =>
B_X6_decide_23 x1 x2 x3 σ106))
else
B_X6_decide_23 x1 x2 x3 σ))
def B_X6_doAccept_181 (x1 : Int32) (x2 : Int32) (x3 : Int32) (x4 : Int32)  (σ : RS) (v7 : Int32) : Option (RS × Int32) :=
some (σ, v7)
def B_X6_doAccept_157 (x1 : Int32) (x2 : Int32) (x3 : Int32) (x4 : Int32) (self56 : RS → Int32 → Int32 → Int32 → Int32 → Option (RS × Int32)) (σ : RS) (v5 : Int32) (v6 : Int32) (v7 : Int32) (v8 : Int32) : Option (RS × Int32) :=
lt (v8 + 1) fun x135 =>
self56 σ v5 v6 v7 x135
def B_X6_doAccept_144 (x1 : Int32) (x2 : Int32) (x3 : Int32) (x4 : Int32) (self56 : RS → Int32 → Int32 → Int32 → Int32 → Option (RS × Int32)) (σ : RS) (v5 : Int32) (v6 : Int32) (v7 : Int32) (v8 : Int32) : Option (RS × Int32) :=
(if (σ.1 3 0) = 0 then
B_X6_doAccept_157 x1 x2 x3 x4 self56 σ v5 v6 v7 v8
else
bd (F_X6_flush σ v8) fun σ137 _ =>
B_X6_doAccept_157 x1 x2 x3 x4 self56 σ137 v5 v6 v7 v8)
def B_X6_doAccept_56 (x1 : Int32) (x2 : Int32) (x3 : Int32) (x4 : Int32)  : Nat → RS → Int32 → Int32 → Int32 → Int32 → Option (RS × Int32) := lo5 fun self56 (σ : RS) (v5 : Int32) (v6 : Int32) (v7 : Int32) (v8 : Int32) =>
(if (σ.1 1 0) ≤ v8 then
bd (F_X6_q σ) fun σ115 r116 =>
(if v7 < r116 then
B_X6_doAccept_181 x1 x2 x3 x4 σ115 v7
else
bd (F_X6_decide σ115 x2 v5 v6) fun σ118 _ =>
B_X6_doAccept_181 x1 x2 x3 x4 σ118 v7)
else
bd (F_X6_gets σ v8 x4) fun σ120 r121 =>
(if r121 = 0 then
B_X6_doAccept_157 x1 x2 x3 x4 self56 σ120 v5 v6 v7 v8
else
lt (rp σ120 24 0 ((σ120.1 24 0) + (1 : Int32))) fun σ123 =>
gd (inb v8 7) (
(if v5 < (σ123.1 11 (tn v8)) then
gd (inb v8 7) (
bd (F_X6_tell σ123 x1 (σ123.1 11 (tn v8))) fun σ127 _ =>
gd (inb x1 7) (lt (rp σ127 18 (tn x1) (-1 : Int32)) fun σ130 =>
B_X6_doAccept_144 x1 x2 x3 x4 self56 σ130 v5 v6 v7 v8))
else
bd (F_X6_write σ123 v8 x2 v5 v6) fun σ131 _ =>
lt (v7 + 1) fun x133 =>
lt (rp σ131 25 0 ((σ131.1 25 0) + (1 : Int32))) fun σ134 =>
B_X6_doAccept_144 x1 x2 x3 x4 self56 σ134 v5 v6 x133 v8))))
def B_X6_doAccept_36 (x1 : Int32) (x2 : Int32) (x3 : Int32) (x4 : Int32)  (σ : RS) (v5 : Int32) (w0 : Int32) : Option (RS × Int32) :=
bd (F_X6_at σ x1 x2) fun σ110 r111 =>
gd (inb r111 28) (lt (rp σ110 19 (tn r111) w0) fun σ113 =>
B_X6_doAccept_56 x1 x2 x3 x4 4096 σ113 v5 w0 (0 : Int32) (0 : Int32))
def F_X6_doAccept (σ : RS) (x1 : Int32) (x2 : Int32) (x3 : Int32) (x4 : Int32) : Option (RS × Int32) :=
gd (inb x1 7) (
lt (σ.1 18 (tn x1)) fun x102 =>
bd (F_X6_at σ x1 x2) fun σ103 r104 =>
gd (inb r104 28) (
(if (σ103.1 19 (tn r104)) = (-1 : Int32) then
B_X6_doAccept_36 x1 x2 x3 x4 σ103 x102 x3
else
bd (F_X6_at σ103 x1 x2) fun σ107 r108 =>
gd (inb r108 28) (
B_X6_doAccept_36 x1 x2 x3 x4 σ107 x102 (σ107.1 19 (tn r108))))))
def B_X6_acceptFault_51 (x1 : Int32) (x2 : Int32) (x3 : Int32) (x4 : Int32)  (σ : RS)  : Option (RS × Int32) :=
some (σ, (2 : Int32))
def B_X6_acceptFault_21 (x1 : Int32) (x2 : Int32) (x3 : Int32) (x4 : Int32)  (σ : RS) (w0 : Int32) : Option (RS × Int32) :=
(if w0 = 0 then
some (σ, (1 : Int32))
else
bd (F_X6_within σ x3 (0 : Int32) (9 : Int32)) fun σ108 r109 =>
(if r109 = 0 then
B_X6_acceptFault_51 x1 x2 x3 x4 σ108
else
bd (F_X6_isSet σ108 x4) fun σ111 r112 =>
(if r112 = 0 then
B_X6_acceptFault_51 x1 x2 x3 x4 σ111
else
gd (inb x1 7) (
(if (σ111.1 18 (tn x1)) = (-1 : Int32) then
some (σ111, (3 : Int32))
else
some (σ111, (0 : Int32)))))))
def B_X6_acceptFault_20 (x1 : Int32) (x2 : Int32) (x3 : Int32) (x4 : Int32)  (σ : RS)  : Option (RS × Int32) :=
B_X6_acceptFault_21 x1 x2 x3 x4 σ (0 : Int32)
def F_X6_acceptFault (σ : RS) (x1 : Int32) (x2 : Int32) (x3 : Int32) (x4 : Int32) : Option (RS × Int32) :=
bd (F_X6_isNode σ x1) fun σ101 r102 =>
(if r102 = 0 then
B_X6_acceptFault_20 x1 x2 x3 x4 σ101
else
bd (F_X6_isSlot σ101 x2) fun σ104 r105 =>
(if r105 = 0 then
B_X6_acceptFault_20 x1 x2 x3 x4 σ104
else
B_X6_acceptFault_21 x1 x2 x3 x4 σ104 (1 : Int32)))
def F_X6_accept (σ : RS) (x1 : Int32) (x2 : Int32) (x3 : Int32) (x4 : Int32) : Option (RS × Int32) :=
bd (F_X6_acceptFault σ x1 x2 x3 x4) fun σ101 r102 =>
lt (rp σ101 0 0 r102) fun σ103 =>
(if (σ103.1 0 0) ≤ 0 then
bd (F_X6_doAccept σ103 x1 x2 x3 x4) fun σ105 r106 =>
some (σ105, r106)
else
some (σ103, (0 : Int32)))
def F_X6_upFault (σ : RS) (x1 : Int32) (x2 : Int32) : Option (RS × Int32) :=
bd (F_X6_isNode σ x1) fun σ101 r102 =>
(if r102 = 0 then
some (σ101, (1 : Int32))
else
gd (inb x1 7) (
(if (σ101.1 4 (tn x1)) = x2 then
some (σ101, (0 : Int32))
else
some (σ101, (2 : Int32)))))
def F_X6_doBarrier (σ : RS) (x1 : Int32) : Option (RS × Int32) :=
gd (inb x1 7) (
lt (σ.1 14 (tn x1)) fun x102 =>
bd (F_X6_flush σ x1) fun σ103 _ =>
some (σ103, x102))
def F_X6_barrier (σ : RS) (x1 : Int32) : Option (RS × Int32) :=
bd (F_X6_upFault σ x1 (1 : Int32)) fun σ101 r102 =>
lt (rp σ101 0 0 r102) fun σ103 =>
(if (σ103.1 0 0) ≤ 0 then
bd (F_X6_doBarrier σ103 x1) fun σ105 r106 =>
some (σ105, r106)
else
some (σ103, (0 : Int32)))
def B_X6_doCrash_20 (x1 : Int32) (x2 : Int32)  (σ : RS) (w0 : Int32) : Option (RS × Int32) :=
gd (inb x1 7) (
gd (inb x1 7) (lt (rp σ 14 (tn x1) ((σ.1 14 (tn x1)) - w0)) fun σ106 =>
bd (F_X6_flush σ106 x1) fun σ107 _ =>
bd (F_X6_showDisk σ107 x1) fun σ109 _ =>
gd (inb x1 7) (lt (rp σ109 4 (tn x1) (0 : Int32)) fun σ112 =>
gd (inb x1 7) (lt (rp σ112 18 (tn x1) (-1 : Int32)) fun σ114 =>
gd (inb x1 7) (lt (rp σ114 7 (tn x1) (0 : Int32)) fun σ116 =>
lt (rp σ116 26 0 ((σ116.1 26 0) + w0)) fun σ117 =>
some (σ117, w0))))))
def F_X6_doCrash (σ : RS) (x1 : Int32) (x2 : Int32) : Option (RS × Int32) :=
gd (inb x1 7) (
(if (σ.1 14 (tn x1)) ≤ x2 then
gd (inb x1 7) (
B_X6_doCrash_20 x1 x2 σ (σ.1 14 (tn x1)))
else
B_X6_doCrash_20 x1 x2 σ x2))
def B_X6_crash_35 (x1 : Int32) (x2 : Int32)  (σ : RS) (w0 : Int32) : Option (RS × Int32) :=
lt (rp σ 0 0 w0) fun σ107 =>
(if (σ107.1 0 0) ≤ 0 then
bd (F_X6_doCrash σ107 x1 x2) fun σ109 r110 =>
some (σ109, r110)
else
some (σ107, (0 : Int32)))
def F_X6_crash (σ : RS) (x1 : Int32) (x2 : Int32) : Option (RS × Int32) :=
bd (F_X6_isNode σ x1) fun σ101 r102 =>
(if r102 = 0 then
B_X6_crash_35 x1 x2 σ101 (1 : Int32)
else
(if 0 ≤ x2 then
gd (inb x1 7) (
(if (σ101.1 4 (tn x1)) = 0 then
B_X6_crash_35 x1 x2 σ101 (3 : Int32)
else
B_X6_crash_35 x1 x2 σ101 (0 : Int32)))
else
B_X6_crash_35 x1 x2 σ101 (2 : Int32)))
def B_X6_doWipe_31 (x1 : Int32) (self4 : RS → Int32 → Int32 → Option (RS × Int32)) (σ : RS) (v3 : Int32) (w0 : Int32) (w1 : Int32) : Option (RS × Int32) :=
lt (w1 + w0) fun x110 =>
lt (v3 + 1) fun x111 =>
self4 σ x110 x111
def B_X6_doWipe_4 (x1 : Int32)  : Nat → RS → Int32 → Int32 → Option (RS × Int32) := lo3 fun self4 (σ : RS) (v2 : Int32) (v3 : Int32) =>
(if (σ.1 2 0) ≤ v3 then
bd (F_X6_wipeDisk σ x1) fun σ102 _ =>
gd (inb x1 7) (lt (rp σ102 5 (tn x1) (0 : Int32)) fun σ105 =>
some (σ105, v2))
else
bd (F_X6_at σ x1 v3) fun σ106 r107 =>
gd (inb r107 28) (
(if (σ106.1 9 (tn r107)) ≤ 0 then
B_X6_doWipe_31 x1 self4 σ106 v3 (0 : Int32) v2
else
B_X6_doWipe_31 x1 self4 σ106 v3 (1 : Int32) v2)))
def F_X6_doWipe (σ : RS) (x1 : Int32) : Option (RS × Int32) :=
B_X6_doWipe_4 x1 4096 σ (0 : Int32) (0 : Int32)
def F_X6_wipe (σ : RS) (x1 : Int32) : Option (RS × Int32) :=
bd (F_X6_upFault σ x1 (0 : Int32)) fun σ101 r102 =>
lt (rp σ101 0 0 r102) fun σ103 =>
(if (σ103.1 0 0) ≤ 0 then
bd (F_X6_doWipe σ103 x1) fun σ105 r106 =>
some (σ105, r106)
else
some (σ103, (0 : Int32)))
def F_X6_doRestart (σ : RS) (x1 : Int32) : Option (RS × Int32) :=
gd (inb x1 7) (lt (rp σ 4 (tn x1) (1 : Int32)) fun σ102 =>
gd (inb x1 7) (
gd (inb x1 7) (lt (rp σ102 6 (tn x1) ((σ102.1 6 (tn x1)) + (1 : Int32))) fun σ105 =>
gd (inb x1 7) (
some (σ105, (σ105.1 6 (tn x1)))))))
def F_X6_restart (σ : RS) (x1 : Int32) : Option (RS × Int32) :=
bd (F_X6_upFault σ x1 (0 : Int32)) fun σ101 r102 =>
lt (rp σ101 0 0 r102) fun σ103 =>
(if (σ103.1 0 0) ≤ 0 then
bd (F_X6_doRestart σ103 x1) fun σ105 r106 =>
some (σ105, r106)
else
some (σ103, (0 : Int32)))
def B_X6_read_128 (x1 : Int32) (x2 : Int32) (self49 : RS → Int32 → Option (RS × Unit)) (σ : RS) (v3 : Int32) : Option (RS × Unit) :=
lt (v3 + 1) fun x134 =>
self49 σ x134
def B_X6_read_49 (x1 : Int32) (x2 : Int32)  : Nat → RS → Int32 → Option (RS × Unit) := lo2 fun self49 (σ : RS) (v3 : Int32) =>
(if (σ.1 2 0) ≤ v3 then
some (σ, ())
else
bd (F_X6_at σ x2 v3) fun σ112 r113 =>
gd (inb r113 28) (
gd (inb v3 4) (
(if (σ112.1 12 (tn r113)) ≤ (σ112.1 29 (tn v3)) then
B_X6_read_128 x1 x2 self49 σ112 v3
else
bd (F_X6_at σ112 x2 v3) fun σ117 r118 =>
gd (inb r118 28) (
gd (inb v3 4) (lt (rp σ117 29 (tn v3) (σ117.1 12 (tn r118))) fun σ121 =>
bd (F_X6_at σ121 x1 v3) fun σ122 r123 =>
gd (inb v3 4) (
gd (inb r123 28) (lt (rp σ122 9 (tn r123) (σ122.1 29 (tn v3))) fun σ126 =>
bd (F_X6_at σ126 x1 v3) fun σ127 r128 =>
bd (F_X6_at σ127 x2 v3) fun σ129 r130 =>
gd (inb r130 28) (
gd (inb r128 28) (lt (rp σ129 10 (tn r128) (σ129.1 13 (tn r130))) fun σ133 =>
B_X6_read_128 x1 x2 self49 σ133 v3))))))))))
def B_X6_read_35 (x1 : Int32) (x2 : Int32)  (σ : RS) (w0 : Int32) (w1 : Int32) : Option (RS × Unit) :=
gd (inb w1 7) (lt (rp σ 8 (tn w1) w0) fun σ107 =>
gd (inb x2 7) (
bd (F_X6_tell σ107 x1 (σ107.1 11 (tn x2))) fun σ109 _ =>
B_X6_read_49 x1 x2 4096 σ109 (0 : Int32)))
def F_X6_read (σ : RS) (x1 : Int32) (x2 : Int32) : Option (RS × Unit) :=
gd (inb x2 7) (
gd (inb x1 7) (
(if (σ.1 11 (tn x2)) ≤ (σ.1 8 (tn x1)) then
gd (inb x1 7) (
B_X6_read_35 x1 x2 σ (σ.1 8 (tn x1)) x1)
else
gd (inb x2 7) (
B_X6_read_35 x1 x2 σ (σ.1 11 (tn x2)) x1))))
def B_X6_doJoin_119 (x1 : Int32) (x2 : Int32) (self87 : RS → Int32 → Int32 → Option (RS × Int32)) (σ : RS) (v3 : Int32) (v4 : Int32) : Option (RS × Int32) :=
lt (v4 + 1) fun x128 =>
self87 σ v3 x128
def B_X6_doJoin_87 (x1 : Int32) (x2 : Int32)  : Nat → RS → Int32 → Int32 → Option (RS × Int32) := lo3 fun self87 (σ : RS) (v3 : Int32) (v4 : Int32) =>
(if (σ.1 1 0) ≤ v4 then
gd (inb x1 7) (lt (rp σ 5 (tn x1) (1 : Int32)) fun σ119 =>
bd (F_X6_showDisk σ119 x1) fun σ120 _ =>
some (σ120, v3))
else
(if v4 = x1 then
B_X6_doJoin_119 x1 x2 self87 σ v3 v4
else
bd (F_X6_gets σ v4 x2) fun σ123 r124 =>
(if r124 = 0 then
B_X6_doJoin_119 x1 x2 self87 σ123 v3 v4
else
bd (F_X6_read σ123 x1 v4) fun σ126 _ =>
B_X6_doJoin_119 x1 x2 self87 σ126 v3 v4)))
def B_X6_doJoin_64 (x1 : Int32) (x2 : Int32)  : Nat → RS → Int32 → Int32 → Option (RS × Int32) := lo3 fun self64 (σ : RS) (v3 : Int32) (v4 : Int32) =>
(if (4 : Int32) ≤ v4 then
B_X6_doJoin_87 x1 x2 4096 σ v3 (0 : Int32)
else
gd (inb v4 4) (lt (rp σ 29 (tn v4) (0 : Int32)) fun σ113 =>
lt (v4 + 1) fun x114 =>
self64 σ113 v3 x114))
def B_X6_doJoin_36 (x1 : Int32) (x2 : Int32) (self5 : RS → Int32 → Int32 → Option (RS × Int32)) (σ : RS) (v4 : Int32) (w0 : Int32) (w1 : Int32) : Option (RS × Int32) :=
lt (w1 + w0) fun x115 =>
lt (v4 + 1) fun x116 =>
self5 σ x115 x116
def B_X6_doJoin_35 (x1 : Int32) (x2 : Int32) (self5 : RS → Int32 → Int32 → Option (RS × Int32)) (σ : RS) (v4 : Int32) (w0 : Int32) : Option (RS × Int32) :=
B_X6_doJoin_36 x1 x2 self5 σ v4 (0 : Int32) w0
def B_X6_doJoin_5 (x1 : Int32) (x2 : Int32)  : Nat → RS → Int32 → Int32 → Option (RS × Int32) := lo3 fun self5 (σ : RS) (v3 : Int32) (v4 : Int32) =>
(if (σ.1 1 0) ≤ v4 then
bd (F_X6_q σ) fun σ102 r103 =>
(if r103 ≤ v3 then
gd (inb x1 7) (lt (rp σ102 8 (tn x1) (0 : Int32)) fun σ106 =>
B_X6_doJoin_64 x1 x2 4096 σ106 v3 (0 : Int32))
else
some (σ102, v3))
else
(if v4 = x1 then
B_X6_doJoin_35 x1 x2 self5 σ v4 v3
else
bd (F_X6_gets σ v4 x2) fun σ108 r109 =>
(if r109 = 0 then
B_X6_doJoin_35 x1 x2 self5 σ108 v4 v3
else
B_X6_doJoin_36 x1 x2 self5 σ108 v4 (1 : Int32) v3)))
def F_X6_doJoin (σ : RS) (x1 : Int32) (x2 : Int32) : Option (RS × Int32) :=
B_X6_doJoin_5 x1 x2 4096 σ (0 : Int32) (0 : Int32)
def B_X6_joinFault_46 (x1 : Int32) (x2 : Int32)  (σ : RS)  : Option (RS × Int32) :=
some (σ, (3 : Int32))
def F_X6_joinFault (σ : RS) (x1 : Int32) (x2 : Int32) : Option (RS × Int32) :=
bd (F_X6_isNode σ x1) fun σ101 r102 =>
(if r102 = 0 then
some (σ101, (1 : Int32))
else
bd (F_X6_isSet σ101 x2) fun σ104 r105 =>
(if r105 = 0 then
some (σ104, (2 : Int32))
else
gd (inb x1 7) (
(if (σ104.1 4 (tn x1)) = 0 then
B_X6_joinFault_46 x1 x2 σ104
else
gd (inb x1 7) (
(if (σ104.1 5 (tn x1)) = 0 then
some (σ104, (0 : Int32))
else
B_X6_joinFault_46 x1 x2 σ104))))))
def F_X6_rejoin (σ : RS) (x1 : Int32) (x2 : Int32) : Option (RS × Int32) :=
bd (F_X6_joinFault σ x1 x2) fun σ101 r102 =>
lt (rp σ101 0 0 r102) fun σ103 =>
(if (σ103.1 0 0) ≤ 0 then
bd (F_X6_doJoin σ103 x1 x2) fun σ105 r106 =>
some (σ105, r106)
else
some (σ103, (0 : Int32)))
def B_X6_append_30 (x1 : Int32)  (σ : RS) (w0 : Int32) : Option (RS × Int32) :=
lt (rp σ 0 0 w0) fun σ105 =>
(if (σ105.1 0 0) ≤ 0 then
gd (inb (σ105.1 27 0) 60) (lt (rp σ105 28 (tn (σ105.1 27 0)) x1) fun σ108 =>
lt (rp σ108 27 0 ((σ108.1 27 0) + (1 : Int32))) fun σ109 =>
some (σ109, (σ109.1 27 0)))
else
some (σ105, (0 : Int32)))
def F_X6_append (σ : RS) (x1 : Int32) : Option (RS × Int32) :=
bd (F_X6_within σ x1 (32 : Int32) (126 : Int32)) fun σ101 r102 =>
(if r102 = 0 then
B_X6_append_30 x1 σ101 (1 : Int32)
else
(if (σ101.1 27 0) = (60 : Int32) then
B_X6_append_30 x1 σ101 (2 : Int32)
else
B_X6_append_30 x1 σ101 (0 : Int32)))
def F_X6_clearInput (σ : RS)  : Option (RS × Int32) :=
lt (rp σ 0 0 (0 : Int32)) fun σ101 =>
lt (σ101.1 27 0) fun x102 =>
lt (rp σ101 27 0 (0 : Int32)) fun σ103 =>
some (σ103, x102)
def F_X6_put (σ : RS) (x1 : Int32) (x2 : Int32) : Option (RS × Unit) :=
gd (inb (((5 : Int32) * (σ.1 31 0)) + x1) 150) (lt (rp σ 32 (tn (((5 : Int32) * (σ.1 31 0)) + x1)) x2) fun σ102 =>
some (σ102, ()))
def B_X6_go_13 (x1 : Int32) (x2 : Int32)  (σ : RS) (w0 : Int32) : Option (RS × Int32) :=
lt (rp σ 30 0 w0) fun σ102 =>
gd (isb x1) (some (σ102, x1))
def F_X6_go (σ : RS) (x1 : Int32) (x2 : Int32) : Option (RS × Int32) :=
(if x1 = 0 then
B_X6_go_13 x1 x2 σ (σ.1 30 0)
else
B_X6_go_13 x1 x2 σ x2)
def B_X6_begins_47 (x1 : Int32)  (σ : RS) (w0 : Int32) : Option (RS × Int32) :=
bd (F_X6_put σ (0 : Int32) x1) fun σ108 _ =>
bd (F_X6_put σ108 (4 : Int32) (0 : Int32)) fun σ110 _ =>
lt (rp σ110 33 0 (-1 : Int32)) fun σ112 =>
bd (F_X6_go σ112 w0 (1 : Int32)) fun σ113 r114 =>
gd (isb r114) (some (σ113, r114))
def B_X6_begins_42 (x1 : Int32)  (σ : RS)  : Option (RS × Int32) :=
B_X6_begins_47 x1 σ (1 : Int32)
def F_X6_begins (σ : RS) (x1 : Int32) : Option (RS × Int32) :=
(if x1 = (112 : Int32) then
B_X6_begins_42 x1 σ
else
(if x1 = (97 : Int32) then
B_X6_begins_42 x1 σ
else
(if x1 = (102 : Int32) then
B_X6_begins_42 x1 σ
else
(if x1 = (99 : Int32) then
B_X6_begins_42 x1 σ
else
(if x1 = (119 : Int32) then
B_X6_begins_42 x1 σ
else
(if x1 = (114 : Int32) then
B_X6_begins_42 x1 σ
else
(if x1 = (106 : Int32) then
B_X6_begins_42 x1 σ
else
B_X6_begins_47 x1 σ (0 : Int32))))))))
def B_X6_takesNode_54 (x1 : Int32)  (σ : RS) (w0 : Int32) (w1 : Int32) : Option (RS × Int32) :=
bd (F_X6_go σ w1 w0) fun σ110 r111 =>
gd (isb r111) (some (σ110, r111))
def B_X6_takesNode_48 (x1 : Int32)  (σ : RS) (w0 : Int32) : Option (RS × Int32) :=
B_X6_takesNode_54 x1 σ (9 : Int32) w0
def F_X6_takesNode (σ : RS) (x1 : Int32) : Option (RS × Int32) :=
gd (inb ((5 : Int32) * (σ.1 31 0)) 150) (
lt (σ.1 32 (tn ((5 : Int32) * (σ.1 31 0)))) fun x102 =>
bd (F_X6_put σ (1 : Int32) (x1 - (48 : Int32))) fun σ103 _ =>
bd (F_X6_isNode σ103 (x1 - (48 : Int32))) fun σ105 r106 =>
(if x102 = (102 : Int32) then
B_X6_takesNode_48 x1 σ105 r106
else
(if x102 = (119 : Int32) then
B_X6_takesNode_48 x1 σ105 r106
else
(if x102 = (114 : Int32) then
B_X6_takesNode_48 x1 σ105 r106
else
B_X6_takesNode_54 x1 σ105 (2 : Int32) r106))))
def B_X6_takesMark_75 (x1 : Int32)  (σ : RS) (w0 : Int32) : Option (RS × Int32) :=
bd (F_X6_go σ w0 (7 : Int32)) fun σ108 r109 =>
gd (isb r109) (some (σ108, r109))
def B_X6_takesMark_55 (x1 : Int32)  (σ : RS) (w0 : Int32) : Option (RS × Int32) :=
bd (F_X6_go σ w0 (8 : Int32)) fun σ111 r112 =>
gd (isb r112) (some (σ111, r112))
def B_X6_takesMark_30 (x1 : Int32)  (σ : RS) (w0 : Int32) : Option (RS × Int32) :=
bd (F_X6_go σ w0 (3 : Int32)) fun σ114 r115 =>
gd (isb r115) (some (σ114, r115))
def F_X6_takesMark (σ : RS) (x1 : Int32) : Option (RS × Int32) :=
gd (inb ((5 : Int32) * (σ.1 31 0)) 150) (
lt (σ.1 32 (tn ((5 : Int32) * (σ.1 31 0)))) fun x102 =>
(if x102 = (97 : Int32) then
(if x1 = (115 : Int32) then
B_X6_takesMark_30 x1 σ (1 : Int32)
else
B_X6_takesMark_30 x1 σ (0 : Int32))
else
(if x102 = (99 : Int32) then
(if x1 = (45 : Int32) then
B_X6_takesMark_55 x1 σ (1 : Int32)
else
B_X6_takesMark_55 x1 σ (0 : Int32))
else
(if x1 = (62 : Int32) then
B_X6_takesMark_75 x1 σ (1 : Int32)
else
B_X6_takesMark_75 x1 σ (0 : Int32)))))
def B_X6_takesReached_55 (x1 : Int32)  (σ : RS) (v3 : Int32) : Option (RS × Int32) :=
gd (isb v3) (some (σ, v3))
def B_X6_takesReached_26 (x1 : Int32)  (σ : RS) (v2 : Int32) (w0 : Int32) : Option (RS × Int32) :=
(if w0 = 0 then
B_X6_takesReached_55 x1 σ w0
else
lt (rp σ 33 0 v2) fun σ107 =>
lt (((5 : Int32) * (σ107.1 31 0)) + (4 : Int32)) fun x108 =>
gd (inb x108 150) (
gd (inb x108 150) (lt (rp σ107 32 (tn x108) ((σ107.1 32 (tn x108)) ||| ((1 : Int32) <<< (v2 &&& 31)))) fun σ111 =>
B_X6_takesReached_55 x1 σ111 w0)))
def B_X6_takesReached_25 (x1 : Int32)  (σ : RS) (v2 : Int32) : Option (RS × Int32) :=
B_X6_takesReached_26 x1 σ v2 (0 : Int32)
def F_X6_takesReached (σ : RS) (x1 : Int32) : Option (RS × Int32) :=
lt (x1 - (48 : Int32)) fun x101 =>
bd (F_X6_isNode σ x101) fun σ102 r103 =>
(if r103 = 0 then
B_X6_takesReached_25 x1 σ102 x101
else
(if x101 ≤ (σ102.1 33 0) then
B_X6_takesReached_25 x1 σ102 x101
else
B_X6_takesReached_26 x1 σ102 x101 (1 : Int32)))
def B_X6_takesFigure_78 (x1 : Int32)  (σ : RS) (w0 : Int32) (w1 : Int32) : Option (RS × Int32) :=
bd (F_X6_go σ w1 w0) fun σ111 r112 =>
gd (isb r112) (some (σ111, r112))
def B_X6_takesFigure_48 (x1 : Int32)  (σ : RS) (w0 : Int32) : Option (RS × Int32) :=
(if (σ.1 30 0) = (3 : Int32) then
B_X6_takesFigure_78 x1 σ (4 : Int32) w0
else
(if (σ.1 30 0) = (5 : Int32) then
B_X6_takesFigure_78 x1 σ (6 : Int32) w0
else
B_X6_takesFigure_78 x1 σ (9 : Int32) w0))
def B_X6_takesFigure_14 (x1 : Int32)  (σ : RS) (w0 : Int32) : Option (RS × Int32) :=
bd (F_X6_put σ w0 (x1 - (48 : Int32))) fun σ102 _ =>
(if (σ102.1 30 0) = (3 : Int32) then
bd (F_X6_isSlot σ102 (x1 - (48 : Int32))) fun σ107 r108 =>
B_X6_takesFigure_48 x1 σ107 r108
else
bd (F_X6_within σ102 x1 (48 : Int32) (57 : Int32)) fun σ105 r106 =>
B_X6_takesFigure_48 x1 σ105 r106)
def F_X6_takesFigure (σ : RS) (x1 : Int32) : Option (RS × Int32) :=
(if (σ.1 30 0) = (3 : Int32) then
B_X6_takesFigure_14 x1 σ (2 : Int32)
else
B_X6_takesFigure_14 x1 σ (3 : Int32))
def B_X6_mayEnd_30   (σ : RS)  : Option (RS × Int32) :=
some (σ, (0 : Int32))
def B_X6_mayEnd_26   (σ : RS)  : Option (RS × Int32) :=
some (σ, (1 : Int32))
def F_X6_mayEnd (σ : RS)  : Option (RS × Int32) :=
(if (σ.1 30 0) = (9 : Int32) then
B_X6_mayEnd_26 σ
else
(if (σ.1 30 0) = (7 : Int32) then
(if (σ.1 33 0) = (-1 : Int32) then
B_X6_mayEnd_30 σ
else
B_X6_mayEnd_26 σ)
else
B_X6_mayEnd_30 σ))
def B_X6_takes_135 (x1 : Int32)  (σ : RS) (w0 : Int32) : Option (RS × Int32) :=
bd (F_X6_go σ w0 (7 : Int32)) fun σ149 r150 =>
gd (isb r150) (some (σ149, r150))
def B_X6_takes_118 (x1 : Int32)  (σ : RS) (w0 : Int32) : Option (RS × Int32) :=
bd (F_X6_go σ w0 (5 : Int32)) fun σ146 r147 =>
gd (isb r147) (some (σ146, r147))
def B_X6_takes_30 (x1 : Int32)  (σ : RS)  : Option (RS × Int32) :=
lt (σ.1 30 0) fun x109 =>
(if x109 = 0 then
bd (F_X6_begins σ x1) fun σ111 r112 =>
gd (isb r112) (some (σ111, r112))
else
(if x109 = 1 then
bd (F_X6_takesNode σ x1) fun σ115 r116 =>
gd (isb r116) (some (σ115, r116))
else
(if x109 = 2 then
bd (F_X6_takesMark σ x1) fun σ119 r120 =>
gd (isb r120) (some (σ119, r120))
else
(if x109 = 3 then
bd (F_X6_takesFigure σ x1) fun σ123 r124 =>
gd (isb r124) (some (σ123, r124))
else
(if x109 = 4 then
(if x1 = (61 : Int32) then
B_X6_takes_118 x1 σ (1 : Int32)
else
B_X6_takes_118 x1 σ (0 : Int32))
else
(if x109 = 5 then
bd (F_X6_takesFigure σ x1) fun σ129 r130 =>
gd (isb r130) (some (σ129, r130))
else
(if x109 = 6 then
(if x1 = (62 : Int32) then
B_X6_takes_135 x1 σ (1 : Int32)
else
B_X6_takes_135 x1 σ (0 : Int32))
else
(if x109 = 7 then
bd (F_X6_takesReached σ x1) fun σ135 r136 =>
gd (isb r136) (some (σ135, r136))
else
(if x109 = 8 then
bd (F_X6_takesFigure σ x1) fun σ139 r140 =>
gd (isb r140) (some (σ139, r140))
else
(if x109 = 9 then
some (σ, (0 : Int32))
else
bd (F_X6_takesFigure σ x1) fun σ143 r144 =>
gd (isb r144) (some (σ143, r144))))))))))))
def F_X6_takes (σ : RS) (x1 : Int32) : Option (RS × Int32) :=
(if x1 = (59 : Int32) then
bd (F_X6_mayEnd σ) fun σ102 r103 =>
(if r103 = 0 then
B_X6_takes_30 x1 σ102
else
lt (rp σ102 31 0 ((σ102.1 31 0) + (1 : Int32))) fun σ105 =>
bd (F_X6_go σ105 (1 : Int32) (0 : Int32)) fun σ106 r107 =>
gd (isb r107) (some (σ106, r107)))
else
B_X6_takes_30 x1 σ)
def B_X6_rightLength_39   (σ : RS) (v1 : Int32) : Option (RS × Int32) :=
some (σ, v1)
def B_X6_rightLength_12   : Nat → RS → Int32 → Option (RS × Int32) := lo2 fun self12 (σ : RS) (v1 : Int32) =>
(if (σ.1 27 0) ≤ v1 then
B_X6_rightLength_39 σ v1
else
gd (inb v1 60) (
bd (F_X6_takes σ (σ.1 28 (tn v1))) fun σ105 r106 =>
(if r106 = 0 then
B_X6_rightLength_39 σ105 v1
else
lt (v1 + 1) fun x108 =>
self12 σ105 x108)))
def F_X6_rightLength (σ : RS)  : Option (RS × Int32) :=
lt (rp σ 30 0 (0 : Int32)) fun σ101 =>
lt (rp σ101 31 0 (0 : Int32)) fun σ102 =>
B_X6_rightLength_12 4096 σ102 (0 : Int32)
def F_X6_firstError (σ : RS)  : Option (RS × Int32) :=
lt (rp σ 0 0 (0 : Int32)) fun σ101 =>
bd (F_X6_rightLength σ101) fun σ102 r103 =>
some (σ102, r103)
def B_X6_does_302 (x1 : Int32)  (σ : RS)  : Option (RS × Int32) :=
some (σ, (1 : Int32))
def B_X6_does_144 (x1 : Int32)  (σ : RS) (v2 : Int32) (v3 : Int32) (v4 : Int32) (w0 : Int32) : Option (RS × Int32) :=
(if w0 = 0 then
some (σ, (0 : Int32))
else
(if v2 = 97 then
gd (inb (x1 + (2 : Int32)) 150) (
gd (inb (x1 + (3 : Int32)) 150) (
bd (F_X6_doAccept σ v3 (σ.1 32 (tn (x1 + (2 : Int32)))) (σ.1 32 (tn (x1 + (3 : Int32)))) v4) fun σ130 r131 =>
B_X6_does_302 x1 σ130))
else
(if v2 = 99 then
gd (inb (x1 + (3 : Int32)) 150) (
bd (F_X6_doCrash σ v3 (σ.1 32 (tn (x1 + (3 : Int32))))) fun σ134 r135 =>
B_X6_does_302 x1 σ134)
else
(if v2 = 102 then
bd (F_X6_doBarrier σ v3) fun σ137 r138 =>
B_X6_does_302 x1 σ137
else
(if v2 = 112 then
bd (F_X6_doPrepare σ v3 v4) fun σ140 r141 =>
B_X6_does_302 x1 σ140
else
(if v2 = 114 then
bd (F_X6_doRestart σ v3) fun σ143 r144 =>
B_X6_does_302 x1 σ143
else
(if v2 = 119 then
bd (F_X6_doWipe σ v3) fun σ146 r147 =>
B_X6_does_302 x1 σ146
else
bd (F_X6_doJoin σ v3 v4) fun σ148 r149 =>
B_X6_does_302 x1 σ148)))))))
def B_X6_does_133 (x1 : Int32)  (σ : RS) (v2 : Int32) (v3 : Int32) (v4 : Int32) (w0 : Int32) (w1 : Int32) : Option (RS × Int32) :=
bd (F_X6_upFault σ w1 w0) fun σ123 r124 =>
(if r124 = 0 then
B_X6_does_144 x1 σ123 v2 v3 v4 (1 : Int32)
else
B_X6_does_144 x1 σ123 v2 v3 v4 (0 : Int32))
def B_X6_does_128 (x1 : Int32)  (σ : RS) (v2 : Int32) (v3 : Int32) (v4 : Int32) (w0 : Int32) : Option (RS × Int32) :=
B_X6_does_133 x1 σ v2 v3 v4 (1 : Int32) w0
def F_X6_does (σ : RS) (x1 : Int32) : Option (RS × Int32) :=
gd (inb x1 150) (
lt (σ.1 32 (tn x1)) fun x102 =>
gd (inb (x1 + (1 : Int32)) 150) (
lt (σ.1 32 (tn (x1 + (1 : Int32)))) fun x104 =>
gd (inb (x1 + (4 : Int32)) 150) (
lt (σ.1 32 (tn (x1 + (4 : Int32)))) fun x106 =>
(if x102 = (112 : Int32) then
bd (F_X6_prepareFault σ x104 x106) fun σ120 r121 =>
(if r121 = 0 then
B_X6_does_144 x1 σ120 x102 x104 x106 (1 : Int32)
else
B_X6_does_144 x1 σ120 x102 x104 x106 (0 : Int32))
else
(if x102 = (97 : Int32) then
gd (inb (x1 + (2 : Int32)) 150) (
gd (inb (x1 + (3 : Int32)) 150) (
bd (F_X6_acceptFault σ x104 (σ.1 32 (tn (x1 + (2 : Int32)))) (σ.1 32 (tn (x1 + (3 : Int32)))) x106) fun σ117 r118 =>
(if r118 = 0 then
B_X6_does_144 x1 σ117 x102 x104 x106 (1 : Int32)
else
B_X6_does_144 x1 σ117 x102 x104 x106 (0 : Int32))))
else
(if x102 = (106 : Int32) then
bd (F_X6_joinFault σ x104 x106) fun σ112 r113 =>
(if r113 = 0 then
B_X6_does_144 x1 σ112 x102 x104 x106 (1 : Int32)
else
B_X6_does_144 x1 σ112 x102 x104 x106 (0 : Int32))
else
(if x102 = (102 : Int32) then
B_X6_does_128 x1 σ x102 x104 x106 x104
else
(if x102 = (99 : Int32) then
B_X6_does_128 x1 σ x102 x104 x106 x104
else
B_X6_does_133 x1 σ x102 x104 x106 (0 : Int32) x104))))))))
def B_X6_load_84  (self60 : RS → Int32 → Int32 → Option (RS × Int32)) (σ : RS) (v3 : Int32) (w0 : Int32) (w1 : Int32) : Option (RS × Int32) :=
lt (w1 + w0) fun x116 =>
lt (v3 + 1) fun x117 =>
self60 σ x116 x117
def B_X6_load_60   : Nat → RS → Int32 → Int32 → Option (RS × Int32) := lo3 fun self60 (σ : RS) (v2 : Int32) (v3 : Int32) =>
(if (σ.1 31 0) ≤ v3 then
lt (rp σ 27 0 (0 : Int32)) fun σ112 =>
some (σ112, v2)
else
bd (F_X6_does σ ((5 : Int32) * v3)) fun σ113 r114 =>
(if r114 = 0 then
B_X6_load_84 self60 σ113 v3 (0 : Int32) v2
else
B_X6_load_84 self60 σ113 v3 (1 : Int32) v2))
def B_X6_load_34   (σ : RS) (w0 : Int32) : Option (RS × Int32) :=
lt (rp σ 0 0 w0) fun σ108 =>
(if (σ108.1 0 0) ≤ 0 then
lt (rp σ108 31 0 ((σ108.1 31 0) + (1 : Int32))) fun σ110 =>
B_X6_load_60 4096 σ110 (0 : Int32) (0 : Int32)
else
some (σ108, (0 : Int32)))
def B_X6_load_23   (σ : RS) (w0 : Int32) : Option (RS × Int32) :=
(if w0 = 0 then
B_X6_load_34 σ (1 : Int32)
else
B_X6_load_34 σ (0 : Int32))
def B_X6_load_22   (σ : RS)  : Option (RS × Int32) :=
B_X6_load_23 σ (0 : Int32)
def F_X6_load (σ : RS)  : Option (RS × Int32) :=
bd (F_X6_rightLength σ) fun σ101 r102 =>
(if r102 = (σ101.1 27 0) then
bd (F_X6_mayEnd σ101) fun σ104 r105 =>
(if r105 = 0 then
B_X6_load_22 σ104
else
B_X6_load_23 σ104 (1 : Int32))
else
B_X6_load_22 σ101)
def B_X6_holds_51 (x1 : Int32) (x2 : Int32)  (σ : RS)  : Option (RS × Int32) :=
some (σ, (0 : Int32))
def F_X6_holds (σ : RS) (x1 : Int32) (x2 : Int32) : Option (RS × Int32) :=
gd (inb x2 4) (
(if (σ.1 20 (tn x2)) ≤ 0 then
B_X6_holds_51 x1 x2 σ
else
bd (F_X6_at σ x1 x2) fun σ103 r104 =>
gd (inb r104 28) (
gd (inb x2 4) (
(if (σ103.1 13 (tn r104)) = (σ103.1 22 (tn x2)) then
bd (F_X6_at σ103 x1 x2) fun σ108 r109 =>
gd (inb r109 28) (
gd (inb x2 4) (
(if (σ108.1 12 (tn r109)) < (σ108.1 21 (tn x2)) then
B_X6_holds_51 x1 x2 σ108
else
some (σ108, (1 : Int32)))))
else
B_X6_holds_51 x1 x2 σ103)))))
def B_X6_holdsOnDisk_51 (x1 : Int32) (x2 : Int32)  (σ : RS)  : Option (RS × Int32) :=
some (σ, (0 : Int32))
def F_X6_holdsOnDisk (σ : RS) (x1 : Int32) (x2 : Int32) : Option (RS × Int32) :=
gd (inb x2 4) (
(if (σ.1 20 (tn x2)) ≤ 0 then
B_X6_holdsOnDisk_51 x1 x2 σ
else
bd (F_X6_at σ x1 x2) fun σ103 r104 =>
gd (inb r104 28) (
gd (inb x2 4) (
(if (σ103.1 10 (tn r104)) = (σ103.1 22 (tn x2)) then
bd (F_X6_at σ103 x1 x2) fun σ108 r109 =>
gd (inb r109 28) (
gd (inb x2 4) (
(if (σ108.1 9 (tn r109)) < (σ108.1 21 (tn x2)) then
B_X6_holdsOnDisk_51 x1 x2 σ108
else
some (σ108, (1 : Int32)))))
else
B_X6_holdsOnDisk_51 x1 x2 σ103)))))
def B_X6_holders_47 (x1 : Int32) (x2 : Int32) (self5 : RS → Int32 → Int32 → Option (RS × Int32)) (σ : RS) (v4 : Int32) (w0 : Int32) (w1 : Int32) : Option (RS × Int32) :=
lt (w1 + w0) fun x109 =>
lt (v4 + 1) fun x110 =>
self5 σ x109 x110
def B_X6_holders_46 (x1 : Int32) (x2 : Int32) (self5 : RS → Int32 → Int32 → Option (RS × Int32)) (σ : RS) (v4 : Int32) (w0 : Int32) : Option (RS × Int32) :=
B_X6_holders_47 x1 x2 self5 σ v4 (0 : Int32) w0
def B_X6_holders_42 (x1 : Int32) (x2 : Int32) (self5 : RS → Int32 → Int32 → Option (RS × Int32)) (σ : RS) (v4 : Int32) (w0 : Int32) : Option (RS × Int32) :=
B_X6_holders_47 x1 x2 self5 σ v4 (1 : Int32) w0
def B_X6_holders_5 (x1 : Int32) (x2 : Int32)  : Nat → RS → Int32 → Int32 → Option (RS × Int32) := lo3 fun self5 (σ : RS) (v3 : Int32) (v4 : Int32) =>
(if (σ.1 1 0) ≤ v4 then
some (σ, v3)
else
(if x2 = 0 then
bd (F_X6_holds σ v4 x1) fun σ103 r104 =>
(if r104 = 0 then
B_X6_holders_46 x1 x2 self5 σ103 v4 v3
else
B_X6_holders_42 x1 x2 self5 σ103 v4 v3)
else
bd (F_X6_holdsOnDisk σ v4 x1) fun σ106 r107 =>
(if r107 = 0 then
B_X6_holders_46 x1 x2 self5 σ106 v4 v3
else
B_X6_holders_42 x1 x2 self5 σ106 v4 v3)))
def F_X6_holders (σ : RS) (x1 : Int32) (x2 : Int32) : Option (RS × Int32) :=
B_X6_holders_5 x1 x2 4096 σ (0 : Int32) (0 : Int32)
def F_X6_protects (σ : RS) (x1 : Int32) : Option (RS × Int32) :=
bd (F_X6_q σ) fun σ101 r102 =>
(if r102 ≤ ((σ.1 1 0) - x1) then
some (σ101, (0 : Int32))
else
some (σ101, (1 : Int32)))
def B_X6_wouldHold_134 (x1 : Int32) (x2 : Int32) (x3 : Int32)  (σ : RS)  : Option (RS × Int32) :=
some (σ, (0 : Int32))
def B_X6_wouldHold_91 (x1 : Int32) (x2 : Int32) (x3 : Int32) (self31 : RS → Int32 → Int32 → Int32 → Option (RS × Int32)) (σ : RS) (v4 : Int32) (v6 : Int32) (w0 : Int32) : Option (RS × Int32) :=
lt (v6 + 1) fun x123 =>
self31 σ v4 w0 x123
def B_X6_wouldHold_66 (x1 : Int32) (x2 : Int32) (x3 : Int32) (self31 : RS → Int32 → Int32 → Int32 → Option (RS × Int32)) (σ : RS) (v5 : Int32) (v6 : Int32) (w0 : Int32) : Option (RS × Int32) :=
gd (inb v6 14336) (
(if (σ.1 15 (tn v6)) = x2 then
gd (inb v6 14336) (
B_X6_wouldHold_91 x1 x2 x3 self31 σ w0 v6 (σ.1 17 (tn v6)))
else
B_X6_wouldHold_91 x1 x2 x3 self31 σ w0 v6 v5))
def B_X6_wouldHold_31 (x1 : Int32) (x2 : Int32) (x3 : Int32)  : Nat → RS → Int32 → Int32 → Int32 → Option (RS × Int32) := lo4 fun self31 (σ : RS) (v4 : Int32) (v5 : Int32) (v6 : Int32) =>
(if (((2048 : Int32) * x1) + x3) ≤ v6 then
gd (inb x2 4) (
(if (σ.1 20 (tn x2)) ≤ 0 then
B_X6_wouldHold_134 x1 x2 x3 σ
else
gd (inb x2 4) (
(if v5 = (σ.1 22 (tn x2)) then
gd (inb x2 4) (
(if v4 < (σ.1 21 (tn x2)) then
B_X6_wouldHold_134 x1 x2 x3 σ
else
some (σ, (1 : Int32))))
else
B_X6_wouldHold_134 x1 x2 x3 σ))))
else
gd (inb v6 14336) (
(if (σ.1 15 (tn v6)) = x2 then
gd (inb v6 14336) (
B_X6_wouldHold_66 x1 x2 x3 self31 σ v5 v6 (σ.1 16 (tn v6)))
else
B_X6_wouldHold_66 x1 x2 x3 self31 σ v5 v6 v4)))
def F_X6_wouldHold (σ : RS) (x1 : Int32) (x2 : Int32) (x3 : Int32) : Option (RS × Int32) :=
bd (F_X6_at σ x1 x2) fun σ101 r102 =>
gd (inb r102 28) (
lt (σ101.1 9 (tn r102)) fun x104 =>
bd (F_X6_at σ101 x1 x2) fun σ105 r106 =>
gd (inb r106 28) (
lt (σ105.1 10 (tn r106)) fun x108 =>
lt ((2048 : Int32) * x1) fun x109 =>
B_X6_wouldHold_31 x1 x2 x3 4096 σ105 x104 x108 x109))
def B_X6_holdersWith_61 (x1 : Int32) (x2 : Int32) (x3 : Int32)  (σ : RS) (w0 : Int32) (w1 : Int32) : Option (RS × Int32) :=
some (σ, (w1 + w0))
def B_X6_holdersWith_44 (x1 : Int32) (x2 : Int32) (x3 : Int32)  (σ : RS) (v4 : Int32) (w0 : Int32) (w1 : Int32) : Option (RS × Int32) :=
bd (F_X6_wouldHold σ x1 x2 v4) fun σ109 r110 =>
(if r110 = 0 then
B_X6_holdersWith_61 x1 x2 x3 σ109 (0 : Int32) (w1 - w0)
else
B_X6_holdersWith_61 x1 x2 x3 σ109 (1 : Int32) (w1 - w0))
def B_X6_holdersWith_22 (x1 : Int32) (x2 : Int32) (x3 : Int32)  (σ : RS) (w0 : Int32) : Option (RS × Int32) :=
bd (F_X6_holders σ x2 (0 : Int32)) fun σ104 r105 =>
bd (F_X6_holds σ104 x1 x2) fun σ106 r107 =>
(if r107 = 0 then
B_X6_holdersWith_44 x1 x2 x3 σ106 w0 (0 : Int32) r105
else
B_X6_holdersWith_44 x1 x2 x3 σ106 w0 (1 : Int32) r105)
def F_X6_holdersWith (σ : RS) (x1 : Int32) (x2 : Int32) (x3 : Int32) : Option (RS × Int32) :=
gd (inb x1 7) (
(if (σ.1 14 (tn x1)) ≤ x3 then
B_X6_holdersWith_22 x1 x2 x3 σ (0 : Int32)
else
gd (inb x1 7) (
B_X6_holdersWith_22 x1 x2 x3 σ ((σ.1 14 (tn x1)) - x3))))
def B_X6_counted_128 (x1 : Int32) (self82 : RS → Int32 → Int32 → Int32 → Int32 → Int32 → Int32 → Option (RS × Int32)) (σ : RS) (v2 : Int32) (v3 : Int32) (v4 : Int32) (v6 : Int32) (v7 : Int32) (w0 : Int32) (w1 : Int32) : Option (RS × Int32) :=
lt (w1 + w0) fun x131 =>
lt (v7 + 1) fun x132 =>
self82 σ v2 v3 v4 x131 v6 x132
def B_X6_counted_108 (x1 : Int32) (self82 : RS → Int32 → Int32 → Int32 → Int32 → Int32 → Int32 → Option (RS × Int32)) (σ : RS) (v2 : Int32) (v3 : Int32) (v5 : Int32) (v6 : Int32) (v7 : Int32) (w0 : Int32) (w1 : Int32) : Option (RS × Int32) :=
lt (w1 + w0) fun x124 =>
gd (inb v7 4) (
(if (σ.1 23 (tn v7)) = 0 then
B_X6_counted_128 x1 self82 σ v2 v3 x124 v6 v7 (0 : Int32) v5
else
B_X6_counted_128 x1 self82 σ v2 v3 x124 v6 v7 (1 : Int32) v5))
def B_X6_counted_82 (x1 : Int32)  : Nat → RS → Int32 → Int32 → Int32 → Int32 → Int32 → Int32 → Option (RS × Int32) := lo7 fun self82 (σ : RS) (v2 : Int32) (v3 : Int32) (v4 : Int32) (v5 : Int32) (v6 : Int32) (v7 : Int32) =>
(if (σ.1 2 0) ≤ v7 then
(if x1 = 0 then
some (σ, (σ.1 1 0))
else
(if x1 = 1 then
some (σ, (σ.1 2 0))
else
(if x1 = 2 then
bd (F_X6_q σ) fun σ108 r109 =>
some (σ108, r109)
else
(if x1 = 3 then
(if (σ.1 3 0) = 0 then
some (σ, (0 : Int32))
else
some (σ, (1 : Int32)))
else
(if x1 = 4 then
some (σ, v2)
else
(if x1 = 5 then
some (σ, v3)
else
(if x1 = 6 then
some (σ, v4)
else
(if x1 = 7 then
some (σ, v5)
else
(if x1 = 8 then
some (σ, (σ.1 24 0))
else
(if x1 = 9 then
some (σ, (σ.1 25 0))
else
(if x1 = 10 then
some (σ, v6)
else
some (σ, (σ.1 26 0)))))))))))))
else
gd (inb v7 4) (
(if (σ.1 20 (tn v7)) ≤ 0 then
B_X6_counted_108 x1 self82 σ v2 v3 v5 v6 v7 (0 : Int32) v4
else
B_X6_counted_108 x1 self82 σ v2 v3 v5 v6 v7 (1 : Int32) v4)))
def B_X6_counted_59 (x1 : Int32) (self16 : RS → Int32 → Int32 → Int32 → Int32 → Int32 → Int32 → Option (RS × Int32)) (σ : RS) (v2 : Int32) (v4 : Int32) (v5 : Int32) (v6 : Int32) (v7 : Int32) (w0 : Int32) (w1 : Int32) : Option (RS × Int32) :=
lt (w1 + w0) fun x127 =>
gd (inb v7 7) (
lt (v6 + (σ.1 14 (tn v7))) fun x129 =>
lt (v7 + 1) fun x130 =>
self16 σ v2 x127 v4 v5 x129 x130)
def B_X6_counted_41 (x1 : Int32) (self16 : RS → Int32 → Int32 → Int32 → Int32 → Int32 → Int32 → Option (RS × Int32)) (σ : RS) (v3 : Int32) (v4 : Int32) (v5 : Int32) (v6 : Int32) (v7 : Int32) (w0 : Int32) (w1 : Int32) : Option (RS × Int32) :=
lt (w1 + w0) fun x121 =>
gd (inb v7 7) (
(if (σ.1 5 (tn v7)) = 0 then
B_X6_counted_59 x1 self16 σ x121 v4 v5 v6 v7 (0 : Int32) v3
else
B_X6_counted_59 x1 self16 σ x121 v4 v5 v6 v7 (1 : Int32) v3))
def B_X6_counted_16 (x1 : Int32)  : Nat → RS → Int32 → Int32 → Int32 → Int32 → Int32 → Int32 → Option (RS × Int32) := lo7 fun self16 (σ : RS) (v2 : Int32) (v3 : Int32) (v4 : Int32) (v5 : Int32) (v6 : Int32) (v7 : Int32) =>
(if (σ.1 1 0) ≤ v7 then
B_X6_counted_82 x1 4096 σ v2 v3 v4 v5 v6 (0 : Int32)
else
gd (inb v7 7) (
(if (σ.1 4 (tn v7)) = 0 then
B_X6_counted_41 x1 self16 σ v3 v4 v5 v6 v7 (0 : Int32) v2
else
B_X6_counted_41 x1 self16 σ v3 v4 v5 v6 v7 (1 : Int32) v2)))
def F_X6_counted (σ : RS) (x1 : Int32) : Option (RS × Int32) :=
B_X6_counted_16 x1 4096 σ (0 : Int32) (0 : Int32) (0 : Int32) (0 : Int32) (0 : Int32) (0 : Int32)
def B_X6_count_16 (x1 : Int32)  (σ : RS) (w0 : Int32) : Option (RS × Int32) :=
lt (rp σ 0 0 w0) fun σ104 =>
(if (σ104.1 0 0) ≤ 0 then
bd (F_X6_counted σ104 x1) fun σ106 r107 =>
some (σ106, r107)
else
some (σ104, (0 : Int32)))
def F_X6_count (σ : RS) (x1 : Int32) : Option (RS × Int32) :=
bd (F_X6_within σ x1 (0 : Int32) (11 : Int32)) fun σ101 r102 =>
(if r102 = 0 then
B_X6_count_16 x1 σ101 (1 : Int32)
else
B_X6_count_16 x1 σ101 (0 : Int32))
def F_X6_nodeNow (σ : RS) (x1 : Int32) (x2 : Int32) : Option (RS × Int32) :=
(if x2 = 0 then
gd (inb x1 7) (
(if (σ.1 4 (tn x1)) = 0 then
some (σ, (0 : Int32))
else
some (σ, (1 : Int32))))
else
(if x2 = 1 then
gd (inb x1 7) (
(if (σ.1 5 (tn x1)) = 0 then
some (σ, (0 : Int32))
else
some (σ, (1 : Int32))))
else
(if x2 = 2 then
gd (inb x1 7) (
some (σ, (σ.1 6 (tn x1))))
else
(if x2 = 3 then
gd (inb x1 7) (
some (σ, (σ.1 11 (tn x1))))
else
(if x2 = 4 then
gd (inb x1 7) (
some (σ, (σ.1 8 (tn x1))))
else
(if x2 = 5 then
gd (inb x1 7) (
some (σ, (σ.1 14 (tn x1))))
else
(if x2 = 6 then
gd (inb x1 7) (
some (σ, (σ.1 7 (tn x1))))
else
(if x2 = 7 then
gd (inb x1 7) (
some (σ, (σ.1 18 (tn x1))))
else
bd (F_X6_nextBallot σ x1) fun σ119 r120 =>
some (σ119, r120)))))))))
def B_X6_node_28 (x1 : Int32) (x2 : Int32)  (σ : RS) (w0 : Int32) : Option (RS × Int32) :=
lt (rp σ 0 0 w0) fun σ107 =>
(if (σ107.1 0 0) ≤ 0 then
bd (F_X6_nodeNow σ107 x1 x2) fun σ109 r110 =>
some (σ109, r110)
else
some (σ107, (0 : Int32)))
def F_X6_node (σ : RS) (x1 : Int32) (x2 : Int32) : Option (RS × Int32) :=
bd (F_X6_isNode σ x1) fun σ101 r102 =>
(if r102 = 0 then
B_X6_node_28 x1 x2 σ101 (1 : Int32)
else
bd (F_X6_within σ101 x2 (0 : Int32) (8 : Int32)) fun σ104 r105 =>
(if r105 = 0 then
B_X6_node_28 x1 x2 σ104 (2 : Int32)
else
B_X6_node_28 x1 x2 σ104 (0 : Int32)))
def F_X6_acceptedNow (σ : RS) (x1 : Int32) (x2 : Int32) (x3 : Int32) : Option (RS × Int32) :=
bd (F_X6_at σ x1 x2) fun σ101 r102 =>
(if x3 = 0 then
gd (inb r102 28) (
some (σ101, (σ101.1 12 (tn r102))))
else
(if x3 = (1 : Int32) then
gd (inb r102 28) (
some (σ101, (σ101.1 13 (tn r102))))
else
(if x3 = (2 : Int32) then
gd (inb r102 28) (
some (σ101, (σ101.1 9 (tn r102))))
else
gd (inb r102 28) (
some (σ101, (σ101.1 10 (tn r102)))))))
def B_X6_accepted_35 (x1 : Int32) (x2 : Int32) (x3 : Int32)  (σ : RS) (w0 : Int32) : Option (RS × Int32) :=
lt (rp σ 0 0 w0) fun σ110 =>
(if (σ110.1 0 0) ≤ 0 then
bd (F_X6_acceptedNow σ110 x1 x2 x3) fun σ112 r113 =>
some (σ112, r113)
else
some (σ110, (0 : Int32)))
def B_X6_accepted_17 (x1 : Int32) (x2 : Int32) (x3 : Int32)  (σ : RS)  : Option (RS × Int32) :=
B_X6_accepted_35 x1 x2 x3 σ (1 : Int32)
def F_X6_accepted (σ : RS) (x1 : Int32) (x2 : Int32) (x3 : Int32) : Option (RS × Int32) :=
bd (F_X6_isNode σ x1) fun σ101 r102 =>
(if r102 = 0 then
B_X6_accepted_17 x1 x2 x3 σ101
else
bd (F_X6_isSlot σ101 x2) fun σ104 r105 =>
(if r105 = 0 then
B_X6_accepted_17 x1 x2 x3 σ104
else
bd (F_X6_within σ104 x3 (0 : Int32) (3 : Int32)) fun σ107 r108 =>
(if r108 = 0 then
B_X6_accepted_35 x1 x2 x3 σ107 (2 : Int32)
else
B_X6_accepted_35 x1 x2 x3 σ107 (0 : Int32))))
def F_X6_waitingNow (σ : RS) (x1 : Int32) (x2 : Int32) (x3 : Int32) : Option (RS × Int32) :=
lt (((2048 : Int32) * x1) + x2) fun x101 =>
(if x3 = 0 then
gd (inb x101 14336) (
some (σ, (σ.1 15 (tn x101))))
else
(if x3 = (1 : Int32) then
gd (inb x101 14336) (
some (σ, (σ.1 16 (tn x101))))
else
gd (inb x101 14336) (
some (σ, (σ.1 17 (tn x101))))))
def B_X6_waiting_55 (x1 : Int32) (x2 : Int32) (x3 : Int32)  (σ : RS) (w0 : Int32) : Option (RS × Int32) :=
lt (rp σ 0 0 w0) fun σ112 =>
(if (σ112.1 0 0) ≤ 0 then
bd (F_X6_waitingNow σ112 x1 x2 x3) fun σ114 r115 =>
some (σ114, r115)
else
some (σ112, (0 : Int32)))
def B_X6_waiting_29 (x1 : Int32) (x2 : Int32) (x3 : Int32)  (σ : RS) (w0 : Int32) : Option (RS × Int32) :=
(if w0 = 0 then
B_X6_waiting_55 x1 x2 x3 σ (1 : Int32)
else
bd (F_X6_within σ x3 (0 : Int32) (2 : Int32)) fun σ109 r110 =>
(if r110 = 0 then
B_X6_waiting_55 x1 x2 x3 σ109 (2 : Int32)
else
B_X6_waiting_55 x1 x2 x3 σ109 (0 : Int32)))
def B_X6_waiting_28 (x1 : Int32) (x2 : Int32) (x3 : Int32)  (σ : RS)  : Option (RS × Int32) :=
B_X6_waiting_29 x1 x2 x3 σ (0 : Int32)
def F_X6_waiting (σ : RS) (x1 : Int32) (x2 : Int32) (x3 : Int32) : Option (RS × Int32) :=
bd (F_X6_isNode σ x1) fun σ101 r102 =>
(if r102 = 0 then
B_X6_waiting_28 x1 x2 x3 σ101
else
gd (inb x1 7) (
bd (F_X6_within σ101 x2 (0 : Int32) ((σ101.1 14 (tn x1)) - (1 : Int32))) fun σ105 r106 =>
(if r106 = 0 then
B_X6_waiting_28 x1 x2 x3 σ105
else
B_X6_waiting_29 x1 x2 x3 σ105 (1 : Int32))))
def B_X6_slotNow_101 (x1 : Int32) (x2 : Int32)  (σ : RS)  : Option (RS × Int32) :=
some (σ, (0 : Int32))
def F_X6_slotNow (σ : RS) (x1 : Int32) (x2 : Int32) : Option (RS × Int32) :=
(if x2 = 0 then
gd (inb x1 4) (
some (σ, (σ.1 21 (tn x1))))
else
(if x2 = 1 then
gd (inb x1 4) (
some (σ, (σ.1 22 (tn x1))))
else
(if x2 = 2 then
gd (inb x1 4) (
some (σ, (σ.1 20 (tn x1))))
else
(if x2 = 3 then
bd (F_X6_holders σ x1 (0 : Int32)) fun σ108 r109 =>
some (σ108, r109)
else
(if x2 = 4 then
bd (F_X6_holders σ x1 (1 : Int32)) fun σ111 r112 =>
some (σ111, r112)
else
(if x2 = 5 then
gd (inb x1 4) (
(if (σ.1 20 (tn x1)) ≤ 0 then
B_X6_slotNow_101 x1 x2 σ
else
bd (F_X6_holders σ x1 (0 : Int32)) fun σ116 r117 =>
bd (F_X6_protects σ116 r117) fun σ118 r119 =>
(if r119 = 0 then
B_X6_slotNow_101 x1 x2 σ118
else
some (σ118, (1 : Int32)))))
else
gd (inb x1 4) (
(if (σ.1 23 (tn x1)) = 0 then
some (σ, (0 : Int32))
else
some (σ, (1 : Int32))))))))))
def B_X6_slot_28 (x1 : Int32) (x2 : Int32)  (σ : RS) (w0 : Int32) : Option (RS × Int32) :=
lt (rp σ 0 0 w0) fun σ107 =>
(if (σ107.1 0 0) ≤ 0 then
bd (F_X6_slotNow σ107 x1 x2) fun σ109 r110 =>
some (σ109, r110)
else
some (σ107, (0 : Int32)))
def F_X6_slot (σ : RS) (x1 : Int32) (x2 : Int32) : Option (RS × Int32) :=
bd (F_X6_isSlot σ x1) fun σ101 r102 =>
(if r102 = 0 then
B_X6_slot_28 x1 x2 σ101 (1 : Int32)
else
bd (F_X6_within σ101 x2 (0 : Int32) (6 : Int32)) fun σ104 r105 =>
(if r105 = 0 then
B_X6_slot_28 x1 x2 σ104 (2 : Int32)
else
B_X6_slot_28 x1 x2 σ104 (0 : Int32)))
def B_X6_roundValue_36 (x1 : Int32) (x2 : Int32)  (σ : RS) (w0 : Int32) : Option (RS × Int32) :=
lt (rp σ 0 0 w0) fun σ109 =>
(if (σ109.1 0 0) ≤ 0 then
bd (F_X6_at σ109 x1 x2) fun σ111 r112 =>
gd (inb r112 28) (
some (σ111, (σ111.1 19 (tn r112))))
else
some (σ109, (0 : Int32)))
def B_X6_roundValue_17 (x1 : Int32) (x2 : Int32)  (σ : RS)  : Option (RS × Int32) :=
B_X6_roundValue_36 x1 x2 σ (1 : Int32)
def F_X6_roundValue (σ : RS) (x1 : Int32) (x2 : Int32) : Option (RS × Int32) :=
bd (F_X6_isNode σ x1) fun σ101 r102 =>
(if r102 = 0 then
B_X6_roundValue_17 x1 x2 σ101
else
bd (F_X6_isSlot σ101 x2) fun σ104 r105 =>
(if r105 = 0 then
B_X6_roundValue_17 x1 x2 σ104
else
gd (inb x1 7) (
(if (σ104.1 18 (tn x1)) = (-1 : Int32) then
B_X6_roundValue_36 x1 x2 σ104 (2 : Int32)
else
B_X6_roundValue_36 x1 x2 σ104 (0 : Int32)))))
def B_X6_ifCrashed_49 (x1 : Int32) (x2 : Int32) (x3 : Int32)  (σ : RS)  : Option (RS × Int32) :=
some (σ, (0 : Int32))
def B_X6_ifCrashed_30 (x1 : Int32) (x2 : Int32) (x3 : Int32)  (σ : RS) (w0 : Int32) : Option (RS × Int32) :=
lt (rp σ 0 0 w0) fun σ108 =>
(if 0 < (σ108.1 0 0) then
B_X6_ifCrashed_49 x1 x2 x3 σ108
else
gd (inb x3 4) (
(if (σ108.1 20 (tn x3)) = 0 then
B_X6_ifCrashed_49 x1 x2 x3 σ108
else
bd (F_X6_holdersWith σ108 x1 x3 x2) fun σ112 r113 =>
some (σ112, r113))))
def B_X6_ifCrashed_17 (x1 : Int32) (x2 : Int32) (x3 : Int32)  (σ : RS)  : Option (RS × Int32) :=
B_X6_ifCrashed_30 x1 x2 x3 σ (1 : Int32)
def F_X6_ifCrashed (σ : RS) (x1 : Int32) (x2 : Int32) (x3 : Int32) : Option (RS × Int32) :=
bd (F_X6_isNode σ x1) fun σ101 r102 =>
(if r102 = 0 then
B_X6_ifCrashed_17 x1 x2 x3 σ101
else
bd (F_X6_isSlot σ101 x3) fun σ104 r105 =>
(if r105 = 0 then
B_X6_ifCrashed_17 x1 x2 x3 σ104
else
(if 0 ≤ x2 then
B_X6_ifCrashed_30 x1 x2 x3 σ104 (0 : Int32)
else
B_X6_ifCrashed_30 x1 x2 x3 σ104 (2 : Int32))))
def B_X6_isHarmless_61 (x1 : Int32) (x2 : Int32) (self5 : RS → Int32 → Int32 → Option (RS × Int32)) (σ : RS) (v4 : Int32) (w0 : Int32) : Option (RS × Int32) :=
lt (v4 + 1) fun x113 =>
self5 σ w0 x113
def B_X6_isHarmless_60 (x1 : Int32) (x2 : Int32) (self5 : RS → Int32 → Int32 → Option (RS × Int32)) (σ : RS) (v4 : Int32) : Option (RS × Int32) :=
B_X6_isHarmless_61 x1 x2 self5 σ v4 (0 : Int32)
def B_X6_isHarmless_56 (x1 : Int32) (x2 : Int32) (self5 : RS → Int32 → Int32 → Option (RS × Int32)) (σ : RS) (v4 : Int32) : Option (RS × Int32) :=
B_X6_isHarmless_61 x1 x2 self5 σ v4 (1 : Int32)
def B_X6_isHarmless_30 (x1 : Int32) (x2 : Int32) (self5 : RS → Int32 → Int32 → Option (RS × Int32)) (σ : RS) (v3 : Int32) (v4 : Int32) (w0 : Int32) : Option (RS × Int32) :=
(if v3 = 0 then
B_X6_isHarmless_60 x1 x2 self5 σ v4
else
(if w0 = 0 then
B_X6_isHarmless_56 x1 x2 self5 σ v4
else
bd (F_X6_holdersWith σ x1 v4 x2) fun σ108 r109 =>
bd (F_X6_protects σ108 r109) fun σ110 r111 =>
(if r111 = 0 then
B_X6_isHarmless_60 x1 x2 self5 σ110 v4
else
B_X6_isHarmless_56 x1 x2 self5 σ110 v4)))
def B_X6_isHarmless_5 (x1 : Int32) (x2 : Int32)  : Nat → RS → Int32 → Int32 → Option (RS × Int32) := lo3 fun self5 (σ : RS) (v3 : Int32) (v4 : Int32) =>
(if (σ.1 2 0) ≤ v4 then
gd (isb v3) (some (σ, v3))
else
bd (F_X6_slotNow σ v4 (5 : Int32)) fun σ103 r104 =>
(if r104 = (1 : Int32) then
B_X6_isHarmless_30 x1 x2 self5 σ103 v3 v4 (1 : Int32)
else
B_X6_isHarmless_30 x1 x2 self5 σ103 v3 v4 (0 : Int32)))
def F_X6_isHarmless (σ : RS) (x1 : Int32) (x2 : Int32) : Option (RS × Int32) :=
B_X6_isHarmless_5 x1 x2 4096 σ (1 : Int32) (0 : Int32)
def B_X6_harmlessNow_7 (x1 : Int32)  : Nat → RS → Int32 → Option (RS × Int32) := lo2 fun self7 (σ : RS) (v2 : Int32) =>
bd (F_X6_isHarmless σ x1 v2) fun σ103 r104 =>
(if r104 = 0 then
lt (v2 + (-1)) fun x106 =>
self7 σ103 x106
else
some (σ103, v2))
def F_X6_harmlessNow (σ : RS) (x1 : Int32) : Option (RS × Int32) :=
gd (inb x1 7) (
lt (σ.1 14 (tn x1)) fun x102 =>
B_X6_harmlessNow_7 x1 4096 σ x102)
def B_X6_harmless_14 (x1 : Int32)  (σ : RS) (w0 : Int32) : Option (RS × Int32) :=
lt (rp σ 0 0 w0) fun σ104 =>
(if (σ104.1 0 0) ≤ 0 then
bd (F_X6_harmlessNow σ104 x1) fun σ106 r107 =>
some (σ106, r107)
else
some (σ104, (0 : Int32)))
def F_X6_harmless (σ : RS) (x1 : Int32) : Option (RS × Int32) :=
bd (F_X6_isNode σ x1) fun σ101 r102 =>
(if r102 = 0 then
B_X6_harmless_14 x1 σ101 (1 : Int32)
else
B_X6_harmless_14 x1 σ101 (0 : Int32))
def B_X6_fewest_68 (x1 : Int32)  : Nat → RS → Int32 → Int32 → Int32 → Option (RS × Int32) := lo4 fun self68 (σ : RS) (v2 : Int32) (v3 : Int32) (v4 : Int32) =>
bd (F_X6_protects σ (v2 - v4)) fun σ113 r114 =>
(if r114 = 0 then
(if v3 < v4 then
some (σ113, (-1 : Int32))
else
some (σ113, v4))
else
lt (v4 + 1) fun x117 =>
self68 σ113 v2 v3 x117)
def B_X6_fewest_57 (x1 : Int32) (self22 : RS → Int32 → Int32 → Int32 → Option (RS × Int32)) (σ : RS) (v2 : Int32) (v4 : Int32) (w0 : Int32) (w1 : Int32) : Option (RS × Int32) :=
lt (w1 + w0) fun x118 =>
lt (v4 + 1) fun x119 =>
self22 σ v2 x118 x119
def B_X6_fewest_56 (x1 : Int32) (self22 : RS → Int32 → Int32 → Int32 → Option (RS × Int32)) (σ : RS) (v2 : Int32) (v4 : Int32) (w0 : Int32) : Option (RS × Int32) :=
B_X6_fewest_57 x1 self22 σ v2 v4 (0 : Int32) w0
def B_X6_fewest_22 (x1 : Int32)  : Nat → RS → Int32 → Int32 → Int32 → Option (RS × Int32) := lo4 fun self22 (σ : RS) (v2 : Int32) (v3 : Int32) (v4 : Int32) =>
(if (σ.1 1 0) ≤ v4 then
B_X6_fewest_68 x1 4096 σ v2 v3 (1 : Int32)
else
bd (F_X6_holds σ v4 x1) fun σ107 r108 =>
(if r108 = 0 then
B_X6_fewest_56 x1 self22 σ107 v2 v4 v3
else
bd (F_X6_holdsOnDisk σ107 v4 x1) fun σ110 r111 =>
(if r111 = 0 then
B_X6_fewest_57 x1 self22 σ110 v2 v4 (1 : Int32) v3
else
B_X6_fewest_56 x1 self22 σ110 v2 v4 v3)))
def F_X6_fewest (σ : RS) (x1 : Int32) : Option (RS × Int32) :=
bd (F_X6_holders σ x1 (0 : Int32)) fun σ101 r102 =>
bd (F_X6_protects σ101 r102) fun σ103 r104 =>
(if r104 = 0 then
some (σ103, (0 : Int32))
else
B_X6_fewest_22 x1 4096 σ103 r102 (0 : Int32) (0 : Int32))
def B_X6_leastLosses_27 (x1 : Int32)  (σ : RS) (w0 : Int32) : Option (RS × Int32) :=
lt (rp σ 0 0 w0) fun σ106 =>
(if (σ106.1 0 0) ≤ 0 then
bd (F_X6_fewest σ106 x1) fun σ108 r109 =>
some (σ108, r109)
else
some (σ106, (0 : Int32)))
def F_X6_leastLosses (σ : RS) (x1 : Int32) : Option (RS × Int32) :=
bd (F_X6_isSlot σ x1) fun σ101 r102 =>
(if r102 = 0 then
B_X6_leastLosses_27 x1 σ101 (1 : Int32)
else
gd (inb x1 4) (
(if (σ101.1 20 (tn x1)) ≤ 0 then
B_X6_leastLosses_27 x1 σ101 (2 : Int32)
else
B_X6_leastLosses_27 x1 σ101 (0 : Int32))))
def F_Jxf58ca_isNaN_12338 (σ : RS) (f0 : UInt32) : Option (RS × Int32) :=
(if (Op.cmpValue (FP.fcmp f0 f0) .l) = 0 then
some (σ, (0 : Int32))
else
some (σ, (1 : Int32)))
def F_Jxf58ca_floatToIntBits_5c35a (σ : RS) (f0 : UInt32) : Option (RS × Int32) :=
bd (F_Jxf58ca_isNaN_12338 σ f0) fun σ101 r102 =>
(if r102 = 0 then
some (σ101, (f0.toInt32))
else
some (σ101, (2143289344 : Int32)))
def B_X6_answeredNow_22   (σ : RS) (w0 : UInt32) : Option (RS × Int32) :=
bd (F_Jxf58ca_floatToIntBits_5c35a σ w0) fun σ103 r104 =>
some (σ103, r104)
def F_X6_answeredNow (σ : RS)  : Option (RS × Int32) :=
(if (σ.1 24 0) = 0 then
B_X6_answeredNow_22 σ (FP.fconst1)
else
gd (fok (FP.fdiv (FP.i2f (σ.1 25 0)) (FP.i2f (σ.1 24 0)))) (
B_X6_answeredNow_22 σ (FP.fdiv (FP.i2f (σ.1 25 0)) (FP.i2f (σ.1 24 0)))))
def F_X6_answered (σ : RS)  : Option (RS × Int32) :=
lt (rp σ 0 0 (0 : Int32)) fun σ101 =>
bd (F_X6_answeredNow σ101) fun σ102 r103 =>
some (σ102, r103)
def B_X6_onDisksNow_11   : Nat → RS → Int32 → Int32 → Int32 → Option (RS × UInt64) := lo4 fun self11 (σ : RS) (v1 : Int32) (v2 : Int32) (v3 : Int32) =>
(if (σ.1 2 0) ≤ v3 then
(if v1 = 0 then
some (σ, FP.dconst0)
else
gd (dok (FP.ddiv (FP.i2d v2) (FP.i2d (v1 * (σ.1 1 0))))) (
some (σ, (FP.ddiv (FP.i2d v2) (FP.i2d (v1 * (σ.1 1 0)))))))
else
bd (F_X6_holders σ v3 (1 : Int32)) fun σ106 r107 =>
lt (v2 + r107) fun x108 =>
lt (v3 + 1) fun x109 =>
self11 σ106 v1 x108 x109)
def F_X6_onDisksNow (σ : RS)  : Option (RS × UInt64) :=
bd (F_X6_counted σ (6 : Int32)) fun σ101 r102 =>
B_X6_onDisksNow_11 4096 σ101 r102 (0 : Int32) (0 : Int32)
def F_X6_onDisks (σ : RS)  : Option (RS × UInt64) :=
lt (rp σ 0 0 (0 : Int32)) fun σ101 =>
bd (F_X6_onDisksNow σ101) fun σ102 r103 =>
some (σ102, r103)
def F_X6_mix (σ : RS) (y1 : Int64) : Option (RS × Unit) :=
lt (rh σ (((31 : Int64) * σ.2) + y1)) fun σ101 =>
some (σ101, ())
def B_X6_mixNode_107 (x1 : Int32)  : Nat → RS → Int32 → Option (RS × Unit) := lo2 fun self107 (σ : RS) (v2 : Int32) =>
(if (σ.1 2 0) ≤ v2 then
some (σ, ())
else
gd (inb x1 7) (
(if (σ.1 18 (tn x1)) = (-1 : Int32) then
some (σ, ())
else
bd (F_X6_at σ x1 v2) fun σ127 r128 =>
gd (inb r128 28) (
bd (F_X6_mix σ127 ((σ127.1 19 (tn r128)).toInt64)) fun σ130 _ =>
lt (v2 + 1) fun x132 =>
self107 σ130 x132))))
def B_X6_mixNode_71 (x1 : Int32)  : Nat → RS → Int32 → Option (RS × Unit) := lo2 fun self71 (σ : RS) (v2 : Int32) =>
gd (inb x1 7) (
(if ((3 : Int32) * (σ.1 14 (tn x1))) ≤ v2 then
B_X6_mixNode_107 x1 4096 σ (0 : Int32)
else
bd (F_X6_waitingNow σ x1 (v2 / (3 : Int32)) (v2 - v2 / (3 : Int32) * (3 : Int32))) fun σ119 r120 =>
bd (F_X6_mix σ119 (r120.toInt64)) fun σ121 _ =>
lt (v2 + 1) fun x123 =>
self71 σ121 x123))
def B_X6_mixNode_37 (x1 : Int32)  : Nat → RS → Int32 → Option (RS × Unit) := lo2 fun self37 (σ : RS) (v2 : Int32) =>
(if ((4 : Int32) * (σ.1 2 0)) ≤ v2 then
B_X6_mixNode_71 x1 4096 σ (0 : Int32)
else
bd (F_X6_acceptedNow σ x1 (v2 / (4 : Int32)) (v2 - v2 / (4 : Int32) * (4 : Int32))) fun σ112 r113 =>
bd (F_X6_mix σ112 (r113.toInt64)) fun σ114 _ =>
lt (v2 + 1) fun x116 =>
self37 σ114 x116)
def B_X6_mixNode_2 (x1 : Int32)  : Nat → RS → Int32 → Option (RS × Unit) := lo2 fun self2 (σ : RS) (v2 : Int32) =>
(if (9 : Int32) ≤ v2 then
bd (F_X6_harmlessNow σ x1) fun σ102 r103 =>
bd (F_X6_mix σ102 (r103.toInt64)) fun σ104 _ =>
B_X6_mixNode_37 x1 4096 σ104 (0 : Int32)
else
bd (F_X6_nodeNow σ x1 v2) fun σ106 r107 =>
bd (F_X6_mix σ106 (r107.toInt64)) fun σ108 _ =>
lt (v2 + 1) fun x110 =>
self2 σ108 x110)
def F_X6_mixNode (σ : RS) (x1 : Int32) : Option (RS × Unit) :=
B_X6_mixNode_2 x1 4096 σ (0 : Int32)
def F_Jxe99ae_isNaN_b9ae7 (σ : RS) (d0 : UInt64) : Option (RS × Int32) :=
(if (Op.cmpValue (FP.dcmp d0 d0) .l) = 0 then
some (σ, (0 : Int32))
else
some (σ, (1 : Int32)))
def F_Jxe99ae_doubleToLongBits_ccdee (σ : RS) (d0 : UInt64) : Option (RS × Int64) :=
bd (F_Jxe99ae_isNaN_b9ae7 σ d0) fun σ101 r102 =>
(if r102 = 0 then
some (σ101, (d0.toInt64))
else
some (σ101, (9221120237041090560 : Int64)))
def B_X6_digest_124   : Nat → RS → Int32 → Option (RS × Int64) := lo2 fun self124 (σ : RS) (v1 : Int32) =>
(if (σ.1 27 0) ≤ v1 then
some (σ, σ.2)
else
gd (inb v1 60) (
bd (F_X6_mix σ ((σ.1 28 (tn v1)).toInt64)) fun σ133 _ =>
lt (v1 + 1) fun x135 =>
self124 σ133 x135))
def B_X6_digest_59   : Nat → RS → Int32 → Option (RS × Int64) := lo2 fun self59 (σ : RS) (v1 : Int32) =>
(if ((7 : Int32) * (σ.1 2 0)) ≤ v1 then
bd (F_X6_answeredNow σ) fun σ114 r115 =>
bd (F_X6_mix σ114 (r115.toInt64)) fun σ116 _ =>
bd (F_X6_onDisksNow σ116) fun σ118 r119 =>
bd (F_Jxe99ae_doubleToLongBits_ccdee σ118 r119) fun σ120 r121 =>
bd (F_X6_mix σ120 r121) fun σ122 _ =>
bd (F_X6_mix σ122 ((σ122.1 27 0).toInt64)) fun σ124 _ =>
B_X6_digest_124 4096 σ124 (0 : Int32)
else
bd (F_X6_slotNow σ (v1 / (7 : Int32)) (v1 - v1 / (7 : Int32) * (7 : Int32))) fun σ126 r127 =>
bd (F_X6_mix σ126 (r127.toInt64)) fun σ128 _ =>
lt (v1 + 1) fun x130 =>
self59 σ128 x130)
def B_X6_digest_38   : Nat → RS → Int32 → Option (RS × Int64) := lo2 fun self38 (σ : RS) (v1 : Int32) =>
(if (σ.1 1 0) ≤ v1 then
B_X6_digest_59 4096 σ (0 : Int32)
else
bd (F_X6_mixNode σ v1) fun σ110 _ =>
lt (v1 + 1) fun x112 =>
self38 σ110 x112)
def B_X6_digest_14   : Nat → RS → Int32 → Option (RS × Int64) := lo2 fun self14 (σ : RS) (v1 : Int32) =>
(if (12 : Int32) ≤ v1 then
B_X6_digest_38 4096 σ (0 : Int32)
else
bd (F_X6_counted σ v1) fun σ104 r105 =>
bd (F_X6_mix σ104 (r105.toInt64)) fun σ106 _ =>
lt (v1 + 1) fun x108 =>
self14 σ106 x108)
def F_X6_digest (σ : RS)  : Option (RS × Int64) :=
lt (rp σ 0 0 (0 : Int32)) fun σ101 =>
lt (rh σ101 (1997 : Int64)) fun σ102 =>
B_X6_digest_14 4096 σ102 (0 : Int32)
