def wdX (a : Nat → Nat) (cA : ClassId) (u : tS) : va_W := [(a 0, .inr (0, [.ref (a 1), .ref (a 5), .ref (a 6), .ref (a 7), .ref (a 8), .ref (a 9)])), (a 1, .inr (1, [.int (u.1 0), .ref (a 10), .ref (a 2), .ref (a 3), .ref (a 4)])), (a 2, .inr (2, [.int (u.1 1), .ref (a 11), .ref (a 12), .ref (a 13), .ref (a 14), .ref (a 15), .ref (a 16)])), (a 3, .inr (3, [.int (u.1 2), .ref (a 17), .ref (a 18)])), (a 4, .inr (4, [.int (u.1 3), .ref (a 19), .ref (a 20), .ref (a 21), .ref (a 22)])), (a 5, .inr (5, [.ref (a 23), .ref (a 24)])), (a 6, .inr (5, [.ref (a 25), .ref (a 26)])), (a 7, .inr (6, [.ref (a 27), .ref (a 28)])), (a 8, .inr (7, [.int (u.1 4), .ref (a 29), .ref (a 30)])), (a 9, .inr (8, [.int (u.1 5), .ref (a 31), .ref (a 32), .ref (a 33), .ref (a 34)])), (a 10, .inl (cA, 12, .inl (u.2 0))), (a 11, .inl (cA, 40, .inl (u.2 1))), (a 12, .inl (cA, 40, .inl (u.2 2))), (a 13, .inl (cA, 40, .inl (u.2 3))), (a 14, .inl (cA, 40, .inl (u.2 4))), (a 15, .inl (cA, 40, .inl (u.2 5))), (a 16, .inl (cA, 280, .inl (u.2 6))), (a 17, .inl (cA, 280, .inl (u.2 7))), (a 18, .inl (cA, 280, .inl (u.2 8))), (a 19, .inl (cA, 30, .inl (u.2 9))), (a 20, .inl (cA, 30, .inl (u.2 10))), (a 21, .inl (cA, 30, .inl (u.2 11))), (a 22, .inl (cA, 144, .inl (u.2 12))), (a 23, .inl (cA, 12, .inl (u.2 13))), (a 24, .inl (cA, 12, .inl (u.2 14))), (a 25, .inl (cA, 12, .inl (u.2 15))), (a 26, .inl (cA, 12, .inl (u.2 16))), (a 27, .inl (cA, 280, .inl (u.2 17))), (a 28, .inl (cA, 601, .inl (u.2 18))), (a 29, .inl (cA, 601, .inl (u.2 19))), (a 30, .inl (cA, 601, .inl (u.2 20))), (a 31, .inl (cA, 24, .inl (u.2 21))), (a 32, .inl (cA, 24, .inl (u.2 22))), (a 33, .inl (cA, 24, .inl (u.2 23))), (a 34, .inl (cA, 24, .inl (u.2 24)))]
theorem wdX_o0 (a : Nat → Nat) (cA : ClassId) (u : tS) : (wdX a cA u)[0]? = some (a 0, .inr (0, [.ref (a 1), .ref (a 5), .ref (a 6), .ref (a 7), .ref (a 8), .ref (a 9)])) := rfl
theorem wdX_o1 (a : Nat → Nat) (cA : ClassId) (u : tS) : (wdX a cA u)[1]? = some (a 1, .inr (1, [.int (u.1 0), .ref (a 10), .ref (a 2), .ref (a 3), .ref (a 4)])) := rfl
theorem wdX_i0 (a : Nat → Nat) (cA : ClassId) (u : tS) (v : Int32) : (wdX a cA u).set 1 (a 1, .inr (1, ([.int (u.1 0), .ref (a 10), .ref (a 2), .ref (a 3), .ref (a 4)] : List Value).set 0 (.int v))) = wdX a cA (tI u 0 v) := rfl
theorem wdX_o2 (a : Nat → Nat) (cA : ClassId) (u : tS) : (wdX a cA u)[2]? = some (a 2, .inr (2, [.int (u.1 1), .ref (a 11), .ref (a 12), .ref (a 13), .ref (a 14), .ref (a 15), .ref (a 16)])) := rfl
theorem wdX_i1 (a : Nat → Nat) (cA : ClassId) (u : tS) (v : Int32) : (wdX a cA u).set 2 (a 2, .inr (2, ([.int (u.1 1), .ref (a 11), .ref (a 12), .ref (a 13), .ref (a 14), .ref (a 15), .ref (a 16)] : List Value).set 0 (.int v))) = wdX a cA (tI u 1 v) := rfl
theorem wdX_o3 (a : Nat → Nat) (cA : ClassId) (u : tS) : (wdX a cA u)[3]? = some (a 3, .inr (3, [.int (u.1 2), .ref (a 17), .ref (a 18)])) := rfl
theorem wdX_i2 (a : Nat → Nat) (cA : ClassId) (u : tS) (v : Int32) : (wdX a cA u).set 3 (a 3, .inr (3, ([.int (u.1 2), .ref (a 17), .ref (a 18)] : List Value).set 0 (.int v))) = wdX a cA (tI u 2 v) := rfl
theorem wdX_o4 (a : Nat → Nat) (cA : ClassId) (u : tS) : (wdX a cA u)[4]? = some (a 4, .inr (4, [.int (u.1 3), .ref (a 19), .ref (a 20), .ref (a 21), .ref (a 22)])) := rfl
theorem wdX_i3 (a : Nat → Nat) (cA : ClassId) (u : tS) (v : Int32) : (wdX a cA u).set 4 (a 4, .inr (4, ([.int (u.1 3), .ref (a 19), .ref (a 20), .ref (a 21), .ref (a 22)] : List Value).set 0 (.int v))) = wdX a cA (tI u 3 v) := rfl
theorem wdX_o5 (a : Nat → Nat) (cA : ClassId) (u : tS) : (wdX a cA u)[5]? = some (a 5, .inr (5, [.ref (a 23), .ref (a 24)])) := rfl
theorem wdX_o6 (a : Nat → Nat) (cA : ClassId) (u : tS) : (wdX a cA u)[6]? = some (a 6, .inr (5, [.ref (a 25), .ref (a 26)])) := rfl
theorem wdX_o7 (a : Nat → Nat) (cA : ClassId) (u : tS) : (wdX a cA u)[7]? = some (a 7, .inr (6, [.ref (a 27), .ref (a 28)])) := rfl
theorem wdX_o8 (a : Nat → Nat) (cA : ClassId) (u : tS) : (wdX a cA u)[8]? = some (a 8, .inr (7, [.int (u.1 4), .ref (a 29), .ref (a 30)])) := rfl
theorem wdX_i4 (a : Nat → Nat) (cA : ClassId) (u : tS) (v : Int32) : (wdX a cA u).set 8 (a 8, .inr (7, ([.int (u.1 4), .ref (a 29), .ref (a 30)] : List Value).set 0 (.int v))) = wdX a cA (tI u 4 v) := rfl
theorem wdX_o9 (a : Nat → Nat) (cA : ClassId) (u : tS) : (wdX a cA u)[9]? = some (a 9, .inr (8, [.int (u.1 5), .ref (a 31), .ref (a 32), .ref (a 33), .ref (a 34)])) := rfl
theorem wdX_i5 (a : Nat → Nat) (cA : ClassId) (u : tS) (v : Int32) : (wdX a cA u).set 9 (a 9, .inr (8, ([.int (u.1 5), .ref (a 31), .ref (a 32), .ref (a 33), .ref (a 34)] : List Value).set 0 (.int v))) = wdX a cA (tI u 5 v) := rfl
theorem wdX_o10 (a : Nat → Nat) (cA : ClassId) (u : tS) : (wdX a cA u)[10]? = some (a 10, .inl (cA, 12, .inl (u.2 0))) := rfl
theorem wdX_a0 (a : Nat → Nat) (cA : ClassId) (u : tS) (i x : Int32) : (wdX a cA u).set 10 (a 10, .inl (cA, 12, .inl (upd (u.2 0) i.toNatClampNeg x))) = wdX a cA (tA u 0 i x) := rfl
theorem wdX_o11 (a : Nat → Nat) (cA : ClassId) (u : tS) : (wdX a cA u)[11]? = some (a 11, .inl (cA, 40, .inl (u.2 1))) := rfl
theorem wdX_a1 (a : Nat → Nat) (cA : ClassId) (u : tS) (i x : Int32) : (wdX a cA u).set 11 (a 11, .inl (cA, 40, .inl (upd (u.2 1) i.toNatClampNeg x))) = wdX a cA (tA u 1 i x) := rfl
theorem wdX_o12 (a : Nat → Nat) (cA : ClassId) (u : tS) : (wdX a cA u)[12]? = some (a 12, .inl (cA, 40, .inl (u.2 2))) := rfl
theorem wdX_a2 (a : Nat → Nat) (cA : ClassId) (u : tS) (i x : Int32) : (wdX a cA u).set 12 (a 12, .inl (cA, 40, .inl (upd (u.2 2) i.toNatClampNeg x))) = wdX a cA (tA u 2 i x) := rfl
theorem wdX_o13 (a : Nat → Nat) (cA : ClassId) (u : tS) : (wdX a cA u)[13]? = some (a 13, .inl (cA, 40, .inl (u.2 3))) := rfl
theorem wdX_a3 (a : Nat → Nat) (cA : ClassId) (u : tS) (i x : Int32) : (wdX a cA u).set 13 (a 13, .inl (cA, 40, .inl (upd (u.2 3) i.toNatClampNeg x))) = wdX a cA (tA u 3 i x) := rfl
theorem wdX_o14 (a : Nat → Nat) (cA : ClassId) (u : tS) : (wdX a cA u)[14]? = some (a 14, .inl (cA, 40, .inl (u.2 4))) := rfl
theorem wdX_a4 (a : Nat → Nat) (cA : ClassId) (u : tS) (i x : Int32) : (wdX a cA u).set 14 (a 14, .inl (cA, 40, .inl (upd (u.2 4) i.toNatClampNeg x))) = wdX a cA (tA u 4 i x) := rfl
theorem wdX_o15 (a : Nat → Nat) (cA : ClassId) (u : tS) : (wdX a cA u)[15]? = some (a 15, .inl (cA, 40, .inl (u.2 5))) := rfl
theorem wdX_a5 (a : Nat → Nat) (cA : ClassId) (u : tS) (i x : Int32) : (wdX a cA u).set 15 (a 15, .inl (cA, 40, .inl (upd (u.2 5) i.toNatClampNeg x))) = wdX a cA (tA u 5 i x) := rfl
theorem wdX_o16 (a : Nat → Nat) (cA : ClassId) (u : tS) : (wdX a cA u)[16]? = some (a 16, .inl (cA, 280, .inl (u.2 6))) := rfl
theorem wdX_a6 (a : Nat → Nat) (cA : ClassId) (u : tS) (i x : Int32) : (wdX a cA u).set 16 (a 16, .inl (cA, 280, .inl (upd (u.2 6) i.toNatClampNeg x))) = wdX a cA (tA u 6 i x) := rfl
theorem wdX_o17 (a : Nat → Nat) (cA : ClassId) (u : tS) : (wdX a cA u)[17]? = some (a 17, .inl (cA, 280, .inl (u.2 7))) := rfl
theorem wdX_a7 (a : Nat → Nat) (cA : ClassId) (u : tS) (i x : Int32) : (wdX a cA u).set 17 (a 17, .inl (cA, 280, .inl (upd (u.2 7) i.toNatClampNeg x))) = wdX a cA (tA u 7 i x) := rfl
theorem wdX_o18 (a : Nat → Nat) (cA : ClassId) (u : tS) : (wdX a cA u)[18]? = some (a 18, .inl (cA, 280, .inl (u.2 8))) := rfl
theorem wdX_a8 (a : Nat → Nat) (cA : ClassId) (u : tS) (i x : Int32) : (wdX a cA u).set 18 (a 18, .inl (cA, 280, .inl (upd (u.2 8) i.toNatClampNeg x))) = wdX a cA (tA u 8 i x) := rfl
theorem wdX_o19 (a : Nat → Nat) (cA : ClassId) (u : tS) : (wdX a cA u)[19]? = some (a 19, .inl (cA, 30, .inl (u.2 9))) := rfl
theorem wdX_a9 (a : Nat → Nat) (cA : ClassId) (u : tS) (i x : Int32) : (wdX a cA u).set 19 (a 19, .inl (cA, 30, .inl (upd (u.2 9) i.toNatClampNeg x))) = wdX a cA (tA u 9 i x) := rfl
theorem wdX_o20 (a : Nat → Nat) (cA : ClassId) (u : tS) : (wdX a cA u)[20]? = some (a 20, .inl (cA, 30, .inl (u.2 10))) := rfl
theorem wdX_a10 (a : Nat → Nat) (cA : ClassId) (u : tS) (i x : Int32) : (wdX a cA u).set 20 (a 20, .inl (cA, 30, .inl (upd (u.2 10) i.toNatClampNeg x))) = wdX a cA (tA u 10 i x) := rfl
theorem wdX_o21 (a : Nat → Nat) (cA : ClassId) (u : tS) : (wdX a cA u)[21]? = some (a 21, .inl (cA, 30, .inl (u.2 11))) := rfl
theorem wdX_a11 (a : Nat → Nat) (cA : ClassId) (u : tS) (i x : Int32) : (wdX a cA u).set 21 (a 21, .inl (cA, 30, .inl (upd (u.2 11) i.toNatClampNeg x))) = wdX a cA (tA u 11 i x) := rfl
theorem wdX_o22 (a : Nat → Nat) (cA : ClassId) (u : tS) : (wdX a cA u)[22]? = some (a 22, .inl (cA, 144, .inl (u.2 12))) := rfl
theorem wdX_a12 (a : Nat → Nat) (cA : ClassId) (u : tS) (i x : Int32) : (wdX a cA u).set 22 (a 22, .inl (cA, 144, .inl (upd (u.2 12) i.toNatClampNeg x))) = wdX a cA (tA u 12 i x) := rfl
theorem wdX_o23 (a : Nat → Nat) (cA : ClassId) (u : tS) : (wdX a cA u)[23]? = some (a 23, .inl (cA, 12, .inl (u.2 13))) := rfl
theorem wdX_a13 (a : Nat → Nat) (cA : ClassId) (u : tS) (i x : Int32) : (wdX a cA u).set 23 (a 23, .inl (cA, 12, .inl (upd (u.2 13) i.toNatClampNeg x))) = wdX a cA (tA u 13 i x) := rfl
theorem wdX_o24 (a : Nat → Nat) (cA : ClassId) (u : tS) : (wdX a cA u)[24]? = some (a 24, .inl (cA, 12, .inl (u.2 14))) := rfl
theorem wdX_a14 (a : Nat → Nat) (cA : ClassId) (u : tS) (i x : Int32) : (wdX a cA u).set 24 (a 24, .inl (cA, 12, .inl (upd (u.2 14) i.toNatClampNeg x))) = wdX a cA (tA u 14 i x) := rfl
theorem wdX_o25 (a : Nat → Nat) (cA : ClassId) (u : tS) : (wdX a cA u)[25]? = some (a 25, .inl (cA, 12, .inl (u.2 15))) := rfl
theorem wdX_a15 (a : Nat → Nat) (cA : ClassId) (u : tS) (i x : Int32) : (wdX a cA u).set 25 (a 25, .inl (cA, 12, .inl (upd (u.2 15) i.toNatClampNeg x))) = wdX a cA (tA u 15 i x) := rfl
theorem wdX_o26 (a : Nat → Nat) (cA : ClassId) (u : tS) : (wdX a cA u)[26]? = some (a 26, .inl (cA, 12, .inl (u.2 16))) := rfl
theorem wdX_a16 (a : Nat → Nat) (cA : ClassId) (u : tS) (i x : Int32) : (wdX a cA u).set 26 (a 26, .inl (cA, 12, .inl (upd (u.2 16) i.toNatClampNeg x))) = wdX a cA (tA u 16 i x) := rfl
theorem wdX_o27 (a : Nat → Nat) (cA : ClassId) (u : tS) : (wdX a cA u)[27]? = some (a 27, .inl (cA, 280, .inl (u.2 17))) := rfl
theorem wdX_a17 (a : Nat → Nat) (cA : ClassId) (u : tS) (i x : Int32) : (wdX a cA u).set 27 (a 27, .inl (cA, 280, .inl (upd (u.2 17) i.toNatClampNeg x))) = wdX a cA (tA u 17 i x) := rfl
theorem wdX_o28 (a : Nat → Nat) (cA : ClassId) (u : tS) : (wdX a cA u)[28]? = some (a 28, .inl (cA, 601, .inl (u.2 18))) := rfl
theorem wdX_a18 (a : Nat → Nat) (cA : ClassId) (u : tS) (i x : Int32) : (wdX a cA u).set 28 (a 28, .inl (cA, 601, .inl (upd (u.2 18) i.toNatClampNeg x))) = wdX a cA (tA u 18 i x) := rfl
theorem wdX_o29 (a : Nat → Nat) (cA : ClassId) (u : tS) : (wdX a cA u)[29]? = some (a 29, .inl (cA, 601, .inl (u.2 19))) := rfl
theorem wdX_a19 (a : Nat → Nat) (cA : ClassId) (u : tS) (i x : Int32) : (wdX a cA u).set 29 (a 29, .inl (cA, 601, .inl (upd (u.2 19) i.toNatClampNeg x))) = wdX a cA (tA u 19 i x) := rfl
theorem wdX_o30 (a : Nat → Nat) (cA : ClassId) (u : tS) : (wdX a cA u)[30]? = some (a 30, .inl (cA, 601, .inl (u.2 20))) := rfl
theorem wdX_a20 (a : Nat → Nat) (cA : ClassId) (u : tS) (i x : Int32) : (wdX a cA u).set 30 (a 30, .inl (cA, 601, .inl (upd (u.2 20) i.toNatClampNeg x))) = wdX a cA (tA u 20 i x) := rfl
theorem wdX_o31 (a : Nat → Nat) (cA : ClassId) (u : tS) : (wdX a cA u)[31]? = some (a 31, .inl (cA, 24, .inl (u.2 21))) := rfl
theorem wdX_a21 (a : Nat → Nat) (cA : ClassId) (u : tS) (i x : Int32) : (wdX a cA u).set 31 (a 31, .inl (cA, 24, .inl (upd (u.2 21) i.toNatClampNeg x))) = wdX a cA (tA u 21 i x) := rfl
theorem wdX_o32 (a : Nat → Nat) (cA : ClassId) (u : tS) : (wdX a cA u)[32]? = some (a 32, .inl (cA, 24, .inl (u.2 22))) := rfl
theorem wdX_a22 (a : Nat → Nat) (cA : ClassId) (u : tS) (i x : Int32) : (wdX a cA u).set 32 (a 32, .inl (cA, 24, .inl (upd (u.2 22) i.toNatClampNeg x))) = wdX a cA (tA u 22 i x) := rfl
theorem wdX_o33 (a : Nat → Nat) (cA : ClassId) (u : tS) : (wdX a cA u)[33]? = some (a 33, .inl (cA, 24, .inl (u.2 23))) := rfl
theorem wdX_a23 (a : Nat → Nat) (cA : ClassId) (u : tS) (i x : Int32) : (wdX a cA u).set 33 (a 33, .inl (cA, 24, .inl (upd (u.2 23) i.toNatClampNeg x))) = wdX a cA (tA u 23 i x) := rfl
theorem wdX_o34 (a : Nat → Nat) (cA : ClassId) (u : tS) : (wdX a cA u)[34]? = some (a 34, .inl (cA, 24, .inl (u.2 24))) := rfl
theorem wdX_a24 (a : Nat → Nat) (cA : ClassId) (u : tS) (i x : Int32) : (wdX a cA u).set 34 (a 34, .inl (cA, 24, .inl (upd (u.2 24) i.toNatClampNeg x))) = wdX a cA (tA u 24 i x) := rfl
theorem wdX_y13_15 (a : Nat → Nat) (cA : ClassId) (u : tS) : (wdX a cA u).set 25 (a 25, .inl (cA, 12, .inl (va_cpy (u.2 13) (u.2 15) 0 0 12))) = wdX a cA (tY u 13 15 12) := rfl
theorem wdX_y14_16 (a : Nat → Nat) (cA : ClassId) (u : tS) : (wdX a cA u).set 26 (a 26, .inl (cA, 12, .inl (va_cpy (u.2 14) (u.2 16) 0 0 12))) = wdX a cA (tY u 14 16 12) := rfl
