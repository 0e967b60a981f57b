/-! what each operation does to the numbers -/
abbrev wd (κ : KS) (x : Int32) : Int32 := sA κ 2 (aN x)
abbrev wl (κ : KS) (x : Int32) : Int64 := sJ κ 0 (aN x)
abbrev fl (κ : KS) (x : Int32) : UInt32 := sF κ (aN x)
abbrev db (κ : KS) (x : Int32) : UInt64 := sD κ 0 (aN x)
abbrev rf (κ : KS) (x : Int32) : Int32 := sA κ 3 (aN x)
abbrev kdO (κ : KS) (r : Int32) : Int32 := sA κ 4 (aN (r - 1))
abbrev szO (κ : KS) (r : Int32) : Int32 := sA κ 5 (aN (r - 1))
abbrev tgO (κ : KS) (r : Int32) : Int32 := sA κ 7 (aN (r - 1))
abbrev nxO (κ : KS) (r : Int32) : Int32 := sA κ 8 (aN (r - 1))
abbrev wtO (κ : KS) (r : Int32) : Int64 := sJ κ 2 (aN (r - 1))
abbrev ixO (r i : Int32) : Int32 := 12 * (r - 1) + i
abbrev pWrong (κ : KS) (r k : Int32) : Prop := ¬ r = 0 ∧ ¬ pOf (kdO κ r) k
/-- why an operation cannot be done: the number of its failure, or 0 -/
def why (κ : KS) (k : Nat) (a b c : Int32) : Int32 := match k with
  | 7 => if (sA κ 2 (aN c)) = 0 then 6 else 0
  | 8 => if (sA κ 2 (aN c)) = 0 then 6 else 0
  | 11 => if (lg_cmp (sJ κ 0 (aN c)) 0) = 0 then 6 else 0
  | 12 => if (lg_cmp (sJ κ 0 (aN c)) 0) = 0 then 6 else 0
  | 23 => if (Op.cmpValue (FP.fcmp (sF κ (aN c)) FP.fconst0) .l) = 0 then 6 else 0
  | 24 => if (Op.cmpValue (FP.dcmp (sD κ 0 (aN c)) FP.dconst0) .l) = 0 then 6 else 0
  | 29 => if (sI κ 6) = 12 then 7 else 0
  | 31 => if (sA κ 2 (aN c)) ≤ 12 then (if 0 ≤ (sA κ 2 (aN c)) then (if (sI κ 2) = 60 then 7 else 0) else 3) else 7
  | 32 => if (sA κ 2 (aN b)) ≤ 6 then (if (sA κ 2 (aN c)) ≤ 6 then (if 0 ≤ (sA κ 2 (aN b)) then (if 0 ≤ (sA κ 2 (aN c)) then (if (((sI κ 2) + 1) + (sA κ 2 (aN b))) ≤ 60 then 0 else 7) else 3) else 3) else 7) else 7
  | 33 => if (sI κ 2) = 60 then 7 else 0
  | 38 => if (sA κ 3 (aN b)) = 0 then 1 else (if pRow (sA κ 4 (aN ((sA κ 3 (aN b)) - 1))) then 0 else 4)
  | 39 => if pWrong κ (sA κ 3 (aN b)) 0 then 4 else (if (sA κ 3 (aN b)) = 0 then 1 else (if pIn (sA κ 2 (aN c)) 0 ((sA κ 5 (aN ((sA κ 3 (aN b)) - 1))) - 1) then 0 else 2))
  | 40 => if pWrong κ (sA κ 3 (aN b)) 1 then 4 else (if (sA κ 3 (aN b)) = 0 then 1 else (if pIn (sA κ 2 (aN c)) 0 ((sA κ 5 (aN ((sA κ 3 (aN b)) - 1))) - 1) then 0 else 2))
  | 41 => if pWrong κ (sA κ 3 (aN b)) 2 then 4 else (if (sA κ 3 (aN b)) = 0 then 1 else (if pIn (sA κ 2 (aN c)) 0 ((sA κ 5 (aN ((sA κ 3 (aN b)) - 1))) - 1) then 0 else 2))
  | 42 => if pWrong κ (sA κ 3 (aN b)) 3 then 4 else (if (sA κ 3 (aN b)) = 0 then 1 else (if pIn (sA κ 2 (aN c)) 0 ((sA κ 5 (aN ((sA κ 3 (aN b)) - 1))) - 1) then 0 else 2))
  | 43 => if pWrong κ (sA κ 3 (aN b)) 4 then 4 else (if (sA κ 3 (aN b)) = 0 then 1 else (if pIn (sA κ 2 (aN c)) 0 ((sA κ 5 (aN ((sA κ 3 (aN b)) - 1))) - 1) then 0 else 2))
  | 44 => if pWrong κ (sA κ 3 (aN b)) 5 then 4 else (if (sA κ 3 (aN b)) = 0 then 1 else (if pIn (sA κ 2 (aN c)) 0 ((sA κ 5 (aN ((sA κ 3 (aN b)) - 1))) - 1) then 0 else 2))
  | 45 => if pWrong κ (sA κ 3 (aN b)) 6 then 4 else (if (sA κ 3 (aN b)) = 0 then 1 else (if pIn (sA κ 2 (aN c)) 0 ((sA κ 5 (aN ((sA κ 3 (aN b)) - 1))) - 1) then 0 else 2))
  | 46 => if pWrong κ (sA κ 3 (aN b)) 7 then 4 else (if (sA κ 3 (aN b)) = 0 then 1 else (if pIn (sA κ 2 (aN c)) 0 ((sA κ 5 (aN ((sA κ 3 (aN b)) - 1))) - 1) then 0 else 2))
  | 47 => if pWrong κ (sA κ 3 (aN b)) 8 then 4 else (if (sA κ 3 (aN b)) = 0 then 1 else (if pIn (sA κ 2 (aN c)) 0 ((sA κ 5 (aN ((sA κ 3 (aN b)) - 1))) - 1) then 0 else 2))
  | 48 => if pWrong κ (sA κ 3 (aN b)) 10 then 4 else (if (sA κ 3 (aN b)) = 0 then 1 else (if pIn (sA κ 2 (aN c)) 0 ((sA κ 5 (aN ((sA κ 3 (aN b)) - 1))) - 1) then 0 else 2))
  | 49 => if pWrong κ (sA κ 3 (aN b)) 0 then 4 else (if (sA κ 3 (aN b)) = 0 then 1 else (if pIn (sA κ 2 (aN c)) 0 ((sA κ 5 (aN ((sA κ 3 (aN b)) - 1))) - 1) then 0 else 2))
  | 50 => if pWrong κ (sA κ 3 (aN b)) 1 then 4 else (if (sA κ 3 (aN b)) = 0 then 1 else (if pIn (sA κ 2 (aN c)) 0 ((sA κ 5 (aN ((sA κ 3 (aN b)) - 1))) - 1) then 0 else 2))
  | 51 => if pWrong κ (sA κ 3 (aN b)) 2 then 4 else (if (sA κ 3 (aN b)) = 0 then 1 else (if pIn (sA κ 2 (aN c)) 0 ((sA κ 5 (aN ((sA κ 3 (aN b)) - 1))) - 1) then 0 else 2))
  | 52 => if pWrong κ (sA κ 3 (aN b)) 3 then 4 else (if (sA κ 3 (aN b)) = 0 then 1 else (if pIn (sA κ 2 (aN c)) 0 ((sA κ 5 (aN ((sA κ 3 (aN b)) - 1))) - 1) then 0 else 2))
  | 53 => if pWrong κ (sA κ 3 (aN b)) 4 then 4 else (if (sA κ 3 (aN b)) = 0 then 1 else (if pIn (sA κ 2 (aN c)) 0 ((sA κ 5 (aN ((sA κ 3 (aN b)) - 1))) - 1) then 0 else 2))
  | 54 => if pWrong κ (sA κ 3 (aN b)) 5 then 4 else (if (sA κ 3 (aN b)) = 0 then 1 else (if pIn (sA κ 2 (aN c)) 0 ((sA κ 5 (aN ((sA κ 3 (aN b)) - 1))) - 1) then 0 else 2))
  | 55 => if pWrong κ (sA κ 3 (aN b)) 6 then 4 else (if (sA κ 3 (aN b)) = 0 then 1 else (if pIn (sA κ 2 (aN c)) 0 ((sA κ 5 (aN ((sA κ 3 (aN b)) - 1))) - 1) then 0 else 2))
  | 56 => if pWrong κ (sA κ 3 (aN b)) 7 then 4 else (if (sA κ 3 (aN b)) = 0 then 1 else (if pIn (sA κ 2 (aN c)) 0 ((sA κ 5 (aN ((sA κ 3 (aN b)) - 1))) - 1) then 0 else 2))
  | 57 => if pWrong κ (sA κ 3 (aN b)) 8 then 4 else (if pWrong κ (sA κ 3 (aN a)) 11 then 4 else (if (sA κ 3 (aN b)) = 0 then 1 else (if pIn (sA κ 2 (aN c)) 0 ((sA κ 5 (aN ((sA κ 3 (aN b)) - 1))) - 1) then (if (sA κ 3 (aN a)) = 0 then 0 else (if (sA κ 4 (aN ((sA κ 3 (aN a)) - 1))) = 11 then (if (sA κ 4 (aN ((sA κ 3 (aN b)) - 1))) = 9 then 5 else 0) else 0)) else 2)))
  | 58 => if pWrong κ (sA κ 3 (aN b)) 10 then 4 else (if pWrong κ (sA κ 3 (aN a)) 4 then 4 else (if (sA κ 3 (aN b)) = 0 then 1 else (if pIn (sA κ 2 (aN c)) 0 ((sA κ 5 (aN ((sA κ 3 (aN b)) - 1))) - 1) then 0 else 2)))
  | 59 => if pWrong κ (sA κ 3 (aN b)) 11 then 4 else (if (sA κ 3 (aN b)) = 0 then 1 else 0)
  | 60 => if pWrong κ (sA κ 3 (aN b)) 11 then 4 else (if (sA κ 3 (aN b)) = 0 then 1 else 0)
  | 61 => if pWrong κ (sA κ 3 (aN b)) 11 then 4 else (if (sA κ 3 (aN b)) = 0 then 1 else 0)
  | 62 => if pWrong κ (sA κ 3 (aN b)) 11 then 4 else (if (sA κ 3 (aN b)) = 0 then 1 else 0)
  | 63 => if pWrong κ (sA κ 3 (aN b)) 11 then 4 else (if (sA κ 3 (aN b)) = 0 then 1 else 0)
  | 64 => if pWrong κ (sA κ 3 (aN b)) 11 then 4 else (if pWrong κ (sA κ 3 (aN a)) 11 then 4 else (if (sA κ 3 (aN b)) = 0 then 1 else 0))
  | 65 => if pWrong κ (sA κ 3 (aN b)) 11 then 4 else (if (sA κ 3 (aN b)) = 0 then 1 else 0)
  | 66 => if pWrong κ (sA κ 3 (aN b)) 16 then 4 else (if (sA κ 3 (aN b)) = 0 then 1 else 0)
  | 67 => if pWrong κ (sA κ 3 (aN c)) 15 then 4 else (if (sI κ 2) = 60 then 7 else 0)
  | 68 => if (sA κ 3 (aN a)) = 0 then 1 else (if pWrong κ (sA κ 3 (aN a)) 15 then 4 else sA κ 7 (aN ((sA κ 3 (aN a)) - 1)))
  | 70 => if (sA κ 3 (aN b)) = 0 then 1 else (if pWrong κ (sA κ 3 (aN b)) 15 then 4 else 0)
  | 71 => if (sA κ 3 (aN b)) = 0 then 1 else (if pWrong κ (sA κ 3 (aN b)) 15 then 4 else 0)
  | _ => 0
/-- a new thing, as the reference makes it -/
def zl (x : Int32) (κ : KS) : Nat → KS
  | 0 => κ
  | k + 1 => uA (uD (uJ (zl x κ k) 1 (aN (12 * x + nI k)) 0) 1 (aN (12 * x + nI k)) FP.dconst0) 6 (aN (12 * x + nI k)) 0
def mk (κ : KS) (kd pl : Int32) : KS := uI (uA (uJ (uA (zl (sI κ 2) (uA (uA κ 4 (aN (sI κ 2)) kd) 5 (aN (sI κ 2)) pl) 12) 7 (aN (sI κ 2)) 0) 2 (aN (sI κ 2)) 0) 8 (aN (sI κ 2)) 0) 2 (sI κ 2 + 1)
def mkR (κ : KS) (g pl : Int32) : Nat → KS
  | 0 => κ
  | i + 1 => uA (mk (mkR κ g pl i) 4 pl) 6 (aN (12 * g + nI i)) (sI (mkR κ g pl i) 2 + 1)
def pTurn (kd tg x : Int32) : Int32 := if kd = 14 then tg * x else if kd = 13 then 2 * (x + tg) + 1 else x + tg
/-- what an operation does that can be done; hd, th: the number of the latest failure that was handled, the fault that was thrown -/
def act (κ : KS) (hd th : Int32) (k : Nat) (a b c : Int32) : KS := match k with
  | 0 => uI κ 3 2
  | 1 => uA κ 2 (aN a) b
  | 2 => uJ κ 0 (aN a) (b.toInt64 <<< ((32 : Int32).toInt64 &&& 63) ||| (c.toInt64 &&& 4294967295))
  | 3 => uA κ 2 (aN a) (wd κ b)
  | 4 => uA κ 2 (aN a) (wd κ b + wd κ c)
  | 5 => uA κ 2 (aN a) (wd κ b - wd κ c)
  | 6 => uA κ 2 (aN a) (wd κ b * wd κ c)
  | 7 => uA κ 2 (aN a) (wd κ b / wd κ c)
  | 8 => uA κ 2 (aN a) (wd κ b - wd κ b / wd κ c * wd κ c)
  | 9 => uJ κ 0 (aN a) (wl κ b + wl κ c)
  | 10 => uJ κ 0 (aN a) (wl κ b * wl κ c)
  | 11 => uJ κ 0 (aN a) (wl κ b / wl κ c)
  | 12 => uJ κ 0 (aN a) (wl κ b - wl κ b / wl κ c * wl κ c)
  | 13 => uJ κ 0 (aN a) (wd κ b).toInt64
  | 14 => uA κ 2 (aN a) (wl κ b).toInt32
  | 15 => uF κ (aN a) (FP.l2f (wl κ b))
  | 16 => uD κ 0 (aN a) (FP.l2d (wl κ b))
  | 17 => uJ κ 0 (aN a) (FP.f2l (fl κ b))
  | 18 => uA κ 2 (aN a) (FP.d2i (db κ b))
  | 19 => uD κ 0 (aN a) (FP.f2d (fl κ b))
  | 20 => uF κ (aN a) (FP.d2f (db κ b))
  | 21 => uF κ (aN a) (FP.fdiv (fl κ b) FP.fconst2)
  | 22 => uD κ 0 (aN a) (FP.ddiv (db κ b) 4611686018427387904)
  | 23 => uF κ (aN a) (FP.frem (fl κ b) (fl κ c))
  | 24 => uD κ 0 (aN a) (FP.drem (db κ b) (db κ c))
  | 25 => uA κ 2 (aN a) (if wd κ c ≤ wd κ b then 0 else 1)
  | 26 => uA κ 2 (aN a) (if 0 ≤ Op.cmpValue (FP.dcmp (db κ b) (db κ c)) .g then 0 else 1)
  | 29 => uI (uA κ 9 (aN (sI κ 6)) (sI κ 4)) 6 (sI κ 6 + 1)
  | 30 => if sI κ 6 = 0 then uI κ 3 2 else uI κ 6 (sI κ 6 - 1)
  | 31 => uA (mk κ b (wd κ c)) 3 (aN a) (sI κ 2 + 1)
  | 32 => uA (mkR (mk κ 10 (wd κ b)) (sI κ 2) (wd κ c) (aN (wd κ b))) 3 (aN a) (sI κ 2 + 1)
  | 33 => uA (uA (mk κ b 0) 3 (aN a) (sI κ 2 + 1)) 7 (aN (sI κ 2)) (wd κ c)
  | 34 => uA κ 3 (aN a) (rf κ b)
  | 35 => uA κ 3 (aN a) 0
  | 36 => uA κ 2 (aN a) (if rf κ b = rf κ c then 1 else 0)
  | 37 => uA κ 2 (aN a) (if rf κ b = 0 then 0 else if pOf (kdO κ (rf κ b)) c then 1 else 0)
  | 38 => uA κ 2 (aN a) (szO κ (rf κ b))
  | 39 => uA κ 2 (aN a) (sJ κ 1 (aN (ixO (rf κ b) (wd κ c)))).toInt32
  | 40 => uA κ 2 (aN a) (sJ κ 1 (aN (ixO (rf κ b) (wd κ c)))).toInt32
  | 41 => uA κ 2 (aN a) (sJ κ 1 (aN (ixO (rf κ b) (wd κ c)))).toInt32
  | 42 => uA κ 2 (aN a) (sJ κ 1 (aN (ixO (rf κ b) (wd κ c)))).toInt32
  | 43 => uA κ 2 (aN a) (sJ κ 1 (aN (ixO (rf κ b) (wd κ c)))).toInt32
  | 44 => uJ κ 0 (aN a) (sJ κ 1 (aN (ixO (rf κ b) (wd κ c))))
  | 45 => uF κ (aN a) (FP.d2f (sD κ 1 (aN (ixO (rf κ b) (wd κ c)))))
  | 46 => uD κ 0 (aN a) (sD κ 1 (aN (ixO (rf κ b) (wd κ c))))
  | 47 => uA κ 3 (aN a) (sA κ 6 (aN (ixO (rf κ b) (wd κ c))))
  | 48 => uA κ 3 (aN a) (sA κ 6 (aN (ixO (rf κ b) (wd κ c))))
  | 49 => uJ κ 1 (aN (ixO (rf κ b) (wd κ c))) (wd κ a &&& 1).toInt64
  | 50 => uJ κ 1 (aN (ixO (rf κ b) (wd κ c))) (wd κ a).toInt8.toInt32.toInt64
  | 51 => uJ κ 1 (aN (ixO (rf κ b) (wd κ c))) (wd κ a &&& 65535).toInt64
  | 52 => uJ κ 1 (aN (ixO (rf κ b) (wd κ c))) (wd κ a).toInt16.toInt32.toInt64
  | 53 => uJ κ 1 (aN (ixO (rf κ b) (wd κ c))) (wd κ a).toInt64
  | 54 => uJ κ 1 (aN (ixO (rf κ b) (wd κ c))) (wl κ a)
  | 55 => uD κ 1 (aN (ixO (rf κ b) (wd κ c))) (FP.f2d (fl κ a))
  | 56 => uD κ 1 (aN (ixO (rf κ b) (wd κ c))) (db κ a)
  | 57 => uA κ 6 (aN (ixO (rf κ b) (wd κ c))) (rf κ a)
  | 58 => uA κ 6 (aN (ixO (rf κ b) (wd κ c))) (rf κ a)
  | 59 => uA κ 2 (aN a) (tgO κ (rf κ b))
  | 60 => uA κ 7 (aN (rf κ b - 1)) (wd κ a)
  | 61 => uJ κ 0 (aN a) (wtO κ (rf κ b))
  | 62 => uJ κ 2 (aN (rf κ b - 1)) (wl κ a)
  | 63 => uA κ 3 (aN a) (nxO κ (rf κ b))
  | 64 => uA κ 8 (aN (rf κ b - 1)) (rf κ a)
  | 65 => uA κ 2 (aN a) (pTurn (kdO κ (rf κ b)) (tgO κ (rf κ b)) (wd κ c))
  | 66 => uA κ 2 (aN a) (pTurn (kdO κ (rf κ b)) (tgO κ (rf κ b)) (wd κ c))
  | 67 => uA (uA (uA (mk κ 15 0) 3 (aN a) (sI κ 2 + 1)) 7 (aN (sI κ 2)) (8 + (wd κ b &&& 15))) 8 (aN (sI κ 2)) (rf κ c)
  | 69 => uA κ 3 (aN a) th
  | 70 => uA κ 2 (aN a) (tgO κ (rf κ b))
  | 71 => uA κ 3 (aN a) (nxO κ (rf κ b))
  | 72 => uA κ 2 (aN a) hd
  | 73 => uI (if 200 ≤ sI κ 7 then κ else uA κ 10 (aN (sI κ 7)) (wd κ a)) 7 (sI κ 7 + 1)
  | _ => κ
/-- where the run goes on: d, if nothing else is told -/
def nxt (κ : KS) (k : Nat) (a b d : Int32) : Int32 := match k with
  | 27 => a
  | 28 => if wd κ a = 0 then b else d
  | 29 => a
  | 30 => if sI κ 6 = 0 then d else sA κ 9 (aN (sI κ 6 - 1)) + 1
  | _ => d
/-- what a, b and c of an operation name -/
def dgs : List Nat := [0, 100, 200, 110, 111, 111, 111, 111, 111, 222, 222, 222, 222, 210, 120, 320, 420, 230, 140, 430, 340, 330, 440, 333, 444, 111, 144, 600, 160, 600, 0, 571, 511, 581, 550, 500, 155, 159, 150, 151, 151, 151, 151, 151, 251, 351, 451, 551, 551, 151, 151, 151, 151, 151, 251, 351, 451, 551, 551, 150, 150, 250, 250, 550, 550, 151, 151, 515, 500, 500, 150, 550, 100, 100]
def dg (k : Nat) : Nat := dgs.getD k 0
def okS (d : Nat) (x : Int32) : Prop := match d with
  | 1 => vp_in x 8
  | 2 => vp_in x 4
  | 3 => vp_in x 4
  | 4 => vp_in x 4
  | 5 => vp_in x 8
  | 6 => vp_in x 200
  | 7 => vp_in x 10
  | 8 => vp_in (x - 11) 4
  | 9 => vp_in x 17
  | _ => True
def okStep (k : Nat) (a b c : Int32) : Prop := okS (dg k / 100) a ∧ okS (dg k / 10 % 10) b ∧ okS (dg k % 10) c
/-- each register's thing is one that the reference's arrays hold, and no row is too long -/
def WFm (κ : KS) : Prop := ∀ x, vp_in x 8 → ¬ sA κ 3 (aN x) = 0 → vp_in (sA κ 3 (aN x) - 1) 60 ∧ vp_in (sA κ 5 (aN (sA κ 3 (aN x) - 1))) 13
theorem wf_ref {κ : KS} (h : WFm κ) {x : Int32} (hx : vp_in x 8) (hn : ¬ sA κ 3 (aN x) = 0) : vp_in (sA κ 3 (aN x) - 1) 60 := (h x hx hn).1
/-- no operation answers NaN -/
def nnOp (κ : KS) (k : Nat) (a b c : Int32) : Prop := match k with
  | 19 => vf_n64 (FP.f2d (fl κ b))
  | 20 => vf_n32 (FP.d2f (db κ b))
  | 21 => vf_n32 (FP.fdiv (fl κ b) FP.fconst2)
  | 22 => vf_n64 (FP.ddiv (db κ b) 4611686018427387904)
  | 23 => vf_n32 (FP.frem (fl κ b) (fl κ c))
  | 24 => vf_n64 (FP.drem (db κ b) (db κ c))
  | 45 => vf_n32 (FP.d2f (sD κ 1 (aN (ixO (rf κ b) (wd κ c)))))
  | 55 => vf_n64 (FP.f2d (fl κ a))
  | _ => True
theorem ix60 {x j : Int32} (hx : vp_in x 60) (hj : vp_in j 12) : vp_in (12 * x + j) 720 := by
  obtain ⟨n, hn, rfl⟩ := vp_in_of hx (by decide)
  obtain ⟨i, hi, rfl⟩ := vp_in_of hj (by decide)
  rw [show (12 : Int32) = nI 12 from rfl, pk_mul, nI_add]
  exact vp_in_nI (by omega) (by decide)
theorem ix1 (x : Int32) : x + 1 - 1 = x := by
  apply Int32.toBitVec_inj.mp
  simp
theorem hN_toN {x : Int32} {n : Nat} (h : vp_in x n) : ¬ x < 0 := fun q => h (Or.inl q)
theorem v12_0 : vp_in (0 : Int32) 12 := by unfold vp_in; decide
theorem v12_1 : vp_in (1 : Int32) 12 := by unfold vp_in; decide
theorem v12_2 : vp_in (2 : Int32) 12 := by unfold vp_in; decide
theorem v12_3 : vp_in (3 : Int32) 12 := by unfold vp_in; decide
theorem v12_4 : vp_in (4 : Int32) 12 := by unfold vp_in; decide
theorem v12_5 : vp_in (5 : Int32) 12 := by unfold vp_in; decide
theorem v12_6 : vp_in (6 : Int32) 12 := by unfold vp_in; decide
theorem v12_7 : vp_in (7 : Int32) 12 := by unfold vp_in; decide
theorem v12_8 : vp_in (8 : Int32) 12 := by unfold vp_in; decide
theorem v12_9 : vp_in (9 : Int32) 12 := by unfold vp_in; decide
theorem v12_10 : vp_in (10 : Int32) 12 := by unfold vp_in; decide
theorem v12_11 : vp_in (11 : Int32) 12 := by unfold vp_in; decide
theorem pin12 {w z : Int32} (h : pIn w 0 (z - 1)) (hz : vp_in z 13) : vp_in w 12 := by
  obtain ⟨n, hn, rfl⟩ := vp_in_of hz (by decide)
  obtain ⟨h1, h2⟩ := h
  cases n with
  | zero => exact absurd (show (nI 0 - 1 : Int32) < w from Int32.lt_of_lt_of_le (b := 0) (by decide) (Int32.not_lt.mp h1)) h2
  | succ n =>
    rw [nI_pred] at h2
    obtain ⟨j, hj, rfl⟩ := nI_of h1
    have : ¬ n < j := fun q => h2 (nI_lt q (by omega))
    exact vp_in_nI (by omega) (by decide)
theorem wf_ix {κ : KS} (h : WFm κ) {x w : Int32} (hx : vp_in x 8) (hn : ¬ sA κ 3 (aN x) = 0) (hw : pIn w 0 (sA κ 5 (aN (sA κ 3 (aN x) - 1)) - 1)) : vp_in (12 * (sA κ 3 (aN x) - 1) + w) 720 := ix60 (h x hx hn).1 (pin12 hw (h x hx hn).2)
theorem yG {P Q S : Prop} [Decidable P] [Decidable Q] [Decidable S] {z : Int32} (h : (if P then (4 : Int32) else if Q then 1 else if S then z else 2) = 0) : ¬ P ∧ ¬ Q ∧ S ∧ z = 0 := by
  by_cases hP : P
  · rw [if_pos hP] at h; exact absurd h (by decide)
  · rw [if_neg hP] at h
    by_cases hQ : Q
    · rw [if_pos hQ] at h; exact absurd h (by decide)
    · rw [if_neg hQ] at h
      by_cases hS : S
      · rw [if_pos hS] at h; exact ⟨hP, hQ, hS, h⟩
      · rw [if_neg hS] at h; exact absurd h (by decide)
theorem yK {P Q : Prop} [Decidable P] [Decidable Q] (h : (if P then (4 : Int32) else if Q then 1 else 0) = 0) : ¬ P ∧ ¬ Q := by
  by_cases hP : P
  · rw [if_pos hP] at h; exact absurd h (by decide)
  · rw [if_neg hP] at h
    by_cases hQ : Q
    · rw [if_pos hQ] at h; exact absurd h (by decide)
    · exact ⟨hP, hQ⟩
theorem y4 {P : Prop} [Decidable P] {z : Int32} (h : (if P then (4 : Int32) else z) = 0) : ¬ P ∧ z = 0 := by
  by_cases hP : P
  · rw [if_pos hP] at h; exact absurd h (by decide)
  · rw [if_neg hP] at h; exact ⟨hP, h⟩
theorem y1 {P : Prop} [Decidable P] {z : Int32} (h : (if P then (1 : Int32) else z) = 0) : ¬ P ∧ z = 0 := by
  by_cases hP : P
  · rw [if_pos hP] at h; exact absurd h (by decide)
  · rw [if_neg hP] at h; exact ⟨hP, h⟩
theorem y6 {P : Prop} [Decidable P] {z : Int32} (h : (if P then (6 : Int32) else z) = 0) : ¬ P ∧ z = 0 := by
  by_cases hP : P
  · rw [if_pos hP] at h; exact absurd h (by decide)
  · rw [if_neg hP] at h; exact ⟨hP, h⟩
theorem y7 {P : Prop} [Decidable P] {z : Int32} (h : (if P then (7 : Int32) else z) = 0) : ¬ P ∧ z = 0 := by
  by_cases hP : P
  · rw [if_pos hP] at h; exact absurd h (by decide)
  · rw [if_neg hP] at h; exact ⟨hP, h⟩
theorem yE {P : Prop} [Decidable P] {z e : Int32} (he : ¬ e = 0) (h : (if P then z else e) = 0) : P ∧ z = 0 := by
  by_cases hP : P
  · rw [if_pos hP] at h; exact ⟨hP, h⟩
  · rw [if_neg hP] at h; exact absurd h he
theorem uA_self (κ : KS) (k i : Nat) (v : Int32) : sA (uA κ k i v) k i = v := by simp [sA, uA, va_up]
theorem lg_ne {x : Int64} (h : ¬ lg_cmp x 0 = 0) : ¬ x = 0 := fun q => h (by rw [q]; decide)
theorem in12 {x : Int32} (h : vp_in x 13) (hn : ¬ x = 12) : vp_in x 12 := by
  obtain ⟨n, h1, rfl⟩ := vp_in_of h (by decide)
  have : n ≠ 12 := fun q => hn (by rw [q]; rfl)
  exact vp_in_nI (by omega) (by decide)
theorem in12p {x : Int32} (h : vp_in x 13) (hn : ¬ x = 0) : vp_in (x - 1) 12 := by
  obtain ⟨n, h1, rfl⟩ := vp_in_of h (by decide)
  cases n with
  | zero => exact absurd rfl hn
  | succ n => rw [nI_pred]; exact vp_in_nI (by omega) (by decide)
theorem in60 {x : Int32} (h : vp_in x 61) (hn : ¬ x = 60) : vp_in x 60 := by
  obtain ⟨n, h1, rfl⟩ := vp_in_of h (by decide)
  have : n ≠ 60 := fun q => hn (by rw [q]; rfl)
  exact vp_in_nI (by omega) (by decide)
theorem in200 {x : Int32} (h : ¬ x < 0) (hn : ¬ 200 ≤ x) : vp_in x 200 := by
  obtain ⟨n, h1, rfl⟩ := nI_of h
  have : n < 200 := by
    rcases Nat.lt_or_ge n 200 with q | q
    · exact q
    · exact absurd (nI_le q h1) hn
  exact vp_in_nI this (by decide)
theorem mm60 {x : Int32} {r : Nat} (h : vp_in x 61) (hle : x + 1 + nI r ≤ 60) (hr : r ≤ 6 := by decide) : ∃ n, n + 1 + r ≤ 60 ∧ x = nI n := by
  obtain ⟨n, h1, rfl⟩ := vp_in_of h (by decide)
  refine ⟨n, ?_, rfl⟩
  rw [nI_1, nI_add] at hle
  rcases Nat.lt_or_ge 60 (n + 1 + r) with q | q
  · exact absurd hle (nI_ge q (by omega))
  · exact q
theorem in7 {x : Int32} (h0 : 0 ≤ x) (h1 : x ≤ 6) : ∃ j : Nat, j < 7 ∧ x = nI j := by
  obtain ⟨j, hj, e⟩ := nI_of2 (M := 6) (n := 6) (by decide) (Int32.not_lt.mpr h0) h1
  exact ⟨j, by omega, e⟩
