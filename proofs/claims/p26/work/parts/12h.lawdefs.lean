def pL_law_L78 : Nat → Int32 → SR → (SR)
  | 0, v8, zq => zq
  | n + 1, v8, zq => if 12 ≤ v8 then zq
    else pL_law_L78 n (v8 + 1) (pR zq 1 (5 * v8) (-1))
def pL_law_E78 (xq : SR) : SR := pL_law_L78 13 0 (pR (pR (pR (pR (pR (pR (pR xq 0 0 2) 0 1 20) 0 2 4) 0 3 3) 0 4 10) 0 5 60) 0 6 7)
def pL_law_J151s0 (L : Nat) (xs : (Nat → Int32)) (v8 : Int32) : Int32 := if 6 ≤ v8 then (pL_low (pL_cell L xs (2 * v8)) 14)
  else (v8 - v8 / 3 * 3)
def pL_law_J842s0 (u10 : Int32) : Int32 := if (pL_low u10 7) = 0 then (pL_low (u10 >>> ((3 : Int32) &&& 31)) 13)
  else if (pL_low u10 7) = 1 then (1 + (pL_low (u10 >>> ((3 : Int32) &&& 31)) 50))
    else if (pL_low u10 7) = 2 then (1 + (pL_low (u10 >>> ((3 : Int32) &&& 31)) 20))
      else if (pL_low u10 7) = 6 then (1 + (pL_low (u10 >>> ((3 : Int32) &&& 31)) 20))
        else if (pL_low u10 7) = 3 then (pL_low (u10 >>> ((3 : Int32) &&& 31)) 21)
          else if (pL_low u10 7) = 4 then (pL_low (u10 >>> ((3 : Int32) &&& 31)) 51)
            else (pL_low (u10 >>> ((3 : Int32) &&& 31)) 101)
def pL_law_K867 (rec : Int32 → TV → SR → SR → (Int32)) (u8 : Int32) (u9 : Int32) (u10 : Int32) (yt : TV) (yq : SR) (yk : SR) : Int32 := if (pL_same yt yq) = 0 then (0 : Int32)
  else if (pL_low (u10 >>> ((13 : Int32) &&& 31)) 4) = 0 then if ((pL_would (u9 >>> ((3 : Int32) &&& 31)) yt yq yk).1) = 0 then (0 : Int32)
      else rec (u8 + 1) ((pL_would (u9 >>> ((3 : Int32) &&& 31)) yt yq yk).2.1) yq ((pL_would (u9 >>> ((3 : Int32) &&& 31)) yt yq yk).2.2)
    else rec (u8 + 1) yt yq yk
def pL_law_J671s0 (u9 : Int32) : Int32 := if (pL_low (u9 >>> ((9 : Int32) &&& 31)) 3) = 0 then 99
  else 8
def pL_law_L683 (w14 : Int32) : Nat → Int32 → Int32 → SR → (Int32 × SR)
  | 0, v15, v16, zq => (v15, zq)
  | n + 1, v15, v16, zq => if w14 ≤ v16 then (v15, zq)
    else pL_law_L683 w14 n (v15 + ((pL_hour zq).1)) (v16 + 1) ((pL_hour zq).2)
def pL_law_E683 (u9 : Int32) (u10 : Int32) (yq : SR) : Int32 × SR := pL_law_L683 (1 + (pL_low u10 (pL_law_J671s0 u9))) 100 0 0 yq
def pL_law_J572s0 (u13 : Int32) (yq : SR) : Int32 := if (yq.2 1 (ix u13)) < 0 then 0
  else 1
def pL_law_J608s0 (v16 : Int32) (zq : SR) : Int32 := if 0 ≤ (zq.2 1 (ix (5 * v16))) then 1
  else 0
def pL_law_L585 : Nat → Int32 → Int32 → SR → (Int32)
  | 0, v15, v16, zq => v15
  | n + 1, v15, v16, zq => if 12 ≤ v16 then v15
    else pL_law_L585 n (v15 + (pL_law_J608s0 v16 zq)) (v16 + 1) zq
def pL_law_E585 (u13 : Int32) (yq : SR) : Int32 := pL_law_L585 13 0 0 (pR yq 1 u13 (-1))
def pL_law_J634s0 (u13 : Int32) (yq : SR) : Int32 := if (pL_law_J572s0 u13 yq) = 0 then (-1)
  else (pL_law_E585 u13 yq)
def pL_law_J435s0 (u13 : Int32) (yq : SR) : Int32 := if (yq.2 1 (ix u13)) < 0 then 0
  else 1
def pL_law_J456s0 (u13 : Int32) (yq : SR) : Int32 := if (pL_law_J435s0 u13 yq) = 0 then 0
  else if (yq.2 1 (ix (u13 + 2))) = 0 then 1
    else 0
def pL_law_J473xq (u13 : Int32) (yq : SR) : SR := if (pL_law_J456s0 u13 yq) = 0 then yq
  else (pR yq 1 (u13 + 2) 1)
def pL_law_J510s0 (v17 : Int32) (zq : SR) : Int32 := if (zq.2 1 (ix (5 * v17))) < 0 then 0
  else if (zq.2 1 (ix ((5 * v17) + 2))) ≤ 0 then 0
    else 1
def pL_law_L476 : Nat → Int32 → Int32 → SR → (Int32)
  | 0, v16, v17, zq => v16
  | n + 1, v16, v17, zq => if 12 ≤ v17 then v16
    else pL_law_L476 n (v16 + (pL_law_J510s0 v17 zq)) (v17 + 1) zq
def pL_law_E476 (u13 : Int32) (yq : SR) : Int32 := pL_law_L476 13 0 0 (pL_law_J473xq u13 yq)
def pL_law_J546s0 (u13 : Int32) (yq : SR) : Int32 := if (pL_law_J456s0 u13 yq) = 0 then if (pL_law_J435s0 u13 yq) = 0 then (-1)
    else (-5)
  else (pL_law_E476 u13 yq)
def pL_law_K417 (rec : Int32 → TV → SR → SR → (Int32)) (u8 : Int32) (u9 : Int32) (u10 : Int32) (u11 : Int32) (u12 : Int32) (u13 : Int32) (yt : TV) (yq : SR) (yk : SR) : Int32 := if u11 = 3 then if ((pX2_cover u12 yt).1) = (pL_law_J546s0 u13 yq) then pL_law_K867 rec u8 u9 u10 ((pX2_cover u12 yt).2) (pL_law_J473xq u13 yq) yk
    else (0 : Int32)
  else if u11 = 4 then if ((pX2_take u12 yt).1) = (pL_law_J634s0 u13 yq) then pL_law_K867 rec u8 u9 u10 ((pX2_take u12 yt).2) (pR yq 1 u13 (-1)) yk
      else (0 : Int32)
    else if 12 ≤ u11 then if ((pX2_set (pL_low u10 7) (pL_law_J842s0 u10) yt).1) = (yq.2 0 (ix (pL_low u10 7))) then pL_law_K867 rec u8 u9 u10 ((pX2_set (pL_low u10 7) (pL_law_J842s0 u10) yt).2) (pR yq 0 (pL_low u10 7) (pL_law_J842s0 u10)) yk
        else (0 : Int32)
      else if ((pX2_pass (1 + (pL_low u10 (pL_law_J671s0 u9))) yt).1) = ((pL_law_E683 u9 u10 yq).1) then pL_law_K867 rec u8 u9 u10 ((pX2_pass (1 + (pL_low u10 (pL_law_J671s0 u9))) yt).2) ((pL_law_E683 u9 u10 yq).2) yk
        else (0 : Int32)
def pL_law_J346s0 (L : Nat) (xs : (Nat → Int32)) (v8 : Int32) : Int32 := if (pL_low (pL_cell L xs ((2 * v8) + 1)) 3) = 0 then ((pL_cell L xs ((2 * v8) + 1)) &&& 16777215)
  else (7 <<< ((pL_low ((pL_cell L xs ((2 * v8) + 1)) >>> ((2 : Int32) &&& 31)) 20) &&& 31))
def pL_law_J189s0 (L : Nat) (xs : (Nat → Int32)) (v8 : Int32) : Int32 := if (pL_low (pL_cell L xs ((2 * v8) + 1)) 4) ≤ 0 then 0
  else 1
def pL_law_J203s0 (L : Nat) (xs : (Nat → Int32)) (v8 : Int32) (zq : SR) : Int32 := if 0 ≤ (zq.2 1 (ix (5 * (pL_low ((pL_cell L xs (2 * v8)) >>> ((4 : Int32) &&& 31)) 12)))) then 0
  else 1
def pL_law_J248xq (L : Nat) (xs : (Nat → Int32)) (v8 : Int32) (zq : SR) : SR := if (pL_law_J203s0 L xs v8 zq) = 0 then zq
  else (pR (pR (pR (pR (pR zq 1 (5 * (pL_low ((pL_cell L xs (2 * v8)) >>> ((4 : Int32) &&& 31)) 12)) 100) 1 ((5 * (pL_low ((pL_cell L xs (2 * v8)) >>> ((4 : Int32) &&& 31)) 12)) + 1) 0) 1 ((5 * (pL_low ((pL_cell L xs (2 * v8)) >>> ((4 : Int32) &&& 31)) 12)) + 2) (pL_law_J189s0 L xs v8)) 1 ((5 * (pL_low ((pL_cell L xs (2 * v8)) >>> ((4 : Int32) &&& 31)) 12)) + 3) 0) 1 ((5 * (pL_low ((pL_cell L xs (2 * v8)) >>> ((4 : Int32) &&& 31)) 12)) + 4) 0)
def pL_law_J274s0 (v17 : Int32) (zq : SR) : Int32 := if 0 ≤ (zq.2 1 (ix (5 * v17))) then 1
  else 0
def pL_law_L251 : Nat → Int32 → Int32 → SR → (Int32)
  | 0, v16, v17, zq => v16
  | n + 1, v16, v17, zq => if 12 ≤ v17 then v16
    else pL_law_L251 n (v16 + (pL_law_J274s0 v17 zq)) (v17 + 1) zq
def pL_law_E251 (L : Nat) (xs : (Nat → Int32)) (v8 : Int32) (zq : SR) : Int32 := pL_law_L251 13 0 0 (pL_law_J248xq L xs v8 zq)
def pL_law_J303s0 (L : Nat) (xs : (Nat → Int32)) (v8 : Int32) (zq : SR) : Int32 := if (pL_law_J203s0 L xs v8 zq) = 0 then (-5)
  else (pL_law_E251 L xs v8 zq)
def pL_law_L101 (L : Nat) (xs : (Nat → Int32)) : Nat → Int32 → TV → SR → SR → (Int32)
  | 0, v8, zt, zq, zk => 0
  | n + 1, v8, zt, zq, zk => if 28 ≤ v8 then (1 : Int32)
    else if (pL_law_J151s0 L xs v8) = 0 then if ((pX2_piano (pL_low ((pL_cell L xs (2 * v8)) >>> ((4 : Int32) &&& 31)) 12) (pL_law_J189s0 L xs v8) zt).1) = (pL_law_J303s0 L xs v8 zq) then pL_law_K867 (pL_law_L101 L xs n) v8 (pL_cell L xs (2 * v8)) (pL_cell L xs ((2 * v8) + 1)) ((pX2_piano (pL_low ((pL_cell L xs (2 * v8)) >>> ((4 : Int32) &&& 31)) 12) (pL_law_J189s0 L xs v8) zt).2) (pL_law_J248xq L xs v8 zq) zk
        else (0 : Int32)
      else if (pL_law_J151s0 L xs v8) = 1 then if ((pX2_rain (pL_law_J346s0 L xs v8) zt).1) = (zq.2 0 (ix 8)) then pL_law_K867 (pL_law_L101 L xs n) v8 (pL_cell L xs (2 * v8)) (pL_cell L xs ((2 * v8) + 1)) ((pX2_rain (pL_law_J346s0 L xs v8) zt).2) (pR zq 0 8 (pL_law_J346s0 L xs v8)) zk
          else (0 : Int32)
        else if (pL_law_J151s0 L xs v8) = 2 then if 4 ≤ (zq.2 0 (ix 11)) then pL_law_K417 (pL_law_L101 L xs n) v8 (pL_cell L xs (2 * v8)) (pL_cell L xs ((2 * v8) + 1)) (pL_law_J151s0 L xs v8) (pL_low ((pL_cell L xs (2 * v8)) >>> ((4 : Int32) &&& 31)) 12) (5 * (pL_low ((pL_cell L xs (2 * v8)) >>> ((4 : Int32) &&& 31)) 12)) zt zq zk
            else if ((pX2_keeper (pL_low ((pL_cell L xs (2 * v8)) >>> ((4 : Int32) &&& 31)) 12) zt).1) = (zq.2 0 (ix 11)) then pL_law_K867 (pL_law_L101 L xs n) v8 (pL_cell L xs (2 * v8)) (pL_cell L xs ((2 * v8) + 1)) ((pX2_keeper (pL_low ((pL_cell L xs (2 * v8)) >>> ((4 : Int32) &&& 31)) 12) zt).2) (pR (pR zq 2 (5 * (zq.2 0 (ix 11))) (pL_low ((pL_cell L xs (2 * v8)) >>> ((4 : Int32) &&& 31)) 12)) 0 11 ((zq.2 0 (ix 11)) + 1)) zk
              else (0 : Int32)
          else pL_law_K417 (pL_law_L101 L xs n) v8 (pL_cell L xs (2 * v8)) (pL_cell L xs ((2 * v8) + 1)) (pL_law_J151s0 L xs v8) (pL_low ((pL_cell L xs (2 * v8)) >>> ((4 : Int32) &&& 31)) 12) (5 * (pL_low ((pL_cell L xs (2 * v8)) >>> ((4 : Int32) &&& 31)) 12)) zt zq zk
def pL_law_E101 (L : Nat) (xs : (Nat → Int32)) (xt : TV) (xq : SR) (xk : SR) : Int32 := pL_law_L101 L xs 29 0 xt (pL_law_E78 xq) xk
def pL_law (L : Nat) (xs : (Nat → Int32)) (xt : TV) (xq : SR) (xk : SR) : Int32 := if (pL_law_E101 L xs xt xq xk) = 0 then 0
  else 1
