/-! the shapes of the cells, in the order in which they are made: printed by wip/whole/mk02.py -/
-- 0 x
-- 1 now
-- 2 now.above
-- 3 now.below
-- 4 now.kind
-- 5 now.coin
-- 6 now.second
-- 7 now.thing
-- 8 now.number
-- 9 now.cost
-- 10 now.needThing
-- 11 now.needNumber
-- 12 now.needWorth
-- 13 now.spots
-- 14 saved
-- 15 saved.above
-- 16 saved.below
-- 17 saved.kind
-- 18 saved.coin
-- 19 saved.second
-- 20 saved.thing
-- 21 saved.number
-- 22 saved.cost
-- 23 saved.needThing
-- 24 saved.needNumber
-- 25 saved.needWorth
-- 26 saved.spots
-- 27 tape
-- 28 tape.bytes
-- 29 reader
-- 30 draft
-- 31 draft.above
-- 32 draft.below
-- 33 draft.kind
-- 34 draft.coin
-- 35 draft.second
-- 36 draft.thing
-- 37 draft.number
-- 38 draft.cost
-- 39 draft.needThing
-- 40 draft.needNumber
-- 41 draft.needWorth
-- 42 draft.spots
-- 43 odds
-- 44 odds.weights
-- 45 odds.keptSets
-- 46 odds.caseSets
-- 47 odds.caseWeights
-- 48 odds.together
-- 49 odds.gains
-- 50 odds.costs
-- 51 odds.brought
-- 52 odds.counts
-- 53 sheets
-- 54 sheet0
-- 55 sheet0.numbers
-- 56 sheet1
-- 57 sheet1.numbers
-- 58 sheet2
-- 59 sheet2.numbers
-- 60 sheet3
-- 61 sheet3.numbers
-- 62 findings
-- 63 m
-- 64 m.s
-- 65 m.kept
-- 66 m.put
-- 67 m.findings
-- 68 m.tape
-- 69 m.keeps
-- 70 m.weighs
-- 71 m.oftenBy
-- 72 m.bits
-- 73 m.sizes
-- 74 m.number
-- 75 m.carried
def shp (a : Nat) : Nat × Nat := (bif Nat.blt a 57 then (bif Nat.blt a 28 then (bif Nat.blt a 14 then (bif Nat.blt a 7 then (bif Nat.blt a 3 then (bif Nat.blt a 1 then (0, 5) else (bif Nat.blt a 2 then (0, 4) else (1, 8))) else (bif Nat.blt a 5 then (bif Nat.blt a 4 then (1, 8) else (1, 10)) else (bif Nat.blt a 6 then (1, 10) else (1, 10)))) else (bif Nat.blt a 10 then (bif Nat.blt a 8 then (1, 10) else (bif Nat.blt a 9 then (1, 10) else (1, 10))) else (bif Nat.blt a 12 then (bif Nat.blt a 11 then (1, 6) else (1, 6)) else (bif Nat.blt a 13 then (1, 6) else (1, 10))))) else (bif Nat.blt a 21 then (bif Nat.blt a 17 then (bif Nat.blt a 15 then (0, 4) else (bif Nat.blt a 16 then (1, 8) else (1, 8))) else (bif Nat.blt a 19 then (bif Nat.blt a 18 then (1, 10) else (1, 10)) else (bif Nat.blt a 20 then (1, 10) else (1, 10)))) else (bif Nat.blt a 24 then (bif Nat.blt a 22 then (1, 10) else (bif Nat.blt a 23 then (1, 10) else (1, 6))) else (bif Nat.blt a 26 then (bif Nat.blt a 25 then (1, 6) else (1, 6)) else (bif Nat.blt a 27 then (1, 10) else (0, 3)))))) else (bif Nat.blt a 42 then (bif Nat.blt a 35 then (bif Nat.blt a 31 then (bif Nat.blt a 29 then (1, 120) else (bif Nat.blt a 30 then (0, 1) else (0, 4))) else (bif Nat.blt a 33 then (bif Nat.blt a 32 then (1, 8) else (1, 8)) else (bif Nat.blt a 34 then (1, 10) else (1, 10)))) else (bif Nat.blt a 38 then (bif Nat.blt a 36 then (1, 10) else (bif Nat.blt a 37 then (1, 10) else (1, 10))) else (bif Nat.blt a 40 then (bif Nat.blt a 39 then (1, 10) else (1, 6)) else (bif Nat.blt a 41 then (1, 6) else (1, 6))))) else (bif Nat.blt a 49 then (bif Nat.blt a 45 then (bif Nat.blt a 43 then (1, 10) else (bif Nat.blt a 44 then (0, 0) else (1, 256))) else (bif Nat.blt a 47 then (bif Nat.blt a 46 then (1, 256) else (1, 256)) else (bif Nat.blt a 48 then (1, 256) else (2, 1024)))) else (bif Nat.blt a 53 then (bif Nat.blt a 51 then (bif Nat.blt a 50 then (2, 1024) else (2, 1024)) else (bif Nat.blt a 52 then (1, 1024) else (1, 11))) else (bif Nat.blt a 55 then (bif Nat.blt a 54 then (3, 4) else (0, 2)) else (bif Nat.blt a 56 then (1, 40) else (0, 2))))))) else (bif Nat.blt a 109 then (bif Nat.blt a 71 then (bif Nat.blt a 64 then (bif Nat.blt a 60 then (bif Nat.blt a 58 then (1, 40) else (bif Nat.blt a 59 then (0, 2) else (1, 40))) else (bif Nat.blt a 62 then (bif Nat.blt a 61 then (0, 2) else (1, 40)) else (bif Nat.blt a 63 then (1, 7) else (0, 6)))) else (bif Nat.blt a 67 then (bif Nat.blt a 65 then (1, 108) else (bif Nat.blt a 66 then (1, 108) else (1, 108))) else (bif Nat.blt a 69 then (bif Nat.blt a 68 then (1, 7) else (1, 120)) else (bif Nat.blt a 70 then (1, 256) else (1, 256))))) else (bif Nat.blt a 101 then (bif Nat.blt a 74 then (bif Nat.blt a 72 then (1, 11) else (bif Nat.blt a 73 then (1, 4) else (1, 4))) else (bif Nat.blt a 76 then (bif Nat.blt a 75 then (1, 160) else (1, 40)) else (bif Nat.blt a 100 then (9, 0) else (4, 0)))) else (bif Nat.blt a 105 then (bif Nat.blt a 103 then (bif Nat.blt a 102 then (4, 0) else (4, 0)) else (bif Nat.blt a 104 then (4, 0) else (4, 0))) else (bif Nat.blt a 107 then (bif Nat.blt a 106 then (4, 0) else (4, 0)) else (bif Nat.blt a 108 then (4, 0) else (4, 0)))))) else (bif Nat.blt a 208 then (bif Nat.blt a 201 then (bif Nat.blt a 112 then (bif Nat.blt a 110 then (4, 0) else (bif Nat.blt a 111 then (4, 0) else (4, 0))) else (bif Nat.blt a 114 then (bif Nat.blt a 113 then (4, 0) else (4, 0)) else (bif Nat.blt a 200 then (9, 0) else (5, 7)))) else (bif Nat.blt a 204 then (bif Nat.blt a 202 then (5, 5) else (bif Nat.blt a 203 then (5, 6) else (5, 4))) else (bif Nat.blt a 206 then (bif Nat.blt a 205 then (5, 5) else (5, 6)) else (bif Nat.blt a 207 then (5, 7) else (5, 4))))) else (bif Nat.blt a 300 then (bif Nat.blt a 211 then (bif Nat.blt a 209 then (5, 4) else (bif Nat.blt a 210 then (5, 2) else (5, 4))) else (bif Nat.blt a 213 then (bif Nat.blt a 212 then (5, 6) else (5, 4)) else (bif Nat.blt a 214 then (5, 5) else (9, 0)))) else (bif Nat.blt a 304 then (bif Nat.blt a 302 then (bif Nat.blt a 301 then (6, 7) else (6, 6)) else (bif Nat.blt a 303 then (6, 6) else (6, 3))) else (bif Nat.blt a 400 then (bif Nat.blt a 305 then (6, 3) else (9, 0)) else (bif Nat.blt a 401 then (7, 0) else (9, 0))))))))
def nW : Nat := 76
/-- the class's constant rows -/
def sarL (a : Nat) : List Int32 := match a with
  | 300 => [(-1 : Int32), (0 : Int32), (0 : Int32), (1 : Int32), (0 : Int32), (2 : Int32), (3 : Int32)]
  | 301 => [(0 : Int32), (0 : Int32), (0 : Int32), (0 : Int32), (1 : Int32), (0 : Int32)]
  | 302 => [(6 : Int32), (7 : Int32), (7 : Int32), (5 : Int32), (9 : Int32), (49 : Int32)]
  | 303 => [(0 : Int32), (1 : Int32), (1 : Int32)]
  | _ => [(5 : Int32), (40 : Int32), (99 : Int32)]
def sar (a j : Nat) : Int32 := (sarL a).getD j 0
def sarN (a : Nat) : String := match a with
  | 300 => "ABOVE"
  | 301 => "PART_LEAST"
  | 302 => "PART_MOST"
  | 303 => "NEED_LEAST"
  | _ => "NEED_MOST"
/-- the constant texts -/
def strN : Nat := 14
def strT : List String := ["promise", "iffed", "either", "back", "freed", "tailed", "chained", "coin", "need", "in", "with", "brings", "cost", "worth"]
def strLen : List Nat := [7, 5, 6, 4, 5, 6, 7, 4, 4, 2, 4, 6, 4, 5]
def strByt : List (List Int32) := [[(112 : Int32), (114 : Int32), (111 : Int32), (109 : Int32), (105 : Int32), (115 : Int32), (101 : Int32)], [(105 : Int32), (102 : Int32), (102 : Int32), (101 : Int32), (100 : Int32)], [(101 : Int32), (105 : Int32), (116 : Int32), (104 : Int32), (101 : Int32), (114 : Int32)], [(98 : Int32), (97 : Int32), (99 : Int32), (107 : Int32)], [(102 : Int32), (114 : Int32), (101 : Int32), (101 : Int32), (100 : Int32)], [(116 : Int32), (97 : Int32), (105 : Int32), (108 : Int32), (101 : Int32), (100 : Int32)], [(99 : Int32), (104 : Int32), (97 : Int32), (105 : Int32), (110 : Int32), (101 : Int32), (100 : Int32)], [(99 : Int32), (111 : Int32), (105 : Int32), (110 : Int32)], [(110 : Int32), (101 : Int32), (101 : Int32), (100 : Int32)], [(105 : Int32), (110 : Int32)], [(119 : Int32), (105 : Int32), (116 : Int32), (104 : Int32)], [(98 : Int32), (114 : Int32), (105 : Int32), (110 : Int32), (103 : Int32), (115 : Int32)], [(99 : Int32), (111 : Int32), (115 : Int32), (116 : Int32)], [(119 : Int32), (111 : Int32), (114 : Int32), (116 : Int32), (104 : Int32)]]
def szp : Nat → Nat
  | 0 => 0
  | n + 1 => szp n + ssz (shp n)
theorem shp_big {a : Nat} (h : 401 ≤ a) : shp a = (9, 0) := by
  have hb : ∀ k, k ≤ 401 → Nat.blt a k = false := fun k hk => by
    rw [← Bool.not_eq_true, Nat.blt_eq]; omega
  unfold shp
  rw [hb 57 (by decide), cond_false, hb 109 (by decide), cond_false, hb 208 (by decide), cond_false, hb 300 (by decide), cond_false, hb 304 (by decide), cond_false, hb 400 (by decide), cond_false, hb 401 (by decide), cond_false]
theorem shp_obj : ∀ a, a < nW → (shp a).1 < 4 ∧ ((shp a).1 = 0 → (shp a).2 < 7) := by decide +kernel
theorem szp_nW : szp nW = 7025 := by decide +kernel
