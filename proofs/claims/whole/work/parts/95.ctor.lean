/-! the two constructors, on the empty heap (laid by wip/whole/gen13.py) -/
def ct0 : pm_H := (fun _ => 999, fun _ => 0, 0, 0, fun _ _ => 0, fun _ _ => none, fun _ _ => 0)
def ca0 : pm_H := yN ct0 12 0 13
def ca1 : pm_H := (yN (yI ca0 0 0 (Int32.ofInt 0)) 6 0 4)
def ca2 : pm_H := (yN ca1 10 0 6)
def ca3 : pm_H := (yR (yN ca2 101 ((Int32.ofInt 800)).toNatClampNeg ((Int32.ofInt 800)).toNatClampNeg) (zn ca1) 0 (some (zn ca2)))
def ca4 : pm_H := (yI (yI (yI (yI (yI ca3 (zn ca1) 1 (Int32.ofInt 0)) (zn ca1) 2 (Int32.ofInt 0)) (zn ca1) 3 (Int32.ofInt 0)) (zn ca1) 4 (Int32.ofInt 0)) (zn ca1) 5 (Int32.ofInt 0))
def ca5 : pm_H := (yR ca4 (zn ca0) 0 (some (zn ca1)))
def ca6 : pm_H := (yN ca5 11 0 5)
def ca7 : pm_H := (yR (yN ca6 101 ((Int32.ofInt 400)).toNatClampNeg ((Int32.ofInt 400)).toNatClampNeg) (zn ca5) 0 (some (zn ca6)))
def ca8 : pm_H := (yR (yN (yI ca7 (zn ca5) 1 (Int32.ofInt 0)) 100 ((Int32.ofInt 8)).toNatClampNeg ((Int32.ofInt 8)).toNatClampNeg) (zn ca5) 2 (some (zn ca7)))
def ca9 : pm_H := (yR (yN ca8 100 ((Int32.ofInt 8)).toNatClampNeg ((Int32.ofInt 8)).toNatClampNeg) (zn ca5) 3 (some (zn ca8)))
def ca10 : pm_H := (yI ca9 (zn ca5) 4 (Int32.ofInt 0))
def ca11 : pm_H := (yR ca10 (zn ca0) 3 (some (zn ca5)))
def ca12 : pm_H := (yI (yI ca11 (zn ca0) 1 (Int32.ofInt (-1))) (zn ca0) 2 (Int32.ofInt (-1)))
def ca13 : pm_H := (yR ca12 0 1 (some (zn ca0)))
def ca14 : pm_H := (yN ca13 2 0 4)
def ca15 : pm_H := (yR (yN ca14 103 ((Int32.ofInt 12)).toNatClampNeg ((Int32.ofInt 12)).toNatClampNeg) (zn ca13) 0 (some (zn ca14)))
def ca16 : pm_H := (yR (yN (yI ca15 (zn ca13) 1 (Int32.ofInt 0)) 104 ((Int32.ofInt 6)).toNatClampNeg ((Int32.ofInt 6)).toNatClampNeg) (zn ca13) 2 (some (zn ca15)))
def ca17 : pm_H := (yI ca16 (zn ca13) 3 (Int32.ofInt 0))
def ca18 : pm_H := (yR ca17 0 2 (some (zn ca13)))
def ca19 : pm_H := (yN ca18 8 0 2)
def ca20 : pm_H := (yI (yI ca19 (zn ca18) 0 (Int32.ofInt 0)) (zn ca18) 1 (Int32.ofInt 0))
def ca21 : pm_H := (yR ca20 0 3 (some (zn ca18)))
def ca22 : pm_H := (yN ca21 1 0 4)
def ca23 : pm_H := (yR (yN ca22 100 ((Int32.ofInt 164)).toNatClampNeg ((Int32.ofInt 164)).toNatClampNeg) (zn ca21) 0 (some (zn ca22)))
def ca24 : pm_H := (yR (yN ca23 100 ((Int32.ofInt 42)).toNatClampNeg ((Int32.ofInt 42)).toNatClampNeg) (zn ca21) 1 (some (zn ca23)))
def ca25 : pm_H := (yR (yN ca24 100 ((Int32.ofInt 42)).toNatClampNeg ((Int32.ofInt 42)).toNatClampNeg) (zn ca21) 2 (some (zn ca24)))
def ca26 : pm_H := (yR (yN ca25 100 ((Int32.ofInt 504)).toNatClampNeg ((Int32.ofInt 504)).toNatClampNeg) (zn ca21) 3 (some (zn ca25)))
def ca27 : pm_H := ca26
def ca28 : pm_H := (yR ca27 0 4 (some (zn ca21)))
def ca29 : pm_H := (yN ca28 0 0 2)
def ca30 : pm_H := (yR (yN ca29 100 ((Int32.ofInt 64)).toNatClampNeg ((Int32.ofInt 64)).toNatClampNeg) (zn ca28) 0 (some (zn ca29)))
def ca31 : pm_H := (yR (yN ca30 100 ((Int32.ofInt 2048)).toNatClampNeg ((Int32.ofInt 2048)).toNatClampNeg) (zn ca28) 1 (some (zn ca30)))
def ca32 : pm_H := ca31
def ca33 : pm_H := (yR ca32 0 5 (some (zn ca28)))
def ca34 : pm_H := (yN ca33 4 0 7)
def ca35 : pm_H := (yR (yN ca34 100 ((Int32.ofInt 6)).toNatClampNeg ((Int32.ofInt 6)).toNatClampNeg) (zn ca33) 0 (some (zn ca34)))
def ca36 : pm_H := (yR (yN ca35 100 ((Int32.ofInt 6)).toNatClampNeg ((Int32.ofInt 6)).toNatClampNeg) (zn ca33) 1 (some (zn ca35)))
def ca37 : pm_H := (yR (yN (yI ca36 (zn ca33) 2 (Int32.ofInt 0)) 100 ((Int32.ofInt 8)).toNatClampNeg ((Int32.ofInt 8)).toNatClampNeg) (zn ca33) 3 (some (zn ca36)))
def ca38 : pm_H := (yR (yN ca37 100 ((Int32.ofInt 256)).toNatClampNeg ((Int32.ofInt 256)).toNatClampNeg) (zn ca33) 4 (some (zn ca37)))
def ca39 : pm_H := (yR (yN ca38 100 ((Int32.ofInt 256)).toNatClampNeg ((Int32.ofInt 256)).toNatClampNeg) (zn ca33) 5 (some (zn ca38)))
def ca40 : pm_H := (yR (yN ca39 100 ((Int32.ofInt 256)).toNatClampNeg ((Int32.ofInt 256)).toNatClampNeg) (zn ca33) 6 (some (zn ca39)))
def ca41 : pm_H := ca40
def ca42 : pm_H := (yR ca41 0 6 (some (zn ca33)))
def ca43 : pm_H := (yN ca42 7 0 6)
def ca44 : pm_H := (yR (yN ca43 100 ((Int32.ofInt 60)).toNatClampNeg ((Int32.ofInt 60)).toNatClampNeg) (zn ca42) 0 (some (zn ca43)))
def ca45 : pm_H := (yR (yN ca44 100 ((Int32.ofInt 60)).toNatClampNeg ((Int32.ofInt 60)).toNatClampNeg) (zn ca42) 1 (some (zn ca44)))
def ca46 : pm_H := (yR (yN ca45 100 ((Int32.ofInt 60)).toNatClampNeg ((Int32.ofInt 60)).toNatClampNeg) (zn ca42) 2 (some (zn ca45)))
def ca47 : pm_H := (yR (yN ca46 100 ((Int32.ofInt 60)).toNatClampNeg ((Int32.ofInt 60)).toNatClampNeg) (zn ca42) 3 (some (zn ca46)))
def ca48 : pm_H := (yR (yN ca47 100 ((Int32.ofInt 60)).toNatClampNeg ((Int32.ofInt 60)).toNatClampNeg) (zn ca42) 4 (some (zn ca47)))
def ca49 : pm_H := (yI ca48 (zn ca42) 5 (Int32.ofInt 0))
def ca50 : pm_H := (yR ca49 0 7 (some (zn ca42)))
def ca51 : pm_H := (yR (yN ca50 100 ((Int32.ofInt 401)).toNatClampNeg ((Int32.ofInt 401)).toNatClampNeg) 0 8 (some (zn ca50)))
def ca52 : pm_H := (yR (yN ca51 100 ((Int32.ofInt 12)).toNatClampNeg ((Int32.ofInt 12)).toNatClampNeg) 0 9 (some (zn ca51)))
def ca53 : pm_H := (yI (yI (yI ca52 0 10 (Int32.ofInt 0)) 0 11 (Int32.ofInt 100)) 0 12 (Int32.ofInt 8))
theorem c84 {Q : Option Value → pm_H → Prop} (k : Q none ca53) : WP 84 0 [some (.ref 0)] [] ca0 Q := by
  refine B84_0 (by decide +kernel) ?_
  change WP 31 0 [some (.ref (zn ca0))] [] ca1 _
  refine B31_0 ?_
  change WP 61 0 [some (.ref (zn ca1))] [] ca2 _
  refine B61_0 (by decide +kernel) (by decide +kernel) ?_
  change WP 61 13 [some (.ref (zn ca1))] [] ca3 _
  refine B61_13 (by decide +kernel) ?_
  change WP 31 12 [some (.ref (zn ca0))] [.ref (zn ca1), .ref (zn ca0)] ca4 _
  refine B31_12 (by decide +kernel) ?_
  change WP 31 15 [some (.ref (zn ca0))] [] ca5 _
  refine B31_15 ?_
  change WP 77 0 [some (.ref (zn ca5))] [] ca6 _
  refine B77_0 (by decide +kernel) (by decide +kernel) ?_
  change WP 77 13 [some (.ref (zn ca5))] [] ca7 _
  refine B77_13 (by decide +kernel) (by decide +kernel) (by decide +kernel) ?_
  change WP 77 26 [some (.ref (zn ca5))] [] ca8 _
  refine B77_26 (by decide +kernel) (by decide +kernel) ?_
  change WP 77 34 [some (.ref (zn ca5))] [] ca9 _
  refine B77_34 (by decide +kernel) ?_
  change WP 31 23 [some (.ref (zn ca0))] [.ref (zn ca5), .ref (zn ca0)] ca10 _
  refine B31_23 (by decide +kernel) ?_
  change WP 31 26 [some (.ref (zn ca0))] [] ca11 _
  refine B31_26 (by decide +kernel) ?_
  change WP 84 17 [some (.ref 0)] [.ref (zn ca0), .ref 0] ca12 _
  refine B84_17 (by decide +kernel) ?_
  change WP 84 20 [some (.ref 0)] [] ca13 _
  refine B84_20 ?_
  change WP 12 0 [some (.ref (zn ca13))] [] ca14 _
  refine B12_0 (by decide +kernel) (by decide +kernel) ?_
  change WP 12 13 [some (.ref (zn ca13))] [] ca15 _
  refine B12_13 (by decide +kernel) (by decide +kernel) (by decide +kernel) ?_
  change WP 12 27 [some (.ref (zn ca13))] [] ca16 _
  refine B12_27 (by decide +kernel) ?_
  change WP 84 28 [some (.ref 0)] [.ref (zn ca13), .ref 0] ca17 _
  refine B84_28 (by decide +kernel) ?_
  change WP 84 31 [some (.ref 0)] [] ca18 _
  refine B84_31 ?_
  change WP 49 0 [some (.ref (zn ca18))] [] ca19 _
  refine B49_0 (by decide +kernel) ?_
  change WP 84 39 [some (.ref 0)] [.ref (zn ca18), .ref 0] ca20 _
  refine B84_39 (by decide +kernel) ?_
  change WP 84 42 [some (.ref 0)] [] ca21 _
  refine B84_42 ?_
  change WP 7 0 [some (.ref (zn ca21))] [] ca22 _
  refine B7_0 (by decide +kernel) (by decide +kernel) ?_
  change WP 7 13 [some (.ref (zn ca21))] [] ca23 _
  refine B7_13 (by decide +kernel) (by decide +kernel) ?_
  change WP 7 21 [some (.ref (zn ca21))] [] ca24 _
  refine B7_21 (by decide +kernel) (by decide +kernel) ?_
  change WP 7 29 [some (.ref (zn ca21))] [] ca25 _
  refine B7_29 (by decide +kernel) (by decide +kernel) ?_
  change WP 7 38 [some (.ref (zn ca21))] [] ca26 _
  refine B7_38 ?_
  change WP 84 50 [some (.ref 0)] [.ref (zn ca21), .ref 0] ca27 _
  refine B84_50 (by decide +kernel) ?_
  change WP 84 53 [some (.ref 0)] [] ca28 _
  refine B84_53 ?_
  change WP 0 0 [some (.ref (zn ca28))] [] ca29 _
  refine B0_0 (by decide +kernel) (by decide +kernel) ?_
  change WP 0 12 [some (.ref (zn ca28))] [] ca30 _
  refine B0_12 (by decide +kernel) (by decide +kernel) ?_
  change WP 0 21 [some (.ref (zn ca28))] [] ca31 _
  refine B0_21 ?_
  change WP 84 61 [some (.ref 0)] [.ref (zn ca28), .ref 0] ca32 _
  refine B84_61 (by decide +kernel) ?_
  change WP 84 64 [some (.ref 0)] [] ca33 _
  refine B84_64 ?_
  change WP 23 0 [some (.ref (zn ca33))] [] ca34 _
  refine B23_0 (by decide +kernel) (by decide +kernel) ?_
  change WP 23 12 [some (.ref (zn ca33))] [] ca35 _
  refine B23_12 (by decide +kernel) (by decide +kernel) ?_
  change WP 23 20 [some (.ref (zn ca33))] [] ca36 _
  refine B23_20 (by decide +kernel) (by decide +kernel) (by decide +kernel) ?_
  change WP 23 33 [some (.ref (zn ca33))] [] ca37 _
  refine B23_33 (by decide +kernel) (by decide +kernel) ?_
  change WP 23 42 [some (.ref (zn ca33))] [] ca38 _
  refine B23_42 (by decide +kernel) (by decide +kernel) ?_
  change WP 23 51 [some (.ref (zn ca33))] [] ca39 _
  refine B23_51 (by decide +kernel) (by decide +kernel) ?_
  change WP 23 60 [some (.ref (zn ca33))] [] ca40 _
  refine B23_60 ?_
  change WP 84 72 [some (.ref 0)] [.ref (zn ca33), .ref 0] ca41 _
  refine B84_72 (by decide +kernel) ?_
  change WP 84 75 [some (.ref 0)] [] ca42 _
  refine B84_75 ?_
  change WP 46 0 [some (.ref (zn ca42))] [] ca43 _
  refine B46_0 (by decide +kernel) (by decide +kernel) ?_
  change WP 46 12 [some (.ref (zn ca42))] [] ca44 _
  refine B46_12 (by decide +kernel) (by decide +kernel) ?_
  change WP 46 20 [some (.ref (zn ca42))] [] ca45 _
  refine B46_20 (by decide +kernel) (by decide +kernel) ?_
  change WP 46 28 [some (.ref (zn ca42))] [] ca46 _
  refine B46_28 (by decide +kernel) (by decide +kernel) ?_
  change WP 46 36 [some (.ref (zn ca42))] [] ca47 _
  refine B46_36 (by decide +kernel) (by decide +kernel) ?_
  change WP 46 44 [some (.ref (zn ca42))] [] ca48 _
  refine B46_44 (by decide +kernel) ?_
  change WP 84 83 [some (.ref 0)] [.ref (zn ca42), .ref 0] ca49 _
  refine B84_83 (by decide +kernel) ?_
  change WP 84 86 [some (.ref 0)] [] ca50 _
  refine B84_86 (by decide +kernel) (by decide +kernel) ?_
  change WP 84 95 [some (.ref 0)] [] ca51 _
  refine B84_95 (by decide +kernel) (by decide +kernel) ?_
  change WP 84 103 [some (.ref 0)] [] ca52 _
  refine B84_103 (by decide +kernel) ?_
  exact k
def cb0 : pm_H := yN ca53 13 0 65
def cb1 : pm_H := (yR (yN cb0 101 ((Int32.ofInt 800)).toNatClampNeg ((Int32.ofInt 800)).toNatClampNeg) 35 2 (some (zn cb0)))
def cb2 : pm_H := (yR (yN (yI (yI cb1 35 5 (Int32.ofInt (-1))) 35 6 (Int32.ofInt (-1))) 100 ((Int32.ofInt 12)).toNatClampNeg ((Int32.ofInt 12)).toNatClampNeg) 35 19 (some (zn cb1)))
def cb3 : pm_H := (yR (yN cb2 100 ((Int32.ofInt 12)).toNatClampNeg ((Int32.ofInt 12)).toNatClampNeg) 35 20 (some (zn cb2)))
def cb4 : pm_H := (yR (yN cb3 100 ((Int32.ofInt 6)).toNatClampNeg ((Int32.ofInt 6)).toNatClampNeg) 35 21 (some (zn cb3)))
def cb5 : pm_H := (yR (yN cb4 100 ((Int32.ofInt 6)).toNatClampNeg ((Int32.ofInt 6)).toNatClampNeg) 35 22 (some (zn cb4)))
def cb6 : pm_H := (yR (yN cb5 100 ((Int32.ofInt 72)).toNatClampNeg ((Int32.ofInt 72)).toNatClampNeg) 35 23 (some (zn cb5)))
def cb7 : pm_H := (yR (yN cb6 100 ((Int32.ofInt 72)).toNatClampNeg ((Int32.ofInt 72)).toNatClampNeg) 35 24 (some (zn cb6)))
def cb8 : pm_H := (yR (yN cb7 102 ((Int32.ofInt 72)).toNatClampNeg ((Int32.ofInt 72)).toNatClampNeg) 35 25 (some (zn cb7)))
def cb9 : pm_H := (yR (yN cb8 102 ((Int32.ofInt 72)).toNatClampNeg ((Int32.ofInt 72)).toNatClampNeg) 35 26 (some (zn cb8)))
def cb10 : pm_H := (yR (yN cb9 101 ((Int32.ofInt 4800)).toNatClampNeg ((Int32.ofInt 4800)).toNatClampNeg) 35 27 (some (zn cb9)))
def cb11 : pm_H := (yR (yN cb10 101 ((Int32.ofInt 4800)).toNatClampNeg ((Int32.ofInt 4800)).toNatClampNeg) 35 28 (some (zn cb10)))
def cb12 : pm_H := (yR (yN cb11 100 ((Int32.ofInt 12)).toNatClampNeg ((Int32.ofInt 12)).toNatClampNeg) 35 29 (some (zn cb11)))
def cb13 : pm_H := (yR (yN cb12 100 ((Int32.ofInt 12)).toNatClampNeg ((Int32.ofInt 12)).toNatClampNeg) 35 30 (some (zn cb12)))
def cb14 : pm_H := (yR (yN cb13 100 ((Int32.ofInt 6)).toNatClampNeg ((Int32.ofInt 6)).toNatClampNeg) 35 31 (some (zn cb13)))
def cb15 : pm_H := (yR (yN cb14 100 ((Int32.ofInt 6)).toNatClampNeg ((Int32.ofInt 6)).toNatClampNeg) 35 32 (some (zn cb14)))
def cb16 : pm_H := (yR (yN cb15 100 ((Int32.ofInt 72)).toNatClampNeg ((Int32.ofInt 72)).toNatClampNeg) 35 33 (some (zn cb15)))
def cb17 : pm_H := (yR (yN cb16 100 ((Int32.ofInt 72)).toNatClampNeg ((Int32.ofInt 72)).toNatClampNeg) 35 34 (some (zn cb16)))
def cb18 : pm_H := (yR (yN cb17 100 ((Int32.ofInt 8)).toNatClampNeg ((Int32.ofInt 8)).toNatClampNeg) 35 35 (some (zn cb17)))
def cb19 : pm_H := (yR (yN cb18 100 ((Int32.ofInt 8)).toNatClampNeg ((Int32.ofInt 8)).toNatClampNeg) 35 36 (some (zn cb18)))
def cb20 : pm_H := (yR (yN (yI (yI cb19 35 37 (Int32.ofInt 100)) 35 38 (Int32.ofInt 8)) 100 ((Int32.ofInt 6)).toNatClampNeg ((Int32.ofInt 6)).toNatClampNeg) 35 40 (some (zn cb19)))
def cb21 : pm_H := (yR (yN cb20 100 ((Int32.ofInt 6)).toNatClampNeg ((Int32.ofInt 6)).toNatClampNeg) 35 41 (some (zn cb20)))
def cb22 : pm_H := (yR (yN cb21 100 ((Int32.ofInt 60)).toNatClampNeg ((Int32.ofInt 60)).toNatClampNeg) 35 43 (some (zn cb21)))
def cb23 : pm_H := (yR (yN cb22 100 ((Int32.ofInt 60)).toNatClampNeg ((Int32.ofInt 60)).toNatClampNeg) 35 44 (some (zn cb22)))
def cb24 : pm_H := (yR (yN cb23 100 ((Int32.ofInt 60)).toNatClampNeg ((Int32.ofInt 60)).toNatClampNeg) 35 45 (some (zn cb23)))
def cb25 : pm_H := (yR (yN cb24 100 ((Int32.ofInt 60)).toNatClampNeg ((Int32.ofInt 60)).toNatClampNeg) 35 46 (some (zn cb24)))
def cb26 : pm_H := (yR (yN cb25 100 ((Int32.ofInt 60)).toNatClampNeg ((Int32.ofInt 60)).toNatClampNeg) 35 47 (some (zn cb25)))
def cb27 : pm_H := (yR (yN cb26 100 ((Int32.ofInt 12)).toNatClampNeg ((Int32.ofInt 12)).toNatClampNeg) 35 48 (some (zn cb26)))
def cb28 : pm_H := (yR (yN cb27 100 ((Int32.ofInt 800)).toNatClampNeg ((Int32.ofInt 800)).toNatClampNeg) 35 50 (some (zn cb27)))
def cb29 : pm_H := (yR (yN cb28 100 ((Int32.ofInt 800)).toNatClampNeg ((Int32.ofInt 800)).toNatClampNeg) 35 51 (some (zn cb28)))
def cb30 : pm_H := (yR (yN cb29 100 ((Int32.ofInt 2)).toNatClampNeg ((Int32.ofInt 2)).toNatClampNeg) 35 52 (some (zn cb29)))
def cb31 : pm_H := (yR (yN cb30 100 ((Int32.ofInt 401)).toNatClampNeg ((Int32.ofInt 401)).toNatClampNeg) 35 53 (some (zn cb30)))
def cb32 : pm_H := (yR (yN cb31 100 ((Int32.ofInt 401)).toNatClampNeg ((Int32.ofInt 401)).toNatClampNeg) 35 54 (some (zn cb31)))
def cb33 : pm_H := (yR (yN cb32 100 ((Int32.ofInt 546)).toNatClampNeg ((Int32.ofInt 546)).toNatClampNeg) 35 55 (some (zn cb32)))
def cb34 : pm_H := (yR (yN cb33 100 ((Int32.ofInt 64)).toNatClampNeg ((Int32.ofInt 64)).toNatClampNeg) 35 56 (some (zn cb33)))
def cb35 : pm_H := (yR (yN cb34 100 ((Int32.ofInt 2048)).toNatClampNeg ((Int32.ofInt 2048)).toNatClampNeg) 35 57 (some (zn cb34)))
def cb36 : pm_H := (yR (yN cb35 100 ((Int32.ofInt 12)).toNatClampNeg ((Int32.ofInt 12)).toNatClampNeg) 35 58 (some (zn cb35)))
def cb37 : pm_H := (yR (yN cb36 100 ((Int32.ofInt 12)).toNatClampNeg ((Int32.ofInt 12)).toNatClampNeg) 35 59 (some (zn cb36)))
def cb38 : pm_H := (yR (yN cb37 100 ((Int32.ofInt 12)).toNatClampNeg ((Int32.ofInt 12)).toNatClampNeg) 35 60 (some (zn cb37)))
def cb39 : pm_H := (yR (yN cb38 100 ((Int32.ofInt 6)).toNatClampNeg ((Int32.ofInt 6)).toNatClampNeg) 35 61 (some (zn cb38)))
def cb40 : pm_H := (yR (yN cb39 100 ((Int32.ofInt 6)).toNatClampNeg ((Int32.ofInt 6)).toNatClampNeg) 35 62 (some (zn cb39)))
def cb41 : pm_H := cb40
theorem c121 {Q : Option Value → pm_H → Prop} (k : Q none cb41) : WP 121 0 [some (.ref 35)] [] cb0 Q := by
  refine B121_0 (by decide +kernel) (by decide +kernel) ?_
  change WP 121 13 [some (.ref 35)] [] cb1 _
  refine B121_13 (by decide +kernel) (by decide +kernel) (by decide +kernel) ?_
  change WP 121 31 [some (.ref 35)] [] cb2 _
  refine B121_31 (by decide +kernel) (by decide +kernel) ?_
  change WP 121 39 [some (.ref 35)] [] cb3 _
  refine B121_39 (by decide +kernel) (by decide +kernel) ?_
  change WP 121 47 [some (.ref 35)] [] cb4 _
  refine B121_47 (by decide +kernel) (by decide +kernel) ?_
  change WP 121 55 [some (.ref 35)] [] cb5 _
  refine B121_55 (by decide +kernel) (by decide +kernel) ?_
  change WP 121 63 [some (.ref 35)] [] cb6 _
  refine B121_63 (by decide +kernel) (by decide +kernel) ?_
  change WP 121 71 [some (.ref 35)] [] cb7 _
  refine B121_71 (by decide +kernel) (by decide +kernel) ?_
  change WP 121 79 [some (.ref 35)] [] cb8 _
  refine B121_79 (by decide +kernel) (by decide +kernel) ?_
  change WP 121 87 [some (.ref 35)] [] cb9 _
  refine B121_87 (by decide +kernel) (by decide +kernel) ?_
  change WP 121 96 [some (.ref 35)] [] cb10 _
  refine B121_96 (by decide +kernel) (by decide +kernel) ?_
  change WP 121 105 [some (.ref 35)] [] cb11 _
  refine B121_105 (by decide +kernel) (by decide +kernel) ?_
  change WP 121 113 [some (.ref 35)] [] cb12 _
  refine B121_113 (by decide +kernel) (by decide +kernel) ?_
  change WP 121 121 [some (.ref 35)] [] cb13 _
  refine B121_121 (by decide +kernel) (by decide +kernel) ?_
  change WP 121 129 [some (.ref 35)] [] cb14 _
  refine B121_129 (by decide +kernel) (by decide +kernel) ?_
  change WP 121 137 [some (.ref 35)] [] cb15 _
  refine B121_137 (by decide +kernel) (by decide +kernel) ?_
  change WP 121 145 [some (.ref 35)] [] cb16 _
  refine B121_145 (by decide +kernel) (by decide +kernel) ?_
  change WP 121 153 [some (.ref 35)] [] cb17 _
  refine B121_153 (by decide +kernel) (by decide +kernel) ?_
  change WP 121 161 [some (.ref 35)] [] cb18 _
  refine B121_161 (by decide +kernel) (by decide +kernel) ?_
  change WP 121 169 [some (.ref 35)] [] cb19 _
  refine B121_169 (by decide +kernel) (by decide +kernel) (by decide +kernel) ?_
  change WP 121 189 [some (.ref 35)] [] cb20 _
  refine B121_189 (by decide +kernel) (by decide +kernel) ?_
  change WP 121 197 [some (.ref 35)] [] cb21 _
  refine B121_197 (by decide +kernel) (by decide +kernel) ?_
  change WP 121 205 [some (.ref 35)] [] cb22 _
  refine B121_205 (by decide +kernel) (by decide +kernel) ?_
  change WP 121 213 [some (.ref 35)] [] cb23 _
  refine B121_213 (by decide +kernel) (by decide +kernel) ?_
  change WP 121 221 [some (.ref 35)] [] cb24 _
  refine B121_221 (by decide +kernel) (by decide +kernel) ?_
  change WP 121 229 [some (.ref 35)] [] cb25 _
  refine B121_229 (by decide +kernel) (by decide +kernel) ?_
  change WP 121 237 [some (.ref 35)] [] cb26 _
  refine B121_237 (by decide +kernel) (by decide +kernel) ?_
  change WP 121 245 [some (.ref 35)] [] cb27 _
  refine B121_245 (by decide +kernel) (by decide +kernel) ?_
  change WP 121 254 [some (.ref 35)] [] cb28 _
  refine B121_254 (by decide +kernel) (by decide +kernel) ?_
  change WP 121 263 [some (.ref 35)] [] cb29 _
  refine B121_263 (by decide +kernel) (by decide +kernel) ?_
  change WP 121 270 [some (.ref 35)] [] cb30 _
  refine B121_270 (by decide +kernel) (by decide +kernel) ?_
  change WP 121 279 [some (.ref 35)] [] cb31 _
  refine B121_279 (by decide +kernel) (by decide +kernel) ?_
  change WP 121 288 [some (.ref 35)] [] cb32 _
  refine B121_288 (by decide +kernel) (by decide +kernel) ?_
  change WP 121 297 [some (.ref 35)] [] cb33 _
  refine B121_297 (by decide +kernel) (by decide +kernel) ?_
  change WP 121 305 [some (.ref 35)] [] cb34 _
  refine B121_305 (by decide +kernel) (by decide +kernel) ?_
  change WP 121 314 [some (.ref 35)] [] cb35 _
  refine B121_314 (by decide +kernel) (by decide +kernel) ?_
  change WP 121 322 [some (.ref 35)] [] cb36 _
  refine B121_322 (by decide +kernel) (by decide +kernel) ?_
  change WP 121 330 [some (.ref 35)] [] cb37 _
  refine B121_330 (by decide +kernel) (by decide +kernel) ?_
  change WP 121 338 [some (.ref 35)] [] cb38 _
  refine B121_338 (by decide +kernel) (by decide +kernel) ?_
  change WP 121 346 [some (.ref 35)] [] cb39 _
  refine B121_346 (by decide +kernel) (by decide +kernel) ?_
  change WP 121 354 [some (.ref 35)] [] cb40 _
  refine B121_354 ?_
  exact k
-- ca53 cb41
