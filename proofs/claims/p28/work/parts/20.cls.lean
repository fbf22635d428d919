theorem g2_hasNumber (l : Launch) (E : jE) (S : jS) (x : jX) {o : Nat} (ho : o < 8) (n : Int32) : Ct l E yX2_hasNumber cX2_hasNumber 2 (some .boolean) 1 [.ref (ad E o 0), .int n] (S, x) (some (.int (bI (!decide (n < 0) && !decide ((S o) 1 3 ≤ n))))) (S, x) := by
  have h := c2_hasNumber l E S x (S o) ho n
  rwa [setO_self] at h
theorem g2_mayLease (l : Launch) (E : jE) (S : jS) (x : jX) {o : Nat} (ho : o < 8) {z : Nat} (hz : (S o) 1 3 = nI z) (hz4 : z ≤ 64) (h m : Int32) : Ct l E yX2_mayLease cX2_mayLease 3 (some .boolean) 3 [.ref (ad E o 0), .int h, .int m] (S, x) (some (.int (bI (hasR (S o) h m && (lowR (S o) z m).isSome)))) (S, x) := by
  have h := c2_mayLease l E S x (S o) ho hz hz4 h m
  rwa [setO_self] at h
theorem g2_mayWish (l : Launch) (E : jE) (S : jS) (x : jX) {o : Nat} (ho : o < 8) (h : Int32) {n : Nat} (hn : n < 64) {w : Nat} (hw3 : w ≤ 3) (hw : (S o) 7 n = nI w) : Ct l E yX2_mayWish cX2_mayWish 3 (some .boolean) 3 [.ref (ad E o 0), .int h, .int (nI n)] (S, x) (some (.int (bI (mayW (S o) h n)))) (S, x) := by
  have h := c2_mayWish l E S x (S o) ho h hn hw3 hw
  rwa [setO_self] at h
theorem g2_mayRenew (l : Launch) (E : jE) (S : jS) (x : jX) {o : Nat} (ho : o < 8) (h : Int32) {n : Nat} (hn : n < 64) : Ct l E yX2_mayRenew cX2_mayRenew 3 (some .boolean) 1 [.ref (ad E o 0), .int h, .int (nI n)] (S, x) (some (.int (bI (decide ((S o) 2 n = h) && (decide ((S o) 1 2 = 0) || decide ((S o) 7 n = 0)))))) (S, x) := by
  have h := c2_mayRenew l E S x (S o) ho h hn
  rwa [setO_self] at h
theorem g2_hasTimeFor (l : Launch) (E : jE) (S : jS) (x : jX) {o : Nat} (ho : o < 8) (b : Int32) : Ct l E yX2_hasTimeFor cX2_hasTimeFor 2 (some .boolean) 1 [.ref (ad E o 0), .int b] (S, x) (some (.int (bI (!decide (nI 9999 < (S o) 0 0 + b))))) (S, x) := by
  have h := c2_hasTimeFor l E S x (S o) ho b
  rwa [setO_self] at h
theorem g2_fitsIn (l : Launch) (E : jE) (S : jS) (x : jX) {o : Nat} (ho : o < 8) {m : Nat} (hm : m ≤ 64) : Ct l E yX2_fitsIn cX2_fitsIn 3 (some .boolean) 1 [.ref (ad E o 0), .int (nI m)] (S, x) (some (.int (bI (fnd (fun n => !frP (S o) n) (64 - m) m).isNone))) (S, x) := by
  have h := c2_fitsIn l E S x (S o) ho hm
  rwa [setO_self] at h
theorem g2_leaseRow (l : Launch) (E : jE) (S : jS) (x : jX) {o : Nat} (ho : o < 8) {z : Nat} (hz : (S o) 1 3 = nI z) (hz4 : z ≤ 64) {h m : Nat} (hh : h < 8) (hm : m < 2 ^ 31) (t : Int32) : Ct l E yX2_leaseRow cX2_leaseRow 6 (some .int) 3 [.ref (ad E o 0), .int (nI h), .int (nI m), .int t] (S, x) (some (.int (oI (lowR (S o) z (nI m))))) (setO S o (leaseRowP (S o) z h m t), x) := by
  have h := c2_leaseRow l E S x (S o) ho hz hz4 hh hm t
  rwa [setO_self] at h
theorem g2_prolong (l : Launch) (E : jE) (S : jS) (x : jX) {o : Nat} (ho : o < 8) {n : Nat} (hn : n < 64) (t : Int32) : Ct l E yX2_prolong cX2_prolong 4 (some .int) 2 [.ref (ad E o 0), .int (nI n), .int t] (S, x) (some (.int ((S o) 4 n))) (setO S o (prolP (S o) n t), x) := by
  have h := c2_prolong l E S x (S o) ho hn t
  rwa [setO_self] at h
theorem g2_freeSpan (l : Launch) (E : jE) (S : jS) (x : jX) {o : Nat} (ho : o < 8) (hP : PI (S o)) (h : Int32) {a b : Nat} (hab : a ≤ b) (hb : b < 64) : Ct l E yX2_freeSpan cX2_freeSpan 6 (some .int) 3 [.ref (ad E o 0), .int h, .int (nI a), .int (nI b)] (S, x) (some (.int (nI (spanN h (b + 1 - a) a ((S o), 0)).2))) (setO S o (spanN h (b + 1 - a) a ((S o), 0)).1, x) := by
  have h := c2_freeSpan l E S x (S o) ho hP h hab hb
  rwa [setO_self] at h
theorem g2_addWish (l : Launch) (E : jE) (S : jS) (x : jX) {o : Nat} (ho : o < 8) {h n : Nat} (hh : h < 8) (hn : n < 64) (t : Int32) {w : Nat} (hw3 : w ≤ 3) (hw : (S o) 7 n = nI w) : Ct l E yX2_addWish cX2_addWish 5 (some .int) 2 [.ref (ad E o 0), .int (nI h), .int (nI n), .int t] (S, x) (some (.int (if (S o) 2 n = -1 then nI 0 else addW (S o) h n t 7 n))) (setO S o (addW (S o) h n t), x) := by
  have h := c2_addWish l E S x (S o) ho hh hn t hw3 hw
  rwa [setO_self] at h
theorem g2_placeOfWish (l : Launch) (E : jE) (S : jS) (x : jX) {o : Nat} (ho : o < 8) (h : Int32) {n : Nat} (hn : n < 64) {w : Nat} (hw3 : w ≤ 3) (hw : (S o) 7 n = nI w) : Ct l E yX2_placeOfWish cX2_placeOfWish 4 (some .int) 1 [.ref (ad E o 0), .int h, .int (nI n)] (S, x) (some (.int (oI (placeW (S o) h n)))) (S, x) := by
  have h := c2_placeOfWish l E S x (S o) ho h hn hw3 hw
  rwa [setO_self] at h
theorem g2_dropWish (l : Launch) (E : jE) (S : jS) (x : jX) {o : Nat} (ho : o < 8) {n : Nat} (hn : n < 64) {w : Nat} (hw3 : w ≤ 3) (hw : (S o) 7 n = nI w) {q : Nat} (hq : q < w) : Ct l E yX2_dropWish cX2_dropWish 5 none 1 [.ref (ad E o 0), .int (nI n), .int (nI q)] (S, x) none (setO S o (dropP (S o) n q), x) := by
  have h := c2_dropWish l E S x (S o) ho hn hw3 hw hq
  rwa [setO_self] at h
theorem g2_passUnits (l : Launch) (E : jE) (S : jS) (x : jX) {o : Nat} (ho : o < 8) (hP : PI (S o)) {b : Nat} (hb : b < 2 ^ 30) : Ct l E yX2_passUnits cX2_passUnits 4 (some .int) 4 [.ref (ad E o 0), .int (nI b)] (S, x) (some (.int (passN b (S o) 0 3 - (S o) 0 3))) (setO S o (passN b (S o)), x) := by
  have h := c2_passUnits l E S x (S o) ho hP hb
  rwa [setO_self] at h
theorem g2_leap (l : Launch) (E : jE) (S : jS) (x : jX) {o : Nat} (ho : o < 8) (hP : PI (S o)) (u : Int32) : Ct l E yX2_leap cX2_leap 4 (some .boolean) 4 [.ref (ad E o 0), .int u] (S, x) (some (.int (bI (!decide (u < leapV (S o) u))))) (setO S o (leapP (S o) u), x) := by
  have h := c2_leap l E S x (S o) ho hP u
  rwa [setO_self] at h
theorem g2_ofNumber (l : Launch) (E : jE) (S : jS) (x : jX) {o : Nat} (ho : o < 8) {n : Nat} (hn : n < 64) {q : Nat} (hq : q ≤ 8) : Ct l E yX2_ofNumber cX2_ofNumber 5 (some .int) 2 [.ref (ad E o 0), .int (nI n), .int (nI q)] (S, x) (some (.int (ofN (S o) n q))) (S, x) := by
  have h := c2_ofNumber l E S x (S o) ho hn hq
  rwa [setO_self] at h
theorem g2_ofHolder (l : Launch) (E : jE) (S : jS) (x : jX) {o : Nat} (ho : o < 8) (hP : PI (S o)) {h : Nat} (hh : h < 8) {q : Nat} (hq : q ≤ 7) : Ct l E yX2_ofHolder cX2_ofHolder 3 (some .int) 3 [.ref (ad E o 0), .int (nI h), .int (nI q)] (S, x) (some (.int (ofH (S o) h q))) (S, x) := by
  have h := c2_ofHolder l E S x (S o) ho hP hh hq
  rwa [setO_self] at h
theorem g2_ofSpan (l : Launch) (E : jE) (S : jS) (x : jX) {o : Nat} (ho : o < 8) {z : Nat} (hz : (S o) 1 3 = nI z) (hz4 : z ≤ 64) (q w : Int32) : Ct l E yX2_ofSpan cX2_ofSpan 4 (some .int) 3 [.ref (ad E o 0), .int q, .int w] (S, x) (some (.int (ofSp (S o) z q w))) (S, x) := by
  have h := c2_ofSpan l E S x (S o) ho hz hz4 q w
  rwa [setO_self] at h
theorem g2_ofAll (l : Launch) (E : jE) (S : jS) (x : jX) {o : Nat} (ho : o < 8) {z : Nat} (hz : (S o) 1 3 = nI z) (hz4 : z ≤ 64) {q : Nat} (hq : q ≤ 11) : Ct l E yX2_ofAll cX2_ofAll 2 (some .int) 4 [.ref (ad E o 0), .int (nI q)] (S, x) (some (.int (ofA (S o) z q))) (S, x) := by
  have h := c2_ofAll l E S x (S o) ho hz hz4 hq
  rwa [setO_self] at h
theorem g2_freeNumbers (l : Launch) (E : jE) (S : jS) (x : jX) {o : Nat} (ho : o < 8) {z : Nat} (hz : (S o) 1 3 = nI z) (hz4 : z ≤ 64) : Ct l E yX2_freeNumbers cX2_freeNumbers 1 (some .int) 3 [.ref (ad E o 0)] (S, x) (some (.int (nI (cnt (fun n => decide (stg (S o) n = nI 0)) z)))) (S, x) := by
  have h := c2_freeNumbers l E S x (S o) ho hz hz4
  rwa [setO_self] at h
theorem g2_longestRow (l : Launch) (E : jE) (S : jS) (x : jX) {o : Nat} (ho : o < 8) {z : Nat} (hz : (S o) 1 3 = nI z) (hz4 : z ≤ 64) : Ct l E yX2_longestRow cX2_longestRow 3 (some .int) 2 [.ref (ad E o 0)] (S, x) (some (.int (nI (longN (S o) z z 0 0)))) (S, x) := by
  have h := c2_longestRow l E S x (S o) ho hz hz4
  rwa [setO_self] at h
theorem g2_spans (l : Launch) (E : jE) (S : jS) (x : jX) {o : Nat} (ho : o < 8) {z : Nat} (hz : (S o) 1 3 = nI z) (hz4 : z ≤ 64) : Ct l E yX2_spans cX2_spans 3 (some .int) 2 [.ref (ad E o 0)] (S, x) (some (.int (nI (cnt (stS (S o)) z)))) (S, x) := by
  have h := c2_spans l E S x (S o) ho hz hz4
  rwa [setO_self] at h
theorem thrV0 {l : Launch} {E : jE} {own : String} {cc : ByteArray} {d ix nL' d' pc : Nat} {J : jT} {cls : String} {G1 G' : jG} {L : List (Option Value)} {rest : List Value} {y : MethodName} {cc' : ByteArray} {ret : Option FieldType} (hF : jFT l E own cc d J cls G') {a : Nat} {C : String} (w : wV own ix C y cc' nL' ret 0) (hrc : rcv E a C) (ct : CtT l E y cc' nL' ret d' [.ref a] G1 cls G') (hd : decode cc pc = .ok (.invokevirtual ix, 3)) (hdd : d' < d ∧ nL' ≤ 13) (hs : (rest.map fun v => v.category).sum ≤ 8) : J G1 pc L (.ref a :: rest) :=
  hF.2.1 G1 pc L rest ix nL' 0 d' a C y cc' ret [] w hrc ct hd hdd rfl hs
theorem thrS0 {l : Launch} {E : jE} {own : String} {cc : ByteArray} {d ix nL' d' pc : Nat} {J : jT} {cls : String} {G1 G' : jG} {L : List (Option Value)} {rest : List Value} {y : MethodName} {cc' : ByteArray} {ret : Option FieldType} (hF : jFT l E own cc d J cls G') (w : wS own ix y cc' nL' ret 0) (ct : CtT l E y cc' nL' ret d' [] G1 cls G') (hd : decode cc pc = .ok (.invokestatic ix, 3)) (hdd : d' < d ∧ nL' ≤ 13) (hs : (rest.map fun v => v.category).sum ≤ 8) : J G1 pc L (rest) :=
  hF.2.2 G1 pc L rest ix nL' 0 d' y cc' ret [] w ct hd hdd rfl hs
theorem thrV1 {l : Launch} {E : jE} {own : String} {cc : ByteArray} {d ix nL' d' pc : Nat} {J : jT} {cls : String} {G1 G' : jG} {L : List (Option Value)} {rest : List Value} {y : MethodName} {cc' : ByteArray} {ret : Option FieldType} {x1 : Value} (hF : jFT l E own cc d J cls G') {a : Nat} {C : String} (w : wV own ix C y cc' nL' ret 1) (hrc : rcv E a C) (ct : CtT l E y cc' nL' ret d' [.ref a, x1] G1 cls G') (hd : decode cc pc = .ok (.invokevirtual ix, 3)) (hdd : d' < d ∧ nL' ≤ 13) (hs : (rest.map fun v => v.category).sum ≤ 8) : J G1 pc L (x1 :: .ref a :: rest) :=
  hF.2.1 G1 pc L rest ix nL' 1 d' a C y cc' ret [x1] w hrc ct hd hdd rfl hs
theorem thrS1 {l : Launch} {E : jE} {own : String} {cc : ByteArray} {d ix nL' d' pc : Nat} {J : jT} {cls : String} {G1 G' : jG} {L : List (Option Value)} {rest : List Value} {y : MethodName} {cc' : ByteArray} {ret : Option FieldType} {x1 : Value} (hF : jFT l E own cc d J cls G') (w : wS own ix y cc' nL' ret 1) (ct : CtT l E y cc' nL' ret d' [x1] G1 cls G') (hd : decode cc pc = .ok (.invokestatic ix, 3)) (hdd : d' < d ∧ nL' ≤ 13) (hs : (rest.map fun v => v.category).sum ≤ 8) : J G1 pc L (x1 :: rest) :=
  hF.2.2 G1 pc L rest ix nL' 1 d' y cc' ret [x1] w ct hd hdd rfl hs
theorem thrV2 {l : Launch} {E : jE} {own : String} {cc : ByteArray} {d ix nL' d' pc : Nat} {J : jT} {cls : String} {G1 G' : jG} {L : List (Option Value)} {rest : List Value} {y : MethodName} {cc' : ByteArray} {ret : Option FieldType} {x1 x2 : Value} (hF : jFT l E own cc d J cls G') {a : Nat} {C : String} (w : wV own ix C y cc' nL' ret 2) (hrc : rcv E a C) (ct : CtT l E y cc' nL' ret d' [.ref a, x1, x2] G1 cls G') (hd : decode cc pc = .ok (.invokevirtual ix, 3)) (hdd : d' < d ∧ nL' ≤ 13) (hs : (rest.map fun v => v.category).sum ≤ 8) : J G1 pc L (x2 :: x1 :: .ref a :: rest) :=
  hF.2.1 G1 pc L rest ix nL' 2 d' a C y cc' ret [x1, x2] w hrc ct hd hdd rfl hs
theorem thrS2 {l : Launch} {E : jE} {own : String} {cc : ByteArray} {d ix nL' d' pc : Nat} {J : jT} {cls : String} {G1 G' : jG} {L : List (Option Value)} {rest : List Value} {y : MethodName} {cc' : ByteArray} {ret : Option FieldType} {x1 x2 : Value} (hF : jFT l E own cc d J cls G') (w : wS own ix y cc' nL' ret 2) (ct : CtT l E y cc' nL' ret d' [x1, x2] G1 cls G') (hd : decode cc pc = .ok (.invokestatic ix, 3)) (hdd : d' < d ∧ nL' ≤ 13) (hs : (rest.map fun v => v.category).sum ≤ 8) : J G1 pc L (x2 :: x1 :: rest) :=
  hF.2.2 G1 pc L rest ix nL' 2 d' y cc' ret [x1, x2] w ct hd hdd rfl hs
theorem thrV3 {l : Launch} {E : jE} {own : String} {cc : ByteArray} {d ix nL' d' pc : Nat} {J : jT} {cls : String} {G1 G' : jG} {L : List (Option Value)} {rest : List Value} {y : MethodName} {cc' : ByteArray} {ret : Option FieldType} {x1 x2 x3 : Value} (hF : jFT l E own cc d J cls G') {a : Nat} {C : String} (w : wV own ix C y cc' nL' ret 3) (hrc : rcv E a C) (ct : CtT l E y cc' nL' ret d' [.ref a, x1, x2, x3] G1 cls G') (hd : decode cc pc = .ok (.invokevirtual ix, 3)) (hdd : d' < d ∧ nL' ≤ 13) (hs : (rest.map fun v => v.category).sum ≤ 8) : J G1 pc L (x3 :: x2 :: x1 :: .ref a :: rest) :=
  hF.2.1 G1 pc L rest ix nL' 3 d' a C y cc' ret [x1, x2, x3] w hrc ct hd hdd rfl hs
theorem thrS3 {l : Launch} {E : jE} {own : String} {cc : ByteArray} {d ix nL' d' pc : Nat} {J : jT} {cls : String} {G1 G' : jG} {L : List (Option Value)} {rest : List Value} {y : MethodName} {cc' : ByteArray} {ret : Option FieldType} {x1 x2 x3 : Value} (hF : jFT l E own cc d J cls G') (w : wS own ix y cc' nL' ret 3) (ct : CtT l E y cc' nL' ret d' [x1, x2, x3] G1 cls G') (hd : decode cc pc = .ok (.invokestatic ix, 3)) (hdd : d' < d ∧ nL' ≤ 13) (hs : (rest.map fun v => v.category).sum ≤ 8) : J G1 pc L (x3 :: x2 :: x1 :: rest) :=
  hF.2.2 G1 pc L rest ix nL' 3 d' y cc' ret [x1, x2, x3] w ct hd hdd rfl hs
theorem thrV4 {l : Launch} {E : jE} {own : String} {cc : ByteArray} {d ix nL' d' pc : Nat} {J : jT} {cls : String} {G1 G' : jG} {L : List (Option Value)} {rest : List Value} {y : MethodName} {cc' : ByteArray} {ret : Option FieldType} {x1 x2 x3 x4 : Value} (hF : jFT l E own cc d J cls G') {a : Nat} {C : String} (w : wV own ix C y cc' nL' ret 4) (hrc : rcv E a C) (ct : CtT l E y cc' nL' ret d' [.ref a, x1, x2, x3, x4] G1 cls G') (hd : decode cc pc = .ok (.invokevirtual ix, 3)) (hdd : d' < d ∧ nL' ≤ 13) (hs : (rest.map fun v => v.category).sum ≤ 8) : J G1 pc L (x4 :: x3 :: x2 :: x1 :: .ref a :: rest) :=
  hF.2.1 G1 pc L rest ix nL' 4 d' a C y cc' ret [x1, x2, x3, x4] w hrc ct hd hdd rfl hs
theorem thrS4 {l : Launch} {E : jE} {own : String} {cc : ByteArray} {d ix nL' d' pc : Nat} {J : jT} {cls : String} {G1 G' : jG} {L : List (Option Value)} {rest : List Value} {y : MethodName} {cc' : ByteArray} {ret : Option FieldType} {x1 x2 x3 x4 : Value} (hF : jFT l E own cc d J cls G') (w : wS own ix y cc' nL' ret 4) (ct : CtT l E y cc' nL' ret d' [x1, x2, x3, x4] G1 cls G') (hd : decode cc pc = .ok (.invokestatic ix, 3)) (hdd : d' < d ∧ nL' ≤ 13) (hs : (rest.map fun v => v.category).sum ≤ 8) : J G1 pc L (x4 :: x3 :: x2 :: x1 :: rest) :=
  hF.2.2 G1 pc L rest ix nL' 4 d' y cc' ret [x1, x2, x3, x4] w ct hd hdd rfl hs
theorem r_V0vx {l : Launch} {E : jE} {own : String} {cc : ByteArray} {nL d n0 cap : Nat} {J : jT} {pc : Nat} {L : List (Option Value)} {rest : List Value} (hJ : jR l E own cc nL d n0 cap J) {ix nL' d' a : Nat} {C : String} {y : MethodName} {cc' : ByteArray} {ret : Option FieldType} {S S' : jS} {x x' : jX} {v : Value} (hx : x'.2.2 = x.2.2) (w : wV own ix C y cc' nL' ret 0) (hrc : rcv E a C) (ct : Ct l E y cc' nL' ret d' [.ref a] (S, x) (some v) (S', x')) (hd : decode cc pc = .ok (.invokevirtual ix, 3)) (hdd : d' < d ∧ nL' ≤ 13) (hst : (rest.map fun v => v.category).sum ≤ 8) (k : J (S', x') (pc + 3) L (v :: rest)) : J (S, x) pc L (.ref a :: rest) :=
  r_callV hJ (As := []) w hrc ct hd hdd rfl hst (fun h => by rw [hx]; exact h) k
theorem r_V1vx {l : Launch} {E : jE} {own : String} {cc : ByteArray} {nL d n0 cap : Nat} {J : jT} {pc : Nat} {L : List (Option Value)} {rest : List Value} (hJ : jR l E own cc nL d n0 cap J) {ix nL' d' a : Nat} {C : String} {y : MethodName} {cc' : ByteArray} {ret : Option FieldType} {S S' : jS} {x x' : jX} {x1 : Value} {v : Value} (hx : x'.2.2 = x.2.2) (w : wV own ix C y cc' nL' ret 1) (hrc : rcv E a C) (ct : Ct l E y cc' nL' ret d' [.ref a, x1] (S, x) (some v) (S', x')) (hd : decode cc pc = .ok (.invokevirtual ix, 3)) (hdd : d' < d ∧ nL' ≤ 13) (hst : (rest.map fun v => v.category).sum ≤ 8) (k : J (S', x') (pc + 3) L (v :: rest)) : J (S, x) pc L (x1 :: .ref a :: rest) :=
  r_callV hJ (As := [x1]) w hrc ct hd hdd rfl hst (fun h => by rw [hx]; exact h) k
theorem r_V2vx {l : Launch} {E : jE} {own : String} {cc : ByteArray} {nL d n0 cap : Nat} {J : jT} {pc : Nat} {L : List (Option Value)} {rest : List Value} (hJ : jR l E own cc nL d n0 cap J) {ix nL' d' a : Nat} {C : String} {y : MethodName} {cc' : ByteArray} {ret : Option FieldType} {S S' : jS} {x x' : jX} {x1 x2 : Value} {v : Value} (hx : x'.2.2 = x.2.2) (w : wV own ix C y cc' nL' ret 2) (hrc : rcv E a C) (ct : Ct l E y cc' nL' ret d' [.ref a, x1, x2] (S, x) (some v) (S', x')) (hd : decode cc pc = .ok (.invokevirtual ix, 3)) (hdd : d' < d ∧ nL' ≤ 13) (hst : (rest.map fun v => v.category).sum ≤ 8) (k : J (S', x') (pc + 3) L (v :: rest)) : J (S, x) pc L (x2 :: x1 :: .ref a :: rest) :=
  r_callV hJ (As := [x1, x2]) w hrc ct hd hdd rfl hst (fun h => by rw [hx]; exact h) k
theorem r_V2ux {l : Launch} {E : jE} {own : String} {cc : ByteArray} {nL d n0 cap : Nat} {J : jT} {pc : Nat} {L : List (Option Value)} {rest : List Value} (hJ : jR l E own cc nL d n0 cap J) {ix nL' d' a : Nat} {C : String} {y : MethodName} {cc' : ByteArray} {ret : Option FieldType} {S S' : jS} {x x' : jX} {x1 x2 : Value} (hx : x'.2.2 = x.2.2) (w : wV own ix C y cc' nL' ret 2) (hrc : rcv E a C) (ct : Ct l E y cc' nL' ret d' [.ref a, x1, x2] (S, x) none (S', x')) (hd : decode cc pc = .ok (.invokevirtual ix, 3)) (hdd : d' < d ∧ nL' ≤ 13) (hst : (rest.map fun v => v.category).sum ≤ 8) (k : J (S', x') (pc + 3) L rest) : J (S, x) pc L (x2 :: x1 :: .ref a :: rest) :=
  r_callV hJ (As := [x1, x2]) w hrc ct hd hdd rfl hst (fun h => by rw [hx]; exact h) k
theorem r_V3vx {l : Launch} {E : jE} {own : String} {cc : ByteArray} {nL d n0 cap : Nat} {J : jT} {pc : Nat} {L : List (Option Value)} {rest : List Value} (hJ : jR l E own cc nL d n0 cap J) {ix nL' d' a : Nat} {C : String} {y : MethodName} {cc' : ByteArray} {ret : Option FieldType} {S S' : jS} {x x' : jX} {x1 x2 x3 : Value} {v : Value} (hx : x'.2.2 = x.2.2) (w : wV own ix C y cc' nL' ret 3) (hrc : rcv E a C) (ct : Ct l E y cc' nL' ret d' [.ref a, x1, x2, x3] (S, x) (some v) (S', x')) (hd : decode cc pc = .ok (.invokevirtual ix, 3)) (hdd : d' < d ∧ nL' ≤ 13) (hst : (rest.map fun v => v.category).sum ≤ 8) (k : J (S', x') (pc + 3) L (v :: rest)) : J (S, x) pc L (x3 :: x2 :: x1 :: .ref a :: rest) :=
  r_callV hJ (As := [x1, x2, x3]) w hrc ct hd hdd rfl hst (fun h => by rw [hx]; exact h) k
theorem r_V3ux {l : Launch} {E : jE} {own : String} {cc : ByteArray} {nL d n0 cap : Nat} {J : jT} {pc : Nat} {L : List (Option Value)} {rest : List Value} (hJ : jR l E own cc nL d n0 cap J) {ix nL' d' a : Nat} {C : String} {y : MethodName} {cc' : ByteArray} {ret : Option FieldType} {S S' : jS} {x x' : jX} {x1 x2 x3 : Value} (hx : x'.2.2 = x.2.2) (w : wV own ix C y cc' nL' ret 3) (hrc : rcv E a C) (ct : Ct l E y cc' nL' ret d' [.ref a, x1, x2, x3] (S, x) none (S', x')) (hd : decode cc pc = .ok (.invokevirtual ix, 3)) (hdd : d' < d ∧ nL' ≤ 13) (hst : (rest.map fun v => v.category).sum ≤ 8) (k : J (S', x') (pc + 3) L rest) : J (S, x) pc L (x3 :: x2 :: x1 :: .ref a :: rest) :=
  r_callV hJ (As := [x1, x2, x3]) w hrc ct hd hdd rfl hst (fun h => by rw [hx]; exact h) k
/-! keep, as a function -/
def kpS (S : jS) (K : Nat → Nat) : jS :=
  if S 9 0 0 = nI 6 then setO (setO S (rotK K 5) (S 0)) 9 (put (put (S 9) 0 0 (S 9 0 0 - nI 1)) 0 0 (put (S 9) 0 0 (S 9 0 0 - nI 1) 0 0 + nI 1))
  else setO (setO S (K (toN (S 9 0 0))) (S 0)) 9 (put (S 9) 0 0 (S 9 0 0 + nI 1))
def kpK (S : jS) (K : Nat → Nat) : Nat → Nat := if S 9 0 0 = nI 6 then rotK K else K
def SI (S : jS) (K : Nat → Nat) : Prop := KI K ∧ ∃ m : Nat, m ≤ 6 ∧ S 9 0 0 = nI m
theorem g3_keep (l : Launch) (E : jE) (S : jS) (K : Nat → Nat) (y : Int64 × Nat) (h : SI S K) : Ct l E yX3_keep cX3_keep 3 none 4 [.ref (ad E 9 0), .ref (ad E 0 0)] (S, (K, y)) none (kpS S K, (kpK S K, y)) := by
  obtain ⟨hK, m, hm, hV⟩ := h
  by_cases h6 : m = 6
  · subst h6
    have h := c3_keep_b l E S K y (S 9) hK hV
    rw [setO_self] at h
    unfold kpS kpK
    rw [if_pos hV, if_pos hV]
    exact h
  · have h := c3_keep_a l E S K y (S 9) hK hV (by omega)
    rw [setO_self] at h
    have hn : ¬ S 9 0 0 = nI 6 := by rw [hV, nI_eq (by omega) (by decide)]; exact h6
    unfold kpS kpK
    rw [if_neg hn, if_neg hn, hV, toN_nI (by omega), ← hV]
    exact h
theorem kpS_ne {S : jS} {K : Nat → Nat} (h : SI S K) {o : Nat} (ho : o < 2 ∨ (8 ≤ o ∧ o ≠ 9)) : kpS S K o = S o := by
  obtain ⟨hK, m, hm, hV⟩ := h
  unfold kpS
  split
  · have := (KI_rot hK).1 5 (by decide)
    rw [setO_ne (by omega), setO_ne (by omega)]
  · rename_i hn
    have h6 : m < 6 := by
      rcases Nat.lt_or_ge m 6 with q | q
      · exact q
      · exact absurd (by rw [hV, show m = 6 by omega]) hn
    have := hK.1 m h6
    rw [setO_ne (by omega), setO_ne (by rw [hV, toN_nI (by omega)]; omega)]
set_option maxRecDepth 100000 in
set_option maxHeartbeats 1000000 in
theorem c4_needHolder (l : Launch) (E : jE) (S : jS) (x : jX) (h : Int32) (h0 : ¬ h < 0) (h8 : h < nI 8) : Ct l E yX4_needHolder cX4_needHolder 1 none 6 [.int h] (S, x) none (S, x) := by
  refine Ct.of (by decide +kernel) (Nat.le_refl _) (Nat.le_of_ble_eq_true rfl) rfl (fun J hJ hF => ?_)
  refine r_iload_n hJ dX4_needHolder_0 rfl jg0 ?_
  refine r_if_lt hJ (tgt := 10) dX4_needHolder_1 (by decide) (fun c1 => ?_) (fun c1 => ?_)
  · exact absurd c1 h0
  · refine r_iload_n hJ dX4_needHolder_4 rfl jg0 ?_
    refine r_bipush hJ (v := nI 8) dX4_needHolder_5 (by decide) ?_
    refine r_icmp_lt hJ (tgt := 18) dX4_needHolder_7 (by decide) (fun c7 => ?_) (fun c7 => ?_)
    · exact ret_v hF dX4_needHolder_18 rfl rfl
    · exact absurd h8 c7

set_option maxRecDepth 100000 in
set_option maxHeartbeats 1000000 in
theorem t4_needHolder (l : Launch) (hst : l.stackTraces = false) (E : jE) (S : jS) (x : jX) (h : Int32) (h0 : h < 0 ∨ ¬ h < nI 8) : CtT l E yX4_needHolder cX4_needHolder 1 none 6 [.int h] (S, x) "java/lang/IndexOutOfBoundsException" (nxt (S, x)) := by
  refine CtT.of hst (by decide +kernel) (Nat.le_of_ble_eq_true rfl) rfl (fun J hJ hF => ?_)
  refine r_iload_n hJ dX4_needHolder_0 rfl jg0 ?_
  refine r_if_lt hJ (tgt := 10) dX4_needHolder_1 (by decide) (fun c1 => ?_) (fun c1 => ?_)
  · exact hF.1 _ _ _ _ _ _ rfl thr_ooo dX4_needHolder_10 dX4_needHolder_13 dX4_needHolder_14 dX4_needHolder_17 (by decide) (Nat.le_of_ble_eq_true rfl)
  · refine r_iload_n hJ dX4_needHolder_4 rfl jg0 ?_
    refine r_bipush hJ (v := nI 8) dX4_needHolder_5 (by decide) ?_
    refine r_icmp_lt hJ (tgt := 18) dX4_needHolder_7 (by decide) (fun c7 => ?_) (fun c7 => ?_)
    · exact absurd c7 (h0.resolve_left c1)
    · exact hF.1 _ _ _ _ _ _ rfl thr_ooo dX4_needHolder_10 dX4_needHolder_13 dX4_needHolder_14 dX4_needHolder_17 (by decide) (Nat.le_of_ble_eq_true rfl)

set_option maxRecDepth 100000 in
set_option maxHeartbeats 1000000 in
theorem c4_needSetting (l : Launch) (E : jE) (S : jS) (x : jX) (h : Int32) (h0 : ¬ h < 0) (h8 : h < nI 4) : Ct l E yX4_needSetting cX4_needSetting 1 none 6 [.int h] (S, x) none (S, x) := by
  refine Ct.of (by decide +kernel) (Nat.le_refl _) (Nat.le_of_ble_eq_true rfl) rfl (fun J hJ hF => ?_)
  refine r_iload_n hJ dX4_needSetting_0 rfl jg0 ?_
  refine r_if_lt hJ (tgt := 9) dX4_needSetting_1 (by decide) (fun c1 => ?_) (fun c1 => ?_)
  · exact absurd c1 h0
  · refine r_iload_n hJ dX4_needSetting_4 rfl jg0 ?_
    refine r_iconst hJ (v := nI 4) dX4_needSetting_5 (by decide) ?_
    refine r_icmp_lt hJ (tgt := 17) dX4_needSetting_6 (by decide) (fun c6 => ?_) (fun c6 => ?_)
    · exact ret_v hF dX4_needSetting_17 rfl rfl
    · exact absurd h8 c6

set_option maxRecDepth 100000 in
set_option maxHeartbeats 1000000 in
theorem t4_needSetting (l : Launch) (hst : l.stackTraces = false) (E : jE) (S : jS) (x : jX) (h : Int32) (h0 : h < 0 ∨ ¬ h < nI 4) : CtT l E yX4_needSetting cX4_needSetting 1 none 6 [.int h] (S, x) "java/lang/IndexOutOfBoundsException" (nxt (S, x)) := by
  refine CtT.of hst (by decide +kernel) (Nat.le_of_ble_eq_true rfl) rfl (fun J hJ hF => ?_)
  refine r_iload_n hJ dX4_needSetting_0 rfl jg0 ?_
  refine r_if_lt hJ (tgt := 9) dX4_needSetting_1 (by decide) (fun c1 => ?_) (fun c1 => ?_)
  · exact hF.1 _ _ _ _ _ _ rfl thr_ooo dX4_needSetting_9 dX4_needSetting_12 dX4_needSetting_13 dX4_needSetting_16 (by decide) (Nat.le_of_ble_eq_true rfl)
  · refine r_iload_n hJ dX4_needSetting_4 rfl jg0 ?_
    refine r_iconst hJ (v := nI 4) dX4_needSetting_5 (by decide) ?_
    refine r_icmp_lt hJ (tgt := 17) dX4_needSetting_6 (by decide) (fun c6 => ?_) (fun c6 => ?_)
    · exact absurd c6 (h0.resolve_left c1)
    · exact hF.1 _ _ _ _ _ _ rfl thr_ooo dX4_needSetting_9 dX4_needSetting_12 dX4_needSetting_13 dX4_needSetting_16 (by decide) (Nat.le_of_ble_eq_true rfl)

set_option maxRecDepth 100000 in
set_option maxHeartbeats 1000000 in
theorem c4_needRange (l : Launch) (E : jE) (S : jS) (x : jX) (v lo hi : Int32) (h0 : ¬ v < lo) (h8 : v ≤ hi) : Ct l E yX4_needRange cX4_needRange 3 none 6 [.int v, .int lo, .int hi] (S, x) none (S, x) := by
  refine Ct.of (by decide +kernel) (Nat.le_refl _) (Nat.le_of_ble_eq_true rfl) rfl (fun J hJ hF => ?_)
  refine r_iload_n hJ dX4_needRange_0 rfl jg0 ?_
  refine r_iload_n hJ dX4_needRange_1 rfl jg1 ?_
  refine r_icmp_lt hJ (tgt := 10) dX4_needRange_2 (by decide) (fun c2 => ?_) (fun c2 => ?_)
  · exact absurd c2 h0
  · refine r_iload_n hJ dX4_needRange_5 rfl jg0 ?_
    refine r_iload_n hJ dX4_needRange_6 rfl jg2 ?_
    refine r_icmp_le hJ (tgt := 18) dX4_needRange_7 (by decide) (fun c7 => ?_) (fun c7 => ?_)
    · exact ret_v hF dX4_needRange_18 rfl rfl
    · exact absurd h8 c7

set_option maxRecDepth 100000 in
set_option maxHeartbeats 1000000 in
theorem t4_needRange (l : Launch) (hst : l.stackTraces = false) (E : jE) (S : jS) (x : jX) (v lo hi : Int32) (h0 : v < lo ∨ ¬ v ≤ hi) : CtT l E yX4_needRange cX4_needRange 3 none 6 [.int v, .int lo, .int hi] (S, x) "java/lang/IllegalArgumentException" (nxt (S, x)) := by
  refine CtT.of hst (by decide +kernel) (Nat.le_of_ble_eq_true rfl) rfl (fun J hJ hF => ?_)
  refine r_iload_n hJ dX4_needRange_0 rfl jg0 ?_
  refine r_iload_n hJ dX4_needRange_1 rfl jg1 ?_
  refine r_icmp_lt hJ (tgt := 10) dX4_needRange_2 (by decide) (fun c2 => ?_) (fun c2 => ?_)
  · exact hF.1 _ _ _ _ _ _ rfl thr_arg dX4_needRange_10 dX4_needRange_13 dX4_needRange_14 dX4_needRange_17 (by decide) (Nat.le_of_ble_eq_true rfl)
  · refine r_iload_n hJ dX4_needRange_5 rfl jg0 ?_
    refine r_iload_n hJ dX4_needRange_6 rfl jg2 ?_
    refine r_icmp_le hJ (tgt := 18) dX4_needRange_7 (by decide) (fun c7 => ?_) (fun c7 => ?_)
    · exact absurd c7 (h0.resolve_left c2)
    · exact hF.1 _ _ _ _ _ _ rfl thr_arg dX4_needRange_10 dX4_needRange_13 dX4_needRange_14 dX4_needRange_17 (by decide) (Nat.le_of_ble_eq_true rfl)

set_option maxRecDepth 100000 in
set_option maxHeartbeats 1000000 in
theorem c4_needState (l : Launch) (E : jE) (S : jS) (x : jX) : Ct l E yX4_needState cX4_needState 1 none 6 [.int (bI true)] (S, x) none (S, x) := by
  refine Ct.of (by decide +kernel) (Nat.le_refl _) (Nat.le_of_ble_eq_true rfl) rfl (fun J hJ hF => ?_)
  refine r_iload_n hJ dX4_needState_0 rfl jg0 ?_
  refine r_if_ne hJ (tgt := 12) dX4_needState_1 (by decide) (fun c1 => ?_) (fun c1 => ?_)
  · exact ret_v hF dX4_needState_12 rfl rfl
  · exact absurd c1 (by decide)

set_option maxRecDepth 100000 in
set_option maxHeartbeats 1000000 in
theorem t4_needState (l : Launch) (hst : l.stackTraces = false) (E : jE) (S : jS) (x : jX) : CtT l E yX4_needState cX4_needState 1 none 6 [.int (bI false)] (S, x) "java/lang/IllegalStateException" (nxt (S, x)) := by
  refine CtT.of hst (by decide +kernel) (Nat.le_of_ble_eq_true rfl) rfl (fun J hJ hF => ?_)
  refine r_iload_n hJ dX4_needState_0 rfl jg0 ?_
  refine r_if_ne hJ (tgt := 12) dX4_needState_1 (by decide) (fun c1 => ?_) (fun c1 => ?_)
  · exact absurd rfl c1
  · exact hF.1 _ _ _ _ _ _ rfl thr_sta dX4_needState_4 dX4_needState_7 dX4_needState_8 dX4_needState_11 (by decide) (Nat.le_of_ble_eq_true rfl)

def okN (S : jS) (n : Int32) : Bool := !decide (n < 0) && !decide (S 0 1 3 ≤ n)
set_option maxRecDepth 100000 in
set_option maxHeartbeats 1000000 in
theorem c4_needNumber (l : Launch) (E : jE) (S : jS) (x : jX) (n : Int32) (h0 : okN S n = true) : Ct l E yX4_needNumber cX4_needNumber 2 none 6 [.ref (ad E 11 0), .int n] (S, x) none (S, x) := by
  refine Ct.of (by decide +kernel) (Nat.le_refl _) (Nat.le_of_ble_eq_true rfl) rfl (fun J hJ hF => ?_)
  refine r_aload_n hJ dX4_needNumber_0 rfl jg0 ?_
  refine r_g4_0 hJ m146 dX4_needNumber_1 ?_
  refine r_iload_n hJ dX4_needNumber_4 rfl jg1 ?_
  refine r_V1v hJ kX4_197 (rcv2 E (by decide)) (g2_hasNumber l E S x (o := 0) (by decide) n) dX4_needNumber_5 ⟨by decide, by decide⟩ (Nat.le_of_ble_eq_true rfl) ?_
  refine r_if_ne hJ (tgt := 19) dX4_needNumber_8 (by decide) (fun c8 => ?_) (fun c8 => ?_)
  · exact ret_v hF dX4_needNumber_19 rfl rfl
  · rw [bI_0] at c8
    exact absurd (c8.symm.trans h0) (by decide)

set_option maxRecDepth 100000 in
set_option maxHeartbeats 1000000 in
theorem t4_needNumber (l : Launch) (hst : l.stackTraces = false) (E : jE) (S : jS) (x : jX) (n : Int32) (h0 : okN S n = false) : CtT l E yX4_needNumber cX4_needNumber 2 none 6 [.ref (ad E 11 0), .int n] (S, x) "java/lang/IndexOutOfBoundsException" (nxt (S, x)) := by
  refine CtT.of hst (by decide +kernel) (Nat.le_of_ble_eq_true rfl) rfl (fun J hJ hF => ?_)
  refine r_aload_n hJ dX4_needNumber_0 rfl jg0 ?_
  refine r_g4_0 hJ m146 dX4_needNumber_1 ?_
  refine r_iload_n hJ dX4_needNumber_4 rfl jg1 ?_
  refine r_V1v hJ kX4_197 (rcv2 E (by decide)) (g2_hasNumber l E S x (o := 0) (by decide) n) dX4_needNumber_5 ⟨by decide, by decide⟩ (Nat.le_of_ble_eq_true rfl) ?_
  refine r_if_ne hJ (tgt := 19) dX4_needNumber_8 (by decide) (fun c8 => ?_) (fun c8 => ?_)
  · rw [bI_0] at c8
    exact absurd h0 c8
  · exact hF.1 _ _ _ _ _ _ rfl thr_ooo dX4_needNumber_11 dX4_needNumber_14 dX4_needNumber_15 dX4_needNumber_18 (by decide) (Nat.le_of_ble_eq_true rfl)
