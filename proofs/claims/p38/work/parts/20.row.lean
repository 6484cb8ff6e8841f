abbrev wRow (q b n : Nat) (G : Nat → ClassId) (f : Nat → Int32) : va_W := [(q, .inr (7, [.ref b])), (b, .inl (G 0, n, .inl f))]
abbrev wProd (a : Nat → Nat) (G : Nat → ClassId) (M : Nat → Nat → Int32) : va_W := (([(a 36, .inr (5, [.int (M 0 2), .ref (a 4), .ref (a 6), .ref (a 8), .ref (a 10), .ref (a 12)]))] : va_W) ++ ((wRow (a 4) (a 5) 8 G (M 2) : va_W) ++ ((wRow (a 6) (a 7) 8 G (M 3) : va_W) ++ ((wRow (a 8) (a 9) 8 G (M 4) : va_W) ++ ((wRow (a 10) (a 11) 8 G (M 5) : va_W) ++ (wRow (a 12) (a 13) 8 G (M 6) : va_W))))))
abbrev wPerf (a : Nat → Nat) (G : Nat → ClassId) (M : Nat → Nat → Int32) : va_W := (([(a 37, .inr (4, [.int (M 0 3), .ref (a 14), .ref (a 16), .ref (a 18), .ref (a 20), .ref (a 22), .ref (a 24)]))] : va_W) ++ ((wRow (a 14) (a 15) 24 G (M 7) : va_W) ++ ((wRow (a 16) (a 17) 24 G (M 8) : va_W) ++ ((wRow (a 18) (a 19) 24 G (M 9) : va_W) ++ ((wRow (a 20) (a 21) 24 G (M 10) : va_W) ++ ((wRow (a 22) (a 23) 24 G (M 11) : va_W) ++ (wRow (a 24) (a 25) 24 G (M 12) : va_W)))))))
abbrev wSubs (a : Nat → Nat) (G : Nat → ClassId) (M : Nat → Nat → Int32) : va_W := (([(a 38, .inr (9, [.int (M 0 4), .ref (a 26), .ref (a 28)]))] : va_W) ++ ((wRow (a 26) (a 27) 10 G (M 13) : va_W) ++ (wRow (a 28) (a 29) 10 G (M 14) : va_W)))
abbrev wReqs (a : Nat → Nat) (G : Nat → ClassId) (M : Nat → Nat → Int32) : va_W := (([(a 39, .inr (6, [.int (M 0 5), .ref (a 30), .ref (a 32), .ref (a 34)]))] : va_W) ++ ((wRow (a 30) (a 31) 20 G (M 15) : va_W) ++ ((wRow (a 32) (a 33) 20 G (M 16) : va_W) ++ (wRow (a 34) (a 35) 20 G (M 17) : va_W))))
abbrev wSeas (a : Nat → Nat) (G : Nat → ClassId) (M : Nat → Nat → Int32) : va_W := (([(a 0, .inr (8, [.ref (a 2), .int (M 0 0), .int (M 0 1), .ref (a 36), .ref (a 37), .ref (a 38), .ref (a 39)]))] : va_W) ++ ((wRow (a 2) (a 3) 3 G (M 1) : va_W) ++ ((wProd a G M : va_W) ++ ((wPerf a G M : va_W) ++ ((wSubs a G M : va_W) ++ (wReqs a G M : va_W))))))
/-- the part's rows out of z, the others out of M -/
def mgX3 (M z : Nat → Nat → Int32) : Nat → Nat → Int32 := fun x => cond (Nat.beq x 0) (fun y => cond (Nat.beq y 2) (z 0 y) (M 0 y)) (cond (Nat.ble 2 x && Nat.ble x 6) (z x) (M x))
/-- the part's rows out of z, the others out of M -/
def mgX2 (M z : Nat → Nat → Int32) : Nat → Nat → Int32 := fun x => cond (Nat.beq x 0) (fun y => cond (Nat.beq y 3) (z 0 y) (M 0 y)) (cond (Nat.ble 7 x && Nat.ble x 12) (z x) (M x))
/-- the part's rows out of z, the others out of M -/
def mgX7 (M z : Nat → Nat → Int32) : Nat → Nat → Int32 := fun x => cond (Nat.beq x 0) (fun y => cond (Nat.beq y 4) (z 0 y) (M 0 y)) (cond (Nat.ble 13 x && Nat.ble x 14) (z x) (M x))
/-- the part's rows out of z, the others out of M -/
def mgX4 (M z : Nat → Nat → Int32) : Nat → Nat → Int32 := fun x => cond (Nat.beq x 0) (fun y => cond (Nat.beq y 5) (z 0 y) (M 0 y)) (cond (Nat.ble 15 x && Nat.ble x 17) (z x) (M x))
theorem sX3_2 {D : va_G} {a : Nat → Nat} {G : Nat → ClassId} {M : Nat → Nat → Int32} {H : Heap} (h : va_P D vwCl (wProd a G M) H) : va_P D vwCl (wRow (a 4) (a 5) 8 G (M 2)) H := jMidP (pre := ([(a 36, .inr (5, [.int (M 0 2), .ref (a 4), .ref (a 6), .ref (a 8), .ref (a 10), .ref (a 12)]))] : va_W)) (post := ((wRow (a 6) (a 7) 8 G (M 3) : va_W) ++ ((wRow (a 8) (a 9) 8 G (M 4) : va_W) ++ ((wRow (a 10) (a 11) 8 G (M 5) : va_W) ++ (wRow (a 12) (a 13) 8 G (M 6) : va_W))))) h
theorem dX3_2 {A : Nat → Prop} {a : Nat → Nat} {G : Nat → ClassId} {M : Nat → Nat → Int32} (h : va_D A (wProd a G M)) : va_D A (wRow (a 4) (a 5) 8 G (M 2)) := jMidD (pre := ([(a 36, .inr (5, [.int (M 0 2), .ref (a 4), .ref (a 6), .ref (a 8), .ref (a 10), .ref (a 12)]))] : va_W)) (post := ((wRow (a 6) (a 7) 8 G (M 3) : va_W) ++ ((wRow (a 8) (a 9) 8 G (M 4) : va_W) ++ ((wRow (a 10) (a 11) 8 G (M 5) : va_W) ++ (wRow (a 12) (a 13) 8 G (M 6) : va_W))))) h
theorem jX3_2 {D : va_G} {A : Nat → Prop} {a : Nat → Nat} {G : Nat → ClassId} {M : Nat → Nat → Int32} {z : Nat → Int32} {H H1 : Heap} (hP : va_P D vwCl (wProd a G M) H) (hD : va_D A (wProd a G M)) (hk : ∀ q : Nat, q < H.size → ¬ va_A (wRow (a 4) (a 5) 8 G (M 2)) H.size q → H1[q]? = H[q]?) (h1 : va_P D vwCl (wRow (a 4) (a 5) 8 G z) H1) : va_P D vwCl (wProd a G (u1 M 2 z)) H1 := jMidJoin (pre := ([(a 36, .inr (5, [.int (M 0 2), .ref (a 4), .ref (a 6), .ref (a 8), .ref (a 10), .ref (a 12)]))] : va_W)) (mid := (wRow (a 4) (a 5) 8 G (M 2))) (mid' := (wRow (a 4) (a 5) 8 G z)) (post := ((wRow (a 6) (a 7) 8 G (M 3) : va_W) ++ ((wRow (a 8) (a 9) 8 G (M 4) : va_W) ++ ((wRow (a 10) (a 11) 8 G (M 5) : va_W) ++ (wRow (a 12) (a 13) 8 G (M 6) : va_W))))) hP hD hk h1
theorem sX3_3 {D : va_G} {a : Nat → Nat} {G : Nat → ClassId} {M : Nat → Nat → Int32} {H : Heap} (h : va_P D vwCl (wProd a G M) H) : va_P D vwCl (wRow (a 6) (a 7) 8 G (M 3)) H := jMidP (pre := (([(a 36, .inr (5, [.int (M 0 2), .ref (a 4), .ref (a 6), .ref (a 8), .ref (a 10), .ref (a 12)]))] : va_W) ++ (wRow (a 4) (a 5) 8 G (M 2) : va_W))) (post := ((wRow (a 8) (a 9) 8 G (M 4) : va_W) ++ ((wRow (a 10) (a 11) 8 G (M 5) : va_W) ++ (wRow (a 12) (a 13) 8 G (M 6) : va_W)))) h
theorem dX3_3 {A : Nat → Prop} {a : Nat → Nat} {G : Nat → ClassId} {M : Nat → Nat → Int32} (h : va_D A (wProd a G M)) : va_D A (wRow (a 6) (a 7) 8 G (M 3)) := jMidD (pre := (([(a 36, .inr (5, [.int (M 0 2), .ref (a 4), .ref (a 6), .ref (a 8), .ref (a 10), .ref (a 12)]))] : va_W) ++ (wRow (a 4) (a 5) 8 G (M 2) : va_W))) (post := ((wRow (a 8) (a 9) 8 G (M 4) : va_W) ++ ((wRow (a 10) (a 11) 8 G (M 5) : va_W) ++ (wRow (a 12) (a 13) 8 G (M 6) : va_W)))) h
theorem jX3_3 {D : va_G} {A : Nat → Prop} {a : Nat → Nat} {G : Nat → ClassId} {M : Nat → Nat → Int32} {z : Nat → Int32} {H H1 : Heap} (hP : va_P D vwCl (wProd a G M) H) (hD : va_D A (wProd a G M)) (hk : ∀ q : Nat, q < H.size → ¬ va_A (wRow (a 6) (a 7) 8 G (M 3)) H.size q → H1[q]? = H[q]?) (h1 : va_P D vwCl (wRow (a 6) (a 7) 8 G z) H1) : va_P D vwCl (wProd a G (u1 M 3 z)) H1 := jMidJoin (pre := (([(a 36, .inr (5, [.int (M 0 2), .ref (a 4), .ref (a 6), .ref (a 8), .ref (a 10), .ref (a 12)]))] : va_W) ++ (wRow (a 4) (a 5) 8 G (M 2) : va_W))) (mid := (wRow (a 6) (a 7) 8 G (M 3))) (mid' := (wRow (a 6) (a 7) 8 G z)) (post := ((wRow (a 8) (a 9) 8 G (M 4) : va_W) ++ ((wRow (a 10) (a 11) 8 G (M 5) : va_W) ++ (wRow (a 12) (a 13) 8 G (M 6) : va_W)))) hP hD hk h1
theorem sX3_4 {D : va_G} {a : Nat → Nat} {G : Nat → ClassId} {M : Nat → Nat → Int32} {H : Heap} (h : va_P D vwCl (wProd a G M) H) : va_P D vwCl (wRow (a 8) (a 9) 8 G (M 4)) H := jMidP (pre := (([(a 36, .inr (5, [.int (M 0 2), .ref (a 4), .ref (a 6), .ref (a 8), .ref (a 10), .ref (a 12)]))] : va_W) ++ ((wRow (a 4) (a 5) 8 G (M 2) : va_W) ++ (wRow (a 6) (a 7) 8 G (M 3) : va_W)))) (post := ((wRow (a 10) (a 11) 8 G (M 5) : va_W) ++ (wRow (a 12) (a 13) 8 G (M 6) : va_W))) h
theorem dX3_4 {A : Nat → Prop} {a : Nat → Nat} {G : Nat → ClassId} {M : Nat → Nat → Int32} (h : va_D A (wProd a G M)) : va_D A (wRow (a 8) (a 9) 8 G (M 4)) := jMidD (pre := (([(a 36, .inr (5, [.int (M 0 2), .ref (a 4), .ref (a 6), .ref (a 8), .ref (a 10), .ref (a 12)]))] : va_W) ++ ((wRow (a 4) (a 5) 8 G (M 2) : va_W) ++ (wRow (a 6) (a 7) 8 G (M 3) : va_W)))) (post := ((wRow (a 10) (a 11) 8 G (M 5) : va_W) ++ (wRow (a 12) (a 13) 8 G (M 6) : va_W))) h
theorem jX3_4 {D : va_G} {A : Nat → Prop} {a : Nat → Nat} {G : Nat → ClassId} {M : Nat → Nat → Int32} {z : Nat → Int32} {H H1 : Heap} (hP : va_P D vwCl (wProd a G M) H) (hD : va_D A (wProd a G M)) (hk : ∀ q : Nat, q < H.size → ¬ va_A (wRow (a 8) (a 9) 8 G (M 4)) H.size q → H1[q]? = H[q]?) (h1 : va_P D vwCl (wRow (a 8) (a 9) 8 G z) H1) : va_P D vwCl (wProd a G (u1 M 4 z)) H1 := jMidJoin (pre := (([(a 36, .inr (5, [.int (M 0 2), .ref (a 4), .ref (a 6), .ref (a 8), .ref (a 10), .ref (a 12)]))] : va_W) ++ ((wRow (a 4) (a 5) 8 G (M 2) : va_W) ++ (wRow (a 6) (a 7) 8 G (M 3) : va_W)))) (mid := (wRow (a 8) (a 9) 8 G (M 4))) (mid' := (wRow (a 8) (a 9) 8 G z)) (post := ((wRow (a 10) (a 11) 8 G (M 5) : va_W) ++ (wRow (a 12) (a 13) 8 G (M 6) : va_W))) hP hD hk h1
theorem sX3_5 {D : va_G} {a : Nat → Nat} {G : Nat → ClassId} {M : Nat → Nat → Int32} {H : Heap} (h : va_P D vwCl (wProd a G M) H) : va_P D vwCl (wRow (a 10) (a 11) 8 G (M 5)) H := jMidP (pre := (([(a 36, .inr (5, [.int (M 0 2), .ref (a 4), .ref (a 6), .ref (a 8), .ref (a 10), .ref (a 12)]))] : va_W) ++ ((wRow (a 4) (a 5) 8 G (M 2) : va_W) ++ ((wRow (a 6) (a 7) 8 G (M 3) : va_W) ++ (wRow (a 8) (a 9) 8 G (M 4) : va_W))))) (post := (wRow (a 12) (a 13) 8 G (M 6) : va_W)) h
theorem dX3_5 {A : Nat → Prop} {a : Nat → Nat} {G : Nat → ClassId} {M : Nat → Nat → Int32} (h : va_D A (wProd a G M)) : va_D A (wRow (a 10) (a 11) 8 G (M 5)) := jMidD (pre := (([(a 36, .inr (5, [.int (M 0 2), .ref (a 4), .ref (a 6), .ref (a 8), .ref (a 10), .ref (a 12)]))] : va_W) ++ ((wRow (a 4) (a 5) 8 G (M 2) : va_W) ++ ((wRow (a 6) (a 7) 8 G (M 3) : va_W) ++ (wRow (a 8) (a 9) 8 G (M 4) : va_W))))) (post := (wRow (a 12) (a 13) 8 G (M 6) : va_W)) h
theorem jX3_5 {D : va_G} {A : Nat → Prop} {a : Nat → Nat} {G : Nat → ClassId} {M : Nat → Nat → Int32} {z : Nat → Int32} {H H1 : Heap} (hP : va_P D vwCl (wProd a G M) H) (hD : va_D A (wProd a G M)) (hk : ∀ q : Nat, q < H.size → ¬ va_A (wRow (a 10) (a 11) 8 G (M 5)) H.size q → H1[q]? = H[q]?) (h1 : va_P D vwCl (wRow (a 10) (a 11) 8 G z) H1) : va_P D vwCl (wProd a G (u1 M 5 z)) H1 := jMidJoin (pre := (([(a 36, .inr (5, [.int (M 0 2), .ref (a 4), .ref (a 6), .ref (a 8), .ref (a 10), .ref (a 12)]))] : va_W) ++ ((wRow (a 4) (a 5) 8 G (M 2) : va_W) ++ ((wRow (a 6) (a 7) 8 G (M 3) : va_W) ++ (wRow (a 8) (a 9) 8 G (M 4) : va_W))))) (mid := (wRow (a 10) (a 11) 8 G (M 5))) (mid' := (wRow (a 10) (a 11) 8 G z)) (post := (wRow (a 12) (a 13) 8 G (M 6) : va_W)) hP hD hk h1
theorem sX3_6 {D : va_G} {a : Nat → Nat} {G : Nat → ClassId} {M : Nat → Nat → Int32} {H : Heap} (h : va_P D vwCl (wProd a G M) H) : va_P D vwCl (wRow (a 12) (a 13) 8 G (M 6)) H := jMidP (pre := (([(a 36, .inr (5, [.int (M 0 2), .ref (a 4), .ref (a 6), .ref (a 8), .ref (a 10), .ref (a 12)]))] : va_W) ++ ((wRow (a 4) (a 5) 8 G (M 2) : va_W) ++ ((wRow (a 6) (a 7) 8 G (M 3) : va_W) ++ ((wRow (a 8) (a 9) 8 G (M 4) : va_W) ++ (wRow (a 10) (a 11) 8 G (M 5) : va_W)))))) (post := ([] : va_W)) h
theorem dX3_6 {A : Nat → Prop} {a : Nat → Nat} {G : Nat → ClassId} {M : Nat → Nat → Int32} (h : va_D A (wProd a G M)) : va_D A (wRow (a 12) (a 13) 8 G (M 6)) := jMidD (pre := (([(a 36, .inr (5, [.int (M 0 2), .ref (a 4), .ref (a 6), .ref (a 8), .ref (a 10), .ref (a 12)]))] : va_W) ++ ((wRow (a 4) (a 5) 8 G (M 2) : va_W) ++ ((wRow (a 6) (a 7) 8 G (M 3) : va_W) ++ ((wRow (a 8) (a 9) 8 G (M 4) : va_W) ++ (wRow (a 10) (a 11) 8 G (M 5) : va_W)))))) (post := ([] : va_W)) h
theorem jX3_6 {D : va_G} {A : Nat → Prop} {a : Nat → Nat} {G : Nat → ClassId} {M : Nat → Nat → Int32} {z : Nat → Int32} {H H1 : Heap} (hP : va_P D vwCl (wProd a G M) H) (hD : va_D A (wProd a G M)) (hk : ∀ q : Nat, q < H.size → ¬ va_A (wRow (a 12) (a 13) 8 G (M 6)) H.size q → H1[q]? = H[q]?) (h1 : va_P D vwCl (wRow (a 12) (a 13) 8 G z) H1) : va_P D vwCl (wProd a G (u1 M 6 z)) H1 := jMidJoin (pre := (([(a 36, .inr (5, [.int (M 0 2), .ref (a 4), .ref (a 6), .ref (a 8), .ref (a 10), .ref (a 12)]))] : va_W) ++ ((wRow (a 4) (a 5) 8 G (M 2) : va_W) ++ ((wRow (a 6) (a 7) 8 G (M 3) : va_W) ++ ((wRow (a 8) (a 9) 8 G (M 4) : va_W) ++ (wRow (a 10) (a 11) 8 G (M 5) : va_W)))))) (mid := (wRow (a 12) (a 13) 8 G (M 6))) (mid' := (wRow (a 12) (a 13) 8 G z)) (post := ([] : va_W)) hP hD hk h1
theorem sX2_7 {D : va_G} {a : Nat → Nat} {G : Nat → ClassId} {M : Nat → Nat → Int32} {H : Heap} (h : va_P D vwCl (wPerf a G M) H) : va_P D vwCl (wRow (a 14) (a 15) 24 G (M 7)) H := jMidP (pre := ([(a 37, .inr (4, [.int (M 0 3), .ref (a 14), .ref (a 16), .ref (a 18), .ref (a 20), .ref (a 22), .ref (a 24)]))] : va_W)) (post := ((wRow (a 16) (a 17) 24 G (M 8) : va_W) ++ ((wRow (a 18) (a 19) 24 G (M 9) : va_W) ++ ((wRow (a 20) (a 21) 24 G (M 10) : va_W) ++ ((wRow (a 22) (a 23) 24 G (M 11) : va_W) ++ (wRow (a 24) (a 25) 24 G (M 12) : va_W)))))) h
theorem dX2_7 {A : Nat → Prop} {a : Nat → Nat} {G : Nat → ClassId} {M : Nat → Nat → Int32} (h : va_D A (wPerf a G M)) : va_D A (wRow (a 14) (a 15) 24 G (M 7)) := jMidD (pre := ([(a 37, .inr (4, [.int (M 0 3), .ref (a 14), .ref (a 16), .ref (a 18), .ref (a 20), .ref (a 22), .ref (a 24)]))] : va_W)) (post := ((wRow (a 16) (a 17) 24 G (M 8) : va_W) ++ ((wRow (a 18) (a 19) 24 G (M 9) : va_W) ++ ((wRow (a 20) (a 21) 24 G (M 10) : va_W) ++ ((wRow (a 22) (a 23) 24 G (M 11) : va_W) ++ (wRow (a 24) (a 25) 24 G (M 12) : va_W)))))) h
theorem jX2_7 {D : va_G} {A : Nat → Prop} {a : Nat → Nat} {G : Nat → ClassId} {M : Nat → Nat → Int32} {z : Nat → Int32} {H H1 : Heap} (hP : va_P D vwCl (wPerf a G M) H) (hD : va_D A (wPerf a G M)) (hk : ∀ q : Nat, q < H.size → ¬ va_A (wRow (a 14) (a 15) 24 G (M 7)) H.size q → H1[q]? = H[q]?) (h1 : va_P D vwCl (wRow (a 14) (a 15) 24 G z) H1) : va_P D vwCl (wPerf a G (u1 M 7 z)) H1 := jMidJoin (pre := ([(a 37, .inr (4, [.int (M 0 3), .ref (a 14), .ref (a 16), .ref (a 18), .ref (a 20), .ref (a 22), .ref (a 24)]))] : va_W)) (mid := (wRow (a 14) (a 15) 24 G (M 7))) (mid' := (wRow (a 14) (a 15) 24 G z)) (post := ((wRow (a 16) (a 17) 24 G (M 8) : va_W) ++ ((wRow (a 18) (a 19) 24 G (M 9) : va_W) ++ ((wRow (a 20) (a 21) 24 G (M 10) : va_W) ++ ((wRow (a 22) (a 23) 24 G (M 11) : va_W) ++ (wRow (a 24) (a 25) 24 G (M 12) : va_W)))))) hP hD hk h1
theorem sX2_8 {D : va_G} {a : Nat → Nat} {G : Nat → ClassId} {M : Nat → Nat → Int32} {H : Heap} (h : va_P D vwCl (wPerf a G M) H) : va_P D vwCl (wRow (a 16) (a 17) 24 G (M 8)) H := jMidP (pre := (([(a 37, .inr (4, [.int (M 0 3), .ref (a 14), .ref (a 16), .ref (a 18), .ref (a 20), .ref (a 22), .ref (a 24)]))] : va_W) ++ (wRow (a 14) (a 15) 24 G (M 7) : va_W))) (post := ((wRow (a 18) (a 19) 24 G (M 9) : va_W) ++ ((wRow (a 20) (a 21) 24 G (M 10) : va_W) ++ ((wRow (a 22) (a 23) 24 G (M 11) : va_W) ++ (wRow (a 24) (a 25) 24 G (M 12) : va_W))))) h
theorem dX2_8 {A : Nat → Prop} {a : Nat → Nat} {G : Nat → ClassId} {M : Nat → Nat → Int32} (h : va_D A (wPerf a G M)) : va_D A (wRow (a 16) (a 17) 24 G (M 8)) := jMidD (pre := (([(a 37, .inr (4, [.int (M 0 3), .ref (a 14), .ref (a 16), .ref (a 18), .ref (a 20), .ref (a 22), .ref (a 24)]))] : va_W) ++ (wRow (a 14) (a 15) 24 G (M 7) : va_W))) (post := ((wRow (a 18) (a 19) 24 G (M 9) : va_W) ++ ((wRow (a 20) (a 21) 24 G (M 10) : va_W) ++ ((wRow (a 22) (a 23) 24 G (M 11) : va_W) ++ (wRow (a 24) (a 25) 24 G (M 12) : va_W))))) h
theorem jX2_8 {D : va_G} {A : Nat → Prop} {a : Nat → Nat} {G : Nat → ClassId} {M : Nat → Nat → Int32} {z : Nat → Int32} {H H1 : Heap} (hP : va_P D vwCl (wPerf a G M) H) (hD : va_D A (wPerf a G M)) (hk : ∀ q : Nat, q < H.size → ¬ va_A (wRow (a 16) (a 17) 24 G (M 8)) H.size q → H1[q]? = H[q]?) (h1 : va_P D vwCl (wRow (a 16) (a 17) 24 G z) H1) : va_P D vwCl (wPerf a G (u1 M 8 z)) H1 := jMidJoin (pre := (([(a 37, .inr (4, [.int (M 0 3), .ref (a 14), .ref (a 16), .ref (a 18), .ref (a 20), .ref (a 22), .ref (a 24)]))] : va_W) ++ (wRow (a 14) (a 15) 24 G (M 7) : va_W))) (mid := (wRow (a 16) (a 17) 24 G (M 8))) (mid' := (wRow (a 16) (a 17) 24 G z)) (post := ((wRow (a 18) (a 19) 24 G (M 9) : va_W) ++ ((wRow (a 20) (a 21) 24 G (M 10) : va_W) ++ ((wRow (a 22) (a 23) 24 G (M 11) : va_W) ++ (wRow (a 24) (a 25) 24 G (M 12) : va_W))))) hP hD hk h1
theorem sX2_9 {D : va_G} {a : Nat → Nat} {G : Nat → ClassId} {M : Nat → Nat → Int32} {H : Heap} (h : va_P D vwCl (wPerf a G M) H) : va_P D vwCl (wRow (a 18) (a 19) 24 G (M 9)) H := jMidP (pre := (([(a 37, .inr (4, [.int (M 0 3), .ref (a 14), .ref (a 16), .ref (a 18), .ref (a 20), .ref (a 22), .ref (a 24)]))] : va_W) ++ ((wRow (a 14) (a 15) 24 G (M 7) : va_W) ++ (wRow (a 16) (a 17) 24 G (M 8) : va_W)))) (post := ((wRow (a 20) (a 21) 24 G (M 10) : va_W) ++ ((wRow (a 22) (a 23) 24 G (M 11) : va_W) ++ (wRow (a 24) (a 25) 24 G (M 12) : va_W)))) h
theorem dX2_9 {A : Nat → Prop} {a : Nat → Nat} {G : Nat → ClassId} {M : Nat → Nat → Int32} (h : va_D A (wPerf a G M)) : va_D A (wRow (a 18) (a 19) 24 G (M 9)) := jMidD (pre := (([(a 37, .inr (4, [.int (M 0 3), .ref (a 14), .ref (a 16), .ref (a 18), .ref (a 20), .ref (a 22), .ref (a 24)]))] : va_W) ++ ((wRow (a 14) (a 15) 24 G (M 7) : va_W) ++ (wRow (a 16) (a 17) 24 G (M 8) : va_W)))) (post := ((wRow (a 20) (a 21) 24 G (M 10) : va_W) ++ ((wRow (a 22) (a 23) 24 G (M 11) : va_W) ++ (wRow (a 24) (a 25) 24 G (M 12) : va_W)))) h
theorem jX2_9 {D : va_G} {A : Nat → Prop} {a : Nat → Nat} {G : Nat → ClassId} {M : Nat → Nat → Int32} {z : Nat → Int32} {H H1 : Heap} (hP : va_P D vwCl (wPerf a G M) H) (hD : va_D A (wPerf a G M)) (hk : ∀ q : Nat, q < H.size → ¬ va_A (wRow (a 18) (a 19) 24 G (M 9)) H.size q → H1[q]? = H[q]?) (h1 : va_P D vwCl (wRow (a 18) (a 19) 24 G z) H1) : va_P D vwCl (wPerf a G (u1 M 9 z)) H1 := jMidJoin (pre := (([(a 37, .inr (4, [.int (M 0 3), .ref (a 14), .ref (a 16), .ref (a 18), .ref (a 20), .ref (a 22), .ref (a 24)]))] : va_W) ++ ((wRow (a 14) (a 15) 24 G (M 7) : va_W) ++ (wRow (a 16) (a 17) 24 G (M 8) : va_W)))) (mid := (wRow (a 18) (a 19) 24 G (M 9))) (mid' := (wRow (a 18) (a 19) 24 G z)) (post := ((wRow (a 20) (a 21) 24 G (M 10) : va_W) ++ ((wRow (a 22) (a 23) 24 G (M 11) : va_W) ++ (wRow (a 24) (a 25) 24 G (M 12) : va_W)))) hP hD hk h1
theorem sX2_10 {D : va_G} {a : Nat → Nat} {G : Nat → ClassId} {M : Nat → Nat → Int32} {H : Heap} (h : va_P D vwCl (wPerf a G M) H) : va_P D vwCl (wRow (a 20) (a 21) 24 G (M 10)) H := jMidP (pre := (([(a 37, .inr (4, [.int (M 0 3), .ref (a 14), .ref (a 16), .ref (a 18), .ref (a 20), .ref (a 22), .ref (a 24)]))] : va_W) ++ ((wRow (a 14) (a 15) 24 G (M 7) : va_W) ++ ((wRow (a 16) (a 17) 24 G (M 8) : va_W) ++ (wRow (a 18) (a 19) 24 G (M 9) : va_W))))) (post := ((wRow (a 22) (a 23) 24 G (M 11) : va_W) ++ (wRow (a 24) (a 25) 24 G (M 12) : va_W))) h
theorem dX2_10 {A : Nat → Prop} {a : Nat → Nat} {G : Nat → ClassId} {M : Nat → Nat → Int32} (h : va_D A (wPerf a G M)) : va_D A (wRow (a 20) (a 21) 24 G (M 10)) := jMidD (pre := (([(a 37, .inr (4, [.int (M 0 3), .ref (a 14), .ref (a 16), .ref (a 18), .ref (a 20), .ref (a 22), .ref (a 24)]))] : va_W) ++ ((wRow (a 14) (a 15) 24 G (M 7) : va_W) ++ ((wRow (a 16) (a 17) 24 G (M 8) : va_W) ++ (wRow (a 18) (a 19) 24 G (M 9) : va_W))))) (post := ((wRow (a 22) (a 23) 24 G (M 11) : va_W) ++ (wRow (a 24) (a 25) 24 G (M 12) : va_W))) h
theorem jX2_10 {D : va_G} {A : Nat → Prop} {a : Nat → Nat} {G : Nat → ClassId} {M : Nat → Nat → Int32} {z : Nat → Int32} {H H1 : Heap} (hP : va_P D vwCl (wPerf a G M) H) (hD : va_D A (wPerf a G M)) (hk : ∀ q : Nat, q < H.size → ¬ va_A (wRow (a 20) (a 21) 24 G (M 10)) H.size q → H1[q]? = H[q]?) (h1 : va_P D vwCl (wRow (a 20) (a 21) 24 G z) H1) : va_P D vwCl (wPerf a G (u1 M 10 z)) H1 := jMidJoin (pre := (([(a 37, .inr (4, [.int (M 0 3), .ref (a 14), .ref (a 16), .ref (a 18), .ref (a 20), .ref (a 22), .ref (a 24)]))] : va_W) ++ ((wRow (a 14) (a 15) 24 G (M 7) : va_W) ++ ((wRow (a 16) (a 17) 24 G (M 8) : va_W) ++ (wRow (a 18) (a 19) 24 G (M 9) : va_W))))) (mid := (wRow (a 20) (a 21) 24 G (M 10))) (mid' := (wRow (a 20) (a 21) 24 G z)) (post := ((wRow (a 22) (a 23) 24 G (M 11) : va_W) ++ (wRow (a 24) (a 25) 24 G (M 12) : va_W))) hP hD hk h1
theorem sX2_11 {D : va_G} {a : Nat → Nat} {G : Nat → ClassId} {M : Nat → Nat → Int32} {H : Heap} (h : va_P D vwCl (wPerf a G M) H) : va_P D vwCl (wRow (a 22) (a 23) 24 G (M 11)) H := jMidP (pre := (([(a 37, .inr (4, [.int (M 0 3), .ref (a 14), .ref (a 16), .ref (a 18), .ref (a 20), .ref (a 22), .ref (a 24)]))] : va_W) ++ ((wRow (a 14) (a 15) 24 G (M 7) : va_W) ++ ((wRow (a 16) (a 17) 24 G (M 8) : va_W) ++ ((wRow (a 18) (a 19) 24 G (M 9) : va_W) ++ (wRow (a 20) (a 21) 24 G (M 10) : va_W)))))) (post := (wRow (a 24) (a 25) 24 G (M 12) : va_W)) h
theorem dX2_11 {A : Nat → Prop} {a : Nat → Nat} {G : Nat → ClassId} {M : Nat → Nat → Int32} (h : va_D A (wPerf a G M)) : va_D A (wRow (a 22) (a 23) 24 G (M 11)) := jMidD (pre := (([(a 37, .inr (4, [.int (M 0 3), .ref (a 14), .ref (a 16), .ref (a 18), .ref (a 20), .ref (a 22), .ref (a 24)]))] : va_W) ++ ((wRow (a 14) (a 15) 24 G (M 7) : va_W) ++ ((wRow (a 16) (a 17) 24 G (M 8) : va_W) ++ ((wRow (a 18) (a 19) 24 G (M 9) : va_W) ++ (wRow (a 20) (a 21) 24 G (M 10) : va_W)))))) (post := (wRow (a 24) (a 25) 24 G (M 12) : va_W)) h
theorem jX2_11 {D : va_G} {A : Nat → Prop} {a : Nat → Nat} {G : Nat → ClassId} {M : Nat → Nat → Int32} {z : Nat → Int32} {H H1 : Heap} (hP : va_P D vwCl (wPerf a G M) H) (hD : va_D A (wPerf a G M)) (hk : ∀ q : Nat, q < H.size → ¬ va_A (wRow (a 22) (a 23) 24 G (M 11)) H.size q → H1[q]? = H[q]?) (h1 : va_P D vwCl (wRow (a 22) (a 23) 24 G z) H1) : va_P D vwCl (wPerf a G (u1 M 11 z)) H1 := jMidJoin (pre := (([(a 37, .inr (4, [.int (M 0 3), .ref (a 14), .ref (a 16), .ref (a 18), .ref (a 20), .ref (a 22), .ref (a 24)]))] : va_W) ++ ((wRow (a 14) (a 15) 24 G (M 7) : va_W) ++ ((wRow (a 16) (a 17) 24 G (M 8) : va_W) ++ ((wRow (a 18) (a 19) 24 G (M 9) : va_W) ++ (wRow (a 20) (a 21) 24 G (M 10) : va_W)))))) (mid := (wRow (a 22) (a 23) 24 G (M 11))) (mid' := (wRow (a 22) (a 23) 24 G z)) (post := (wRow (a 24) (a 25) 24 G (M 12) : va_W)) hP hD hk h1
theorem sX2_12 {D : va_G} {a : Nat → Nat} {G : Nat → ClassId} {M : Nat → Nat → Int32} {H : Heap} (h : va_P D vwCl (wPerf a G M) H) : va_P D vwCl (wRow (a 24) (a 25) 24 G (M 12)) H := jMidP (pre := (([(a 37, .inr (4, [.int (M 0 3), .ref (a 14), .ref (a 16), .ref (a 18), .ref (a 20), .ref (a 22), .ref (a 24)]))] : va_W) ++ ((wRow (a 14) (a 15) 24 G (M 7) : va_W) ++ ((wRow (a 16) (a 17) 24 G (M 8) : va_W) ++ ((wRow (a 18) (a 19) 24 G (M 9) : va_W) ++ ((wRow (a 20) (a 21) 24 G (M 10) : va_W) ++ (wRow (a 22) (a 23) 24 G (M 11) : va_W))))))) (post := ([] : va_W)) h
theorem dX2_12 {A : Nat → Prop} {a : Nat → Nat} {G : Nat → ClassId} {M : Nat → Nat → Int32} (h : va_D A (wPerf a G M)) : va_D A (wRow (a 24) (a 25) 24 G (M 12)) := jMidD (pre := (([(a 37, .inr (4, [.int (M 0 3), .ref (a 14), .ref (a 16), .ref (a 18), .ref (a 20), .ref (a 22), .ref (a 24)]))] : va_W) ++ ((wRow (a 14) (a 15) 24 G (M 7) : va_W) ++ ((wRow (a 16) (a 17) 24 G (M 8) : va_W) ++ ((wRow (a 18) (a 19) 24 G (M 9) : va_W) ++ ((wRow (a 20) (a 21) 24 G (M 10) : va_W) ++ (wRow (a 22) (a 23) 24 G (M 11) : va_W))))))) (post := ([] : va_W)) h
theorem jX2_12 {D : va_G} {A : Nat → Prop} {a : Nat → Nat} {G : Nat → ClassId} {M : Nat → Nat → Int32} {z : Nat → Int32} {H H1 : Heap} (hP : va_P D vwCl (wPerf a G M) H) (hD : va_D A (wPerf a G M)) (hk : ∀ q : Nat, q < H.size → ¬ va_A (wRow (a 24) (a 25) 24 G (M 12)) H.size q → H1[q]? = H[q]?) (h1 : va_P D vwCl (wRow (a 24) (a 25) 24 G z) H1) : va_P D vwCl (wPerf a G (u1 M 12 z)) H1 := jMidJoin (pre := (([(a 37, .inr (4, [.int (M 0 3), .ref (a 14), .ref (a 16), .ref (a 18), .ref (a 20), .ref (a 22), .ref (a 24)]))] : va_W) ++ ((wRow (a 14) (a 15) 24 G (M 7) : va_W) ++ ((wRow (a 16) (a 17) 24 G (M 8) : va_W) ++ ((wRow (a 18) (a 19) 24 G (M 9) : va_W) ++ ((wRow (a 20) (a 21) 24 G (M 10) : va_W) ++ (wRow (a 22) (a 23) 24 G (M 11) : va_W))))))) (mid := (wRow (a 24) (a 25) 24 G (M 12))) (mid' := (wRow (a 24) (a 25) 24 G z)) (post := ([] : va_W)) hP hD hk h1
theorem sX7_13 {D : va_G} {a : Nat → Nat} {G : Nat → ClassId} {M : Nat → Nat → Int32} {H : Heap} (h : va_P D vwCl (wSubs a G M) H) : va_P D vwCl (wRow (a 26) (a 27) 10 G (M 13)) H := jMidP (pre := ([(a 38, .inr (9, [.int (M 0 4), .ref (a 26), .ref (a 28)]))] : va_W)) (post := (wRow (a 28) (a 29) 10 G (M 14) : va_W)) h
theorem dX7_13 {A : Nat → Prop} {a : Nat → Nat} {G : Nat → ClassId} {M : Nat → Nat → Int32} (h : va_D A (wSubs a G M)) : va_D A (wRow (a 26) (a 27) 10 G (M 13)) := jMidD (pre := ([(a 38, .inr (9, [.int (M 0 4), .ref (a 26), .ref (a 28)]))] : va_W)) (post := (wRow (a 28) (a 29) 10 G (M 14) : va_W)) h
theorem jX7_13 {D : va_G} {A : Nat → Prop} {a : Nat → Nat} {G : Nat → ClassId} {M : Nat → Nat → Int32} {z : Nat → Int32} {H H1 : Heap} (hP : va_P D vwCl (wSubs a G M) H) (hD : va_D A (wSubs a G M)) (hk : ∀ q : Nat, q < H.size → ¬ va_A (wRow (a 26) (a 27) 10 G (M 13)) H.size q → H1[q]? = H[q]?) (h1 : va_P D vwCl (wRow (a 26) (a 27) 10 G z) H1) : va_P D vwCl (wSubs a G (u1 M 13 z)) H1 := jMidJoin (pre := ([(a 38, .inr (9, [.int (M 0 4), .ref (a 26), .ref (a 28)]))] : va_W)) (mid := (wRow (a 26) (a 27) 10 G (M 13))) (mid' := (wRow (a 26) (a 27) 10 G z)) (post := (wRow (a 28) (a 29) 10 G (M 14) : va_W)) hP hD hk h1
theorem sX7_14 {D : va_G} {a : Nat → Nat} {G : Nat → ClassId} {M : Nat → Nat → Int32} {H : Heap} (h : va_P D vwCl (wSubs a G M) H) : va_P D vwCl (wRow (a 28) (a 29) 10 G (M 14)) H := jMidP (pre := (([(a 38, .inr (9, [.int (M 0 4), .ref (a 26), .ref (a 28)]))] : va_W) ++ (wRow (a 26) (a 27) 10 G (M 13) : va_W))) (post := ([] : va_W)) h
theorem dX7_14 {A : Nat → Prop} {a : Nat → Nat} {G : Nat → ClassId} {M : Nat → Nat → Int32} (h : va_D A (wSubs a G M)) : va_D A (wRow (a 28) (a 29) 10 G (M 14)) := jMidD (pre := (([(a 38, .inr (9, [.int (M 0 4), .ref (a 26), .ref (a 28)]))] : va_W) ++ (wRow (a 26) (a 27) 10 G (M 13) : va_W))) (post := ([] : va_W)) h
theorem jX7_14 {D : va_G} {A : Nat → Prop} {a : Nat → Nat} {G : Nat → ClassId} {M : Nat → Nat → Int32} {z : Nat → Int32} {H H1 : Heap} (hP : va_P D vwCl (wSubs a G M) H) (hD : va_D A (wSubs a G M)) (hk : ∀ q : Nat, q < H.size → ¬ va_A (wRow (a 28) (a 29) 10 G (M 14)) H.size q → H1[q]? = H[q]?) (h1 : va_P D vwCl (wRow (a 28) (a 29) 10 G z) H1) : va_P D vwCl (wSubs a G (u1 M 14 z)) H1 := jMidJoin (pre := (([(a 38, .inr (9, [.int (M 0 4), .ref (a 26), .ref (a 28)]))] : va_W) ++ (wRow (a 26) (a 27) 10 G (M 13) : va_W))) (mid := (wRow (a 28) (a 29) 10 G (M 14))) (mid' := (wRow (a 28) (a 29) 10 G z)) (post := ([] : va_W)) hP hD hk h1
theorem sX4_15 {D : va_G} {a : Nat → Nat} {G : Nat → ClassId} {M : Nat → Nat → Int32} {H : Heap} (h : va_P D vwCl (wReqs a G M) H) : va_P D vwCl (wRow (a 30) (a 31) 20 G (M 15)) H := jMidP (pre := ([(a 39, .inr (6, [.int (M 0 5), .ref (a 30), .ref (a 32), .ref (a 34)]))] : va_W)) (post := ((wRow (a 32) (a 33) 20 G (M 16) : va_W) ++ (wRow (a 34) (a 35) 20 G (M 17) : va_W))) h
theorem dX4_15 {A : Nat → Prop} {a : Nat → Nat} {G : Nat → ClassId} {M : Nat → Nat → Int32} (h : va_D A (wReqs a G M)) : va_D A (wRow (a 30) (a 31) 20 G (M 15)) := jMidD (pre := ([(a 39, .inr (6, [.int (M 0 5), .ref (a 30), .ref (a 32), .ref (a 34)]))] : va_W)) (post := ((wRow (a 32) (a 33) 20 G (M 16) : va_W) ++ (wRow (a 34) (a 35) 20 G (M 17) : va_W))) h
theorem jX4_15 {D : va_G} {A : Nat → Prop} {a : Nat → Nat} {G : Nat → ClassId} {M : Nat → Nat → Int32} {z : Nat → Int32} {H H1 : Heap} (hP : va_P D vwCl (wReqs a G M) H) (hD : va_D A (wReqs a G M)) (hk : ∀ q : Nat, q < H.size → ¬ va_A (wRow (a 30) (a 31) 20 G (M 15)) H.size q → H1[q]? = H[q]?) (h1 : va_P D vwCl (wRow (a 30) (a 31) 20 G z) H1) : va_P D vwCl (wReqs a G (u1 M 15 z)) H1 := jMidJoin (pre := ([(a 39, .inr (6, [.int (M 0 5), .ref (a 30), .ref (a 32), .ref (a 34)]))] : va_W)) (mid := (wRow (a 30) (a 31) 20 G (M 15))) (mid' := (wRow (a 30) (a 31) 20 G z)) (post := ((wRow (a 32) (a 33) 20 G (M 16) : va_W) ++ (wRow (a 34) (a 35) 20 G (M 17) : va_W))) hP hD hk h1
theorem sX4_16 {D : va_G} {a : Nat → Nat} {G : Nat → ClassId} {M : Nat → Nat → Int32} {H : Heap} (h : va_P D vwCl (wReqs a G M) H) : va_P D vwCl (wRow (a 32) (a 33) 20 G (M 16)) H := jMidP (pre := (([(a 39, .inr (6, [.int (M 0 5), .ref (a 30), .ref (a 32), .ref (a 34)]))] : va_W) ++ (wRow (a 30) (a 31) 20 G (M 15) : va_W))) (post := (wRow (a 34) (a 35) 20 G (M 17) : va_W)) h
theorem dX4_16 {A : Nat → Prop} {a : Nat → Nat} {G : Nat → ClassId} {M : Nat → Nat → Int32} (h : va_D A (wReqs a G M)) : va_D A (wRow (a 32) (a 33) 20 G (M 16)) := jMidD (pre := (([(a 39, .inr (6, [.int (M 0 5), .ref (a 30), .ref (a 32), .ref (a 34)]))] : va_W) ++ (wRow (a 30) (a 31) 20 G (M 15) : va_W))) (post := (wRow (a 34) (a 35) 20 G (M 17) : va_W)) h
theorem jX4_16 {D : va_G} {A : Nat → Prop} {a : Nat → Nat} {G : Nat → ClassId} {M : Nat → Nat → Int32} {z : Nat → Int32} {H H1 : Heap} (hP : va_P D vwCl (wReqs a G M) H) (hD : va_D A (wReqs a G M)) (hk : ∀ q : Nat, q < H.size → ¬ va_A (wRow (a 32) (a 33) 20 G (M 16)) H.size q → H1[q]? = H[q]?) (h1 : va_P D vwCl (wRow (a 32) (a 33) 20 G z) H1) : va_P D vwCl (wReqs a G (u1 M 16 z)) H1 := jMidJoin (pre := (([(a 39, .inr (6, [.int (M 0 5), .ref (a 30), .ref (a 32), .ref (a 34)]))] : va_W) ++ (wRow (a 30) (a 31) 20 G (M 15) : va_W))) (mid := (wRow (a 32) (a 33) 20 G (M 16))) (mid' := (wRow (a 32) (a 33) 20 G z)) (post := (wRow (a 34) (a 35) 20 G (M 17) : va_W)) hP hD hk h1
theorem sX4_17 {D : va_G} {a : Nat → Nat} {G : Nat → ClassId} {M : Nat → Nat → Int32} {H : Heap} (h : va_P D vwCl (wReqs a G M) H) : va_P D vwCl (wRow (a 34) (a 35) 20 G (M 17)) H := jMidP (pre := (([(a 39, .inr (6, [.int (M 0 5), .ref (a 30), .ref (a 32), .ref (a 34)]))] : va_W) ++ ((wRow (a 30) (a 31) 20 G (M 15) : va_W) ++ (wRow (a 32) (a 33) 20 G (M 16) : va_W)))) (post := ([] : va_W)) h
theorem dX4_17 {A : Nat → Prop} {a : Nat → Nat} {G : Nat → ClassId} {M : Nat → Nat → Int32} (h : va_D A (wReqs a G M)) : va_D A (wRow (a 34) (a 35) 20 G (M 17)) := jMidD (pre := (([(a 39, .inr (6, [.int (M 0 5), .ref (a 30), .ref (a 32), .ref (a 34)]))] : va_W) ++ ((wRow (a 30) (a 31) 20 G (M 15) : va_W) ++ (wRow (a 32) (a 33) 20 G (M 16) : va_W)))) (post := ([] : va_W)) h
theorem jX4_17 {D : va_G} {A : Nat → Prop} {a : Nat → Nat} {G : Nat → ClassId} {M : Nat → Nat → Int32} {z : Nat → Int32} {H H1 : Heap} (hP : va_P D vwCl (wReqs a G M) H) (hD : va_D A (wReqs a G M)) (hk : ∀ q : Nat, q < H.size → ¬ va_A (wRow (a 34) (a 35) 20 G (M 17)) H.size q → H1[q]? = H[q]?) (h1 : va_P D vwCl (wRow (a 34) (a 35) 20 G z) H1) : va_P D vwCl (wReqs a G (u1 M 17 z)) H1 := jMidJoin (pre := (([(a 39, .inr (6, [.int (M 0 5), .ref (a 30), .ref (a 32), .ref (a 34)]))] : va_W) ++ ((wRow (a 30) (a 31) 20 G (M 15) : va_W) ++ (wRow (a 32) (a 33) 20 G (M 16) : va_W)))) (mid := (wRow (a 34) (a 35) 20 G (M 17))) (mid' := (wRow (a 34) (a 35) 20 G z)) (post := ([] : va_W)) hP hD hk h1
theorem sX6_1 {D : va_G} {a : Nat → Nat} {G : Nat → ClassId} {M : Nat → Nat → Int32} {H : Heap} (h : va_P D vwCl (wSeas a G M) H) : va_P D vwCl (wRow (a 2) (a 3) 3 G (M 1)) H := jMidP (pre := ([(a 0, .inr (8, [.ref (a 2), .int (M 0 0), .int (M 0 1), .ref (a 36), .ref (a 37), .ref (a 38), .ref (a 39)]))] : va_W)) (post := ((wProd a G M : va_W) ++ ((wPerf a G M : va_W) ++ ((wSubs a G M : va_W) ++ (wReqs a G M : va_W))))) h
theorem dX6_1 {A : Nat → Prop} {a : Nat → Nat} {G : Nat → ClassId} {M : Nat → Nat → Int32} (h : va_D A (wSeas a G M)) : va_D A (wRow (a 2) (a 3) 3 G (M 1)) := jMidD (pre := ([(a 0, .inr (8, [.ref (a 2), .int (M 0 0), .int (M 0 1), .ref (a 36), .ref (a 37), .ref (a 38), .ref (a 39)]))] : va_W)) (post := ((wProd a G M : va_W) ++ ((wPerf a G M : va_W) ++ ((wSubs a G M : va_W) ++ (wReqs a G M : va_W))))) h
theorem jX6_1 {D : va_G} {A : Nat → Prop} {a : Nat → Nat} {G : Nat → ClassId} {M : Nat → Nat → Int32} {z : Nat → Int32} {H H1 : Heap} (hP : va_P D vwCl (wSeas a G M) H) (hD : va_D A (wSeas a G M)) (hk : ∀ q : Nat, q < H.size → ¬ va_A (wRow (a 2) (a 3) 3 G (M 1)) H.size q → H1[q]? = H[q]?) (h1 : va_P D vwCl (wRow (a 2) (a 3) 3 G z) H1) : va_P D vwCl (wSeas a G (u1 M 1 z)) H1 := jMidJoin (pre := ([(a 0, .inr (8, [.ref (a 2), .int (M 0 0), .int (M 0 1), .ref (a 36), .ref (a 37), .ref (a 38), .ref (a 39)]))] : va_W)) (mid := (wRow (a 2) (a 3) 3 G (M 1))) (mid' := (wRow (a 2) (a 3) 3 G z)) (post := ((wProd a G M : va_W) ++ ((wPerf a G M : va_W) ++ ((wSubs a G M : va_W) ++ (wReqs a G M : va_W))))) hP hD hk h1
theorem sX6_X3 {D : va_G} {a : Nat → Nat} {G : Nat → ClassId} {M : Nat → Nat → Int32} {H : Heap} (h : va_P D vwCl (wSeas a G M) H) : va_P D vwCl (wProd a G M) H := jMidP (pre := (([(a 0, .inr (8, [.ref (a 2), .int (M 0 0), .int (M 0 1), .ref (a 36), .ref (a 37), .ref (a 38), .ref (a 39)]))] : va_W) ++ (wRow (a 2) (a 3) 3 G (M 1) : va_W))) (post := ((wPerf a G M : va_W) ++ ((wSubs a G M : va_W) ++ (wReqs a G M : va_W)))) h
theorem dX6_X3 {A : Nat → Prop} {a : Nat → Nat} {G : Nat → ClassId} {M : Nat → Nat → Int32} (h : va_D A (wSeas a G M)) : va_D A (wProd a G M) := jMidD (pre := (([(a 0, .inr (8, [.ref (a 2), .int (M 0 0), .int (M 0 1), .ref (a 36), .ref (a 37), .ref (a 38), .ref (a 39)]))] : va_W) ++ (wRow (a 2) (a 3) 3 G (M 1) : va_W))) (post := ((wPerf a G M : va_W) ++ ((wSubs a G M : va_W) ++ (wReqs a G M : va_W)))) h
theorem jX6_X3 {D : va_G} {A : Nat → Prop} {a : Nat → Nat} {G : Nat → ClassId} {M : Nat → Nat → Int32} {z : Nat → Nat → Int32} {H H1 : Heap} (hP : va_P D vwCl (wSeas a G M) H) (hD : va_D A (wSeas a G M)) (hk : ∀ q : Nat, q < H.size → ¬ va_A (wProd a G M) H.size q → H1[q]? = H[q]?) (h1 : va_P D vwCl (wProd a G z) H1) : va_P D vwCl (wSeas a G (mgX3 M z)) H1 := jMidJoin (pre := (([(a 0, .inr (8, [.ref (a 2), .int (M 0 0), .int (M 0 1), .ref (a 36), .ref (a 37), .ref (a 38), .ref (a 39)]))] : va_W) ++ (wRow (a 2) (a 3) 3 G (M 1) : va_W))) (mid := (wProd a G M)) (mid' := (wProd a G z)) (post := ((wPerf a G M : va_W) ++ ((wSubs a G M : va_W) ++ (wReqs a G M : va_W)))) hP hD hk h1
theorem sX6_2 {D : va_G} {a : Nat → Nat} {G : Nat → ClassId} {M : Nat → Nat → Int32} {H : Heap} (h : va_P D vwCl (wSeas a G M) H) : va_P D vwCl (wRow (a 4) (a 5) 8 G (M 2)) H := jMidP (pre := (([(a 0, .inr (8, [.ref (a 2), .int (M 0 0), .int (M 0 1), .ref (a 36), .ref (a 37), .ref (a 38), .ref (a 39)]))] : va_W) ++ ((wRow (a 2) (a 3) 3 G (M 1) : va_W) ++ ([(a 36, .inr (5, [.int (M 0 2), .ref (a 4), .ref (a 6), .ref (a 8), .ref (a 10), .ref (a 12)]))] : va_W)))) (post := ((wRow (a 6) (a 7) 8 G (M 3) : va_W) ++ ((wRow (a 8) (a 9) 8 G (M 4) : va_W) ++ ((wRow (a 10) (a 11) 8 G (M 5) : va_W) ++ ((wRow (a 12) (a 13) 8 G (M 6) : va_W) ++ ((wPerf a G M : va_W) ++ ((wSubs a G M : va_W) ++ (wReqs a G M : va_W)))))))) h
theorem dX6_2 {A : Nat → Prop} {a : Nat → Nat} {G : Nat → ClassId} {M : Nat → Nat → Int32} (h : va_D A (wSeas a G M)) : va_D A (wRow (a 4) (a 5) 8 G (M 2)) := jMidD (pre := (([(a 0, .inr (8, [.ref (a 2), .int (M 0 0), .int (M 0 1), .ref (a 36), .ref (a 37), .ref (a 38), .ref (a 39)]))] : va_W) ++ ((wRow (a 2) (a 3) 3 G (M 1) : va_W) ++ ([(a 36, .inr (5, [.int (M 0 2), .ref (a 4), .ref (a 6), .ref (a 8), .ref (a 10), .ref (a 12)]))] : va_W)))) (post := ((wRow (a 6) (a 7) 8 G (M 3) : va_W) ++ ((wRow (a 8) (a 9) 8 G (M 4) : va_W) ++ ((wRow (a 10) (a 11) 8 G (M 5) : va_W) ++ ((wRow (a 12) (a 13) 8 G (M 6) : va_W) ++ ((wPerf a G M : va_W) ++ ((wSubs a G M : va_W) ++ (wReqs a G M : va_W)))))))) h
theorem jX6_2 {D : va_G} {A : Nat → Prop} {a : Nat → Nat} {G : Nat → ClassId} {M : Nat → Nat → Int32} {z : Nat → Int32} {H H1 : Heap} (hP : va_P D vwCl (wSeas a G M) H) (hD : va_D A (wSeas a G M)) (hk : ∀ q : Nat, q < H.size → ¬ va_A (wRow (a 4) (a 5) 8 G (M 2)) H.size q → H1[q]? = H[q]?) (h1 : va_P D vwCl (wRow (a 4) (a 5) 8 G z) H1) : va_P D vwCl (wSeas a G (u1 M 2 z)) H1 := jMidJoin (pre := (([(a 0, .inr (8, [.ref (a 2), .int (M 0 0), .int (M 0 1), .ref (a 36), .ref (a 37), .ref (a 38), .ref (a 39)]))] : va_W) ++ ((wRow (a 2) (a 3) 3 G (M 1) : va_W) ++ ([(a 36, .inr (5, [.int (M 0 2), .ref (a 4), .ref (a 6), .ref (a 8), .ref (a 10), .ref (a 12)]))] : va_W)))) (mid := (wRow (a 4) (a 5) 8 G (M 2))) (mid' := (wRow (a 4) (a 5) 8 G z)) (post := ((wRow (a 6) (a 7) 8 G (M 3) : va_W) ++ ((wRow (a 8) (a 9) 8 G (M 4) : va_W) ++ ((wRow (a 10) (a 11) 8 G (M 5) : va_W) ++ ((wRow (a 12) (a 13) 8 G (M 6) : va_W) ++ ((wPerf a G M : va_W) ++ ((wSubs a G M : va_W) ++ (wReqs a G M : va_W)))))))) hP hD hk h1
theorem sX6_3 {D : va_G} {a : Nat → Nat} {G : Nat → ClassId} {M : Nat → Nat → Int32} {H : Heap} (h : va_P D vwCl (wSeas a G M) H) : va_P D vwCl (wRow (a 6) (a 7) 8 G (M 3)) H := jMidP (pre := (([(a 0, .inr (8, [.ref (a 2), .int (M 0 0), .int (M 0 1), .ref (a 36), .ref (a 37), .ref (a 38), .ref (a 39)]))] : va_W) ++ ((wRow (a 2) (a 3) 3 G (M 1) : va_W) ++ (([(a 36, .inr (5, [.int (M 0 2), .ref (a 4), .ref (a 6), .ref (a 8), .ref (a 10), .ref (a 12)]))] : va_W) ++ (wRow (a 4) (a 5) 8 G (M 2) : va_W))))) (post := ((wRow (a 8) (a 9) 8 G (M 4) : va_W) ++ ((wRow (a 10) (a 11) 8 G (M 5) : va_W) ++ ((wRow (a 12) (a 13) 8 G (M 6) : va_W) ++ ((wPerf a G M : va_W) ++ ((wSubs a G M : va_W) ++ (wReqs a G M : va_W))))))) h
theorem dX6_3 {A : Nat → Prop} {a : Nat → Nat} {G : Nat → ClassId} {M : Nat → Nat → Int32} (h : va_D A (wSeas a G M)) : va_D A (wRow (a 6) (a 7) 8 G (M 3)) := jMidD (pre := (([(a 0, .inr (8, [.ref (a 2), .int (M 0 0), .int (M 0 1), .ref (a 36), .ref (a 37), .ref (a 38), .ref (a 39)]))] : va_W) ++ ((wRow (a 2) (a 3) 3 G (M 1) : va_W) ++ (([(a 36, .inr (5, [.int (M 0 2), .ref (a 4), .ref (a 6), .ref (a 8), .ref (a 10), .ref (a 12)]))] : va_W) ++ (wRow (a 4) (a 5) 8 G (M 2) : va_W))))) (post := ((wRow (a 8) (a 9) 8 G (M 4) : va_W) ++ ((wRow (a 10) (a 11) 8 G (M 5) : va_W) ++ ((wRow (a 12) (a 13) 8 G (M 6) : va_W) ++ ((wPerf a G M : va_W) ++ ((wSubs a G M : va_W) ++ (wReqs a G M : va_W))))))) h
theorem jX6_3 {D : va_G} {A : Nat → Prop} {a : Nat → Nat} {G : Nat → ClassId} {M : Nat → Nat → Int32} {z : Nat → Int32} {H H1 : Heap} (hP : va_P D vwCl (wSeas a G M) H) (hD : va_D A (wSeas a G M)) (hk : ∀ q : Nat, q < H.size → ¬ va_A (wRow (a 6) (a 7) 8 G (M 3)) H.size q → H1[q]? = H[q]?) (h1 : va_P D vwCl (wRow (a 6) (a 7) 8 G z) H1) : va_P D vwCl (wSeas a G (u1 M 3 z)) H1 := jMidJoin (pre := (([(a 0, .inr (8, [.ref (a 2), .int (M 0 0), .int (M 0 1), .ref (a 36), .ref (a 37), .ref (a 38), .ref (a 39)]))] : va_W) ++ ((wRow (a 2) (a 3) 3 G (M 1) : va_W) ++ (([(a 36, .inr (5, [.int (M 0 2), .ref (a 4), .ref (a 6), .ref (a 8), .ref (a 10), .ref (a 12)]))] : va_W) ++ (wRow (a 4) (a 5) 8 G (M 2) : va_W))))) (mid := (wRow (a 6) (a 7) 8 G (M 3))) (mid' := (wRow (a 6) (a 7) 8 G z)) (post := ((wRow (a 8) (a 9) 8 G (M 4) : va_W) ++ ((wRow (a 10) (a 11) 8 G (M 5) : va_W) ++ ((wRow (a 12) (a 13) 8 G (M 6) : va_W) ++ ((wPerf a G M : va_W) ++ ((wSubs a G M : va_W) ++ (wReqs a G M : va_W))))))) hP hD hk h1
theorem sX6_4 {D : va_G} {a : Nat → Nat} {G : Nat → ClassId} {M : Nat → Nat → Int32} {H : Heap} (h : va_P D vwCl (wSeas a G M) H) : va_P D vwCl (wRow (a 8) (a 9) 8 G (M 4)) H := jMidP (pre := (([(a 0, .inr (8, [.ref (a 2), .int (M 0 0), .int (M 0 1), .ref (a 36), .ref (a 37), .ref (a 38), .ref (a 39)]))] : va_W) ++ ((wRow (a 2) (a 3) 3 G (M 1) : va_W) ++ (([(a 36, .inr (5, [.int (M 0 2), .ref (a 4), .ref (a 6), .ref (a 8), .ref (a 10), .ref (a 12)]))] : va_W) ++ ((wRow (a 4) (a 5) 8 G (M 2) : va_W) ++ (wRow (a 6) (a 7) 8 G (M 3) : va_W)))))) (post := ((wRow (a 10) (a 11) 8 G (M 5) : va_W) ++ ((wRow (a 12) (a 13) 8 G (M 6) : va_W) ++ ((wPerf a G M : va_W) ++ ((wSubs a G M : va_W) ++ (wReqs a G M : va_W)))))) h
theorem dX6_4 {A : Nat → Prop} {a : Nat → Nat} {G : Nat → ClassId} {M : Nat → Nat → Int32} (h : va_D A (wSeas a G M)) : va_D A (wRow (a 8) (a 9) 8 G (M 4)) := jMidD (pre := (([(a 0, .inr (8, [.ref (a 2), .int (M 0 0), .int (M 0 1), .ref (a 36), .ref (a 37), .ref (a 38), .ref (a 39)]))] : va_W) ++ ((wRow (a 2) (a 3) 3 G (M 1) : va_W) ++ (([(a 36, .inr (5, [.int (M 0 2), .ref (a 4), .ref (a 6), .ref (a 8), .ref (a 10), .ref (a 12)]))] : va_W) ++ ((wRow (a 4) (a 5) 8 G (M 2) : va_W) ++ (wRow (a 6) (a 7) 8 G (M 3) : va_W)))))) (post := ((wRow (a 10) (a 11) 8 G (M 5) : va_W) ++ ((wRow (a 12) (a 13) 8 G (M 6) : va_W) ++ ((wPerf a G M : va_W) ++ ((wSubs a G M : va_W) ++ (wReqs a G M : va_W)))))) h
theorem jX6_4 {D : va_G} {A : Nat → Prop} {a : Nat → Nat} {G : Nat → ClassId} {M : Nat → Nat → Int32} {z : Nat → Int32} {H H1 : Heap} (hP : va_P D vwCl (wSeas a G M) H) (hD : va_D A (wSeas a G M)) (hk : ∀ q : Nat, q < H.size → ¬ va_A (wRow (a 8) (a 9) 8 G (M 4)) H.size q → H1[q]? = H[q]?) (h1 : va_P D vwCl (wRow (a 8) (a 9) 8 G z) H1) : va_P D vwCl (wSeas a G (u1 M 4 z)) H1 := jMidJoin (pre := (([(a 0, .inr (8, [.ref (a 2), .int (M 0 0), .int (M 0 1), .ref (a 36), .ref (a 37), .ref (a 38), .ref (a 39)]))] : va_W) ++ ((wRow (a 2) (a 3) 3 G (M 1) : va_W) ++ (([(a 36, .inr (5, [.int (M 0 2), .ref (a 4), .ref (a 6), .ref (a 8), .ref (a 10), .ref (a 12)]))] : va_W) ++ ((wRow (a 4) (a 5) 8 G (M 2) : va_W) ++ (wRow (a 6) (a 7) 8 G (M 3) : va_W)))))) (mid := (wRow (a 8) (a 9) 8 G (M 4))) (mid' := (wRow (a 8) (a 9) 8 G z)) (post := ((wRow (a 10) (a 11) 8 G (M 5) : va_W) ++ ((wRow (a 12) (a 13) 8 G (M 6) : va_W) ++ ((wPerf a G M : va_W) ++ ((wSubs a G M : va_W) ++ (wReqs a G M : va_W)))))) hP hD hk h1
theorem sX6_5 {D : va_G} {a : Nat → Nat} {G : Nat → ClassId} {M : Nat → Nat → Int32} {H : Heap} (h : va_P D vwCl (wSeas a G M) H) : va_P D vwCl (wRow (a 10) (a 11) 8 G (M 5)) H := jMidP (pre := (([(a 0, .inr (8, [.ref (a 2), .int (M 0 0), .int (M 0 1), .ref (a 36), .ref (a 37), .ref (a 38), .ref (a 39)]))] : va_W) ++ ((wRow (a 2) (a 3) 3 G (M 1) : va_W) ++ (([(a 36, .inr (5, [.int (M 0 2), .ref (a 4), .ref (a 6), .ref (a 8), .ref (a 10), .ref (a 12)]))] : va_W) ++ ((wRow (a 4) (a 5) 8 G (M 2) : va_W) ++ ((wRow (a 6) (a 7) 8 G (M 3) : va_W) ++ (wRow (a 8) (a 9) 8 G (M 4) : va_W))))))) (post := ((wRow (a 12) (a 13) 8 G (M 6) : va_W) ++ ((wPerf a G M : va_W) ++ ((wSubs a G M : va_W) ++ (wReqs a G M : va_W))))) h
theorem dX6_5 {A : Nat → Prop} {a : Nat → Nat} {G : Nat → ClassId} {M : Nat → Nat → Int32} (h : va_D A (wSeas a G M)) : va_D A (wRow (a 10) (a 11) 8 G (M 5)) := jMidD (pre := (([(a 0, .inr (8, [.ref (a 2), .int (M 0 0), .int (M 0 1), .ref (a 36), .ref (a 37), .ref (a 38), .ref (a 39)]))] : va_W) ++ ((wRow (a 2) (a 3) 3 G (M 1) : va_W) ++ (([(a 36, .inr (5, [.int (M 0 2), .ref (a 4), .ref (a 6), .ref (a 8), .ref (a 10), .ref (a 12)]))] : va_W) ++ ((wRow (a 4) (a 5) 8 G (M 2) : va_W) ++ ((wRow (a 6) (a 7) 8 G (M 3) : va_W) ++ (wRow (a 8) (a 9) 8 G (M 4) : va_W))))))) (post := ((wRow (a 12) (a 13) 8 G (M 6) : va_W) ++ ((wPerf a G M : va_W) ++ ((wSubs a G M : va_W) ++ (wReqs a G M : va_W))))) h
theorem jX6_5 {D : va_G} {A : Nat → Prop} {a : Nat → Nat} {G : Nat → ClassId} {M : Nat → Nat → Int32} {z : Nat → Int32} {H H1 : Heap} (hP : va_P D vwCl (wSeas a G M) H) (hD : va_D A (wSeas a G M)) (hk : ∀ q : Nat, q < H.size → ¬ va_A (wRow (a 10) (a 11) 8 G (M 5)) H.size q → H1[q]? = H[q]?) (h1 : va_P D vwCl (wRow (a 10) (a 11) 8 G z) H1) : va_P D vwCl (wSeas a G (u1 M 5 z)) H1 := jMidJoin (pre := (([(a 0, .inr (8, [.ref (a 2), .int (M 0 0), .int (M 0 1), .ref (a 36), .ref (a 37), .ref (a 38), .ref (a 39)]))] : va_W) ++ ((wRow (a 2) (a 3) 3 G (M 1) : va_W) ++ (([(a 36, .inr (5, [.int (M 0 2), .ref (a 4), .ref (a 6), .ref (a 8), .ref (a 10), .ref (a 12)]))] : va_W) ++ ((wRow (a 4) (a 5) 8 G (M 2) : va_W) ++ ((wRow (a 6) (a 7) 8 G (M 3) : va_W) ++ (wRow (a 8) (a 9) 8 G (M 4) : va_W))))))) (mid := (wRow (a 10) (a 11) 8 G (M 5))) (mid' := (wRow (a 10) (a 11) 8 G z)) (post := ((wRow (a 12) (a 13) 8 G (M 6) : va_W) ++ ((wPerf a G M : va_W) ++ ((wSubs a G M : va_W) ++ (wReqs a G M : va_W))))) hP hD hk h1
theorem sX6_6 {D : va_G} {a : Nat → Nat} {G : Nat → ClassId} {M : Nat → Nat → Int32} {H : Heap} (h : va_P D vwCl (wSeas a G M) H) : va_P D vwCl (wRow (a 12) (a 13) 8 G (M 6)) H := jMidP (pre := (([(a 0, .inr (8, [.ref (a 2), .int (M 0 0), .int (M 0 1), .ref (a 36), .ref (a 37), .ref (a 38), .ref (a 39)]))] : va_W) ++ ((wRow (a 2) (a 3) 3 G (M 1) : va_W) ++ (([(a 36, .inr (5, [.int (M 0 2), .ref (a 4), .ref (a 6), .ref (a 8), .ref (a 10), .ref (a 12)]))] : va_W) ++ ((wRow (a 4) (a 5) 8 G (M 2) : va_W) ++ ((wRow (a 6) (a 7) 8 G (M 3) : va_W) ++ ((wRow (a 8) (a 9) 8 G (M 4) : va_W) ++ (wRow (a 10) (a 11) 8 G (M 5) : va_W)))))))) (post := ((wPerf a G M : va_W) ++ ((wSubs a G M : va_W) ++ (wReqs a G M : va_W)))) h
theorem dX6_6 {A : Nat → Prop} {a : Nat → Nat} {G : Nat → ClassId} {M : Nat → Nat → Int32} (h : va_D A (wSeas a G M)) : va_D A (wRow (a 12) (a 13) 8 G (M 6)) := jMidD (pre := (([(a 0, .inr (8, [.ref (a 2), .int (M 0 0), .int (M 0 1), .ref (a 36), .ref (a 37), .ref (a 38), .ref (a 39)]))] : va_W) ++ ((wRow (a 2) (a 3) 3 G (M 1) : va_W) ++ (([(a 36, .inr (5, [.int (M 0 2), .ref (a 4), .ref (a 6), .ref (a 8), .ref (a 10), .ref (a 12)]))] : va_W) ++ ((wRow (a 4) (a 5) 8 G (M 2) : va_W) ++ ((wRow (a 6) (a 7) 8 G (M 3) : va_W) ++ ((wRow (a 8) (a 9) 8 G (M 4) : va_W) ++ (wRow (a 10) (a 11) 8 G (M 5) : va_W)))))))) (post := ((wPerf a G M : va_W) ++ ((wSubs a G M : va_W) ++ (wReqs a G M : va_W)))) h
theorem jX6_6 {D : va_G} {A : Nat → Prop} {a : Nat → Nat} {G : Nat → ClassId} {M : Nat → Nat → Int32} {z : Nat → Int32} {H H1 : Heap} (hP : va_P D vwCl (wSeas a G M) H) (hD : va_D A (wSeas a G M)) (hk : ∀ q : Nat, q < H.size → ¬ va_A (wRow (a 12) (a 13) 8 G (M 6)) H.size q → H1[q]? = H[q]?) (h1 : va_P D vwCl (wRow (a 12) (a 13) 8 G z) H1) : va_P D vwCl (wSeas a G (u1 M 6 z)) H1 := jMidJoin (pre := (([(a 0, .inr (8, [.ref (a 2), .int (M 0 0), .int (M 0 1), .ref (a 36), .ref (a 37), .ref (a 38), .ref (a 39)]))] : va_W) ++ ((wRow (a 2) (a 3) 3 G (M 1) : va_W) ++ (([(a 36, .inr (5, [.int (M 0 2), .ref (a 4), .ref (a 6), .ref (a 8), .ref (a 10), .ref (a 12)]))] : va_W) ++ ((wRow (a 4) (a 5) 8 G (M 2) : va_W) ++ ((wRow (a 6) (a 7) 8 G (M 3) : va_W) ++ ((wRow (a 8) (a 9) 8 G (M 4) : va_W) ++ (wRow (a 10) (a 11) 8 G (M 5) : va_W)))))))) (mid := (wRow (a 12) (a 13) 8 G (M 6))) (mid' := (wRow (a 12) (a 13) 8 G z)) (post := ((wPerf a G M : va_W) ++ ((wSubs a G M : va_W) ++ (wReqs a G M : va_W)))) hP hD hk h1
theorem sX6_X2 {D : va_G} {a : Nat → Nat} {G : Nat → ClassId} {M : Nat → Nat → Int32} {H : Heap} (h : va_P D vwCl (wSeas a G M) H) : va_P D vwCl (wPerf a G M) H := jMidP (pre := (([(a 0, .inr (8, [.ref (a 2), .int (M 0 0), .int (M 0 1), .ref (a 36), .ref (a 37), .ref (a 38), .ref (a 39)]))] : va_W) ++ ((wRow (a 2) (a 3) 3 G (M 1) : va_W) ++ (wProd a G M : va_W)))) (post := ((wSubs a G M : va_W) ++ (wReqs a G M : va_W))) h
theorem dX6_X2 {A : Nat → Prop} {a : Nat → Nat} {G : Nat → ClassId} {M : Nat → Nat → Int32} (h : va_D A (wSeas a G M)) : va_D A (wPerf a G M) := jMidD (pre := (([(a 0, .inr (8, [.ref (a 2), .int (M 0 0), .int (M 0 1), .ref (a 36), .ref (a 37), .ref (a 38), .ref (a 39)]))] : va_W) ++ ((wRow (a 2) (a 3) 3 G (M 1) : va_W) ++ (wProd a G M : va_W)))) (post := ((wSubs a G M : va_W) ++ (wReqs a G M : va_W))) h
theorem jX6_X2 {D : va_G} {A : Nat → Prop} {a : Nat → Nat} {G : Nat → ClassId} {M : Nat → Nat → Int32} {z : Nat → Nat → Int32} {H H1 : Heap} (hP : va_P D vwCl (wSeas a G M) H) (hD : va_D A (wSeas a G M)) (hk : ∀ q : Nat, q < H.size → ¬ va_A (wPerf a G M) H.size q → H1[q]? = H[q]?) (h1 : va_P D vwCl (wPerf a G z) H1) : va_P D vwCl (wSeas a G (mgX2 M z)) H1 := jMidJoin (pre := (([(a 0, .inr (8, [.ref (a 2), .int (M 0 0), .int (M 0 1), .ref (a 36), .ref (a 37), .ref (a 38), .ref (a 39)]))] : va_W) ++ ((wRow (a 2) (a 3) 3 G (M 1) : va_W) ++ (wProd a G M : va_W)))) (mid := (wPerf a G M)) (mid' := (wPerf a G z)) (post := ((wSubs a G M : va_W) ++ (wReqs a G M : va_W))) hP hD hk h1
theorem sX6_7 {D : va_G} {a : Nat → Nat} {G : Nat → ClassId} {M : Nat → Nat → Int32} {H : Heap} (h : va_P D vwCl (wSeas a G M) H) : va_P D vwCl (wRow (a 14) (a 15) 24 G (M 7)) H := jMidP (pre := (([(a 0, .inr (8, [.ref (a 2), .int (M 0 0), .int (M 0 1), .ref (a 36), .ref (a 37), .ref (a 38), .ref (a 39)]))] : va_W) ++ ((wRow (a 2) (a 3) 3 G (M 1) : va_W) ++ ((wProd a G M : va_W) ++ ([(a 37, .inr (4, [.int (M 0 3), .ref (a 14), .ref (a 16), .ref (a 18), .ref (a 20), .ref (a 22), .ref (a 24)]))] : va_W))))) (post := ((wRow (a 16) (a 17) 24 G (M 8) : va_W) ++ ((wRow (a 18) (a 19) 24 G (M 9) : va_W) ++ ((wRow (a 20) (a 21) 24 G (M 10) : va_W) ++ ((wRow (a 22) (a 23) 24 G (M 11) : va_W) ++ ((wRow (a 24) (a 25) 24 G (M 12) : va_W) ++ ((wSubs a G M : va_W) ++ (wReqs a G M : va_W)))))))) h
theorem dX6_7 {A : Nat → Prop} {a : Nat → Nat} {G : Nat → ClassId} {M : Nat → Nat → Int32} (h : va_D A (wSeas a G M)) : va_D A (wRow (a 14) (a 15) 24 G (M 7)) := jMidD (pre := (([(a 0, .inr (8, [.ref (a 2), .int (M 0 0), .int (M 0 1), .ref (a 36), .ref (a 37), .ref (a 38), .ref (a 39)]))] : va_W) ++ ((wRow (a 2) (a 3) 3 G (M 1) : va_W) ++ ((wProd a G M : va_W) ++ ([(a 37, .inr (4, [.int (M 0 3), .ref (a 14), .ref (a 16), .ref (a 18), .ref (a 20), .ref (a 22), .ref (a 24)]))] : va_W))))) (post := ((wRow (a 16) (a 17) 24 G (M 8) : va_W) ++ ((wRow (a 18) (a 19) 24 G (M 9) : va_W) ++ ((wRow (a 20) (a 21) 24 G (M 10) : va_W) ++ ((wRow (a 22) (a 23) 24 G (M 11) : va_W) ++ ((wRow (a 24) (a 25) 24 G (M 12) : va_W) ++ ((wSubs a G M : va_W) ++ (wReqs a G M : va_W)))))))) h
theorem jX6_7 {D : va_G} {A : Nat → Prop} {a : Nat → Nat} {G : Nat → ClassId} {M : Nat → Nat → Int32} {z : Nat → Int32} {H H1 : Heap} (hP : va_P D vwCl (wSeas a G M) H) (hD : va_D A (wSeas a G M)) (hk : ∀ q : Nat, q < H.size → ¬ va_A (wRow (a 14) (a 15) 24 G (M 7)) H.size q → H1[q]? = H[q]?) (h1 : va_P D vwCl (wRow (a 14) (a 15) 24 G z) H1) : va_P D vwCl (wSeas a G (u1 M 7 z)) H1 := jMidJoin (pre := (([(a 0, .inr (8, [.ref (a 2), .int (M 0 0), .int (M 0 1), .ref (a 36), .ref (a 37), .ref (a 38), .ref (a 39)]))] : va_W) ++ ((wRow (a 2) (a 3) 3 G (M 1) : va_W) ++ ((wProd a G M : va_W) ++ ([(a 37, .inr (4, [.int (M 0 3), .ref (a 14), .ref (a 16), .ref (a 18), .ref (a 20), .ref (a 22), .ref (a 24)]))] : va_W))))) (mid := (wRow (a 14) (a 15) 24 G (M 7))) (mid' := (wRow (a 14) (a 15) 24 G z)) (post := ((wRow (a 16) (a 17) 24 G (M 8) : va_W) ++ ((wRow (a 18) (a 19) 24 G (M 9) : va_W) ++ ((wRow (a 20) (a 21) 24 G (M 10) : va_W) ++ ((wRow (a 22) (a 23) 24 G (M 11) : va_W) ++ ((wRow (a 24) (a 25) 24 G (M 12) : va_W) ++ ((wSubs a G M : va_W) ++ (wReqs a G M : va_W)))))))) hP hD hk h1
theorem sX6_8 {D : va_G} {a : Nat → Nat} {G : Nat → ClassId} {M : Nat → Nat → Int32} {H : Heap} (h : va_P D vwCl (wSeas a G M) H) : va_P D vwCl (wRow (a 16) (a 17) 24 G (M 8)) H := jMidP (pre := (([(a 0, .inr (8, [.ref (a 2), .int (M 0 0), .int (M 0 1), .ref (a 36), .ref (a 37), .ref (a 38), .ref (a 39)]))] : va_W) ++ ((wRow (a 2) (a 3) 3 G (M 1) : va_W) ++ ((wProd a G M : va_W) ++ (([(a 37, .inr (4, [.int (M 0 3), .ref (a 14), .ref (a 16), .ref (a 18), .ref (a 20), .ref (a 22), .ref (a 24)]))] : va_W) ++ (wRow (a 14) (a 15) 24 G (M 7) : va_W)))))) (post := ((wRow (a 18) (a 19) 24 G (M 9) : va_W) ++ ((wRow (a 20) (a 21) 24 G (M 10) : va_W) ++ ((wRow (a 22) (a 23) 24 G (M 11) : va_W) ++ ((wRow (a 24) (a 25) 24 G (M 12) : va_W) ++ ((wSubs a G M : va_W) ++ (wReqs a G M : va_W))))))) h
theorem dX6_8 {A : Nat → Prop} {a : Nat → Nat} {G : Nat → ClassId} {M : Nat → Nat → Int32} (h : va_D A (wSeas a G M)) : va_D A (wRow (a 16) (a 17) 24 G (M 8)) := jMidD (pre := (([(a 0, .inr (8, [.ref (a 2), .int (M 0 0), .int (M 0 1), .ref (a 36), .ref (a 37), .ref (a 38), .ref (a 39)]))] : va_W) ++ ((wRow (a 2) (a 3) 3 G (M 1) : va_W) ++ ((wProd a G M : va_W) ++ (([(a 37, .inr (4, [.int (M 0 3), .ref (a 14), .ref (a 16), .ref (a 18), .ref (a 20), .ref (a 22), .ref (a 24)]))] : va_W) ++ (wRow (a 14) (a 15) 24 G (M 7) : va_W)))))) (post := ((wRow (a 18) (a 19) 24 G (M 9) : va_W) ++ ((wRow (a 20) (a 21) 24 G (M 10) : va_W) ++ ((wRow (a 22) (a 23) 24 G (M 11) : va_W) ++ ((wRow (a 24) (a 25) 24 G (M 12) : va_W) ++ ((wSubs a G M : va_W) ++ (wReqs a G M : va_W))))))) h
theorem jX6_8 {D : va_G} {A : Nat → Prop} {a : Nat → Nat} {G : Nat → ClassId} {M : Nat → Nat → Int32} {z : Nat → Int32} {H H1 : Heap} (hP : va_P D vwCl (wSeas a G M) H) (hD : va_D A (wSeas a G M)) (hk : ∀ q : Nat, q < H.size → ¬ va_A (wRow (a 16) (a 17) 24 G (M 8)) H.size q → H1[q]? = H[q]?) (h1 : va_P D vwCl (wRow (a 16) (a 17) 24 G z) H1) : va_P D vwCl (wSeas a G (u1 M 8 z)) H1 := jMidJoin (pre := (([(a 0, .inr (8, [.ref (a 2), .int (M 0 0), .int (M 0 1), .ref (a 36), .ref (a 37), .ref (a 38), .ref (a 39)]))] : va_W) ++ ((wRow (a 2) (a 3) 3 G (M 1) : va_W) ++ ((wProd a G M : va_W) ++ (([(a 37, .inr (4, [.int (M 0 3), .ref (a 14), .ref (a 16), .ref (a 18), .ref (a 20), .ref (a 22), .ref (a 24)]))] : va_W) ++ (wRow (a 14) (a 15) 24 G (M 7) : va_W)))))) (mid := (wRow (a 16) (a 17) 24 G (M 8))) (mid' := (wRow (a 16) (a 17) 24 G z)) (post := ((wRow (a 18) (a 19) 24 G (M 9) : va_W) ++ ((wRow (a 20) (a 21) 24 G (M 10) : va_W) ++ ((wRow (a 22) (a 23) 24 G (M 11) : va_W) ++ ((wRow (a 24) (a 25) 24 G (M 12) : va_W) ++ ((wSubs a G M : va_W) ++ (wReqs a G M : va_W))))))) hP hD hk h1
theorem sX6_9 {D : va_G} {a : Nat → Nat} {G : Nat → ClassId} {M : Nat → Nat → Int32} {H : Heap} (h : va_P D vwCl (wSeas a G M) H) : va_P D vwCl (wRow (a 18) (a 19) 24 G (M 9)) H := jMidP (pre := (([(a 0, .inr (8, [.ref (a 2), .int (M 0 0), .int (M 0 1), .ref (a 36), .ref (a 37), .ref (a 38), .ref (a 39)]))] : va_W) ++ ((wRow (a 2) (a 3) 3 G (M 1) : va_W) ++ ((wProd a G M : va_W) ++ (([(a 37, .inr (4, [.int (M 0 3), .ref (a 14), .ref (a 16), .ref (a 18), .ref (a 20), .ref (a 22), .ref (a 24)]))] : va_W) ++ ((wRow (a 14) (a 15) 24 G (M 7) : va_W) ++ (wRow (a 16) (a 17) 24 G (M 8) : va_W))))))) (post := ((wRow (a 20) (a 21) 24 G (M 10) : va_W) ++ ((wRow (a 22) (a 23) 24 G (M 11) : va_W) ++ ((wRow (a 24) (a 25) 24 G (M 12) : va_W) ++ ((wSubs a G M : va_W) ++ (wReqs a G M : va_W)))))) h
theorem dX6_9 {A : Nat → Prop} {a : Nat → Nat} {G : Nat → ClassId} {M : Nat → Nat → Int32} (h : va_D A (wSeas a G M)) : va_D A (wRow (a 18) (a 19) 24 G (M 9)) := jMidD (pre := (([(a 0, .inr (8, [.ref (a 2), .int (M 0 0), .int (M 0 1), .ref (a 36), .ref (a 37), .ref (a 38), .ref (a 39)]))] : va_W) ++ ((wRow (a 2) (a 3) 3 G (M 1) : va_W) ++ ((wProd a G M : va_W) ++ (([(a 37, .inr (4, [.int (M 0 3), .ref (a 14), .ref (a 16), .ref (a 18), .ref (a 20), .ref (a 22), .ref (a 24)]))] : va_W) ++ ((wRow (a 14) (a 15) 24 G (M 7) : va_W) ++ (wRow (a 16) (a 17) 24 G (M 8) : va_W))))))) (post := ((wRow (a 20) (a 21) 24 G (M 10) : va_W) ++ ((wRow (a 22) (a 23) 24 G (M 11) : va_W) ++ ((wRow (a 24) (a 25) 24 G (M 12) : va_W) ++ ((wSubs a G M : va_W) ++ (wReqs a G M : va_W)))))) h
theorem jX6_9 {D : va_G} {A : Nat → Prop} {a : Nat → Nat} {G : Nat → ClassId} {M : Nat → Nat → Int32} {z : Nat → Int32} {H H1 : Heap} (hP : va_P D vwCl (wSeas a G M) H) (hD : va_D A (wSeas a G M)) (hk : ∀ q : Nat, q < H.size → ¬ va_A (wRow (a 18) (a 19) 24 G (M 9)) H.size q → H1[q]? = H[q]?) (h1 : va_P D vwCl (wRow (a 18) (a 19) 24 G z) H1) : va_P D vwCl (wSeas a G (u1 M 9 z)) H1 := jMidJoin (pre := (([(a 0, .inr (8, [.ref (a 2), .int (M 0 0), .int (M 0 1), .ref (a 36), .ref (a 37), .ref (a 38), .ref (a 39)]))] : va_W) ++ ((wRow (a 2) (a 3) 3 G (M 1) : va_W) ++ ((wProd a G M : va_W) ++ (([(a 37, .inr (4, [.int (M 0 3), .ref (a 14), .ref (a 16), .ref (a 18), .ref (a 20), .ref (a 22), .ref (a 24)]))] : va_W) ++ ((wRow (a 14) (a 15) 24 G (M 7) : va_W) ++ (wRow (a 16) (a 17) 24 G (M 8) : va_W))))))) (mid := (wRow (a 18) (a 19) 24 G (M 9))) (mid' := (wRow (a 18) (a 19) 24 G z)) (post := ((wRow (a 20) (a 21) 24 G (M 10) : va_W) ++ ((wRow (a 22) (a 23) 24 G (M 11) : va_W) ++ ((wRow (a 24) (a 25) 24 G (M 12) : va_W) ++ ((wSubs a G M : va_W) ++ (wReqs a G M : va_W)))))) hP hD hk h1
theorem sX6_10 {D : va_G} {a : Nat → Nat} {G : Nat → ClassId} {M : Nat → Nat → Int32} {H : Heap} (h : va_P D vwCl (wSeas a G M) H) : va_P D vwCl (wRow (a 20) (a 21) 24 G (M 10)) H := jMidP (pre := (([(a 0, .inr (8, [.ref (a 2), .int (M 0 0), .int (M 0 1), .ref (a 36), .ref (a 37), .ref (a 38), .ref (a 39)]))] : va_W) ++ ((wRow (a 2) (a 3) 3 G (M 1) : va_W) ++ ((wProd a G M : va_W) ++ (([(a 37, .inr (4, [.int (M 0 3), .ref (a 14), .ref (a 16), .ref (a 18), .ref (a 20), .ref (a 22), .ref (a 24)]))] : va_W) ++ ((wRow (a 14) (a 15) 24 G (M 7) : va_W) ++ ((wRow (a 16) (a 17) 24 G (M 8) : va_W) ++ (wRow (a 18) (a 19) 24 G (M 9) : va_W)))))))) (post := ((wRow (a 22) (a 23) 24 G (M 11) : va_W) ++ ((wRow (a 24) (a 25) 24 G (M 12) : va_W) ++ ((wSubs a G M : va_W) ++ (wReqs a G M : va_W))))) h
theorem dX6_10 {A : Nat → Prop} {a : Nat → Nat} {G : Nat → ClassId} {M : Nat → Nat → Int32} (h : va_D A (wSeas a G M)) : va_D A (wRow (a 20) (a 21) 24 G (M 10)) := jMidD (pre := (([(a 0, .inr (8, [.ref (a 2), .int (M 0 0), .int (M 0 1), .ref (a 36), .ref (a 37), .ref (a 38), .ref (a 39)]))] : va_W) ++ ((wRow (a 2) (a 3) 3 G (M 1) : va_W) ++ ((wProd a G M : va_W) ++ (([(a 37, .inr (4, [.int (M 0 3), .ref (a 14), .ref (a 16), .ref (a 18), .ref (a 20), .ref (a 22), .ref (a 24)]))] : va_W) ++ ((wRow (a 14) (a 15) 24 G (M 7) : va_W) ++ ((wRow (a 16) (a 17) 24 G (M 8) : va_W) ++ (wRow (a 18) (a 19) 24 G (M 9) : va_W)))))))) (post := ((wRow (a 22) (a 23) 24 G (M 11) : va_W) ++ ((wRow (a 24) (a 25) 24 G (M 12) : va_W) ++ ((wSubs a G M : va_W) ++ (wReqs a G M : va_W))))) h
theorem jX6_10 {D : va_G} {A : Nat → Prop} {a : Nat → Nat} {G : Nat → ClassId} {M : Nat → Nat → Int32} {z : Nat → Int32} {H H1 : Heap} (hP : va_P D vwCl (wSeas a G M) H) (hD : va_D A (wSeas a G M)) (hk : ∀ q : Nat, q < H.size → ¬ va_A (wRow (a 20) (a 21) 24 G (M 10)) H.size q → H1[q]? = H[q]?) (h1 : va_P D vwCl (wRow (a 20) (a 21) 24 G z) H1) : va_P D vwCl (wSeas a G (u1 M 10 z)) H1 := jMidJoin (pre := (([(a 0, .inr (8, [.ref (a 2), .int (M 0 0), .int (M 0 1), .ref (a 36), .ref (a 37), .ref (a 38), .ref (a 39)]))] : va_W) ++ ((wRow (a 2) (a 3) 3 G (M 1) : va_W) ++ ((wProd a G M : va_W) ++ (([(a 37, .inr (4, [.int (M 0 3), .ref (a 14), .ref (a 16), .ref (a 18), .ref (a 20), .ref (a 22), .ref (a 24)]))] : va_W) ++ ((wRow (a 14) (a 15) 24 G (M 7) : va_W) ++ ((wRow (a 16) (a 17) 24 G (M 8) : va_W) ++ (wRow (a 18) (a 19) 24 G (M 9) : va_W)))))))) (mid := (wRow (a 20) (a 21) 24 G (M 10))) (mid' := (wRow (a 20) (a 21) 24 G z)) (post := ((wRow (a 22) (a 23) 24 G (M 11) : va_W) ++ ((wRow (a 24) (a 25) 24 G (M 12) : va_W) ++ ((wSubs a G M : va_W) ++ (wReqs a G M : va_W))))) hP hD hk h1
theorem sX6_11 {D : va_G} {a : Nat → Nat} {G : Nat → ClassId} {M : Nat → Nat → Int32} {H : Heap} (h : va_P D vwCl (wSeas a G M) H) : va_P D vwCl (wRow (a 22) (a 23) 24 G (M 11)) H := jMidP (pre := (([(a 0, .inr (8, [.ref (a 2), .int (M 0 0), .int (M 0 1), .ref (a 36), .ref (a 37), .ref (a 38), .ref (a 39)]))] : va_W) ++ ((wRow (a 2) (a 3) 3 G (M 1) : va_W) ++ ((wProd a G M : va_W) ++ (([(a 37, .inr (4, [.int (M 0 3), .ref (a 14), .ref (a 16), .ref (a 18), .ref (a 20), .ref (a 22), .ref (a 24)]))] : va_W) ++ ((wRow (a 14) (a 15) 24 G (M 7) : va_W) ++ ((wRow (a 16) (a 17) 24 G (M 8) : va_W) ++ ((wRow (a 18) (a 19) 24 G (M 9) : va_W) ++ (wRow (a 20) (a 21) 24 G (M 10) : va_W))))))))) (post := ((wRow (a 24) (a 25) 24 G (M 12) : va_W) ++ ((wSubs a G M : va_W) ++ (wReqs a G M : va_W)))) h
theorem dX6_11 {A : Nat → Prop} {a : Nat → Nat} {G : Nat → ClassId} {M : Nat → Nat → Int32} (h : va_D A (wSeas a G M)) : va_D A (wRow (a 22) (a 23) 24 G (M 11)) := jMidD (pre := (([(a 0, .inr (8, [.ref (a 2), .int (M 0 0), .int (M 0 1), .ref (a 36), .ref (a 37), .ref (a 38), .ref (a 39)]))] : va_W) ++ ((wRow (a 2) (a 3) 3 G (M 1) : va_W) ++ ((wProd a G M : va_W) ++ (([(a 37, .inr (4, [.int (M 0 3), .ref (a 14), .ref (a 16), .ref (a 18), .ref (a 20), .ref (a 22), .ref (a 24)]))] : va_W) ++ ((wRow (a 14) (a 15) 24 G (M 7) : va_W) ++ ((wRow (a 16) (a 17) 24 G (M 8) : va_W) ++ ((wRow (a 18) (a 19) 24 G (M 9) : va_W) ++ (wRow (a 20) (a 21) 24 G (M 10) : va_W))))))))) (post := ((wRow (a 24) (a 25) 24 G (M 12) : va_W) ++ ((wSubs a G M : va_W) ++ (wReqs a G M : va_W)))) h
theorem jX6_11 {D : va_G} {A : Nat → Prop} {a : Nat → Nat} {G : Nat → ClassId} {M : Nat → Nat → Int32} {z : Nat → Int32} {H H1 : Heap} (hP : va_P D vwCl (wSeas a G M) H) (hD : va_D A (wSeas a G M)) (hk : ∀ q : Nat, q < H.size → ¬ va_A (wRow (a 22) (a 23) 24 G (M 11)) H.size q → H1[q]? = H[q]?) (h1 : va_P D vwCl (wRow (a 22) (a 23) 24 G z) H1) : va_P D vwCl (wSeas a G (u1 M 11 z)) H1 := jMidJoin (pre := (([(a 0, .inr (8, [.ref (a 2), .int (M 0 0), .int (M 0 1), .ref (a 36), .ref (a 37), .ref (a 38), .ref (a 39)]))] : va_W) ++ ((wRow (a 2) (a 3) 3 G (M 1) : va_W) ++ ((wProd a G M : va_W) ++ (([(a 37, .inr (4, [.int (M 0 3), .ref (a 14), .ref (a 16), .ref (a 18), .ref (a 20), .ref (a 22), .ref (a 24)]))] : va_W) ++ ((wRow (a 14) (a 15) 24 G (M 7) : va_W) ++ ((wRow (a 16) (a 17) 24 G (M 8) : va_W) ++ ((wRow (a 18) (a 19) 24 G (M 9) : va_W) ++ (wRow (a 20) (a 21) 24 G (M 10) : va_W))))))))) (mid := (wRow (a 22) (a 23) 24 G (M 11))) (mid' := (wRow (a 22) (a 23) 24 G z)) (post := ((wRow (a 24) (a 25) 24 G (M 12) : va_W) ++ ((wSubs a G M : va_W) ++ (wReqs a G M : va_W)))) hP hD hk h1
theorem sX6_12 {D : va_G} {a : Nat → Nat} {G : Nat → ClassId} {M : Nat → Nat → Int32} {H : Heap} (h : va_P D vwCl (wSeas a G M) H) : va_P D vwCl (wRow (a 24) (a 25) 24 G (M 12)) H := jMidP (pre := (([(a 0, .inr (8, [.ref (a 2), .int (M 0 0), .int (M 0 1), .ref (a 36), .ref (a 37), .ref (a 38), .ref (a 39)]))] : va_W) ++ ((wRow (a 2) (a 3) 3 G (M 1) : va_W) ++ ((wProd a G M : va_W) ++ (([(a 37, .inr (4, [.int (M 0 3), .ref (a 14), .ref (a 16), .ref (a 18), .ref (a 20), .ref (a 22), .ref (a 24)]))] : va_W) ++ ((wRow (a 14) (a 15) 24 G (M 7) : va_W) ++ ((wRow (a 16) (a 17) 24 G (M 8) : va_W) ++ ((wRow (a 18) (a 19) 24 G (M 9) : va_W) ++ ((wRow (a 20) (a 21) 24 G (M 10) : va_W) ++ (wRow (a 22) (a 23) 24 G (M 11) : va_W)))))))))) (post := ((wSubs a G M : va_W) ++ (wReqs a G M : va_W))) h
theorem dX6_12 {A : Nat → Prop} {a : Nat → Nat} {G : Nat → ClassId} {M : Nat → Nat → Int32} (h : va_D A (wSeas a G M)) : va_D A (wRow (a 24) (a 25) 24 G (M 12)) := jMidD (pre := (([(a 0, .inr (8, [.ref (a 2), .int (M 0 0), .int (M 0 1), .ref (a 36), .ref (a 37), .ref (a 38), .ref (a 39)]))] : va_W) ++ ((wRow (a 2) (a 3) 3 G (M 1) : va_W) ++ ((wProd a G M : va_W) ++ (([(a 37, .inr (4, [.int (M 0 3), .ref (a 14), .ref (a 16), .ref (a 18), .ref (a 20), .ref (a 22), .ref (a 24)]))] : va_W) ++ ((wRow (a 14) (a 15) 24 G (M 7) : va_W) ++ ((wRow (a 16) (a 17) 24 G (M 8) : va_W) ++ ((wRow (a 18) (a 19) 24 G (M 9) : va_W) ++ ((wRow (a 20) (a 21) 24 G (M 10) : va_W) ++ (wRow (a 22) (a 23) 24 G (M 11) : va_W)))))))))) (post := ((wSubs a G M : va_W) ++ (wReqs a G M : va_W))) h
theorem jX6_12 {D : va_G} {A : Nat → Prop} {a : Nat → Nat} {G : Nat → ClassId} {M : Nat → Nat → Int32} {z : Nat → Int32} {H H1 : Heap} (hP : va_P D vwCl (wSeas a G M) H) (hD : va_D A (wSeas a G M)) (hk : ∀ q : Nat, q < H.size → ¬ va_A (wRow (a 24) (a 25) 24 G (M 12)) H.size q → H1[q]? = H[q]?) (h1 : va_P D vwCl (wRow (a 24) (a 25) 24 G z) H1) : va_P D vwCl (wSeas a G (u1 M 12 z)) H1 := jMidJoin (pre := (([(a 0, .inr (8, [.ref (a 2), .int (M 0 0), .int (M 0 1), .ref (a 36), .ref (a 37), .ref (a 38), .ref (a 39)]))] : va_W) ++ ((wRow (a 2) (a 3) 3 G (M 1) : va_W) ++ ((wProd a G M : va_W) ++ (([(a 37, .inr (4, [.int (M 0 3), .ref (a 14), .ref (a 16), .ref (a 18), .ref (a 20), .ref (a 22), .ref (a 24)]))] : va_W) ++ ((wRow (a 14) (a 15) 24 G (M 7) : va_W) ++ ((wRow (a 16) (a 17) 24 G (M 8) : va_W) ++ ((wRow (a 18) (a 19) 24 G (M 9) : va_W) ++ ((wRow (a 20) (a 21) 24 G (M 10) : va_W) ++ (wRow (a 22) (a 23) 24 G (M 11) : va_W)))))))))) (mid := (wRow (a 24) (a 25) 24 G (M 12))) (mid' := (wRow (a 24) (a 25) 24 G z)) (post := ((wSubs a G M : va_W) ++ (wReqs a G M : va_W))) hP hD hk h1
theorem sX6_X7 {D : va_G} {a : Nat → Nat} {G : Nat → ClassId} {M : Nat → Nat → Int32} {H : Heap} (h : va_P D vwCl (wSeas a G M) H) : va_P D vwCl (wSubs a G M) H := jMidP (pre := (([(a 0, .inr (8, [.ref (a 2), .int (M 0 0), .int (M 0 1), .ref (a 36), .ref (a 37), .ref (a 38), .ref (a 39)]))] : va_W) ++ ((wRow (a 2) (a 3) 3 G (M 1) : va_W) ++ ((wProd a G M : va_W) ++ (wPerf a G M : va_W))))) (post := (wReqs a G M : va_W)) h
theorem dX6_X7 {A : Nat → Prop} {a : Nat → Nat} {G : Nat → ClassId} {M : Nat → Nat → Int32} (h : va_D A (wSeas a G M)) : va_D A (wSubs a G M) := jMidD (pre := (([(a 0, .inr (8, [.ref (a 2), .int (M 0 0), .int (M 0 1), .ref (a 36), .ref (a 37), .ref (a 38), .ref (a 39)]))] : va_W) ++ ((wRow (a 2) (a 3) 3 G (M 1) : va_W) ++ ((wProd a G M : va_W) ++ (wPerf a G M : va_W))))) (post := (wReqs a G M : va_W)) h
theorem jX6_X7 {D : va_G} {A : Nat → Prop} {a : Nat → Nat} {G : Nat → ClassId} {M : Nat → Nat → Int32} {z : Nat → Nat → Int32} {H H1 : Heap} (hP : va_P D vwCl (wSeas a G M) H) (hD : va_D A (wSeas a G M)) (hk : ∀ q : Nat, q < H.size → ¬ va_A (wSubs a G M) H.size q → H1[q]? = H[q]?) (h1 : va_P D vwCl (wSubs a G z) H1) : va_P D vwCl (wSeas a G (mgX7 M z)) H1 := jMidJoin (pre := (([(a 0, .inr (8, [.ref (a 2), .int (M 0 0), .int (M 0 1), .ref (a 36), .ref (a 37), .ref (a 38), .ref (a 39)]))] : va_W) ++ ((wRow (a 2) (a 3) 3 G (M 1) : va_W) ++ ((wProd a G M : va_W) ++ (wPerf a G M : va_W))))) (mid := (wSubs a G M)) (mid' := (wSubs a G z)) (post := (wReqs a G M : va_W)) hP hD hk h1
theorem sX6_13 {D : va_G} {a : Nat → Nat} {G : Nat → ClassId} {M : Nat → Nat → Int32} {H : Heap} (h : va_P D vwCl (wSeas a G M) H) : va_P D vwCl (wRow (a 26) (a 27) 10 G (M 13)) H := jMidP (pre := (([(a 0, .inr (8, [.ref (a 2), .int (M 0 0), .int (M 0 1), .ref (a 36), .ref (a 37), .ref (a 38), .ref (a 39)]))] : va_W) ++ ((wRow (a 2) (a 3) 3 G (M 1) : va_W) ++ ((wProd a G M : va_W) ++ ((wPerf a G M : va_W) ++ ([(a 38, .inr (9, [.int (M 0 4), .ref (a 26), .ref (a 28)]))] : va_W)))))) (post := ((wRow (a 28) (a 29) 10 G (M 14) : va_W) ++ (wReqs a G M : va_W))) h
theorem dX6_13 {A : Nat → Prop} {a : Nat → Nat} {G : Nat → ClassId} {M : Nat → Nat → Int32} (h : va_D A (wSeas a G M)) : va_D A (wRow (a 26) (a 27) 10 G (M 13)) := jMidD (pre := (([(a 0, .inr (8, [.ref (a 2), .int (M 0 0), .int (M 0 1), .ref (a 36), .ref (a 37), .ref (a 38), .ref (a 39)]))] : va_W) ++ ((wRow (a 2) (a 3) 3 G (M 1) : va_W) ++ ((wProd a G M : va_W) ++ ((wPerf a G M : va_W) ++ ([(a 38, .inr (9, [.int (M 0 4), .ref (a 26), .ref (a 28)]))] : va_W)))))) (post := ((wRow (a 28) (a 29) 10 G (M 14) : va_W) ++ (wReqs a G M : va_W))) h
theorem jX6_13 {D : va_G} {A : Nat → Prop} {a : Nat → Nat} {G : Nat → ClassId} {M : Nat → Nat → Int32} {z : Nat → Int32} {H H1 : Heap} (hP : va_P D vwCl (wSeas a G M) H) (hD : va_D A (wSeas a G M)) (hk : ∀ q : Nat, q < H.size → ¬ va_A (wRow (a 26) (a 27) 10 G (M 13)) H.size q → H1[q]? = H[q]?) (h1 : va_P D vwCl (wRow (a 26) (a 27) 10 G z) H1) : va_P D vwCl (wSeas a G (u1 M 13 z)) H1 := jMidJoin (pre := (([(a 0, .inr (8, [.ref (a 2), .int (M 0 0), .int (M 0 1), .ref (a 36), .ref (a 37), .ref (a 38), .ref (a 39)]))] : va_W) ++ ((wRow (a 2) (a 3) 3 G (M 1) : va_W) ++ ((wProd a G M : va_W) ++ ((wPerf a G M : va_W) ++ ([(a 38, .inr (9, [.int (M 0 4), .ref (a 26), .ref (a 28)]))] : va_W)))))) (mid := (wRow (a 26) (a 27) 10 G (M 13))) (mid' := (wRow (a 26) (a 27) 10 G z)) (post := ((wRow (a 28) (a 29) 10 G (M 14) : va_W) ++ (wReqs a G M : va_W))) hP hD hk h1
theorem sX6_14 {D : va_G} {a : Nat → Nat} {G : Nat → ClassId} {M : Nat → Nat → Int32} {H : Heap} (h : va_P D vwCl (wSeas a G M) H) : va_P D vwCl (wRow (a 28) (a 29) 10 G (M 14)) H := jMidP (pre := (([(a 0, .inr (8, [.ref (a 2), .int (M 0 0), .int (M 0 1), .ref (a 36), .ref (a 37), .ref (a 38), .ref (a 39)]))] : va_W) ++ ((wRow (a 2) (a 3) 3 G (M 1) : va_W) ++ ((wProd a G M : va_W) ++ ((wPerf a G M : va_W) ++ (([(a 38, .inr (9, [.int (M 0 4), .ref (a 26), .ref (a 28)]))] : va_W) ++ (wRow (a 26) (a 27) 10 G (M 13) : va_W))))))) (post := (wReqs a G M : va_W)) h
theorem dX6_14 {A : Nat → Prop} {a : Nat → Nat} {G : Nat → ClassId} {M : Nat → Nat → Int32} (h : va_D A (wSeas a G M)) : va_D A (wRow (a 28) (a 29) 10 G (M 14)) := jMidD (pre := (([(a 0, .inr (8, [.ref (a 2), .int (M 0 0), .int (M 0 1), .ref (a 36), .ref (a 37), .ref (a 38), .ref (a 39)]))] : va_W) ++ ((wRow (a 2) (a 3) 3 G (M 1) : va_W) ++ ((wProd a G M : va_W) ++ ((wPerf a G M : va_W) ++ (([(a 38, .inr (9, [.int (M 0 4), .ref (a 26), .ref (a 28)]))] : va_W) ++ (wRow (a 26) (a 27) 10 G (M 13) : va_W))))))) (post := (wReqs a G M : va_W)) h
theorem jX6_14 {D : va_G} {A : Nat → Prop} {a : Nat → Nat} {G : Nat → ClassId} {M : Nat → Nat → Int32} {z : Nat → Int32} {H H1 : Heap} (hP : va_P D vwCl (wSeas a G M) H) (hD : va_D A (wSeas a G M)) (hk : ∀ q : Nat, q < H.size → ¬ va_A (wRow (a 28) (a 29) 10 G (M 14)) H.size q → H1[q]? = H[q]?) (h1 : va_P D vwCl (wRow (a 28) (a 29) 10 G z) H1) : va_P D vwCl (wSeas a G (u1 M 14 z)) H1 := jMidJoin (pre := (([(a 0, .inr (8, [.ref (a 2), .int (M 0 0), .int (M 0 1), .ref (a 36), .ref (a 37), .ref (a 38), .ref (a 39)]))] : va_W) ++ ((wRow (a 2) (a 3) 3 G (M 1) : va_W) ++ ((wProd a G M : va_W) ++ ((wPerf a G M : va_W) ++ (([(a 38, .inr (9, [.int (M 0 4), .ref (a 26), .ref (a 28)]))] : va_W) ++ (wRow (a 26) (a 27) 10 G (M 13) : va_W))))))) (mid := (wRow (a 28) (a 29) 10 G (M 14))) (mid' := (wRow (a 28) (a 29) 10 G z)) (post := (wReqs a G M : va_W)) hP hD hk h1
theorem sX6_X4 {D : va_G} {a : Nat → Nat} {G : Nat → ClassId} {M : Nat → Nat → Int32} {H : Heap} (h : va_P D vwCl (wSeas a G M) H) : va_P D vwCl (wReqs a G M) H := jMidP (pre := (([(a 0, .inr (8, [.ref (a 2), .int (M 0 0), .int (M 0 1), .ref (a 36), .ref (a 37), .ref (a 38), .ref (a 39)]))] : va_W) ++ ((wRow (a 2) (a 3) 3 G (M 1) : va_W) ++ ((wProd a G M : va_W) ++ ((wPerf a G M : va_W) ++ (wSubs a G M : va_W)))))) (post := ([] : va_W)) h
theorem dX6_X4 {A : Nat → Prop} {a : Nat → Nat} {G : Nat → ClassId} {M : Nat → Nat → Int32} (h : va_D A (wSeas a G M)) : va_D A (wReqs a G M) := jMidD (pre := (([(a 0, .inr (8, [.ref (a 2), .int (M 0 0), .int (M 0 1), .ref (a 36), .ref (a 37), .ref (a 38), .ref (a 39)]))] : va_W) ++ ((wRow (a 2) (a 3) 3 G (M 1) : va_W) ++ ((wProd a G M : va_W) ++ ((wPerf a G M : va_W) ++ (wSubs a G M : va_W)))))) (post := ([] : va_W)) h
theorem jX6_X4 {D : va_G} {A : Nat → Prop} {a : Nat → Nat} {G : Nat → ClassId} {M : Nat → Nat → Int32} {z : Nat → Nat → Int32} {H H1 : Heap} (hP : va_P D vwCl (wSeas a G M) H) (hD : va_D A (wSeas a G M)) (hk : ∀ q : Nat, q < H.size → ¬ va_A (wReqs a G M) H.size q → H1[q]? = H[q]?) (h1 : va_P D vwCl (wReqs a G z) H1) : va_P D vwCl (wSeas a G (mgX4 M z)) H1 := jMidJoin (pre := (([(a 0, .inr (8, [.ref (a 2), .int (M 0 0), .int (M 0 1), .ref (a 36), .ref (a 37), .ref (a 38), .ref (a 39)]))] : va_W) ++ ((wRow (a 2) (a 3) 3 G (M 1) : va_W) ++ ((wProd a G M : va_W) ++ ((wPerf a G M : va_W) ++ (wSubs a G M : va_W)))))) (mid := (wReqs a G M)) (mid' := (wReqs a G z)) (post := ([] : va_W)) hP hD hk h1
theorem sX6_15 {D : va_G} {a : Nat → Nat} {G : Nat → ClassId} {M : Nat → Nat → Int32} {H : Heap} (h : va_P D vwCl (wSeas a G M) H) : va_P D vwCl (wRow (a 30) (a 31) 20 G (M 15)) H := jMidP (pre := (([(a 0, .inr (8, [.ref (a 2), .int (M 0 0), .int (M 0 1), .ref (a 36), .ref (a 37), .ref (a 38), .ref (a 39)]))] : va_W) ++ ((wRow (a 2) (a 3) 3 G (M 1) : va_W) ++ ((wProd a G M : va_W) ++ ((wPerf a G M : va_W) ++ ((wSubs a G M : va_W) ++ ([(a 39, .inr (6, [.int (M 0 5), .ref (a 30), .ref (a 32), .ref (a 34)]))] : va_W))))))) (post := ((wRow (a 32) (a 33) 20 G (M 16) : va_W) ++ (wRow (a 34) (a 35) 20 G (M 17) : va_W))) h
theorem dX6_15 {A : Nat → Prop} {a : Nat → Nat} {G : Nat → ClassId} {M : Nat → Nat → Int32} (h : va_D A (wSeas a G M)) : va_D A (wRow (a 30) (a 31) 20 G (M 15)) := jMidD (pre := (([(a 0, .inr (8, [.ref (a 2), .int (M 0 0), .int (M 0 1), .ref (a 36), .ref (a 37), .ref (a 38), .ref (a 39)]))] : va_W) ++ ((wRow (a 2) (a 3) 3 G (M 1) : va_W) ++ ((wProd a G M : va_W) ++ ((wPerf a G M : va_W) ++ ((wSubs a G M : va_W) ++ ([(a 39, .inr (6, [.int (M 0 5), .ref (a 30), .ref (a 32), .ref (a 34)]))] : va_W))))))) (post := ((wRow (a 32) (a 33) 20 G (M 16) : va_W) ++ (wRow (a 34) (a 35) 20 G (M 17) : va_W))) h
theorem jX6_15 {D : va_G} {A : Nat → Prop} {a : Nat → Nat} {G : Nat → ClassId} {M : Nat → Nat → Int32} {z : Nat → Int32} {H H1 : Heap} (hP : va_P D vwCl (wSeas a G M) H) (hD : va_D A (wSeas a G M)) (hk : ∀ q : Nat, q < H.size → ¬ va_A (wRow (a 30) (a 31) 20 G (M 15)) H.size q → H1[q]? = H[q]?) (h1 : va_P D vwCl (wRow (a 30) (a 31) 20 G z) H1) : va_P D vwCl (wSeas a G (u1 M 15 z)) H1 := jMidJoin (pre := (([(a 0, .inr (8, [.ref (a 2), .int (M 0 0), .int (M 0 1), .ref (a 36), .ref (a 37), .ref (a 38), .ref (a 39)]))] : va_W) ++ ((wRow (a 2) (a 3) 3 G (M 1) : va_W) ++ ((wProd a G M : va_W) ++ ((wPerf a G M : va_W) ++ ((wSubs a G M : va_W) ++ ([(a 39, .inr (6, [.int (M 0 5), .ref (a 30), .ref (a 32), .ref (a 34)]))] : va_W))))))) (mid := (wRow (a 30) (a 31) 20 G (M 15))) (mid' := (wRow (a 30) (a 31) 20 G z)) (post := ((wRow (a 32) (a 33) 20 G (M 16) : va_W) ++ (wRow (a 34) (a 35) 20 G (M 17) : va_W))) hP hD hk h1
theorem sX6_16 {D : va_G} {a : Nat → Nat} {G : Nat → ClassId} {M : Nat → Nat → Int32} {H : Heap} (h : va_P D vwCl (wSeas a G M) H) : va_P D vwCl (wRow (a 32) (a 33) 20 G (M 16)) H := jMidP (pre := (([(a 0, .inr (8, [.ref (a 2), .int (M 0 0), .int (M 0 1), .ref (a 36), .ref (a 37), .ref (a 38), .ref (a 39)]))] : va_W) ++ ((wRow (a 2) (a 3) 3 G (M 1) : va_W) ++ ((wProd a G M : va_W) ++ ((wPerf a G M : va_W) ++ ((wSubs a G M : va_W) ++ (([(a 39, .inr (6, [.int (M 0 5), .ref (a 30), .ref (a 32), .ref (a 34)]))] : va_W) ++ (wRow (a 30) (a 31) 20 G (M 15) : va_W)))))))) (post := (wRow (a 34) (a 35) 20 G (M 17) : va_W)) h
theorem dX6_16 {A : Nat → Prop} {a : Nat → Nat} {G : Nat → ClassId} {M : Nat → Nat → Int32} (h : va_D A (wSeas a G M)) : va_D A (wRow (a 32) (a 33) 20 G (M 16)) := jMidD (pre := (([(a 0, .inr (8, [.ref (a 2), .int (M 0 0), .int (M 0 1), .ref (a 36), .ref (a 37), .ref (a 38), .ref (a 39)]))] : va_W) ++ ((wRow (a 2) (a 3) 3 G (M 1) : va_W) ++ ((wProd a G M : va_W) ++ ((wPerf a G M : va_W) ++ ((wSubs a G M : va_W) ++ (([(a 39, .inr (6, [.int (M 0 5), .ref (a 30), .ref (a 32), .ref (a 34)]))] : va_W) ++ (wRow (a 30) (a 31) 20 G (M 15) : va_W)))))))) (post := (wRow (a 34) (a 35) 20 G (M 17) : va_W)) h
theorem jX6_16 {D : va_G} {A : Nat → Prop} {a : Nat → Nat} {G : Nat → ClassId} {M : Nat → Nat → Int32} {z : Nat → Int32} {H H1 : Heap} (hP : va_P D vwCl (wSeas a G M) H) (hD : va_D A (wSeas a G M)) (hk : ∀ q : Nat, q < H.size → ¬ va_A (wRow (a 32) (a 33) 20 G (M 16)) H.size q → H1[q]? = H[q]?) (h1 : va_P D vwCl (wRow (a 32) (a 33) 20 G z) H1) : va_P D vwCl (wSeas a G (u1 M 16 z)) H1 := jMidJoin (pre := (([(a 0, .inr (8, [.ref (a 2), .int (M 0 0), .int (M 0 1), .ref (a 36), .ref (a 37), .ref (a 38), .ref (a 39)]))] : va_W) ++ ((wRow (a 2) (a 3) 3 G (M 1) : va_W) ++ ((wProd a G M : va_W) ++ ((wPerf a G M : va_W) ++ ((wSubs a G M : va_W) ++ (([(a 39, .inr (6, [.int (M 0 5), .ref (a 30), .ref (a 32), .ref (a 34)]))] : va_W) ++ (wRow (a 30) (a 31) 20 G (M 15) : va_W)))))))) (mid := (wRow (a 32) (a 33) 20 G (M 16))) (mid' := (wRow (a 32) (a 33) 20 G z)) (post := (wRow (a 34) (a 35) 20 G (M 17) : va_W)) hP hD hk h1
theorem sX6_17 {D : va_G} {a : Nat → Nat} {G : Nat → ClassId} {M : Nat → Nat → Int32} {H : Heap} (h : va_P D vwCl (wSeas a G M) H) : va_P D vwCl (wRow (a 34) (a 35) 20 G (M 17)) H := jMidP (pre := (([(a 0, .inr (8, [.ref (a 2), .int (M 0 0), .int (M 0 1), .ref (a 36), .ref (a 37), .ref (a 38), .ref (a 39)]))] : va_W) ++ ((wRow (a 2) (a 3) 3 G (M 1) : va_W) ++ ((wProd a G M : va_W) ++ ((wPerf a G M : va_W) ++ ((wSubs a G M : va_W) ++ (([(a 39, .inr (6, [.int (M 0 5), .ref (a 30), .ref (a 32), .ref (a 34)]))] : va_W) ++ ((wRow (a 30) (a 31) 20 G (M 15) : va_W) ++ (wRow (a 32) (a 33) 20 G (M 16) : va_W))))))))) (post := ([] : va_W)) h
theorem dX6_17 {A : Nat → Prop} {a : Nat → Nat} {G : Nat → ClassId} {M : Nat → Nat → Int32} (h : va_D A (wSeas a G M)) : va_D A (wRow (a 34) (a 35) 20 G (M 17)) := jMidD (pre := (([(a 0, .inr (8, [.ref (a 2), .int (M 0 0), .int (M 0 1), .ref (a 36), .ref (a 37), .ref (a 38), .ref (a 39)]))] : va_W) ++ ((wRow (a 2) (a 3) 3 G (M 1) : va_W) ++ ((wProd a G M : va_W) ++ ((wPerf a G M : va_W) ++ ((wSubs a G M : va_W) ++ (([(a 39, .inr (6, [.int (M 0 5), .ref (a 30), .ref (a 32), .ref (a 34)]))] : va_W) ++ ((wRow (a 30) (a 31) 20 G (M 15) : va_W) ++ (wRow (a 32) (a 33) 20 G (M 16) : va_W))))))))) (post := ([] : va_W)) h
theorem jX6_17 {D : va_G} {A : Nat → Prop} {a : Nat → Nat} {G : Nat → ClassId} {M : Nat → Nat → Int32} {z : Nat → Int32} {H H1 : Heap} (hP : va_P D vwCl (wSeas a G M) H) (hD : va_D A (wSeas a G M)) (hk : ∀ q : Nat, q < H.size → ¬ va_A (wRow (a 34) (a 35) 20 G (M 17)) H.size q → H1[q]? = H[q]?) (h1 : va_P D vwCl (wRow (a 34) (a 35) 20 G z) H1) : va_P D vwCl (wSeas a G (u1 M 17 z)) H1 := jMidJoin (pre := (([(a 0, .inr (8, [.ref (a 2), .int (M 0 0), .int (M 0 1), .ref (a 36), .ref (a 37), .ref (a 38), .ref (a 39)]))] : va_W) ++ ((wRow (a 2) (a 3) 3 G (M 1) : va_W) ++ ((wProd a G M : va_W) ++ ((wPerf a G M : va_W) ++ ((wSubs a G M : va_W) ++ (([(a 39, .inr (6, [.int (M 0 5), .ref (a 30), .ref (a 32), .ref (a 34)]))] : va_W) ++ ((wRow (a 30) (a 31) 20 G (M 15) : va_W) ++ (wRow (a 32) (a 33) 20 G (M 16) : va_W))))))))) (mid := (wRow (a 34) (a 35) 20 G (M 17))) (mid' := (wRow (a 34) (a 35) 20 G z)) (post := ([] : va_W)) hP hD hk h1
theorem jy_J6_bitCount_0f7a4 : jY yJ6_bitCount_0f7a4 cJ6_bitCount_0f7a4 1 (some .int) 1 := ⟨by decide +kernel, jq_17_2, jq_17_1⟩
def F_J6_bitCount_0f7a4 (N : Nat)  (v0 : Int32) : Option Int32 := (jlet (v0 - ((v0.toUInt32 >>> ((1 : Int32).toUInt32 &&& Int32.toUInt32 31)).toInt32 &&& (1431655765 : Int32))) (fun x1 => (jlet ((x1 &&& (858993459 : Int32)) + ((x1.toUInt32 >>> ((2 : Int32).toUInt32 &&& Int32.toUInt32 31)).toInt32 &&& (858993459 : Int32))) (fun x3 => (jlet ((x3 + (x3.toUInt32 >>> ((4 : Int32).toUInt32 &&& Int32.toUInt32 31)).toInt32) &&& (252645135 : Int32)) (fun x5 => (jlet (x5 + (x5.toUInt32 >>> ((8 : Int32).toUInt32 &&& Int32.toUInt32 31)).toInt32) (fun x7 => (jlet (x7 + (x7.toUInt32 >>> ((16 : Int32).toUInt32 &&& Int32.toUInt32 31)).toInt32) (fun x9 => (some (x9 &&& (63 : Int32)))))))))))))
set_option maxHeartbeats 4000000 in
set_option maxRecDepth 100000 in
theorem k_J6_bitCount_0f7a4 (l : Launch) (D : va_G) (G : Nat → ClassId)  (N : Nat) (v0 : Int32) (r : Int32) (hV : F_J6_bitCount_0f7a4 N  v0 = some r) : pM l yJ6_bitCount_0f7a4 (jws yJ6_bitCount_0f7a4 cJ6_bitCount_0f7a4 1 (some .int)) ({ frames := 0, cells := 0, slots := 0, locals := 0 } : Room) [.int v0] D G ([] : va_W) (some (.int r)) := by
  refine pM_of (by decide +kernel) (Nat.le_of_ble_eq_true rfl) (fun p e s m args below meth c ls C hP hl => ?_)
  have C : Cx p s m args meth c cJ6_bitCount_0f7a4 1 RJ6 (some .int) D G := C
  obtain ⟨hx, hb, hr, hml, hts, hown, hlocks, hK0⟩ := id C
  have hK := hK0.1
  have hl : lv_has ls 1 [(0, .int v0)] := hl
  rw [F_J6_bitCount_0f7a4] at hV
  refine lv_iload_n hx hb dJ6_bitCount_0f7a4_0 rfl (lv_at hl 0 rfl) ?_
  refine lv_iload_n hx hb dJ6_bitCount_0f7a4_1 rfl (lv_at hl 0 rfl) ?_
  refine lv_iconst (v := 1) hx hb dJ6_bitCount_0f7a4_2 (by decide) ?_
  refine lv_iushr hx hb dJ6_bitCount_0f7a4_3 rfl ?_
  refine lv_ldcw hx hb hown (hts _ jq_17_3) dJ6_bitCount_0f7a4_4 ?_
  refine lv_iand hx hb dJ6_bitCount_0f7a4_7 ?_
  refine lv_isub hx hb dJ6_bitCount_0f7a4_8 ?_
  obtain ⟨x1, e2, hV⟩ := jLet hV
  rw [← e2]
  refine lv_istore_n (lv' := [(0, .int x1)]) hx hb dJ6_bitCount_0f7a4_9 rfl hl (by decide) rfl (fun ls hl => ?_)
  refine lv_iload_n hx hb dJ6_bitCount_0f7a4_10 rfl (lv_at hl 0 rfl) ?_
  refine lv_ldcw hx hb hown (hts _ jq_17_4) dJ6_bitCount_0f7a4_11 ?_
  refine lv_iand hx hb dJ6_bitCount_0f7a4_14 ?_
  refine lv_iload_n hx hb dJ6_bitCount_0f7a4_15 rfl (lv_at hl 0 rfl) ?_
  refine lv_iconst (v := 2) hx hb dJ6_bitCount_0f7a4_16 (by decide) ?_
  refine lv_iushr hx hb dJ6_bitCount_0f7a4_17 rfl ?_
  refine lv_ldcw hx hb hown (hts _ jq_17_4) dJ6_bitCount_0f7a4_18 ?_
  refine lv_iand hx hb dJ6_bitCount_0f7a4_21 ?_
  refine lv_iadd hx hb dJ6_bitCount_0f7a4_22 ?_
  obtain ⟨x3, e4, hV⟩ := jLet hV
  rw [← e4]
  refine lv_istore_n (lv' := [(0, .int x3)]) hx hb dJ6_bitCount_0f7a4_23 rfl hl (by decide) rfl (fun ls hl => ?_)
  refine lv_iload_n hx hb dJ6_bitCount_0f7a4_24 rfl (lv_at hl 0 rfl) ?_
  refine lv_iload_n hx hb dJ6_bitCount_0f7a4_25 rfl (lv_at hl 0 rfl) ?_
  refine lv_iconst (v := 4) hx hb dJ6_bitCount_0f7a4_26 (by decide) ?_
  refine lv_iushr hx hb dJ6_bitCount_0f7a4_27 rfl ?_
  refine lv_iadd hx hb dJ6_bitCount_0f7a4_28 ?_
  refine lv_ldcw hx hb hown (hts _ jq_17_5) dJ6_bitCount_0f7a4_29 ?_
  refine lv_iand hx hb dJ6_bitCount_0f7a4_32 ?_
  obtain ⟨x5, e6, hV⟩ := jLet hV
  rw [← e6]
  refine lv_istore_n (lv' := [(0, .int x5)]) hx hb dJ6_bitCount_0f7a4_33 rfl hl (by decide) rfl (fun ls hl => ?_)
  refine lv_iload_n hx hb dJ6_bitCount_0f7a4_34 rfl (lv_at hl 0 rfl) ?_
  refine lv_iload_n hx hb dJ6_bitCount_0f7a4_35 rfl (lv_at hl 0 rfl) ?_
  refine lv_bipush (v := 8) hx hb dJ6_bitCount_0f7a4_36 (by decide) ?_
  refine lv_iushr hx hb dJ6_bitCount_0f7a4_38 rfl ?_
  refine lv_iadd hx hb dJ6_bitCount_0f7a4_39 ?_
  obtain ⟨x7, e8, hV⟩ := jLet hV
  rw [← e8]
  refine lv_istore_n (lv' := [(0, .int x7)]) hx hb dJ6_bitCount_0f7a4_40 rfl hl (by decide) rfl (fun ls hl => ?_)
  refine lv_iload_n hx hb dJ6_bitCount_0f7a4_41 rfl (lv_at hl 0 rfl) ?_
  refine lv_iload_n hx hb dJ6_bitCount_0f7a4_42 rfl (lv_at hl 0 rfl) ?_
  refine lv_bipush (v := 16) hx hb dJ6_bitCount_0f7a4_43 (by decide) ?_
  refine lv_iushr hx hb dJ6_bitCount_0f7a4_45 rfl ?_
  refine lv_iadd hx hb dJ6_bitCount_0f7a4_46 ?_
  obtain ⟨x9, e10, hV⟩ := jLet hV
  rw [← e10]
  refine lv_istore_n (lv' := [(0, .int x9)]) hx hb dJ6_bitCount_0f7a4_47 rfl hl (by decide) rfl (fun ls hl => ?_)
  refine lv_iload_n hx hb dJ6_bitCount_0f7a4_48 rfl (lv_at hl 0 rfl) ?_
  refine lv_bipush (v := 63) hx hb dJ6_bitCount_0f7a4_49 (by decide) ?_
  refine lv_iand hx hb dJ6_bitCount_0f7a4_51 ?_
  exact pRet C rfl dJ6_bitCount_0f7a4_52 rfl (Option.some.inj hV)
theorem jy_X8_isWithin : jY yX8_isWithin cX8_isWithin 3 (some .boolean) 3 := ⟨by decide +kernel, jq_10_21, jq_1_2⟩
def F_X8_isWithin (N : Nat)  (v0 v1 v2 : Int32) : Option Int32 := (if v0 < v1 then (some (0 : Int32)) else (if v2 < v0 then (some (0 : Int32)) else (some (1 : Int32))))
set_option maxHeartbeats 4000000 in
set_option maxRecDepth 100000 in
theorem k_X8_isWithin (l : Launch) (D : va_G) (G : Nat → ClassId)  (N : Nat) (v0 v1 v2 : Int32) (r : Int32) (hV : F_X8_isWithin N  v0 v1 v2 = some r) : pM l yX8_isWithin (jws yX8_isWithin cX8_isWithin 3 (some .boolean)) ({ frames := 0, cells := 0, slots := 0, locals := 0 } : Room) [.int v0, .int v1, .int v2] D G ([] : va_W) (some (.int r)) := by
  refine pM_of (by decide +kernel) (Nat.le_of_ble_eq_true rfl) (fun p e s m args below meth c ls C hP hl => ?_)
  have C : Cx p s m args meth c cX8_isWithin 3 RX8 (some .boolean) D G := C
  obtain ⟨hx, hb, hr, hml, hts, hown, hlocks, hK0⟩ := id C
  have hK := hK0.1
  have hl : lv_has ls 3 [(0, .int v0), (1, .int v1), (2, .int v2)] := hl
  rw [F_X8_isWithin] at hV
  refine lv_iload_n hx hb dX8_isWithin_0 rfl (lv_at hl 0 rfl) ?_
  refine lv_iload_n hx hb dX8_isWithin_1 rfl (lv_at hl 1 rfl) ?_
  refine lv_icmp_lt (tgt := 14) hx hb dX8_isWithin_2 (by decide) (fun c2 => ?_) (fun c2 => ?_)
  · have hV := jT1 hV c2
    refine lv_iconst (v := 0) hx hb dX8_isWithin_14 (by decide) ?_
    exact pRet C rfl dX8_isWithin_15 rfl (Option.some.inj hV)
  · have hV := jF1 hV c2
    refine lv_iload_n hx hb dX8_isWithin_5 rfl (lv_at hl 0 rfl) ?_
    refine lv_iload_n hx hb dX8_isWithin_6 rfl (lv_at hl 2 rfl) ?_
    refine lv_icmp_gt (tgt := 14) hx hb dX8_isWithin_7 (by decide) (fun c1 => ?_) (fun c1 => ?_)
    · have hV := jT1 hV c1
      refine lv_iconst (v := 0) hx hb dX8_isWithin_14 (by decide) ?_
      exact pRet C rfl dX8_isWithin_15 rfl (Option.some.inj hV)
    · have hV := jF1 hV c1
      refine lv_iconst (v := 1) hx hb dX8_isWithin_10 (by decide) ?_
      refine lv_goto (tgt := 15) hx hb dX8_isWithin_11 (by decide) ?_
      exact pRet C rfl dX8_isWithin_15 rfl (Option.some.inj hV)
theorem jy_X8_isStage : jY yX8_isStage cX8_isStage 1 (some .boolean) 1 := ⟨by decide +kernel, jq_13_1, jq_1_2⟩
def F_X8_isStage (N : Nat)  (v0 : Int32) : Option Int32 := ((F_X8_isWithin N  v0 (0 : Int32) (2 : Int32)).bind (fun r1 => (if isB r1 = true then (some r1) else none)))
set_option maxHeartbeats 4000000 in
set_option maxRecDepth 100000 in
theorem k_X8_isStage (l : Launch) (D : va_G) (G : Nat → ClassId)  (N : Nat) (v0 : Int32) (r : Int32) (hV : F_X8_isStage N  v0 = some r) : pM l yX8_isStage (jws yX8_isStage cX8_isStage 1 (some .boolean)) ({ frames := 1, cells := 0, slots := 0, locals := 22 } : Room) [.int v0] D G ([] : va_W) (some (.int r)) := by
  refine pM_of (by decide +kernel) (Nat.le_of_ble_eq_true rfl) (fun p e s m args below meth c ls C hP hl => ?_)
  have C : Cx p s m args meth c cX8_isStage 1 RX8 (some .boolean) D G := C
  obtain ⟨hx, hb, hr, hml, hts, hown, hlocks, hK0⟩ := id C
  have hK := hK0.1
  have hl : lv_has ls 1 [(0, .int v0)] := hl
  rw [F_X8_isStage] at hV
  refine lv_iload_n hx hb dX8_isStage_0 rfl (lv_at hl 0 rfl) ?_
  refine lv_iconst (v := 0) hx hb dX8_isStage_1 (by decide) ?_
  refine lv_iconst (v := 2) hx hb dX8_isStage_2 (by decide) ?_
  obtain ⟨r1, hr1, hV⟩ := jBind hV
  refine jSpI C dX8_isStage_3 (k_X8_isWithin l D G  N  v0 (0 : Int32) (2 : Int32) r1 hr1) jy_X8_isWithin jq_13_2 jq_10_20 ⟨rfl, rfl, Nat.le_of_ble_eq_true rfl, Nat.le_of_ble_eq_true rfl⟩ ⟨Nat.le_of_ble_eq_true rfl, Nat.le_of_ble_eq_true rfl⟩ jE  hl (rest := []) rfl (Nat.le_of_ble_eq_true rfl) ?_
  obtain ⟨g2, hV⟩ := jIf hV
  exact pRet C rfl dX8_isStage_6 (isB_n g2) (Option.some.inj hV)
theorem jy_X8_isDate : jY yX8_isDate cX8_isDate 1 (some .boolean) 1 := ⟨by decide +kernel, jq_13_4, jq_1_2⟩
def F_X8_isDate (N : Nat)  (v0 : Int32) : Option Int32 := ((F_X8_isWithin N  v0 (0 : Int32) (29 : Int32)).bind (fun r1 => (if isB r1 = true then (some r1) else none)))
set_option maxHeartbeats 4000000 in
set_option maxRecDepth 100000 in
theorem k_X8_isDate (l : Launch) (D : va_G) (G : Nat → ClassId)  (N : Nat) (v0 : Int32) (r : Int32) (hV : F_X8_isDate N  v0 = some r) : pM l yX8_isDate (jws yX8_isDate cX8_isDate 1 (some .boolean)) ({ frames := 1, cells := 0, slots := 0, locals := 22 } : Room) [.int v0] D G ([] : va_W) (some (.int r)) := by
  refine pM_of (by decide +kernel) (Nat.le_of_ble_eq_true rfl) (fun p e s m args below meth c ls C hP hl => ?_)
  have C : Cx p s m args meth c cX8_isDate 1 RX8 (some .boolean) D G := C
  obtain ⟨hx, hb, hr, hml, hts, hown, hlocks, hK0⟩ := id C
  have hK := hK0.1
  have hl : lv_has ls 1 [(0, .int v0)] := hl
  rw [F_X8_isDate] at hV
  refine lv_iload_n hx hb dX8_isDate_0 rfl (lv_at hl 0 rfl) ?_
  refine lv_iconst (v := 0) hx hb dX8_isDate_1 (by decide) ?_
  refine lv_bipush (v := 29) hx hb dX8_isDate_2 (by decide) ?_
  obtain ⟨r1, hr1, hV⟩ := jBind hV
  refine jSpI C dX8_isDate_4 (k_X8_isWithin l D G  N  v0 (0 : Int32) (29 : Int32) r1 hr1) jy_X8_isWithin jq_13_2 jq_10_20 ⟨rfl, rfl, Nat.le_of_ble_eq_true rfl, Nat.le_of_ble_eq_true rfl⟩ ⟨Nat.le_of_ble_eq_true rfl, Nat.le_of_ble_eq_true rfl⟩ jE  hl (rest := []) rfl (Nat.le_of_ble_eq_true rfl) ?_
  obtain ⟨g2, hV⟩ := jIf hV
  exact pRet C rfl dX8_isDate_7 (isB_n g2) (Option.some.inj hV)
theorem jy_X8_isSeatKind : jY yX8_isSeatKind cX8_isSeatKind 1 (some .boolean) 1 := ⟨by decide +kernel, jq_21_1, jq_1_2⟩
def F_X8_isSeatKind (N : Nat)  (v0 : Int32) : Option Int32 := ((F_X8_isWithin N  v0 (0 : Int32) (2 : Int32)).bind (fun r1 => (if isB r1 = true then (some r1) else none)))
set_option maxHeartbeats 4000000 in
set_option maxRecDepth 100000 in
theorem k_X8_isSeatKind (l : Launch) (D : va_G) (G : Nat → ClassId)  (N : Nat) (v0 : Int32) (r : Int32) (hV : F_X8_isSeatKind N  v0 = some r) : pM l yX8_isSeatKind (jws yX8_isSeatKind cX8_isSeatKind 1 (some .boolean)) ({ frames := 1, cells := 0, slots := 0, locals := 22 } : Room) [.int v0] D G ([] : va_W) (some (.int r)) := by
  refine pM_of (by decide +kernel) (Nat.le_of_ble_eq_true rfl) (fun p e s m args below meth c ls C hP hl => ?_)
  have C : Cx p s m args meth c cX8_isSeatKind 1 RX8 (some .boolean) D G := C
  obtain ⟨hx, hb, hr, hml, hts, hown, hlocks, hK0⟩ := id C
  have hK := hK0.1
  have hl : lv_has ls 1 [(0, .int v0)] := hl
  rw [F_X8_isSeatKind] at hV
  refine lv_iload_n hx hb dX8_isSeatKind_0 rfl (lv_at hl 0 rfl) ?_
  refine lv_iconst (v := 0) hx hb dX8_isSeatKind_1 (by decide) ?_
  refine lv_iconst (v := 2) hx hb dX8_isSeatKind_2 (by decide) ?_
  obtain ⟨r1, hr1, hV⟩ := jBind hV
  refine jSpI C dX8_isSeatKind_3 (k_X8_isWithin l D G  N  v0 (0 : Int32) (2 : Int32) r1 hr1) jy_X8_isWithin jq_13_2 jq_10_20 ⟨rfl, rfl, Nat.le_of_ble_eq_true rfl, Nat.le_of_ble_eq_true rfl⟩ ⟨Nat.le_of_ble_eq_true rfl, Nat.le_of_ble_eq_true rfl⟩ jE  hl (rest := []) rfl (Nat.le_of_ble_eq_true rfl) ?_
  obtain ⟨g2, hV⟩ := jIf hV
  exact pRet C rfl dX8_isSeatKind_6 (isB_n g2) (Option.some.inj hV)
theorem jy_X8_refusal : jY yX8_refusal cX8_refusal 2 (some .int) 2 := ⟨by decide +kernel, jq_13_14, jq_1_2⟩
def F_X8_refusal (N : Nat)  (v0 v1 : Int32) : Option Int32 := (some (-((v0 * (1000 : Int32)) + v1)))
set_option maxHeartbeats 4000000 in
set_option maxRecDepth 100000 in
theorem k_X8_refusal (l : Launch) (D : va_G) (G : Nat → ClassId)  (N : Nat) (v0 v1 : Int32) (r : Int32) (hV : F_X8_refusal N  v0 v1 = some r) : pM l yX8_refusal (jws yX8_refusal cX8_refusal 2 (some .int)) ({ frames := 0, cells := 0, slots := 0, locals := 0 } : Room) [.int v0, .int v1] D G ([] : va_W) (some (.int r)) := by
  refine pM_of (by decide +kernel) (Nat.le_of_ble_eq_true rfl) (fun p e s m args below meth c ls C hP hl => ?_)
  have C : Cx p s m args meth c cX8_refusal 2 RX8 (some .int) D G := C
  obtain ⟨hx, hb, hr, hml, hts, hown, hlocks, hK0⟩ := id C
  have hK := hK0.1
  have hl : lv_has ls 2 [(0, .int v0), (1, .int v1)] := hl
  rw [F_X8_refusal] at hV
  refine lv_iload_n hx hb dX8_refusal_0 rfl (lv_at hl 0 rfl) ?_
  refine lv_sipush (v := 1000) hx hb dX8_refusal_1 (by decide) ?_
  refine lv_imul hx hb dX8_refusal_4 ?_
  refine lv_iload_n hx hb dX8_refusal_5 rfl (lv_at hl 1 rfl) ?_
  refine lv_iadd hx hb dX8_refusal_6 ?_
  refine lv_ineg hx hb dX8_refusal_7 ?_
  exact pRet C rfl dX8_refusal_8 rfl (Option.some.inj hV)
theorem jy_X8_isInSet : jY yX8_isInSet cX8_isInSet 2 (some .boolean) 2 := ⟨by decide +kernel, jq_14_8, jq_1_2⟩
def F_X8_isInSet (N : Nat)  (v0 v1 : Int32) : Option Int32 := (if ((v0 >>> (v1 &&& 31)) &&& (1 : Int32)) = 0 then (some (0 : Int32)) else (some (1 : Int32)))
set_option maxHeartbeats 4000000 in
set_option maxRecDepth 100000 in
theorem k_X8_isInSet (l : Launch) (D : va_G) (G : Nat → ClassId)  (N : Nat) (v0 v1 : Int32) (r : Int32) (hV : F_X8_isInSet N  v0 v1 = some r) : pM l yX8_isInSet (jws yX8_isInSet cX8_isInSet 2 (some .boolean)) ({ frames := 0, cells := 0, slots := 0, locals := 0 } : Room) [.int v0, .int v1] D G ([] : va_W) (some (.int r)) := by
  refine pM_of (by decide +kernel) (Nat.le_of_ble_eq_true rfl) (fun p e s m args below meth c ls C hP hl => ?_)
  have C : Cx p s m args meth c cX8_isInSet 2 RX8 (some .boolean) D G := C
  obtain ⟨hx, hb, hr, hml, hts, hown, hlocks, hK0⟩ := id C
  have hK := hK0.1
  have hl : lv_has ls 2 [(0, .int v0), (1, .int v1)] := hl
  rw [F_X8_isInSet] at hV
  refine lv_iload_n hx hb dX8_isInSet_0 rfl (lv_at hl 0 rfl) ?_
  refine lv_iload_n hx hb dX8_isInSet_1 rfl (lv_at hl 1 rfl) ?_
  refine lv_ishr hx hb dX8_isInSet_2 ?_
  refine lv_iconst (v := 1) hx hb dX8_isInSet_3 (by decide) ?_
  refine lv_iand hx hb dX8_isInSet_4 ?_
  refine lv_if_eq (tgt := 12) hx hb dX8_isInSet_5 (by decide) (fun c1 => ?_) (fun c1 => ?_)
  · have hV := jT1 hV c1
    refine lv_iconst (v := 0) hx hb dX8_isInSet_12 (by decide) ?_
    exact pRet C rfl dX8_isInSet_13 rfl (Option.some.inj hV)
  · have hV := jF1 hV c1
    refine lv_iconst (v := 1) hx hb dX8_isInSet_8 (by decide) ?_
    refine lv_goto (tgt := 13) hx hb dX8_isInSet_9 (by decide) ?_
    exact pRet C rfl dX8_isInSet_13 rfl (Option.some.inj hV)
theorem jy_X8_firstDate : jY yX8_firstDate cX8_firstDate 2 (some .int) 1 := ⟨by decide +kernel, jq_20_8, jq_1_2⟩
def D_X8_firstDate_2 (N : Nat)  : Nat → Int32 → Int32 → Option Int32
  | 0, _, _ => none
  | n + 1, v0, v1 => (if (30 : Int32) ≤ v1 then (some (-1 : Int32)) else ((F_X8_isInSet N  v0 v1).bind (fun r1 => (if r1 = 0 then (D_X8_firstDate_2 N   n  v0 (v1 + 1)) else (some v1)))))
set_option maxHeartbeats 4000000 in
set_option maxRecDepth 100000 in
theorem B_X8_firstDate_2 {p : Program} {l : Launch} {e : Env} {s : State} {m : MethodId} {args : Array Value} {below : List Frame} {meth : Method} {c : Code} {D : va_G} {G : Nat → ClassId} (C : Cx p s m args meth c cX8_firstDate 2 RX8 (some .int) D G) (N : Nat)  (r : Int32) : (∀ (n : Nat) (v0 : Int32) (v1 : Int32) (ls : Array Slot), lv_has ls 2 [(0, .int v0), (1, .int v1)] → D_X8_firstDate_2 N   n v0 v1 = some r → W p l e ({ frames := 1, cells := 0, slots := 0, locals := 21 } : Room) s m args below meth c s.heap [] 0 0 (MQ below (QcRd (some (.int r))) args s 0 0 nofree) (F0 m 2 ls [])) := by
  have C := C
  obtain ⟨hx, hb, hr, hml, hts, hown, hlocks, hK0⟩ := id C
  have hK := hK0.1
  intro n
  induction n with
  | zero =>
    intro v0 v1 ls hl hV
    rw [D_X8_firstDate_2] at hV
    cases hV
  | succ n ih =>
    intro v0 v1 ls hl hV
    rw [D_X8_firstDate_2] at hV
    refine lv_iload_n hx hb dX8_firstDate_2 rfl (lv_at hl 1 rfl) ?_
    refine lv_bipush (v := 30) hx hb dX8_firstDate_3 (by decide) ?_
    refine lv_icmp_ge (tgt := 24) hx hb dX8_firstDate_5 (by decide) (fun c3 => ?_) (fun c3 => ?_)
    · have hV := jT1 hV c3
      refine lv_iconst (v := -1) hx hb dX8_firstDate_24 (by decide) ?_
      exact pRet C rfl dX8_firstDate_25 rfl (Option.some.inj hV)
    · have hV := jF1 hV c3
      refine lv_iload_n hx hb dX8_firstDate_8 rfl (lv_at hl 0 rfl) ?_
      refine lv_iload_n hx hb dX8_firstDate_9 rfl (lv_at hl 1 rfl) ?_
      obtain ⟨r1, hr1, hV⟩ := jBind hV
      refine jSpI C dX8_firstDate_10 (k_X8_isInSet l D G  N  v0 v1 r1 hr1) jy_X8_isInSet jq_20_9 jq_14_7 ⟨rfl, rfl, Nat.le_of_ble_eq_true rfl, Nat.le_of_ble_eq_true rfl⟩ ⟨Nat.le_of_ble_eq_true rfl, Nat.le_of_ble_eq_true rfl⟩ jE  hl (rest := []) rfl (Nat.le_of_ble_eq_true rfl) ?_
      refine lv_if_eq (tgt := 18) hx hb dX8_firstDate_13 (by decide) (fun c2 => ?_) (fun c2 => ?_)
      · have hV := jT1 hV c2
        refine lv_iinc (v := (v1 + 1)) (lv' := [(1, .int (v1 + 1)), (0, .int v0)]) hx hb dX8_firstDate_18 hl (k := 1) rfl rfl (by decide) rfl (fun ls hl => ?_)
        refine lv_goto (tgt := 2) hx hb dX8_firstDate_21 (by decide) ?_
        exact ih  v0 (v1 + 1) _ (lv_sub hl [1, 0] rfl) hV
      · have hV := jF1 hV c2
        refine lv_iload_n hx hb dX8_firstDate_16 rfl (lv_at hl 1 rfl) ?_
        exact pRet C rfl dX8_firstDate_17 rfl (Option.some.inj hV)
def F_X8_firstDate (N : Nat)  (v0 : Int32) : Option Int32 := (D_X8_firstDate_2 N   N  v0 (0 : Int32))
set_option maxHeartbeats 4000000 in
set_option maxRecDepth 100000 in
theorem k_X8_firstDate (l : Launch) (D : va_G) (G : Nat → ClassId)  (N : Nat) (v0 : Int32) (r : Int32) (hV : F_X8_firstDate N  v0 = some r) : pM l yX8_firstDate (jws yX8_firstDate cX8_firstDate 2 (some .int)) ({ frames := 1, cells := 0, slots := 0, locals := 21 } : Room) [.int v0] D G ([] : va_W) (some (.int r)) := by
  refine pM_of (by decide +kernel) (Nat.le_of_ble_eq_true rfl) (fun p e s m args below meth c ls C hP hl => ?_)
  have C : Cx p s m args meth c cX8_firstDate 2 RX8 (some .int) D G := C
  obtain ⟨hx, hb, hr, hml, hts, hown, hlocks, hK0⟩ := id C
  have hK := hK0.1
  have hl : lv_has ls 2 [(0, .int v0)] := hl
  rw [F_X8_firstDate] at hV
  refine lv_iconst (v := 0) hx hb dX8_firstDate_0 (by decide) ?_
  refine lv_istore_n (lv' := [(1, .int (0 : Int32)), (0, .int v0)]) hx hb dX8_firstDate_1 rfl hl (by decide) rfl (fun ls hl => ?_)
  exact B_X8_firstDate_2 C  N   r   N  v0 (0 : Int32) _ (lv_sub hl [1, 0] rfl) hV
theorem jy_X8_lastDate : jY yX8_lastDate cX8_lastDate 2 (some .int) 1 := ⟨by decide +kernel, jq_20_12, jq_1_2⟩
def D_X8_lastDate_3 (N : Nat)  : Nat → Int32 → Int32 → Option Int32
  | 0, _, _ => none
  | n + 1, v0, v1 => (if v1 < 0 then (some (-1 : Int32)) else ((F_X8_isInSet N  v0 v1).bind (fun r1 => (if r1 = 0 then (D_X8_lastDate_3 N   n  v0 (v1 + (-1))) else (some v1)))))
set_option maxHeartbeats 4000000 in
set_option maxRecDepth 100000 in
theorem B_X8_lastDate_3 {p : Program} {l : Launch} {e : Env} {s : State} {m : MethodId} {args : Array Value} {below : List Frame} {meth : Method} {c : Code} {D : va_G} {G : Nat → ClassId} (C : Cx p s m args meth c cX8_lastDate 2 RX8 (some .int) D G) (N : Nat)  (r : Int32) : (∀ (n : Nat) (v0 : Int32) (v1 : Int32) (ls : Array Slot), lv_has ls 2 [(0, .int v0), (1, .int v1)] → D_X8_lastDate_3 N   n v0 v1 = some r → W p l e ({ frames := 1, cells := 0, slots := 0, locals := 21 } : Room) s m args below meth c s.heap [] 0 0 (MQ below (QcRd (some (.int r))) args s 0 0 nofree) (F0 m 3 ls [])) := by
  have C := C
  obtain ⟨hx, hb, hr, hml, hts, hown, hlocks, hK0⟩ := id C
  have hK := hK0.1
  intro n
  induction n with
  | zero =>
    intro v0 v1 ls hl hV
    rw [D_X8_lastDate_3] at hV
    cases hV
  | succ n ih =>
    intro v0 v1 ls hl hV
    rw [D_X8_lastDate_3] at hV
    refine lv_iload_n hx hb dX8_lastDate_3 rfl (lv_at hl 1 rfl) ?_
    refine lv_if_lt (tgt := 23) hx hb dX8_lastDate_4 (by decide) (fun c3 => ?_) (fun c3 => ?_)
    · have hV := jT1 hV c3
      refine lv_iconst (v := -1) hx hb dX8_lastDate_23 (by decide) ?_
      exact pRet C rfl dX8_lastDate_24 rfl (Option.some.inj hV)
    · have hV := jF1 hV c3
      refine lv_iload_n hx hb dX8_lastDate_7 rfl (lv_at hl 0 rfl) ?_
      refine lv_iload_n hx hb dX8_lastDate_8 rfl (lv_at hl 1 rfl) ?_
      obtain ⟨r1, hr1, hV⟩ := jBind hV
      refine jSpI C dX8_lastDate_9 (k_X8_isInSet l D G  N  v0 v1 r1 hr1) jy_X8_isInSet jq_20_9 jq_14_7 ⟨rfl, rfl, Nat.le_of_ble_eq_true rfl, Nat.le_of_ble_eq_true rfl⟩ ⟨Nat.le_of_ble_eq_true rfl, Nat.le_of_ble_eq_true rfl⟩ jE  hl (rest := []) rfl (Nat.le_of_ble_eq_true rfl) ?_
      refine lv_if_eq (tgt := 17) hx hb dX8_lastDate_12 (by decide) (fun c2 => ?_) (fun c2 => ?_)
      · have hV := jT1 hV c2
        refine lv_iinc (v := (v1 + (-1))) (lv' := [(1, .int (v1 + (-1))), (0, .int v0)]) hx hb dX8_lastDate_17 hl (k := 1) rfl rfl (by decide) rfl (fun ls hl => ?_)
        refine lv_goto (tgt := 3) hx hb dX8_lastDate_20 (by decide) ?_
        exact ih  v0 (v1 + (-1)) _ (lv_sub hl [1, 0] rfl) hV
      · have hV := jF1 hV c2
        refine lv_iload_n hx hb dX8_lastDate_15 rfl (lv_at hl 1 rfl) ?_
        exact pRet C rfl dX8_lastDate_16 rfl (Option.some.inj hV)
def F_X8_lastDate (N : Nat)  (v0 : Int32) : Option Int32 := (D_X8_lastDate_3 N   N  v0 (29 : Int32))
set_option maxHeartbeats 4000000 in
set_option maxRecDepth 100000 in
theorem k_X8_lastDate (l : Launch) (D : va_G) (G : Nat → ClassId)  (N : Nat) (v0 : Int32) (r : Int32) (hV : F_X8_lastDate N  v0 = some r) : pM l yX8_lastDate (jws yX8_lastDate cX8_lastDate 2 (some .int)) ({ frames := 1, cells := 0, slots := 0, locals := 21 } : Room) [.int v0] D G ([] : va_W) (some (.int r)) := by
  refine pM_of (by decide +kernel) (Nat.le_of_ble_eq_true rfl) (fun p e s m args below meth c ls C hP hl => ?_)
  have C : Cx p s m args meth c cX8_lastDate 2 RX8 (some .int) D G := C
  obtain ⟨hx, hb, hr, hml, hts, hown, hlocks, hK0⟩ := id C
  have hK := hK0.1
  have hl : lv_has ls 2 [(0, .int v0)] := hl
  rw [F_X8_lastDate] at hV
  refine lv_bipush (v := 29) hx hb dX8_lastDate_0 (by decide) ?_
  refine lv_istore_n (lv' := [(1, .int (29 : Int32)), (0, .int v0)]) hx hb dX8_lastDate_2 rfl hl (by decide) rfl (fun ls hl => ?_)
  exact B_X8_lastDate_3 C  N   r   N  v0 (29 : Int32) _ (lv_sub hl [1, 0] rfl) hV
theorem jy_X5_get : jY yX5_get cX5_get 2 (some .int) 1 := ⟨by decide +kernel, jq_6_15, jq_2_14⟩
def F_X5_get (N : Nat) (z : Nat) (M : Nat → Int32) (v1 : Int32) : Option Int32 := (if v1 < 0 then (some (0 : Int32)) else (if (Int32.ofNat z) ≤ v1 then (some (0 : Int32)) else (if inb v1 z = true then (some (M v1.toNatClampNeg)) else none)))
set_option maxHeartbeats 4000000 in
set_option maxRecDepth 100000 in
theorem k_X5_get (l : Launch) (D : va_G) (G : Nat → ClassId) (q b z : Nat) (N : Nat) (M : Nat → Int32) (v1 : Int32) (r : Int32) (hV : F_X5_get N z M v1 = some r) : pM l yX5_get (jws yX5_get cX5_get 2 (some .int)) ({ frames := 0, cells := 0, slots := 0, locals := 0 } : Room) [.ref q, .int v1] D G (wRow q b z G M) (some (.int r)) := by
  refine pM_of (by decide +kernel) (Nat.le_of_ble_eq_true rfl) (fun p e s m args below meth c ls C hP hl => ?_)
  have C : Cx p s m args meth c cX5_get 2 RX5 (some .int) D G := C
  obtain ⟨hx, hb, hr, hml, hts, hown, hlocks, hK0⟩ := id C
  have hK := hK0.1
  have hl : lv_has ls 2 [(0, .ref q), (1, .int v1)] := hl
  rw [F_X5_get] at hV
  refine lv_iload_n hx hb dX5_get_0 rfl (lv_at hl 1 rfl) ?_
  refine lv_if_lt (tgt := 22) hx hb dX5_get_1 (by decide) (fun c3 => ?_) (fun c3 => ?_)
  · have hV := jT1 hV c3
    refine lv_iconst (v := 0) hx hb dX5_get_22 (by decide) ?_
    exact pRet C rfl dX5_get_23 rfl (Option.some.inj hV)
  · have hV := jF1 hV c3
    refine lv_iload_n hx hb dX5_get_4 rfl (lv_at hl 1 rfl) ?_
    refine lv_aload_n hx hb dX5_get_5 rfl (lv_at hl 0 rfl) ?_
    refine va_get (D := D) (ci := 7) (v := .ref b) (C := RX5) (T := TX5) (N := 1) hx hb hts ju_X5 hown hK hP 0 rfl rfl 0 (by decide) (hts _ jq_3_14) (fun _ h9 => h9) rfl dX5_get_6 ?_
    refine va_alen (D := D) hx hb hK hP 1 0 rfl rfl (v := (Int32.ofNat z)) rfl dX5_get_9 ?_
    refine lv_icmp_ge (tgt := 22) hx hb dX5_get_10 (by decide) (fun c2 => ?_) (fun c2 => ?_)
    · have hV := jT1 hV c2
      refine lv_iconst (v := 0) hx hb dX5_get_22 (by decide) ?_
      exact pRet C rfl dX5_get_23 rfl (Option.some.inj hV)
    · have hV := jF1 hV c2
      refine lv_aload_n hx hb dX5_get_13 rfl (lv_at hl 0 rfl) ?_
      refine va_get (D := D) (ci := 7) (v := .ref b) (C := RX5) (T := TX5) (N := 1) hx hb hts ju_X5 hown hK hP 0 rfl rfl 0 (by decide) (hts _ jq_3_14) (fun _ h9 => h9) rfl dX5_get_14 ?_
      refine lv_iload_n hx hb dX5_get_17 rfl (lv_at hl 1 rfl) ?_
      obtain ⟨g1, hV⟩ := jIf hV
      refine va_iald (D := D) (n := z) (f := M) hx hb hK hP 1 0 rfl rfl (inb_of g1) dX5_get_18 ?_
      refine lv_goto (tgt := 23) hx hb dX5_get_19 (by decide) ?_
      exact pRet C rfl dX5_get_23 rfl (Option.some.inj hV)
theorem jy_X5_set : jY yX5_set cX5_set 3 none 2 := ⟨by decide +kernel, jq_5_6, jq_2_14⟩
def F_X5_set (N : Nat) (z : Nat) (M : Nat → Int32) (v1 v2 : Int32) : Option (Nat → Int32) := (if v1 < 0 then (some M) else (if (Int32.ofNat z) ≤ v1 then (some M) else (if inb v1 z = true then (jlet (upd M v1.toNatClampNeg v2) (fun M2 => (some M2))) else none)))
set_option maxHeartbeats 4000000 in
set_option maxRecDepth 100000 in
theorem k_X5_set (l : Launch) (D : va_G) (G : Nat → ClassId) (q b z : Nat) (N : Nat) (M : Nat → Int32) (v1 v2 : Int32) (r : (Nat → Int32)) (hV : F_X5_set N z M v1 v2 = some r) : mM l yX5_set (jws yX5_set cX5_set 3 none) ({ frames := 0, cells := 0, slots := 0, locals := 0 } : Room) [.ref q, .int v1, .int v2] D G (wRow q b z G M) (wRow q b z G r) none := by
  refine mM_of (by decide +kernel) (Nat.le_of_ble_eq_true rfl) (fun p e s m args below meth c ls A C hP hD hA hl => ?_)
  have C : Cx p s m args meth c cX5_set 3 RX5 none D G := C
  have hS : va_S A s.heap s.heap [] := va_S.rf
  obtain ⟨hx, hb, hr, hml, hts, hown, hlocks, hK0⟩ := id C
  have hK := hK0.1
  have hl : lv_has ls 3 [(0, .ref q), (1, .int v1), (2, .int v2)] := hl
  rw [F_X5_set] at hV
  refine lv_iload_n hx hb dX5_set_0 rfl (lv_at hl 1 rfl) ?_
  refine lv_if_lt (tgt := 20) hx hb dX5_set_1 (by decide) (fun c5 => ?_) (fun c5 => ?_)
  · have hV := jT1 hV c5
    cases hV
    exact mRetV C dX5_set_20 hP hS
  · have hV := jF1 hV c5
    refine lv_iload_n hx hb dX5_set_4 rfl (lv_at hl 1 rfl) ?_
    refine lv_aload_n hx hb dX5_set_5 rfl (lv_at hl 0 rfl) ?_
    refine va_get (D := D) (ci := 7) (v := .ref b) (C := RX5) (T := TX5) (N := 1) hx hb hts ju_X5 hown hK hP 0 rfl rfl 0 (by decide) (hts _ jq_3_14) (fun _ h9 => h9) rfl dX5_set_6 ?_
    refine va_alen (D := D) hx hb hK hP 1 0 rfl rfl (v := (Int32.ofNat z)) rfl dX5_set_9 ?_
    refine lv_icmp_ge (tgt := 20) hx hb dX5_set_10 (by decide) (fun c4 => ?_) (fun c4 => ?_)
    · have hV := jT1 hV c4
      cases hV
      exact mRetV C dX5_set_20 hP hS
    · have hV := jF1 hV c4
      refine lv_aload_n hx hb dX5_set_13 rfl (lv_at hl 0 rfl) ?_
      refine va_get (D := D) (ci := 7) (v := .ref b) (C := RX5) (T := TX5) (N := 1) hx hb hts ju_X5 hown hK hP 0 rfl rfl 0 (by decide) (hts _ jq_3_14) (fun _ h9 => h9) rfl dX5_set_14 ?_
      refine lv_iload_n hx hb dX5_set_17 rfl (lv_at hl 1 rfl) ?_
      refine lv_iload_n hx hb dX5_set_18 rfl (lv_at hl 2 rfl) ?_
      obtain ⟨g1, hV⟩ := jIf hV
      refine va_iast (D := D) (n := z) (f := M) hx hb hK hP hD hS 1 0 rfl rfl (inb_of g1) dX5_set_19 (fun H locs hP hD hS => ?_)
      obtain ⟨M2, e3, hV⟩ := jLet hV
      have hP : va_P D vwCl (wRow q b z G M2) H := by rw [e3]; exact hP
      have hD : va_D A (wRow q b z G M2) := by rw [e3]; exact hD
      cases hV
      exact mRetV C dX5_set_20 hP hS
theorem jy_X5_add : jY yX5_add cX5_add 3 none 2 := ⟨by decide +kernel, jq_16_15, jq_2_14⟩
def F_X5_add (N : Nat) (z : Nat) (M : Nat → Int32) (v1 v2 : Int32) : Option (Nat → Int32) := ((F_X5_get N z M v1).bind (fun r1 => ((F_X5_set N z M v1 (r1 + v2)).bind (fun r2 => (some r2)))))
set_option maxHeartbeats 4000000 in
set_option maxRecDepth 100000 in
theorem k_X5_add (l : Launch) (D : va_G) (G : Nat → ClassId) (q b z : Nat) (N : Nat) (M : Nat → Int32) (v1 v2 : Int32) (r : (Nat → Int32)) (hV : F_X5_add N z M v1 v2 = some r) : mM l yX5_add (jws yX5_add cX5_add 3 none) ({ frames := 1, cells := 0, slots := 0, locals := 22 } : Room) [.ref q, .int v1, .int v2] D G (wRow q b z G M) (wRow q b z G r) none := by
  refine mM_of (by decide +kernel) (Nat.le_of_ble_eq_true rfl) (fun p e s m args below meth c ls A C hP hD hA hl => ?_)
  have C : Cx p s m args meth c cX5_add 3 RX5 none D G := C
  have hS : va_S A s.heap s.heap [] := va_S.rf
  obtain ⟨hx, hb, hr, hml, hts, hown, hlocks, hK0⟩ := id C
  have hK := hK0.1
  have hl : lv_has ls 3 [(0, .ref q), (1, .int v1), (2, .int v2)] := hl
  rw [F_X5_add] at hV
  refine lv_aload_n hx hb dX5_add_0 rfl (lv_at hl 0 rfl) ?_
  refine lv_iload_n hx hb dX5_add_1 rfl (lv_at hl 1 rfl) ?_
  refine lv_aload_n hx hb dX5_add_2 rfl (lv_at hl 0 rfl) ?_
  refine lv_iload_n hx hb dX5_add_3 rfl (lv_at hl 1 rfl) ?_
  obtain ⟨r1, hr1, hV⟩ := jBind hV
  refine jVpI C dX5_add_4 (k_X5_get l D G q b z N M v1 r1 hr1) jy_X5_get jq_16_16 jq_6_13 jq_6_14 ⟨rfl, rfl, Nat.le_of_ble_eq_true rfl, Nat.le_of_ble_eq_true rfl⟩ ⟨Nat.le_of_ble_eq_true rfl, Nat.le_of_ble_eq_true rfl⟩ hP  (ci := 7) (iw := 0) rfl rfl rfl hl (rest := [.int v1, .ref q]) rfl (Nat.le_of_ble_eq_true rfl) ?_
  refine lv_iload_n hx hb dX5_add_7 rfl (lv_at hl 2 rfl) ?_
  refine lv_iadd hx hb dX5_add_8 ?_
  obtain ⟨r2, hr2, hV⟩ := jBind hV
  refine jVmV C dX5_add_9 (k_X5_set l D G q b z N M v1 (r1 + v2) r2 hr2) jy_X5_set jq_16_17 jq_5_4 jq_5_5 ⟨rfl, rfl, Nat.le_of_ble_eq_true rfl, Nat.le_of_ble_eq_true rfl⟩ ⟨Nat.le_of_ble_eq_true rfl, Nat.le_of_ble_eq_true rfl⟩ hP hD hA hS (ci := 7) (iw := 0) rfl rfl rfl hl (rest := []) rfl (Nat.le_of_ble_eq_true rfl) (fun H locs hQ hz hkp hS => ?_)
  have hP : va_P D vwCl (wRow q b z G r2) H := hQ
  have hD : va_D A (wRow q b z G r2) := jD (w := (wRow q b z G M)) rfl hD
  cases hV
  exact mRetV C dX5_add_12 hP hS
theorem jy_X5_insertAt : jY yX5_insertAt cX5_insertAt 4 none 2 := ⟨by decide +kernel, jq_18_13, jq_2_14⟩
def D_X5_insertAt_8 (N : Nat) (z : Nat) : Nat → (Nat → Int32) → Int32 → Int32 → Int32 → Option (Nat → Int32)
  | 0, _, _, _, _ => none
  | n + 1, M, v1, v2, v3 => (if v3 ≤ v1 then ((F_X5_set N z M v1 v2).bind (fun r1 => (some r1))) else ((F_X5_get N z M (v3 - (1 : Int32))).bind (fun r2 => ((F_X5_set N z M v3 r2).bind (fun r3 => (D_X5_insertAt_8 N z  n r3 v1 v2 (v3 + (-1))))))))
set_option maxHeartbeats 4000000 in
set_option maxRecDepth 100000 in
theorem B_X5_insertAt_8 {p : Program} {l : Launch} {e : Env} {s : State} {m : MethodId} {args : Array Value} {below : List Frame} {meth : Method} {c : Code} {D : va_G} {G : Nat → ClassId} {A : Nat → Prop} (C : Cx p s m args meth c cX5_insertAt 4 RX5 none D G) (hA : ∀ q : Nat, s.heap.size ≤ q → A q) (N : Nat) (q b z : Nat) (r : (Nat → Int32)) : (∀ (n : Nat) (M : Nat → Int32) (v1 : Int32) (v2 : Int32) (v3 : Int32) (ls : Array Slot) (H : Heap) (locs : List Loc), va_P D vwCl (wRow q b z G M) H → va_D A (wRow q b z G M) → va_S A s.heap H locs → lv_has ls 4 [(0, .ref q), (1, .int v1), (2, .int v2), (3, .int v3)] → D_X5_insertAt_8 N z  n M v1 v2 v3 = some r → W p l e ({ frames := 1, cells := 0, slots := 0, locals := 22 } : Room) s m args below meth c H locs 0 0 (MQ below (mQ D (wRow q b z G r) none A) args s 0 0 A) (F0 m 8 ls [])) := by
  have C := C
  obtain ⟨hx, hb, hr, hml, hts, hown, hlocks, hK0⟩ := id C
  have hK := hK0.1
  intro n
  induction n with
  | zero =>
    intro M v1 v2 v3 ls H locs hP hD hS hl hV
    rw [D_X5_insertAt_8] at hV
    cases hV
  | succ n ih =>
    intro M v1 v2 v3 ls H locs hP hD hS hl hV
    rw [D_X5_insertAt_8] at hV
    refine lv_iload_n hx hb dX5_insertAt_8 rfl (lv_at hl 3 rfl) ?_
    refine lv_iload_n hx hb dX5_insertAt_9 rfl (lv_at hl 1 rfl) ?_
    refine lv_icmp_le (tgt := 31) hx hb dX5_insertAt_10 (by decide) (fun c4 => ?_) (fun c4 => ?_)
    · have hV := jT1 hV c4
      refine lv_aload_n hx hb dX5_insertAt_31 rfl (lv_at hl 0 rfl) ?_
      refine lv_iload_n hx hb dX5_insertAt_32 rfl (lv_at hl 1 rfl) ?_
      refine lv_iload_n hx hb dX5_insertAt_33 rfl (lv_at hl 2 rfl) ?_
      obtain ⟨r1, hr1, hV⟩ := jBind hV
      refine jVmV C dX5_insertAt_34 (k_X5_set l D G q b z N M v1 v2 r1 hr1) jy_X5_set jq_16_17 jq_5_4 jq_5_5 ⟨rfl, rfl, Nat.le_of_ble_eq_true rfl, Nat.le_of_ble_eq_true rfl⟩ ⟨Nat.le_of_ble_eq_true rfl, Nat.le_of_ble_eq_true rfl⟩ hP hD hA hS (ci := 7) (iw := 0) rfl rfl rfl hl (rest := []) rfl (Nat.le_of_ble_eq_true rfl) (fun H locs hQ hz hkp hS => ?_)
      have hP : va_P D vwCl (wRow q b z G r1) H := hQ
      have hD : va_D A (wRow q b z G r1) := jD (w := (wRow q b z G M)) rfl hD
      cases hV
      exact mRetV C dX5_insertAt_37 hP hS
    · have hV := jF1 hV c4
      refine lv_aload_n hx hb dX5_insertAt_13 rfl (lv_at hl 0 rfl) ?_
      refine lv_iload_n hx hb dX5_insertAt_14 rfl (lv_at hl 3 rfl) ?_
      refine lv_aload_n hx hb dX5_insertAt_15 rfl (lv_at hl 0 rfl) ?_
      refine lv_iload_n hx hb dX5_insertAt_16 rfl (lv_at hl 3 rfl) ?_
      refine lv_iconst (v := 1) hx hb dX5_insertAt_17 (by decide) ?_
      refine lv_isub hx hb dX5_insertAt_18 ?_
      obtain ⟨r2, hr2, hV⟩ := jBind hV
      refine jVpI C dX5_insertAt_19 (k_X5_get l D G q b z N M (v3 - (1 : Int32)) r2 hr2) jy_X5_get jq_16_16 jq_6_13 jq_6_14 ⟨rfl, rfl, Nat.le_of_ble_eq_true rfl, Nat.le_of_ble_eq_true rfl⟩ ⟨Nat.le_of_ble_eq_true rfl, Nat.le_of_ble_eq_true rfl⟩ hP  (ci := 7) (iw := 0) rfl rfl rfl hl (rest := [.int v3, .ref q]) rfl (Nat.le_of_ble_eq_true rfl) ?_
      obtain ⟨r3, hr3, hV⟩ := jBind hV
      refine jVmV C dX5_insertAt_22 (k_X5_set l D G q b z N M v3 r2 r3 hr3) jy_X5_set jq_16_17 jq_5_4 jq_5_5 ⟨rfl, rfl, Nat.le_of_ble_eq_true rfl, Nat.le_of_ble_eq_true rfl⟩ ⟨Nat.le_of_ble_eq_true rfl, Nat.le_of_ble_eq_true rfl⟩ hP hD hA hS (ci := 7) (iw := 0) rfl rfl rfl hl (rest := []) rfl (Nat.le_of_ble_eq_true rfl) (fun H locs hQ hz hkp hS => ?_)
      have hP : va_P D vwCl (wRow q b z G r3) H := hQ
      have hD : va_D A (wRow q b z G r3) := jD (w := (wRow q b z G M)) rfl hD
      refine lv_iinc (v := (v3 + (-1))) (lv' := [(3, .int (v3 + (-1))), (0, .ref q), (1, .int v1), (2, .int v2)]) hx hb dX5_insertAt_25 hl (k := 3) rfl rfl (by decide) rfl (fun ls hl => ?_)
      refine lv_goto (tgt := 8) hx hb dX5_insertAt_28 (by decide) ?_
      exact ih r3 v1 v2 (v3 + (-1)) _ _ _ hP hD hS (lv_sub hl [1, 2, 3, 0] rfl) hV
def F_X5_insertAt (N : Nat) (z : Nat) (M : Nat → Int32) (v1 v2 : Int32) : Option (Nat → Int32) := (D_X5_insertAt_8 N z  N M v1 v2 ((Int32.ofNat z) - (1 : Int32)))
set_option maxHeartbeats 4000000 in
set_option maxRecDepth 100000 in
theorem k_X5_insertAt (l : Launch) (D : va_G) (G : Nat → ClassId) (q b z : Nat) (N : Nat) (M : Nat → Int32) (v1 v2 : Int32) (r : (Nat → Int32)) (hV : F_X5_insertAt N z M v1 v2 = some r) : mM l yX5_insertAt (jws yX5_insertAt cX5_insertAt 4 none) ({ frames := 1, cells := 0, slots := 0, locals := 22 } : Room) [.ref q, .int v1, .int v2] D G (wRow q b z G M) (wRow q b z G r) none := by
  refine mM_of (by decide +kernel) (Nat.le_of_ble_eq_true rfl) (fun p e s m args below meth c ls A C hP hD hA hl => ?_)
  have C : Cx p s m args meth c cX5_insertAt 4 RX5 none D G := C
  have hS : va_S A s.heap s.heap [] := va_S.rf
  obtain ⟨hx, hb, hr, hml, hts, hown, hlocks, hK0⟩ := id C
  have hK := hK0.1
  have hl : lv_has ls 4 [(0, .ref q), (1, .int v1), (2, .int v2)] := hl
  rw [F_X5_insertAt] at hV
  refine lv_aload_n hx hb dX5_insertAt_0 rfl (lv_at hl 0 rfl) ?_
  refine va_get (D := D) (ci := 7) (v := .ref b) (C := RX5) (T := TX5) (N := 1) hx hb hts ju_X5 hown hK hP 0 rfl rfl 0 (by decide) (hts _ jq_3_14) (fun _ h9 => h9) rfl dX5_insertAt_1 ?_
  refine va_alen (D := D) hx hb hK hP 1 0 rfl rfl (v := (Int32.ofNat z)) rfl dX5_insertAt_4 ?_
  refine lv_iconst (v := 1) hx hb dX5_insertAt_5 (by decide) ?_
  refine lv_isub hx hb dX5_insertAt_6 ?_
  refine lv_istore_n (lv' := [(3, .int ((Int32.ofNat z) - (1 : Int32))), (0, .ref q), (1, .int v1), (2, .int v2)]) hx hb dX5_insertAt_7 rfl hl (by decide) rfl (fun ls hl => ?_)
  exact B_X5_insertAt_8 C hA N q b z r   N M v1 v2 ((Int32.ofNat z) - (1 : Int32)) _ _ _ hP hD hS (lv_sub hl [1, 2, 3, 0] rfl) hV
