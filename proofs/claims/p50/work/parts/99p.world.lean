/-! the world as the constructor leaves it (made by endw.py) -/
section ZWo
def FL (G : fG) (q1 : Nat) (r1 rr : Nat → Nat) : va_W := [(q1, .inr (10, [.ref (r1 0), .ref (r1 2), .ref (r1 19), .ref (r1 25), .ref (r1 35), .ref (r1 45), .ref (r1 107), .ref (r1 111), .ref (r1 112), .int 0, .int 0, .int 0])),
  ((r1 0), .inr (7, [.ref (r1 1), .int 0, .int 0, .int 0, .int 0, .int 0, .int 0, .int (-1)])),
  ((r1 1), .inl (G.1.2.1 1, 600, .inl (fun _ => 0))),
  ((r1 2), .inr (8, [.ref (r1 0), .ref (r1 3), .int 0, .int 0, .int 0, .ref (r1 13), .ref (r1 14), .ref (r1 15), .ref (r1 16), .ref (r1 17), .ref (r1 18)])),
  ((r1 3), .inr (4, [.int 4, .int 9, .int 0, .int 0, .int 0, .int 0, .int 0, .ref (r1 4), .ref (r1 5), .ref (r1 6), .ref (r1 7), .ref (r1 8), .ref (r1 9), .ref (r1 10), .ref (r1 11), .ref (r1 12)])),
  ((r1 4), .inl (G.1.2.1 0, 10, .inl (fun _ => 0))),
  ((r1 5), .inl (G.1.2.1 0, 10, .inl (fun _ => 0))),
  ((r1 6), .inl (G.1.2.1 0, 10, .inl (fun _ => 0))),
  ((r1 7), .inl (G.1.2.1 0, 10, .inl (fun _ => 0))),
  ((r1 8), .inl (G.1.2.1 0, 10, .inl (fun _ => 0))),
  ((r1 9), .inl (G.1.2.1 0, 60, .inl (fun _ => 0))),
  ((r1 10), .inl (G.1.2.1 0, 60, .inl (fun _ => 0))),
  ((r1 11), .inl (G.1.2.1 0, 60, .inl (fun _ => 0))),
  ((r1 12), .inl (G.1.2.1 0, 60, .inl (fun _ => 0))),
  ((r1 13), .inl (G.1.2.1 2, 16, .inl (fun _ => 0))),
  ((r1 14), .inl (G.1.2.1 0, 16, .inl (fun _ => 0))),
  ((r1 15), .inl (G.1.2.1 0, 16, .inl (fun _ => 0))),
  ((r1 16), .inl (G.1.2.1 0, 16, .inl (fun _ => 0))),
  ((r1 17), .inl (G.1.2.1 0, 16, .inl (fun _ => 0))),
  ((r1 18), .inl (G.1.2.1 0, 16, .inl (fun _ => 0))),
  ((r1 19), .inr (6, [.ref (r1 0), .int 0, .ref (r1 20), .ref (r1 21), .ref (r1 22), .ref (r1 23), .ref (r1 24), .int 0])),
  ((r1 20), .inl (G.1.2.1 0, 30, .inl (fun _ => 0))),
  ((r1 21), .inl (G.1.2.1 2, 30, .inl (fun _ => 0))),
  ((r1 22), .inl (G.1.2.1 4, 30, .inr (.inr (.inr (.inr (fun i => if i < 30 then some (rr i) else none)))))),
  ((rr 0), .inl (G.1.2.1 0, 4, .inl (fun _ => 0))),
  ((rr 1), .inl (G.1.2.1 0, 4, .inl (fun _ => 0))),
  ((rr 2), .inl (G.1.2.1 0, 4, .inl (fun _ => 0))),
  ((rr 3), .inl (G.1.2.1 0, 4, .inl (fun _ => 0))),
  ((rr 4), .inl (G.1.2.1 0, 4, .inl (fun _ => 0))),
  ((rr 5), .inl (G.1.2.1 0, 4, .inl (fun _ => 0))),
  ((rr 6), .inl (G.1.2.1 0, 4, .inl (fun _ => 0))),
  ((rr 7), .inl (G.1.2.1 0, 4, .inl (fun _ => 0))),
  ((rr 8), .inl (G.1.2.1 0, 4, .inl (fun _ => 0))),
  ((rr 9), .inl (G.1.2.1 0, 4, .inl (fun _ => 0))),
  ((rr 10), .inl (G.1.2.1 0, 4, .inl (fun _ => 0))),
  ((rr 11), .inl (G.1.2.1 0, 4, .inl (fun _ => 0))),
  ((rr 12), .inl (G.1.2.1 0, 4, .inl (fun _ => 0))),
  ((rr 13), .inl (G.1.2.1 0, 4, .inl (fun _ => 0))),
  ((rr 14), .inl (G.1.2.1 0, 4, .inl (fun _ => 0))),
  ((rr 15), .inl (G.1.2.1 0, 4, .inl (fun _ => 0))),
  ((rr 16), .inl (G.1.2.1 0, 4, .inl (fun _ => 0))),
  ((rr 17), .inl (G.1.2.1 0, 4, .inl (fun _ => 0))),
  ((rr 18), .inl (G.1.2.1 0, 4, .inl (fun _ => 0))),
  ((rr 19), .inl (G.1.2.1 0, 4, .inl (fun _ => 0))),
  ((rr 20), .inl (G.1.2.1 0, 4, .inl (fun _ => 0))),
  ((rr 21), .inl (G.1.2.1 0, 4, .inl (fun _ => 0))),
  ((rr 22), .inl (G.1.2.1 0, 4, .inl (fun _ => 0))),
  ((rr 23), .inl (G.1.2.1 0, 4, .inl (fun _ => 0))),
  ((rr 24), .inl (G.1.2.1 0, 4, .inl (fun _ => 0))),
  ((rr 25), .inl (G.1.2.1 0, 4, .inl (fun _ => 0))),
  ((rr 26), .inl (G.1.2.1 0, 4, .inl (fun _ => 0))),
  ((rr 27), .inl (G.1.2.1 0, 4, .inl (fun _ => 0))),
  ((rr 28), .inl (G.1.2.1 0, 4, .inl (fun _ => 0))),
  ((rr 29), .inl (G.1.2.1 0, 4, .inl (fun _ => 0))),
  ((r1 23), .inl (G.1.2.1 0, 30, .inl (fun _ => 0))),
  ((r1 24), .inl (G.1.2.1 0, 2, .inl (fun _ => 0))),
  ((r1 25), .inr (4, [.int 4, .int 9, .int 0, .int 0, .int 0, .int 0, .int 0, .ref (r1 26), .ref (r1 27), .ref (r1 28), .ref (r1 29), .ref (r1 30), .ref (r1 31), .ref (r1 32), .ref (r1 33), .ref (r1 34)])),
  ((r1 26), .inl (G.1.2.1 0, 10, .inl (fun _ => 0))),
  ((r1 27), .inl (G.1.2.1 0, 10, .inl (fun _ => 0))),
  ((r1 28), .inl (G.1.2.1 0, 10, .inl (fun _ => 0))),
  ((r1 29), .inl (G.1.2.1 0, 10, .inl (fun _ => 0))),
  ((r1 30), .inl (G.1.2.1 0, 10, .inl (fun _ => 0))),
  ((r1 31), .inl (G.1.2.1 0, 60, .inl (fun _ => 0))),
  ((r1 32), .inl (G.1.2.1 0, 60, .inl (fun _ => 0))),
  ((r1 33), .inl (G.1.2.1 0, 60, .inl (fun _ => 0))),
  ((r1 34), .inl (G.1.2.1 0, 60, .inl (fun _ => 0))),
  ((r1 35), .inr (4, [.int 4, .int 9, .int 0, .int 0, .int 0, .int 0, .int 0, .ref (r1 36), .ref (r1 37), .ref (r1 38), .ref (r1 39), .ref (r1 40), .ref (r1 41), .ref (r1 42), .ref (r1 43), .ref (r1 44)])),
  ((r1 36), .inl (G.1.2.1 0, 10, .inl (fun _ => 0))),
  ((r1 37), .inl (G.1.2.1 0, 10, .inl (fun _ => 0))),
  ((r1 38), .inl (G.1.2.1 0, 10, .inl (fun _ => 0))),
  ((r1 39), .inl (G.1.2.1 0, 10, .inl (fun _ => 0))),
  ((r1 40), .inl (G.1.2.1 0, 10, .inl (fun _ => 0))),
  ((r1 41), .inl (G.1.2.1 0, 60, .inl (fun _ => 0))),
  ((r1 42), .inl (G.1.2.1 0, 60, .inl (fun _ => 0))),
  ((r1 43), .inl (G.1.2.1 0, 60, .inl (fun _ => 0))),
  ((r1 44), .inl (G.1.2.1 0, 60, .inl (fun _ => 0))),
  ((r1 45), .inr (5, [.ref (r1 46), .int 0, .int 0])),
  ((r1 46), .inl (G.1.2.1 3, 6, .inr (.inr (.inr (.inr (va_up (va_up (va_up (va_up (va_up (va_up (fun _ => none) 0 (some (r1 47))) 1 (some (r1 57))) 2 (some (r1 67))) 3 (some (r1 77))) 4 (some (r1 87))) 5 (some (r1 97)))))))),
  ((r1 47), .inr (4, [.int 4, .int 9, .int 0, .int 0, .int 0, .int 0, .int 0, .ref (r1 48), .ref (r1 49), .ref (r1 50), .ref (r1 51), .ref (r1 52), .ref (r1 53), .ref (r1 54), .ref (r1 55), .ref (r1 56)])),
  ((r1 48), .inl (G.1.2.1 0, 10, .inl (fun _ => 0))),
  ((r1 49), .inl (G.1.2.1 0, 10, .inl (fun _ => 0))),
  ((r1 50), .inl (G.1.2.1 0, 10, .inl (fun _ => 0))),
  ((r1 51), .inl (G.1.2.1 0, 10, .inl (fun _ => 0))),
  ((r1 52), .inl (G.1.2.1 0, 10, .inl (fun _ => 0))),
  ((r1 53), .inl (G.1.2.1 0, 60, .inl (fun _ => 0))),
  ((r1 54), .inl (G.1.2.1 0, 60, .inl (fun _ => 0))),
  ((r1 55), .inl (G.1.2.1 0, 60, .inl (fun _ => 0))),
  ((r1 56), .inl (G.1.2.1 0, 60, .inl (fun _ => 0))),
  ((r1 57), .inr (4, [.int 4, .int 9, .int 0, .int 0, .int 0, .int 0, .int 0, .ref (r1 58), .ref (r1 59), .ref (r1 60), .ref (r1 61), .ref (r1 62), .ref (r1 63), .ref (r1 64), .ref (r1 65), .ref (r1 66)])),
  ((r1 58), .inl (G.1.2.1 0, 10, .inl (fun _ => 0))),
  ((r1 59), .inl (G.1.2.1 0, 10, .inl (fun _ => 0))),
  ((r1 60), .inl (G.1.2.1 0, 10, .inl (fun _ => 0))),
  ((r1 61), .inl (G.1.2.1 0, 10, .inl (fun _ => 0))),
  ((r1 62), .inl (G.1.2.1 0, 10, .inl (fun _ => 0))),
  ((r1 63), .inl (G.1.2.1 0, 60, .inl (fun _ => 0))),
  ((r1 64), .inl (G.1.2.1 0, 60, .inl (fun _ => 0))),
  ((r1 65), .inl (G.1.2.1 0, 60, .inl (fun _ => 0))),
  ((r1 66), .inl (G.1.2.1 0, 60, .inl (fun _ => 0))),
  ((r1 67), .inr (4, [.int 4, .int 9, .int 0, .int 0, .int 0, .int 0, .int 0, .ref (r1 68), .ref (r1 69), .ref (r1 70), .ref (r1 71), .ref (r1 72), .ref (r1 73), .ref (r1 74), .ref (r1 75), .ref (r1 76)])),
  ((r1 68), .inl (G.1.2.1 0, 10, .inl (fun _ => 0))),
  ((r1 69), .inl (G.1.2.1 0, 10, .inl (fun _ => 0))),
  ((r1 70), .inl (G.1.2.1 0, 10, .inl (fun _ => 0))),
  ((r1 71), .inl (G.1.2.1 0, 10, .inl (fun _ => 0))),
  ((r1 72), .inl (G.1.2.1 0, 10, .inl (fun _ => 0))),
  ((r1 73), .inl (G.1.2.1 0, 60, .inl (fun _ => 0))),
  ((r1 74), .inl (G.1.2.1 0, 60, .inl (fun _ => 0))),
  ((r1 75), .inl (G.1.2.1 0, 60, .inl (fun _ => 0))),
  ((r1 76), .inl (G.1.2.1 0, 60, .inl (fun _ => 0))),
  ((r1 77), .inr (4, [.int 4, .int 9, .int 0, .int 0, .int 0, .int 0, .int 0, .ref (r1 78), .ref (r1 79), .ref (r1 80), .ref (r1 81), .ref (r1 82), .ref (r1 83), .ref (r1 84), .ref (r1 85), .ref (r1 86)])),
  ((r1 78), .inl (G.1.2.1 0, 10, .inl (fun _ => 0))),
  ((r1 79), .inl (G.1.2.1 0, 10, .inl (fun _ => 0))),
  ((r1 80), .inl (G.1.2.1 0, 10, .inl (fun _ => 0))),
  ((r1 81), .inl (G.1.2.1 0, 10, .inl (fun _ => 0))),
  ((r1 82), .inl (G.1.2.1 0, 10, .inl (fun _ => 0))),
  ((r1 83), .inl (G.1.2.1 0, 60, .inl (fun _ => 0))),
  ((r1 84), .inl (G.1.2.1 0, 60, .inl (fun _ => 0))),
  ((r1 85), .inl (G.1.2.1 0, 60, .inl (fun _ => 0))),
  ((r1 86), .inl (G.1.2.1 0, 60, .inl (fun _ => 0))),
  ((r1 87), .inr (4, [.int 4, .int 9, .int 0, .int 0, .int 0, .int 0, .int 0, .ref (r1 88), .ref (r1 89), .ref (r1 90), .ref (r1 91), .ref (r1 92), .ref (r1 93), .ref (r1 94), .ref (r1 95), .ref (r1 96)])),
  ((r1 88), .inl (G.1.2.1 0, 10, .inl (fun _ => 0))),
  ((r1 89), .inl (G.1.2.1 0, 10, .inl (fun _ => 0))),
  ((r1 90), .inl (G.1.2.1 0, 10, .inl (fun _ => 0))),
  ((r1 91), .inl (G.1.2.1 0, 10, .inl (fun _ => 0))),
  ((r1 92), .inl (G.1.2.1 0, 10, .inl (fun _ => 0))),
  ((r1 93), .inl (G.1.2.1 0, 60, .inl (fun _ => 0))),
  ((r1 94), .inl (G.1.2.1 0, 60, .inl (fun _ => 0))),
  ((r1 95), .inl (G.1.2.1 0, 60, .inl (fun _ => 0))),
  ((r1 96), .inl (G.1.2.1 0, 60, .inl (fun _ => 0))),
  ((r1 97), .inr (4, [.int 4, .int 9, .int 0, .int 0, .int 0, .int 0, .int 0, .ref (r1 98), .ref (r1 99), .ref (r1 100), .ref (r1 101), .ref (r1 102), .ref (r1 103), .ref (r1 104), .ref (r1 105), .ref (r1 106)])),
  ((r1 98), .inl (G.1.2.1 0, 10, .inl (fun _ => 0))),
  ((r1 99), .inl (G.1.2.1 0, 10, .inl (fun _ => 0))),
  ((r1 100), .inl (G.1.2.1 0, 10, .inl (fun _ => 0))),
  ((r1 101), .inl (G.1.2.1 0, 10, .inl (fun _ => 0))),
  ((r1 102), .inl (G.1.2.1 0, 10, .inl (fun _ => 0))),
  ((r1 103), .inl (G.1.2.1 0, 60, .inl (fun _ => 0))),
  ((r1 104), .inl (G.1.2.1 0, 60, .inl (fun _ => 0))),
  ((r1 105), .inl (G.1.2.1 0, 60, .inl (fun _ => 0))),
  ((r1 106), .inl (G.1.2.1 0, 60, .inl (fun _ => 0))),
  ((r1 107), .inr (9, [.ref (r1 25), .ref (r1 108), .ref (r1 109), .ref (r1 110)])),
  ((r1 108), .inl (G.1.2.1 0, 60, .inl (fun _ => 0))),
  ((r1 109), .inl (G.1.2.1 0, 60, .inl (fun _ => 0))),
  ((r1 110), .inl (G.1.2.1 2, 60, .inl (fun _ => 0))),
  ((r1 111), .inl (G.1.2.1 0, 10, .inl (fun _ => 0))),
  ((r1 112), .inl (G.1.2.1 1, 488, .inl (fun _ => 0)))]
def aL (q1 : Nat) (r1 rr : Nat → Nat) : List Nat := [q1, (r1 0), (r1 1), (r1 2), (r1 13), (r1 14), (r1 15), (r1 16), (r1 17), (r1 18), (r1 19), (r1 20), (r1 21), (r1 22), (r1 23), (r1 24), (r1 45), (r1 46), (r1 107), (r1 108), (r1 109), (r1 110), (r1 111), (r1 112), (rr 0), (rr 1), (rr 2), (rr 3), (rr 4), (rr 5), (rr 6), (rr 7), (rr 8), (rr 9), (rr 10), (rr 11), (rr 12), (rr 13), (rr 14), (rr 15), (rr 16), (rr 17), (rr 18), (rr 19), (rr 20), (rr 21), (rr 22), (rr 23), (rr 24), (rr 25), (rr 26), (rr 27), (rr 28), (rr 29), (r1 25), (r1 26), (r1 27), (r1 28), (r1 29), (r1 30), (r1 31), (r1 32), (r1 33), (r1 34), (r1 35), (r1 36), (r1 37), (r1 38), (r1 39), (r1 40), (r1 41), (r1 42), (r1 43), (r1 44), (r1 3), (r1 4), (r1 5), (r1 6), (r1 7), (r1 8), (r1 9), (r1 10), (r1 11), (r1 12), (r1 47), (r1 48), (r1 49), (r1 50), (r1 51), (r1 52), (r1 53), (r1 54), (r1 55), (r1 56), (r1 57), (r1 58), (r1 59), (r1 60), (r1 61), (r1 62), (r1 63), (r1 64), (r1 65), (r1 66), (r1 67), (r1 68), (r1 69), (r1 70), (r1 71), (r1 72), (r1 73), (r1 74), (r1 75), (r1 76), (r1 77), (r1 78), (r1 79), (r1 80), (r1 81), (r1 82), (r1 83), (r1 84), (r1 85), (r1 86), (r1 87), (r1 88), (r1 89), (r1 90), (r1 91), (r1 92), (r1 93), (r1 94), (r1 95), (r1 96), (r1 97), (r1 98), (r1 99), (r1 100), (r1 101), (r1 102), (r1 103), (r1 104), (r1 105), (r1 106)]
def pL : List Nat := [0, 1, 2, 3, 14, 15, 16, 17, 18, 19, 20, 21, 22, 23, 54, 55, 76, 77, 138, 139, 140, 141, 142, 143, 24, 25, 26, 27, 28, 29, 30, 31, 32, 33, 34, 35, 36, 37, 38, 39, 40, 41, 42, 43, 44, 45, 46, 47, 48, 49, 50, 51, 52, 53, 56, 57, 58, 59, 60, 61, 62, 63, 64, 65, 66, 67, 68, 69, 70, 71, 72, 73, 74, 75, 4, 5, 6, 7, 8, 9, 10, 11, 12, 13, 78, 79, 80, 81, 82, 83, 84, 85, 86, 87, 88, 89, 90, 91, 92, 93, 94, 95, 96, 97, 98, 99, 100, 101, 102, 103, 104, 105, 106, 107, 108, 109, 110, 111, 112, 113, 114, 115, 116, 117, 118, 119, 120, 121, 122, 123, 124, 125, 126, 127, 128, 129, 130, 131, 132, 133, 134, 135, 136, 137]
def oL : List Nat := [0, 1, 2, 3, 74, 75, 76, 77, 78, 79, 80, 81, 82, 83, 4, 5, 6, 7, 8, 9, 10, 11, 12, 13, 24, 25, 26, 27, 28, 29, 30, 31, 32, 33, 34, 35, 36, 37, 38, 39, 40, 41, 42, 43, 44, 45, 46, 47, 48, 49, 50, 51, 52, 53, 14, 15, 54, 55, 56, 57, 58, 59, 60, 61, 62, 63, 64, 65, 66, 67, 68, 69, 70, 71, 72, 73, 16, 17, 84, 85, 86, 87, 88, 89, 90, 91, 92, 93, 94, 95, 96, 97, 98, 99, 100, 101, 102, 103, 104, 105, 106, 107, 108, 109, 110, 111, 112, 113, 114, 115, 116, 117, 118, 119, 120, 121, 122, 123, 124, 125, 126, 127, 128, 129, 130, 131, 132, 133, 134, 135, 136, 137, 138, 139, 140, 141, 142, 143, 18, 19, 20, 21, 22, 23]
def zG1 (G : fG) (q1 : Nat) (r1 rr : Nat → Nat) : fG := ((G.1.1, G.1.2.1, fun i => (aL q1 r1 rr).getD (zpo i) 0, G.1.2.2.2.1, G.1.2.2.2.2.1, G.1.2.2.2.2.2), G.2)
/-- the numbers at the start -/
def s0 : zS := (fun o => if o = 1 then (fun k => if k = 7 then -1 else 0) else if 73 ≤ o ∧ (o - 73) % 10 = 0 then (fun k => if k = 0 then 4 else if k = 1 then 9 else 0) else fun _ => 0, fun _ => 0, fun _ => 0)
variable {G : fG} {q1 : Nat} {r1 rr : Nat → Nat}
theorem pL_o : ∀ i, i < 144 → oL.getD (pL.getD i 0) 0 = i := by decide +kernel
theorem fl_ad : ∀ k, k < 144 → ∃ c, (FL G q1 r1 rr)[pL.getD k 0]? = some ((aL q1 r1 rr).getD k 0, c) := fun k hk => match k, hk with
  | 0, _ => ⟨_, rfl⟩
  | 1, _ => ⟨_, rfl⟩
  | 2, _ => ⟨_, rfl⟩
  | 3, _ => ⟨_, rfl⟩
  | 4, _ => ⟨_, rfl⟩
  | 5, _ => ⟨_, rfl⟩
  | 6, _ => ⟨_, rfl⟩
  | 7, _ => ⟨_, rfl⟩
  | 8, _ => ⟨_, rfl⟩
  | 9, _ => ⟨_, rfl⟩
  | 10, _ => ⟨_, rfl⟩
  | 11, _ => ⟨_, rfl⟩
  | 12, _ => ⟨_, rfl⟩
  | 13, _ => ⟨_, rfl⟩
  | 14, _ => ⟨_, rfl⟩
  | 15, _ => ⟨_, rfl⟩
  | 16, _ => ⟨_, rfl⟩
  | 17, _ => ⟨_, rfl⟩
  | 18, _ => ⟨_, rfl⟩
  | 19, _ => ⟨_, rfl⟩
  | 20, _ => ⟨_, rfl⟩
  | 21, _ => ⟨_, rfl⟩
  | 22, _ => ⟨_, rfl⟩
  | 23, _ => ⟨_, rfl⟩
  | 24, _ => ⟨_, rfl⟩
  | 25, _ => ⟨_, rfl⟩
  | 26, _ => ⟨_, rfl⟩
  | 27, _ => ⟨_, rfl⟩
  | 28, _ => ⟨_, rfl⟩
  | 29, _ => ⟨_, rfl⟩
  | 30, _ => ⟨_, rfl⟩
  | 31, _ => ⟨_, rfl⟩
  | 32, _ => ⟨_, rfl⟩
  | 33, _ => ⟨_, rfl⟩
  | 34, _ => ⟨_, rfl⟩
  | 35, _ => ⟨_, rfl⟩
  | 36, _ => ⟨_, rfl⟩
  | 37, _ => ⟨_, rfl⟩
  | 38, _ => ⟨_, rfl⟩
  | 39, _ => ⟨_, rfl⟩
  | 40, _ => ⟨_, rfl⟩
  | 41, _ => ⟨_, rfl⟩
  | 42, _ => ⟨_, rfl⟩
  | 43, _ => ⟨_, rfl⟩
  | 44, _ => ⟨_, rfl⟩
  | 45, _ => ⟨_, rfl⟩
  | 46, _ => ⟨_, rfl⟩
  | 47, _ => ⟨_, rfl⟩
  | 48, _ => ⟨_, rfl⟩
  | 49, _ => ⟨_, rfl⟩
  | 50, _ => ⟨_, rfl⟩
  | 51, _ => ⟨_, rfl⟩
  | 52, _ => ⟨_, rfl⟩
  | 53, _ => ⟨_, rfl⟩
  | 54, _ => ⟨_, rfl⟩
  | 55, _ => ⟨_, rfl⟩
  | 56, _ => ⟨_, rfl⟩
  | 57, _ => ⟨_, rfl⟩
  | 58, _ => ⟨_, rfl⟩
  | 59, _ => ⟨_, rfl⟩
  | 60, _ => ⟨_, rfl⟩
  | 61, _ => ⟨_, rfl⟩
  | 62, _ => ⟨_, rfl⟩
  | 63, _ => ⟨_, rfl⟩
  | 64, _ => ⟨_, rfl⟩
  | 65, _ => ⟨_, rfl⟩
  | 66, _ => ⟨_, rfl⟩
  | 67, _ => ⟨_, rfl⟩
  | 68, _ => ⟨_, rfl⟩
  | 69, _ => ⟨_, rfl⟩
  | 70, _ => ⟨_, rfl⟩
  | 71, _ => ⟨_, rfl⟩
  | 72, _ => ⟨_, rfl⟩
  | 73, _ => ⟨_, rfl⟩
  | 74, _ => ⟨_, rfl⟩
  | 75, _ => ⟨_, rfl⟩
  | 76, _ => ⟨_, rfl⟩
  | 77, _ => ⟨_, rfl⟩
  | 78, _ => ⟨_, rfl⟩
  | 79, _ => ⟨_, rfl⟩
  | 80, _ => ⟨_, rfl⟩
  | 81, _ => ⟨_, rfl⟩
  | 82, _ => ⟨_, rfl⟩
  | 83, _ => ⟨_, rfl⟩
  | 84, _ => ⟨_, rfl⟩
  | 85, _ => ⟨_, rfl⟩
  | 86, _ => ⟨_, rfl⟩
  | 87, _ => ⟨_, rfl⟩
  | 88, _ => ⟨_, rfl⟩
  | 89, _ => ⟨_, rfl⟩
  | 90, _ => ⟨_, rfl⟩
  | 91, _ => ⟨_, rfl⟩
  | 92, _ => ⟨_, rfl⟩
  | 93, _ => ⟨_, rfl⟩
  | 94, _ => ⟨_, rfl⟩
  | 95, _ => ⟨_, rfl⟩
  | 96, _ => ⟨_, rfl⟩
  | 97, _ => ⟨_, rfl⟩
  | 98, _ => ⟨_, rfl⟩
  | 99, _ => ⟨_, rfl⟩
  | 100, _ => ⟨_, rfl⟩
  | 101, _ => ⟨_, rfl⟩
  | 102, _ => ⟨_, rfl⟩
  | 103, _ => ⟨_, rfl⟩
  | 104, _ => ⟨_, rfl⟩
  | 105, _ => ⟨_, rfl⟩
  | 106, _ => ⟨_, rfl⟩
  | 107, _ => ⟨_, rfl⟩
  | 108, _ => ⟨_, rfl⟩
  | 109, _ => ⟨_, rfl⟩
  | 110, _ => ⟨_, rfl⟩
  | 111, _ => ⟨_, rfl⟩
  | 112, _ => ⟨_, rfl⟩
  | 113, _ => ⟨_, rfl⟩
  | 114, _ => ⟨_, rfl⟩
  | 115, _ => ⟨_, rfl⟩
  | 116, _ => ⟨_, rfl⟩
  | 117, _ => ⟨_, rfl⟩
  | 118, _ => ⟨_, rfl⟩
  | 119, _ => ⟨_, rfl⟩
  | 120, _ => ⟨_, rfl⟩
  | 121, _ => ⟨_, rfl⟩
  | 122, _ => ⟨_, rfl⟩
  | 123, _ => ⟨_, rfl⟩
  | 124, _ => ⟨_, rfl⟩
  | 125, _ => ⟨_, rfl⟩
  | 126, _ => ⟨_, rfl⟩
  | 127, _ => ⟨_, rfl⟩
  | 128, _ => ⟨_, rfl⟩
  | 129, _ => ⟨_, rfl⟩
  | 130, _ => ⟨_, rfl⟩
  | 131, _ => ⟨_, rfl⟩
  | 132, _ => ⟨_, rfl⟩
  | 133, _ => ⟨_, rfl⟩
  | 134, _ => ⟨_, rfl⟩
  | 135, _ => ⟨_, rfl⟩
  | 136, _ => ⟨_, rfl⟩
  | 137, _ => ⟨_, rfl⟩
  | 138, _ => ⟨_, rfl⟩
  | 139, _ => ⟨_, rfl⟩
  | 140, _ => ⟨_, rfl⟩
  | 141, _ => ⟨_, rfl⟩
  | 142, _ => ⟨_, rfl⟩
  | 143, _ => ⟨_, rfl⟩
  | k + 144, h => absurd h (by omega)
theorem cell_q {cA : ClassId} {n : Nat} {f f' : Nat → Option Nat} (h : ∀ j, j < n → f j = f' j) : vp_cell cA (n, .inr (.inr (.inr (.inr f)))) = vp_cell cA (n, .inr (.inr (.inr (.inr f')))) := by
  rw [vp_cell_q, vp_cell_q]
  unfold arrV
  congr 2
  funext j
  show va_rf (f j.val) = va_rf (f' j.val)
  rw [h j.val j.isLt]
theorem fl_13 : ∀ j, j < 30 → (if j < 30 then some (rr j) else none) = some (zad (zG1 G q1 r1 rr).1 (43 + j)) := fun j hj => match j, hj with
  | 0, _ => rfl
  | 1, _ => rfl
  | 2, _ => rfl
  | 3, _ => rfl
  | 4, _ => rfl
  | 5, _ => rfl
  | 6, _ => rfl
  | 7, _ => rfl
  | 8, _ => rfl
  | 9, _ => rfl
  | 10, _ => rfl
  | 11, _ => rfl
  | 12, _ => rfl
  | 13, _ => rfl
  | 14, _ => rfl
  | 15, _ => rfl
  | 16, _ => rfl
  | 17, _ => rfl
  | 18, _ => rfl
  | 19, _ => rfl
  | 20, _ => rfl
  | 21, _ => rfl
  | 22, _ => rfl
  | 23, _ => rfl
  | 24, _ => rfl
  | 25, _ => rfl
  | 26, _ => rfl
  | 27, _ => rfl
  | 28, _ => rfl
  | 29, _ => rfl
  | j + 30, h => absurd h (by omega)
theorem fl_17 : ∀ j, j < 6 → (va_up (va_up (va_up (va_up (va_up (va_up (fun _ => none) 0 (some (r1 47))) 1 (some (r1 57))) 2 (some (r1 67))) 3 (some (r1 77))) 4 (some (r1 87))) 5 (some (r1 97))) j = some (zad (zG1 G q1 r1 rr).1 (103 + 10 * j)) := fun j hj => match j, hj with
  | 0, _ => rfl
  | 1, _ => rfl
  | 2, _ => rfl
  | 3, _ => rfl
  | 4, _ => rfl
  | 5, _ => rfl
  | j + 6, h => absurd h (by omega)
theorem fl_c0 {H : Heap} (hP : va_P G.1.1 vwCl (FL G q1 r1 rr) H) : ∀ j, j < 20 → va_at G.1.1 vwCl (zad (zG1 G q1 r1 rr).1 (zid (0 + j)), zcell (zG1 G q1 r1 rr).1 s0 (zid (0 + j))) H := fun j hj => match j, hj with
  | 0, _ => hP 0 _ rfl
  | 1, _ => hP 1 _ rfl
  | 2, _ => hP 2 _ rfl
  | 3, _ => hP 3 _ rfl
  | 4, _ => hP 14 _ rfl
  | 5, _ => hP 15 _ rfl
  | 6, _ => hP 16 _ rfl
  | 7, _ => hP 17 _ rfl
  | 8, _ => hP 18 _ rfl
  | 9, _ => hP 19 _ rfl
  | 10, _ => hP 20 _ rfl
  | 11, _ => hP 21 _ rfl
  | 12, _ => hP 22 _ rfl
  | 13, _ => (hP 23 _ rfl).trans (congrArg some (cell_q (fl_13 (G := G) (q1 := q1) (r1 := r1) (rr := rr))))
  | 14, _ => hP 54 _ rfl
  | 15, _ => hP 55 _ rfl
  | 16, _ => hP 76 _ rfl
  | 17, _ => (hP 77 _ rfl).trans (congrArg some (cell_q (fl_17 (G := G) (q1 := q1) (r1 := r1) (rr := rr))))
  | 18, _ => hP 138 _ rfl
  | 19, _ => hP 139 _ rfl
  | j + 20, h => absurd h (by omega)
theorem fl_c20 {H : Heap} (hP : va_P G.1.1 vwCl (FL G q1 r1 rr) H) : ∀ j, j < 20 → va_at G.1.1 vwCl (zad (zG1 G q1 r1 rr).1 (zid (20 + j)), zcell (zG1 G q1 r1 rr).1 s0 (zid (20 + j))) H := fun j hj => match j, hj with
  | 0, _ => hP 140 _ rfl
  | 1, _ => hP 141 _ rfl
  | 2, _ => hP 142 _ rfl
  | 3, _ => hP 143 _ rfl
  | 4, _ => hP 24 _ rfl
  | 5, _ => hP 25 _ rfl
  | 6, _ => hP 26 _ rfl
  | 7, _ => hP 27 _ rfl
  | 8, _ => hP 28 _ rfl
  | 9, _ => hP 29 _ rfl
  | 10, _ => hP 30 _ rfl
  | 11, _ => hP 31 _ rfl
  | 12, _ => hP 32 _ rfl
  | 13, _ => hP 33 _ rfl
  | 14, _ => hP 34 _ rfl
  | 15, _ => hP 35 _ rfl
  | 16, _ => hP 36 _ rfl
  | 17, _ => hP 37 _ rfl
  | 18, _ => hP 38 _ rfl
  | 19, _ => hP 39 _ rfl
  | j + 20, h => absurd h (by omega)
theorem fl_c40 {H : Heap} (hP : va_P G.1.1 vwCl (FL G q1 r1 rr) H) : ∀ j, j < 20 → va_at G.1.1 vwCl (zad (zG1 G q1 r1 rr).1 (zid (40 + j)), zcell (zG1 G q1 r1 rr).1 s0 (zid (40 + j))) H := fun j hj => match j, hj with
  | 0, _ => hP 40 _ rfl
  | 1, _ => hP 41 _ rfl
  | 2, _ => hP 42 _ rfl
  | 3, _ => hP 43 _ rfl
  | 4, _ => hP 44 _ rfl
  | 5, _ => hP 45 _ rfl
  | 6, _ => hP 46 _ rfl
  | 7, _ => hP 47 _ rfl
  | 8, _ => hP 48 _ rfl
  | 9, _ => hP 49 _ rfl
  | 10, _ => hP 50 _ rfl
  | 11, _ => hP 51 _ rfl
  | 12, _ => hP 52 _ rfl
  | 13, _ => hP 53 _ rfl
  | 14, _ => hP 56 _ rfl
  | 15, _ => hP 57 _ rfl
  | 16, _ => hP 58 _ rfl
  | 17, _ => hP 59 _ rfl
  | 18, _ => hP 60 _ rfl
  | 19, _ => hP 61 _ rfl
  | j + 20, h => absurd h (by omega)
theorem fl_c60 {H : Heap} (hP : va_P G.1.1 vwCl (FL G q1 r1 rr) H) : ∀ j, j < 20 → va_at G.1.1 vwCl (zad (zG1 G q1 r1 rr).1 (zid (60 + j)), zcell (zG1 G q1 r1 rr).1 s0 (zid (60 + j))) H := fun j hj => match j, hj with
  | 0, _ => hP 62 _ rfl
  | 1, _ => hP 63 _ rfl
  | 2, _ => hP 64 _ rfl
  | 3, _ => hP 65 _ rfl
  | 4, _ => hP 66 _ rfl
  | 5, _ => hP 67 _ rfl
  | 6, _ => hP 68 _ rfl
  | 7, _ => hP 69 _ rfl
  | 8, _ => hP 70 _ rfl
  | 9, _ => hP 71 _ rfl
  | 10, _ => hP 72 _ rfl
  | 11, _ => hP 73 _ rfl
  | 12, _ => hP 74 _ rfl
  | 13, _ => hP 75 _ rfl
  | 14, _ => hP 4 _ rfl
  | 15, _ => hP 5 _ rfl
  | 16, _ => hP 6 _ rfl
  | 17, _ => hP 7 _ rfl
  | 18, _ => hP 8 _ rfl
  | 19, _ => hP 9 _ rfl
  | j + 20, h => absurd h (by omega)
theorem fl_c80 {H : Heap} (hP : va_P G.1.1 vwCl (FL G q1 r1 rr) H) : ∀ j, j < 20 → va_at G.1.1 vwCl (zad (zG1 G q1 r1 rr).1 (zid (80 + j)), zcell (zG1 G q1 r1 rr).1 s0 (zid (80 + j))) H := fun j hj => match j, hj with
  | 0, _ => hP 10 _ rfl
  | 1, _ => hP 11 _ rfl
  | 2, _ => hP 12 _ rfl
  | 3, _ => hP 13 _ rfl
  | 4, _ => hP 78 _ rfl
  | 5, _ => hP 79 _ rfl
  | 6, _ => hP 80 _ rfl
  | 7, _ => hP 81 _ rfl
  | 8, _ => hP 82 _ rfl
  | 9, _ => hP 83 _ rfl
  | 10, _ => hP 84 _ rfl
  | 11, _ => hP 85 _ rfl
  | 12, _ => hP 86 _ rfl
  | 13, _ => hP 87 _ rfl
  | 14, _ => hP 88 _ rfl
  | 15, _ => hP 89 _ rfl
  | 16, _ => hP 90 _ rfl
  | 17, _ => hP 91 _ rfl
  | 18, _ => hP 92 _ rfl
  | 19, _ => hP 93 _ rfl
  | j + 20, h => absurd h (by omega)
theorem fl_c100 {H : Heap} (hP : va_P G.1.1 vwCl (FL G q1 r1 rr) H) : ∀ j, j < 20 → va_at G.1.1 vwCl (zad (zG1 G q1 r1 rr).1 (zid (100 + j)), zcell (zG1 G q1 r1 rr).1 s0 (zid (100 + j))) H := fun j hj => match j, hj with
  | 0, _ => hP 94 _ rfl
  | 1, _ => hP 95 _ rfl
  | 2, _ => hP 96 _ rfl
  | 3, _ => hP 97 _ rfl
  | 4, _ => hP 98 _ rfl
  | 5, _ => hP 99 _ rfl
  | 6, _ => hP 100 _ rfl
  | 7, _ => hP 101 _ rfl
  | 8, _ => hP 102 _ rfl
  | 9, _ => hP 103 _ rfl
  | 10, _ => hP 104 _ rfl
  | 11, _ => hP 105 _ rfl
  | 12, _ => hP 106 _ rfl
  | 13, _ => hP 107 _ rfl
  | 14, _ => hP 108 _ rfl
  | 15, _ => hP 109 _ rfl
  | 16, _ => hP 110 _ rfl
  | 17, _ => hP 111 _ rfl
  | 18, _ => hP 112 _ rfl
  | 19, _ => hP 113 _ rfl
  | j + 20, h => absurd h (by omega)
theorem fl_c120 {H : Heap} (hP : va_P G.1.1 vwCl (FL G q1 r1 rr) H) : ∀ j, j < 20 → va_at G.1.1 vwCl (zad (zG1 G q1 r1 rr).1 (zid (120 + j)), zcell (zG1 G q1 r1 rr).1 s0 (zid (120 + j))) H := fun j hj => match j, hj with
  | 0, _ => hP 114 _ rfl
  | 1, _ => hP 115 _ rfl
  | 2, _ => hP 116 _ rfl
  | 3, _ => hP 117 _ rfl
  | 4, _ => hP 118 _ rfl
  | 5, _ => hP 119 _ rfl
  | 6, _ => hP 120 _ rfl
  | 7, _ => hP 121 _ rfl
  | 8, _ => hP 122 _ rfl
  | 9, _ => hP 123 _ rfl
  | 10, _ => hP 124 _ rfl
  | 11, _ => hP 125 _ rfl
  | 12, _ => hP 126 _ rfl
  | 13, _ => hP 127 _ rfl
  | 14, _ => hP 128 _ rfl
  | 15, _ => hP 129 _ rfl
  | 16, _ => hP 130 _ rfl
  | 17, _ => hP 131 _ rfl
  | 18, _ => hP 132 _ rfl
  | 19, _ => hP 133 _ rfl
  | j + 20, h => absurd h (by omega)
theorem fl_c140 {H : Heap} (hP : va_P G.1.1 vwCl (FL G q1 r1 rr) H) : ∀ j, j < 4 → va_at G.1.1 vwCl (zad (zG1 G q1 r1 rr).1 (zid (140 + j)), zcell (zG1 G q1 r1 rr).1 s0 (zid (140 + j))) H := fun j hj => match j, hj with
  | 0, _ => hP 134 _ rfl
  | 1, _ => hP 135 _ rfl
  | 2, _ => hP 136 _ rfl
  | 3, _ => hP 137 _ rfl
  | j + 4, h => absurd h (by omega)
set_option maxRecDepth 20000 in
theorem fl_P {H : Heap} (hP : va_P G.1.1 vwCl (FL G q1 r1 rr) H) : ∀ k, k < 144 → va_at G.1.1 vwCl (zad (zG1 G q1 r1 rr).1 (zid k), zcell (zG1 G q1 r1 rr).1 s0 (zid k)) H := fun k hk => by
  by_cases h20 : k < 20
  · have h := fl_c0 hP (k - 0) (by omega)
    rw [show 0 + (k - 0) = k by omega] at h
    exact h
  by_cases h40 : k < 40
  · have h := fl_c20 hP (k - 20) (by omega)
    rw [show 20 + (k - 20) = k by omega] at h
    exact h
  by_cases h60 : k < 60
  · have h := fl_c40 hP (k - 40) (by omega)
    rw [show 40 + (k - 40) = k by omega] at h
    exact h
  by_cases h80 : k < 80
  · have h := fl_c60 hP (k - 60) (by omega)
    rw [show 60 + (k - 60) = k by omega] at h
    exact h
  by_cases h100 : k < 100
  · have h := fl_c80 hP (k - 80) (by omega)
    rw [show 80 + (k - 80) = k by omega] at h
    exact h
  by_cases h120 : k < 120
  · have h := fl_c100 hP (k - 100) (by omega)
    rw [show 100 + (k - 100) = k by omega] at h
    exact h
  by_cases h140 : k < 140
  · have h := fl_c120 hP (k - 120) (by omega)
    rw [show 120 + (k - 120) = k by omega] at h
    exact h
  have h := fl_c140 hP (k - 140) (by omega)
  rw [show 140 + (k - 140) = k by omega] at h
  exact h
theorem zws_get (g : zG) (σ : zS) {k : Nat} (hk : k < 144) : (zws g σ)[k]? = some (zad g (zid k), zcell g σ (zid k)) := by
  unfold zws
  rw [List.getElem?_map, List.getElem?_range hk]
  rfl
theorem ap_l {A B : va_W} {k : Nat} {q : Nat × va_E} (h : A[k]? = some q) : (A ++ B)[k]? = some q := by rw [List.getElem?_append_left (List.getElem?_eq_some_iff.mp h).1]; exact h
/-- behind what was there the class's world stands: it stands ahead of it by numbers -/
theorem fl_all {ws : va_W} {H : Heap} (hP : va_P G.1.1 vwCl (ws ++ FL G q1 r1 rr) H) (hD : va_D (fA G) (ws ++ FL G q1 r1 rr)) : va_P (zG1 G q1 r1 rr).1.1 vwCl (zws (zG1 G q1 r1 rr).1 s0 ++ ws) H ∧ va_D (fA (zG1 G q1 r1 rr)) (zws (zG1 G q1 r1 rr).1 s0 ++ ws) := by
  have hP2 : va_P G.1.1 vwCl (FL G q1 r1 rr) H := fun k q hq => hP (ws.length + k) q (by rw [wl_get]; exact hq)
  have cut : ∀ (k : Nat) (q : Nat × va_E), (zws (zG1 G q1 r1 rr).1 s0 ++ ws)[k]? = some q → (k < 144 ∧ q = (zad (zG1 G q1 r1 rr).1 (zid k), zcell (zG1 G q1 r1 rr).1 s0 (zid k))) ∨ (144 ≤ k ∧ ws[k - 144]? = some q) := by
    intro k q hq
    by_cases hk : k < 144
    · left
      rw [ap_l (zws_get _ _ hk)] at hq
      exact ⟨hk, (Option.some.inj hq).symm⟩
    · right
      refine ⟨by omega, ?_⟩
      rw [List.getElem?_append_right (by rw [zws_len]; omega), zws_len] at hq
      exact hq
  have adr : ∀ k, k < 144 → zad (zG1 G q1 r1 rr).1 (zid k) = (aL q1 r1 rr).getD k 0 := fun k hk => by
    show (aL q1 r1 rr).getD (zpo (zid k)) 0 = _
    rw [zpo_id hk]
  refine ⟨fun k q hq => ?_, fun i j p q hp hq e => ?_, fun k q hq => ?_⟩
  · rcases cut k q hq with ⟨h1, rfl⟩ | ⟨h1, h2⟩
    · exact fl_P hP2 k h1
    · exact hP (k - 144) q (ap_l h2)
  · rcases cut i p hp with ⟨h1, rfl⟩ | ⟨h1, h2⟩ <;> rcases cut j q hq with ⟨h3, rfl⟩ | ⟨h3, h4⟩
    · obtain ⟨c1, g1⟩ := fl_ad (G := G) (q1 := q1) (r1 := r1) (rr := rr) i h1
      obtain ⟨c2, g2⟩ := fl_ad (G := G) (q1 := q1) (r1 := r1) (rr := rr) j h3
      have e' : (aL q1 r1 rr).getD i 0 = (aL q1 r1 rr).getD j 0 := by rw [← adr i h1, ← adr j h3]; exact e
      have := hD.1 _ _ _ _ ((wl_get ws _ _).trans g1) ((wl_get ws _ _).trans g2) e'
      have e2 : pL.getD i 0 = pL.getD j 0 := by omega
      rw [← pL_o i h1, ← pL_o j h3, e2]
    · obtain ⟨c1, g1⟩ := fl_ad (G := G) (q1 := q1) (r1 := r1) (rr := rr) i h1
      have e' : (aL q1 r1 rr).getD i 0 = q.1 := by rw [← adr i h1]; exact e
      have := hD.1 _ _ _ _ ((wl_get ws _ _).trans g1) (ap_l h4) e'
      have := (List.getElem?_eq_some_iff.mp h4).1
      omega
    · obtain ⟨c2, g2⟩ := fl_ad (G := G) (q1 := q1) (r1 := r1) (rr := rr) j h3
      have e' : p.1 = (aL q1 r1 rr).getD j 0 := by rw [← adr j h3]; exact e
      have := hD.1 _ _ _ _ (ap_l h2) ((wl_get ws _ _).trans g2) e'
      have := (List.getElem?_eq_some_iff.mp h2).1
      omega
    · have := hD.1 _ _ _ _ (ap_l h2) (ap_l h4) e
      omega
  · rcases cut k q hq with ⟨h1, rfl⟩ | ⟨h1, h2⟩
    · obtain ⟨c1, g1⟩ := fl_ad (G := G) (q1 := q1) (r1 := r1) (rr := rr) k h1
      have := hD.2 _ _ ((wl_get ws _ _).trans g1)
      show G.1.2.2.2.1 ≤ zad (zG1 G q1 r1 rr).1 (zid k)
      rw [adr k h1]
      exact this
    · exact hD.2 _ _ (ap_l h2)
theorem rw30 (rr : Nat → Nat) : rwL G rr 30 4 = [(rr 0, .inl (G.1.2.1 0, 4, .inl (fun _ => 0))), (rr 1, .inl (G.1.2.1 0, 4, .inl (fun _ => 0))), (rr 2, .inl (G.1.2.1 0, 4, .inl (fun _ => 0))), (rr 3, .inl (G.1.2.1 0, 4, .inl (fun _ => 0))), (rr 4, .inl (G.1.2.1 0, 4, .inl (fun _ => 0))), (rr 5, .inl (G.1.2.1 0, 4, .inl (fun _ => 0))), (rr 6, .inl (G.1.2.1 0, 4, .inl (fun _ => 0))), (rr 7, .inl (G.1.2.1 0, 4, .inl (fun _ => 0))), (rr 8, .inl (G.1.2.1 0, 4, .inl (fun _ => 0))), (rr 9, .inl (G.1.2.1 0, 4, .inl (fun _ => 0))), (rr 10, .inl (G.1.2.1 0, 4, .inl (fun _ => 0))), (rr 11, .inl (G.1.2.1 0, 4, .inl (fun _ => 0))), (rr 12, .inl (G.1.2.1 0, 4, .inl (fun _ => 0))), (rr 13, .inl (G.1.2.1 0, 4, .inl (fun _ => 0))), (rr 14, .inl (G.1.2.1 0, 4, .inl (fun _ => 0))), (rr 15, .inl (G.1.2.1 0, 4, .inl (fun _ => 0))), (rr 16, .inl (G.1.2.1 0, 4, .inl (fun _ => 0))), (rr 17, .inl (G.1.2.1 0, 4, .inl (fun _ => 0))), (rr 18, .inl (G.1.2.1 0, 4, .inl (fun _ => 0))), (rr 19, .inl (G.1.2.1 0, 4, .inl (fun _ => 0))), (rr 20, .inl (G.1.2.1 0, 4, .inl (fun _ => 0))), (rr 21, .inl (G.1.2.1 0, 4, .inl (fun _ => 0))), (rr 22, .inl (G.1.2.1 0, 4, .inl (fun _ => 0))), (rr 23, .inl (G.1.2.1 0, 4, .inl (fun _ => 0))), (rr 24, .inl (G.1.2.1 0, 4, .inl (fun _ => 0))), (rr 25, .inl (G.1.2.1 0, 4, .inl (fun _ => 0))), (rr 26, .inl (G.1.2.1 0, 4, .inl (fun _ => 0))), (rr 27, .inl (G.1.2.1 0, 4, .inl (fun _ => 0))), (rr 28, .inl (G.1.2.1 0, 4, .inl (fun _ => 0))), (rr 29, .inl (G.1.2.1 0, 4, .inl (fun _ => 0)))] := rfl
set_option maxRecDepth 20000 in
set_option maxHeartbeats 4000000 in
theorem FL_eq : X6w G q1 r1 rr = FL G q1 r1 rr := by
  unfold FL
  simp only [X6w, X3w, X4w, X2w, X0w, X1w, X5w, rw30, List.cons_append, List.nil_append, List.append_nil, List.append_assoc, Nat.reduceAdd]
end ZWo
