/-! the world as the constructors leave it (made by endw.py) -/
section ZWo
def FL (g : zG) (q1 : Nat) (r1 rr : Nat → Nat) (q2 : Nat) (r2 : Nat → Nat) (q3 q4 : Nat) : va_W := [(q1, .inr (6, [.ref (r1 0), .ref (r1 2), .ref (r1 19), .ref (r1 25), .ref (r1 35), .ref (r1 45), .ref (r1 107), .ref (r1 111), .ref (r1 112), .int 0, .int 0, .int 0])),
  ((r1 0), .inr (3, [.ref (r1 1), .int 0, .int 0, .int 0, .int 0, .int 0, .int 0, .int (-1)])),
  ((r1 1), .inl (g.2.1 1, 600, .inl (fun _ => 0))),
  ((r1 2), .inr (4, [.ref (r1 0), .ref (r1 3), .int 0, .int 0, .int 0, .ref (r1 13), .ref (r1 14), .ref (r1 15), .ref (r1 16), .ref (r1 17), .ref (r1 18)])),
  ((r1 3), .inr (0, [.int 4, .int 9, .int 0, .int 0, .int 0, .int 0, .int 0, .ref (r1 4), .ref (r1 5), .ref (r1 6), .ref (r1 7), .ref (r1 8), .ref (r1 9), .ref (r1 10), .ref (r1 11), .ref (r1 12)])),
  ((r1 4), .inl (g.2.1 0, 10, .inl (fun _ => 0))),
  ((r1 5), .inl (g.2.1 0, 10, .inl (fun _ => 0))),
  ((r1 6), .inl (g.2.1 0, 10, .inl (fun _ => 0))),
  ((r1 7), .inl (g.2.1 0, 10, .inl (fun _ => 0))),
  ((r1 8), .inl (g.2.1 0, 10, .inl (fun _ => 0))),
  ((r1 9), .inl (g.2.1 0, 60, .inl (fun _ => 0))),
  ((r1 10), .inl (g.2.1 0, 60, .inl (fun _ => 0))),
  ((r1 11), .inl (g.2.1 0, 60, .inl (fun _ => 0))),
  ((r1 12), .inl (g.2.1 0, 60, .inl (fun _ => 0))),
  ((r1 13), .inl (g.2.1 2, 16, .inl (fun _ => 0))),
  ((r1 14), .inl (g.2.1 0, 16, .inl (fun _ => 0))),
  ((r1 15), .inl (g.2.1 0, 16, .inl (fun _ => 0))),
  ((r1 16), .inl (g.2.1 0, 16, .inl (fun _ => 0))),
  ((r1 17), .inl (g.2.1 0, 16, .inl (fun _ => 0))),
  ((r1 18), .inl (g.2.1 0, 16, .inl (fun _ => 0))),
  ((r1 19), .inr (2, [.ref (r1 0), .int 0, .ref (r1 20), .ref (r1 21), .ref (r1 22), .ref (r1 23), .ref (r1 24), .int 0])),
  ((r1 20), .inl (g.2.1 0, 30, .inl (fun _ => 0))),
  ((r1 21), .inl (g.2.1 2, 30, .inl (fun _ => 0))),
  ((r1 22), .inl (g.2.1 4, 30, .inr (.inr (.inr (.inr (fun i => if i < 30 then some (rr i) else none)))))),
  ((rr 0), .inl (g.2.1 0, 4, .inl (fun _ => 0))),
  ((rr 1), .inl (g.2.1 0, 4, .inl (fun _ => 0))),
  ((rr 2), .inl (g.2.1 0, 4, .inl (fun _ => 0))),
  ((rr 3), .inl (g.2.1 0, 4, .inl (fun _ => 0))),
  ((rr 4), .inl (g.2.1 0, 4, .inl (fun _ => 0))),
  ((rr 5), .inl (g.2.1 0, 4, .inl (fun _ => 0))),
  ((rr 6), .inl (g.2.1 0, 4, .inl (fun _ => 0))),
  ((rr 7), .inl (g.2.1 0, 4, .inl (fun _ => 0))),
  ((rr 8), .inl (g.2.1 0, 4, .inl (fun _ => 0))),
  ((rr 9), .inl (g.2.1 0, 4, .inl (fun _ => 0))),
  ((rr 10), .inl (g.2.1 0, 4, .inl (fun _ => 0))),
  ((rr 11), .inl (g.2.1 0, 4, .inl (fun _ => 0))),
  ((rr 12), .inl (g.2.1 0, 4, .inl (fun _ => 0))),
  ((rr 13), .inl (g.2.1 0, 4, .inl (fun _ => 0))),
  ((rr 14), .inl (g.2.1 0, 4, .inl (fun _ => 0))),
  ((rr 15), .inl (g.2.1 0, 4, .inl (fun _ => 0))),
  ((rr 16), .inl (g.2.1 0, 4, .inl (fun _ => 0))),
  ((rr 17), .inl (g.2.1 0, 4, .inl (fun _ => 0))),
  ((rr 18), .inl (g.2.1 0, 4, .inl (fun _ => 0))),
  ((rr 19), .inl (g.2.1 0, 4, .inl (fun _ => 0))),
  ((rr 20), .inl (g.2.1 0, 4, .inl (fun _ => 0))),
  ((rr 21), .inl (g.2.1 0, 4, .inl (fun _ => 0))),
  ((rr 22), .inl (g.2.1 0, 4, .inl (fun _ => 0))),
  ((rr 23), .inl (g.2.1 0, 4, .inl (fun _ => 0))),
  ((rr 24), .inl (g.2.1 0, 4, .inl (fun _ => 0))),
  ((rr 25), .inl (g.2.1 0, 4, .inl (fun _ => 0))),
  ((rr 26), .inl (g.2.1 0, 4, .inl (fun _ => 0))),
  ((rr 27), .inl (g.2.1 0, 4, .inl (fun _ => 0))),
  ((rr 28), .inl (g.2.1 0, 4, .inl (fun _ => 0))),
  ((rr 29), .inl (g.2.1 0, 4, .inl (fun _ => 0))),
  ((r1 23), .inl (g.2.1 0, 30, .inl (fun _ => 0))),
  ((r1 24), .inl (g.2.1 0, 2, .inl (fun _ => 0))),
  ((r1 25), .inr (0, [.int 4, .int 9, .int 0, .int 0, .int 0, .int 0, .int 0, .ref (r1 26), .ref (r1 27), .ref (r1 28), .ref (r1 29), .ref (r1 30), .ref (r1 31), .ref (r1 32), .ref (r1 33), .ref (r1 34)])),
  ((r1 26), .inl (g.2.1 0, 10, .inl (fun _ => 0))),
  ((r1 27), .inl (g.2.1 0, 10, .inl (fun _ => 0))),
  ((r1 28), .inl (g.2.1 0, 10, .inl (fun _ => 0))),
  ((r1 29), .inl (g.2.1 0, 10, .inl (fun _ => 0))),
  ((r1 30), .inl (g.2.1 0, 10, .inl (fun _ => 0))),
  ((r1 31), .inl (g.2.1 0, 60, .inl (fun _ => 0))),
  ((r1 32), .inl (g.2.1 0, 60, .inl (fun _ => 0))),
  ((r1 33), .inl (g.2.1 0, 60, .inl (fun _ => 0))),
  ((r1 34), .inl (g.2.1 0, 60, .inl (fun _ => 0))),
  ((r1 35), .inr (0, [.int 4, .int 9, .int 0, .int 0, .int 0, .int 0, .int 0, .ref (r1 36), .ref (r1 37), .ref (r1 38), .ref (r1 39), .ref (r1 40), .ref (r1 41), .ref (r1 42), .ref (r1 43), .ref (r1 44)])),
  ((r1 36), .inl (g.2.1 0, 10, .inl (fun _ => 0))),
  ((r1 37), .inl (g.2.1 0, 10, .inl (fun _ => 0))),
  ((r1 38), .inl (g.2.1 0, 10, .inl (fun _ => 0))),
  ((r1 39), .inl (g.2.1 0, 10, .inl (fun _ => 0))),
  ((r1 40), .inl (g.2.1 0, 10, .inl (fun _ => 0))),
  ((r1 41), .inl (g.2.1 0, 60, .inl (fun _ => 0))),
  ((r1 42), .inl (g.2.1 0, 60, .inl (fun _ => 0))),
  ((r1 43), .inl (g.2.1 0, 60, .inl (fun _ => 0))),
  ((r1 44), .inl (g.2.1 0, 60, .inl (fun _ => 0))),
  ((r1 45), .inr (1, [.ref (r1 46), .int 0, .int 0])),
  ((r1 46), .inl (g.2.1 3, 6, .inr (.inr (.inr (.inr (va_up (va_up (va_up (va_up (va_up (va_up (fun _ => none) 0 (some (r1 47))) 1 (some (r1 57))) 2 (some (r1 67))) 3 (some (r1 77))) 4 (some (r1 87))) 5 (some (r1 97)))))))),
  ((r1 47), .inr (0, [.int 4, .int 9, .int 0, .int 0, .int 0, .int 0, .int 0, .ref (r1 48), .ref (r1 49), .ref (r1 50), .ref (r1 51), .ref (r1 52), .ref (r1 53), .ref (r1 54), .ref (r1 55), .ref (r1 56)])),
  ((r1 48), .inl (g.2.1 0, 10, .inl (fun _ => 0))),
  ((r1 49), .inl (g.2.1 0, 10, .inl (fun _ => 0))),
  ((r1 50), .inl (g.2.1 0, 10, .inl (fun _ => 0))),
  ((r1 51), .inl (g.2.1 0, 10, .inl (fun _ => 0))),
  ((r1 52), .inl (g.2.1 0, 10, .inl (fun _ => 0))),
  ((r1 53), .inl (g.2.1 0, 60, .inl (fun _ => 0))),
  ((r1 54), .inl (g.2.1 0, 60, .inl (fun _ => 0))),
  ((r1 55), .inl (g.2.1 0, 60, .inl (fun _ => 0))),
  ((r1 56), .inl (g.2.1 0, 60, .inl (fun _ => 0))),
  ((r1 57), .inr (0, [.int 4, .int 9, .int 0, .int 0, .int 0, .int 0, .int 0, .ref (r1 58), .ref (r1 59), .ref (r1 60), .ref (r1 61), .ref (r1 62), .ref (r1 63), .ref (r1 64), .ref (r1 65), .ref (r1 66)])),
  ((r1 58), .inl (g.2.1 0, 10, .inl (fun _ => 0))),
  ((r1 59), .inl (g.2.1 0, 10, .inl (fun _ => 0))),
  ((r1 60), .inl (g.2.1 0, 10, .inl (fun _ => 0))),
  ((r1 61), .inl (g.2.1 0, 10, .inl (fun _ => 0))),
  ((r1 62), .inl (g.2.1 0, 10, .inl (fun _ => 0))),
  ((r1 63), .inl (g.2.1 0, 60, .inl (fun _ => 0))),
  ((r1 64), .inl (g.2.1 0, 60, .inl (fun _ => 0))),
  ((r1 65), .inl (g.2.1 0, 60, .inl (fun _ => 0))),
  ((r1 66), .inl (g.2.1 0, 60, .inl (fun _ => 0))),
  ((r1 67), .inr (0, [.int 4, .int 9, .int 0, .int 0, .int 0, .int 0, .int 0, .ref (r1 68), .ref (r1 69), .ref (r1 70), .ref (r1 71), .ref (r1 72), .ref (r1 73), .ref (r1 74), .ref (r1 75), .ref (r1 76)])),
  ((r1 68), .inl (g.2.1 0, 10, .inl (fun _ => 0))),
  ((r1 69), .inl (g.2.1 0, 10, .inl (fun _ => 0))),
  ((r1 70), .inl (g.2.1 0, 10, .inl (fun _ => 0))),
  ((r1 71), .inl (g.2.1 0, 10, .inl (fun _ => 0))),
  ((r1 72), .inl (g.2.1 0, 10, .inl (fun _ => 0))),
  ((r1 73), .inl (g.2.1 0, 60, .inl (fun _ => 0))),
  ((r1 74), .inl (g.2.1 0, 60, .inl (fun _ => 0))),
  ((r1 75), .inl (g.2.1 0, 60, .inl (fun _ => 0))),
  ((r1 76), .inl (g.2.1 0, 60, .inl (fun _ => 0))),
  ((r1 77), .inr (0, [.int 4, .int 9, .int 0, .int 0, .int 0, .int 0, .int 0, .ref (r1 78), .ref (r1 79), .ref (r1 80), .ref (r1 81), .ref (r1 82), .ref (r1 83), .ref (r1 84), .ref (r1 85), .ref (r1 86)])),
  ((r1 78), .inl (g.2.1 0, 10, .inl (fun _ => 0))),
  ((r1 79), .inl (g.2.1 0, 10, .inl (fun _ => 0))),
  ((r1 80), .inl (g.2.1 0, 10, .inl (fun _ => 0))),
  ((r1 81), .inl (g.2.1 0, 10, .inl (fun _ => 0))),
  ((r1 82), .inl (g.2.1 0, 10, .inl (fun _ => 0))),
  ((r1 83), .inl (g.2.1 0, 60, .inl (fun _ => 0))),
  ((r1 84), .inl (g.2.1 0, 60, .inl (fun _ => 0))),
  ((r1 85), .inl (g.2.1 0, 60, .inl (fun _ => 0))),
  ((r1 86), .inl (g.2.1 0, 60, .inl (fun _ => 0))),
  ((r1 87), .inr (0, [.int 4, .int 9, .int 0, .int 0, .int 0, .int 0, .int 0, .ref (r1 88), .ref (r1 89), .ref (r1 90), .ref (r1 91), .ref (r1 92), .ref (r1 93), .ref (r1 94), .ref (r1 95), .ref (r1 96)])),
  ((r1 88), .inl (g.2.1 0, 10, .inl (fun _ => 0))),
  ((r1 89), .inl (g.2.1 0, 10, .inl (fun _ => 0))),
  ((r1 90), .inl (g.2.1 0, 10, .inl (fun _ => 0))),
  ((r1 91), .inl (g.2.1 0, 10, .inl (fun _ => 0))),
  ((r1 92), .inl (g.2.1 0, 10, .inl (fun _ => 0))),
  ((r1 93), .inl (g.2.1 0, 60, .inl (fun _ => 0))),
  ((r1 94), .inl (g.2.1 0, 60, .inl (fun _ => 0))),
  ((r1 95), .inl (g.2.1 0, 60, .inl (fun _ => 0))),
  ((r1 96), .inl (g.2.1 0, 60, .inl (fun _ => 0))),
  ((r1 97), .inr (0, [.int 4, .int 9, .int 0, .int 0, .int 0, .int 0, .int 0, .ref (r1 98), .ref (r1 99), .ref (r1 100), .ref (r1 101), .ref (r1 102), .ref (r1 103), .ref (r1 104), .ref (r1 105), .ref (r1 106)])),
  ((r1 98), .inl (g.2.1 0, 10, .inl (fun _ => 0))),
  ((r1 99), .inl (g.2.1 0, 10, .inl (fun _ => 0))),
  ((r1 100), .inl (g.2.1 0, 10, .inl (fun _ => 0))),
  ((r1 101), .inl (g.2.1 0, 10, .inl (fun _ => 0))),
  ((r1 102), .inl (g.2.1 0, 10, .inl (fun _ => 0))),
  ((r1 103), .inl (g.2.1 0, 60, .inl (fun _ => 0))),
  ((r1 104), .inl (g.2.1 0, 60, .inl (fun _ => 0))),
  ((r1 105), .inl (g.2.1 0, 60, .inl (fun _ => 0))),
  ((r1 106), .inl (g.2.1 0, 60, .inl (fun _ => 0))),
  ((r1 107), .inr (5, [.ref (r1 25), .ref (r1 108), .ref (r1 109), .ref (r1 110)])),
  ((r1 108), .inl (g.2.1 0, 60, .inl (fun _ => 0))),
  ((r1 109), .inl (g.2.1 0, 60, .inl (fun _ => 0))),
  ((r1 110), .inl (g.2.1 2, 60, .inl (fun _ => 0))),
  ((r1 111), .inl (g.2.1 0, 10, .inl (fun _ => 0))),
  ((r1 112), .inl (g.2.1 1, 488, .inl (fun _ => 0))),
  (q2, .inr (7, [.int 0, .ref (r2 0), .int 0, .int 0, .int 0, .int 0, .int 0, .int 0, .int 0, .int (-1), .int 0, .int (-1), .long 0, .ref (r2 1), .ref (r2 2), .ref (r2 3), .ref (r2 4), .ref (r2 5), .int 0, .int 0, .int 0, .ref (r2 6), .ref (r2 7), .ref (r2 8), .ref (r2 9), .ref (r2 10), .ref (r2 11), .ref (r2 12), .ref (r2 13), .ref (r2 14), .int 0, .int 0, .int 0, .ref (r2 15), .int 0, .int 0])),
  ((r2 0), .inl (g.2.1 0, 600, .inl (fun _ => 0))),
  ((r2 1), .inl (g.2.1 0, 1110, .inl clF)),
  ((r2 2), .inl (g.2.1 0, 1110, .inl (fun _ => 0))),
  ((r2 3), .inl (g.2.1 0, 1110, .inl (fun _ => 0))),
  ((r2 4), .inl (g.2.1 0, 1110, .inl (fun _ => 0))),
  ((r2 5), .inl (g.2.1 0, 6660, .inl (fun _ => 0))),
  ((r2 6), .inl (g.2.1 0, 10, .inl (fun _ => 0))),
  ((r2 7), .inl (g.2.1 0, 60, .inl (fun _ => 0))),
  ((r2 8), .inl (g.2.1 0, 60, .inl (fun _ => 0))),
  ((r2 9), .inl (g.2.1 0, 60, .inl (fun _ => 0))),
  ((r2 10), .inl (g.2.1 0, 60, .inl (fun _ => 0))),
  ((r2 11), .inl (g.2.1 0, 60, .inl (fun _ => 0))),
  ((r2 12), .inl (g.2.1 0, 60, .inl (fun _ => 0))),
  ((r2 13), .inl (g.2.1 0, 2, .inl (fun _ => 0))),
  ((r2 14), .inl (g.2.1 0, 2, .inl (fun _ => 0))),
  ((r2 15), .inl (g.2.1 0, 500, .inl (fun _ => 0))),
  (q3, .inl (g.2.1 5, 1, .inr (.inl (fun _ => 0)))),
  (q4, .inl (g.2.1 6, 1, .inr (.inr (.inr (.inl (fun _ => 0))))))]
def aL (q1 : Nat) (r1 rr : Nat → Nat) (q2 : Nat) (r2 : Nat → Nat) (q3 q4 : Nat) : List Nat := [q1, (r1 0), (r1 1), (r1 2), (r1 13), (r1 14), (r1 15), (r1 16), (r1 17), (r1 18), (r1 19), (r1 20), (r1 21), (r1 22), (r1 23), (r1 24), (r1 45), (r1 46), (r1 107), (r1 108), (r1 109), (r1 110), (r1 111), (r1 112), q2, (r2 0), (r2 1), (r2 2), (r2 3), (r2 4), (r2 5), (r2 6), (r2 7), (r2 8), (r2 9), (r2 10), (r2 11), (r2 12), (r2 13), (r2 14), (r2 15), q3, q4, (rr 0), (rr 1), (rr 2), (rr 3), (rr 4), (rr 5), (rr 6), (rr 7), (rr 8), (rr 9), (rr 10), (rr 11), (rr 12), (rr 13), (rr 14), (rr 15), (rr 16), (rr 17), (rr 18), (rr 19), (rr 20), (rr 21), (rr 22), (rr 23), (rr 24), (rr 25), (rr 26), (rr 27), (rr 28), (rr 29), (r1 25), (r1 26), (r1 27), (r1 28), (r1 29), (r1 30), (r1 31), (r1 32), (r1 33), (r1 34), (r1 35), (r1 36), (r1 37), (r1 38), (r1 39), (r1 40), (r1 41), (r1 42), (r1 43), (r1 44), (r1 3), (r1 4), (r1 5), (r1 6), (r1 7), (r1 8), (r1 9), (r1 10), (r1 11), (r1 12), (r1 47), (r1 48), (r1 49), (r1 50), (r1 51), (r1 52), (r1 53), (r1 54), (r1 55), (r1 56), (r1 57), (r1 58), (r1 59), (r1 60), (r1 61), (r1 62), (r1 63), (r1 64), (r1 65), (r1 66), (r1 67), (r1 68), (r1 69), (r1 70), (r1 71), (r1 72), (r1 73), (r1 74), (r1 75), (r1 76), (r1 77), (r1 78), (r1 79), (r1 80), (r1 81), (r1 82), (r1 83), (r1 84), (r1 85), (r1 86), (r1 87), (r1 88), (r1 89), (r1 90), (r1 91), (r1 92), (r1 93), (r1 94), (r1 95), (r1 96), (r1 97), (r1 98), (r1 99), (r1 100), (r1 101), (r1 102), (r1 103), (r1 104), (r1 105), (r1 106)]
def pL : List Nat := [0, 1, 2, 3, 14, 15, 16, 17, 18, 19, 20, 21, 22, 23, 54, 55, 76, 77, 138, 139, 140, 141, 142, 143, 144, 145, 146, 147, 148, 149, 150, 151, 152, 153, 154, 155, 156, 157, 158, 159, 160, 161, 162, 24, 25, 26, 27, 28, 29, 30, 31, 32, 33, 34, 35, 36, 37, 38, 39, 40, 41, 42, 43, 44, 45, 46, 47, 48, 49, 50, 51, 52, 53, 56, 57, 58, 59, 60, 61, 62, 63, 64, 65, 66, 67, 68, 69, 70, 71, 72, 73, 74, 75, 4, 5, 6, 7, 8, 9, 10, 11, 12, 13, 78, 79, 80, 81, 82, 83, 84, 85, 86, 87, 88, 89, 90, 91, 92, 93, 94, 95, 96, 97, 98, 99, 100, 101, 102, 103, 104, 105, 106, 107, 108, 109, 110, 111, 112, 113, 114, 115, 116, 117, 118, 119, 120, 121, 122, 123, 124, 125, 126, 127, 128, 129, 130, 131, 132, 133, 134, 135, 136, 137]
def oL : List Nat := [0, 1, 2, 3, 93, 94, 95, 96, 97, 98, 99, 100, 101, 102, 4, 5, 6, 7, 8, 9, 10, 11, 12, 13, 43, 44, 45, 46, 47, 48, 49, 50, 51, 52, 53, 54, 55, 56, 57, 58, 59, 60, 61, 62, 63, 64, 65, 66, 67, 68, 69, 70, 71, 72, 14, 15, 73, 74, 75, 76, 77, 78, 79, 80, 81, 82, 83, 84, 85, 86, 87, 88, 89, 90, 91, 92, 16, 17, 103, 104, 105, 106, 107, 108, 109, 110, 111, 112, 113, 114, 115, 116, 117, 118, 119, 120, 121, 122, 123, 124, 125, 126, 127, 128, 129, 130, 131, 132, 133, 134, 135, 136, 137, 138, 139, 140, 141, 142, 143, 144, 145, 146, 147, 148, 149, 150, 151, 152, 153, 154, 155, 156, 157, 158, 159, 160, 161, 162, 18, 19, 20, 21, 22, 23, 24, 25, 26, 27, 28, 29, 30, 31, 32, 33, 34, 35, 36, 37, 38, 39, 40, 41, 42]
def zG1 (g : zG) (q1 : Nat) (r1 rr : Nat → Nat) (q2 : Nat) (r2 : Nat → Nat) (q3 q4 : Nat) : zG := (g.1, g.2.1, fun i => (aL q1 r1 rr q2 r2 q3 q4).getD i 0, g.2.2.2.1, g.2.2.2.2.1, g.2.2.2.2.2)
/-- the numbers at the start -/
def s0 : zS := (fun o => if o = 26 then clF else if o = 24 then (fun k => if k = 9 ∨ k = 11 then -1 else 0) else if o = 1 then (fun k => if k = 7 then -1 else 0) else if 73 ≤ o ∧ (o - 73) % 10 = 0 then (fun k => if k = 0 then 4 else if k = 1 then 9 else 0) else fun _ => 0, fun _ => 0, fun _ => 0)
variable {g : zG} {q1 : Nat} {r1 rr : Nat → Nat} {q2 : Nat} {r2 : Nat → Nat} {q3 q4 : Nat}
theorem pL_o : ∀ i, i < 163 → oL.getD (pL.getD i 0) 0 = i := by decide +kernel
theorem fl_ad : ∀ k, k < 163 → ∃ c, (FL g q1 r1 rr q2 r2 q3 q4)[pL.getD k 0]? = some ((aL q1 r1 rr q2 r2 q3 q4).getD k 0, c) := fun k hk => match k, hk with
  | 0, _ => ⟨_, rfl⟩
  | 1, _ => ⟨_, rfl⟩
  | 2, _ => ⟨_, rfl⟩
  | 3, _ => ⟨_, rfl⟩
  | 4, _ => ⟨_, rfl⟩
  | 5, _ => ⟨_, rfl⟩
  | 6, _ => ⟨_, rfl⟩
  | 7, _ => ⟨_, rfl⟩
  | 8, _ => ⟨_, rfl⟩
  | 9, _ => ⟨_, rfl⟩
  | 10, _ => ⟨_, rfl⟩
  | 11, _ => ⟨_, rfl⟩
  | 12, _ => ⟨_, rfl⟩
  | 13, _ => ⟨_, rfl⟩
  | 14, _ => ⟨_, rfl⟩
  | 15, _ => ⟨_, rfl⟩
  | 16, _ => ⟨_, rfl⟩
  | 17, _ => ⟨_, rfl⟩
  | 18, _ => ⟨_, rfl⟩
  | 19, _ => ⟨_, rfl⟩
  | 20, _ => ⟨_, rfl⟩
  | 21, _ => ⟨_, rfl⟩
  | 22, _ => ⟨_, rfl⟩
  | 23, _ => ⟨_, rfl⟩
  | 24, _ => ⟨_, rfl⟩
  | 25, _ => ⟨_, rfl⟩
  | 26, _ => ⟨_, rfl⟩
  | 27, _ => ⟨_, rfl⟩
  | 28, _ => ⟨_, rfl⟩
  | 29, _ => ⟨_, rfl⟩
  | 30, _ => ⟨_, rfl⟩
  | 31, _ => ⟨_, rfl⟩
  | 32, _ => ⟨_, rfl⟩
  | 33, _ => ⟨_, rfl⟩
  | 34, _ => ⟨_, rfl⟩
  | 35, _ => ⟨_, rfl⟩
  | 36, _ => ⟨_, rfl⟩
  | 37, _ => ⟨_, rfl⟩
  | 38, _ => ⟨_, rfl⟩
  | 39, _ => ⟨_, rfl⟩
  | 40, _ => ⟨_, rfl⟩
  | 41, _ => ⟨_, rfl⟩
  | 42, _ => ⟨_, rfl⟩
  | 43, _ => ⟨_, rfl⟩
  | 44, _ => ⟨_, rfl⟩
  | 45, _ => ⟨_, rfl⟩
  | 46, _ => ⟨_, rfl⟩
  | 47, _ => ⟨_, rfl⟩
  | 48, _ => ⟨_, rfl⟩
  | 49, _ => ⟨_, rfl⟩
  | 50, _ => ⟨_, rfl⟩
  | 51, _ => ⟨_, rfl⟩
  | 52, _ => ⟨_, rfl⟩
  | 53, _ => ⟨_, rfl⟩
  | 54, _ => ⟨_, rfl⟩
  | 55, _ => ⟨_, rfl⟩
  | 56, _ => ⟨_, rfl⟩
  | 57, _ => ⟨_, rfl⟩
  | 58, _ => ⟨_, rfl⟩
  | 59, _ => ⟨_, rfl⟩
  | 60, _ => ⟨_, rfl⟩
  | 61, _ => ⟨_, rfl⟩
  | 62, _ => ⟨_, rfl⟩
  | 63, _ => ⟨_, rfl⟩
  | 64, _ => ⟨_, rfl⟩
  | 65, _ => ⟨_, rfl⟩
  | 66, _ => ⟨_, rfl⟩
  | 67, _ => ⟨_, rfl⟩
  | 68, _ => ⟨_, rfl⟩
  | 69, _ => ⟨_, rfl⟩
  | 70, _ => ⟨_, rfl⟩
  | 71, _ => ⟨_, rfl⟩
  | 72, _ => ⟨_, rfl⟩
  | 73, _ => ⟨_, rfl⟩
  | 74, _ => ⟨_, rfl⟩
  | 75, _ => ⟨_, rfl⟩
  | 76, _ => ⟨_, rfl⟩
  | 77, _ => ⟨_, rfl⟩
  | 78, _ => ⟨_, rfl⟩
  | 79, _ => ⟨_, rfl⟩
  | 80, _ => ⟨_, rfl⟩
  | 81, _ => ⟨_, rfl⟩
  | 82, _ => ⟨_, rfl⟩
  | 83, _ => ⟨_, rfl⟩
  | 84, _ => ⟨_, rfl⟩
  | 85, _ => ⟨_, rfl⟩
  | 86, _ => ⟨_, rfl⟩
  | 87, _ => ⟨_, rfl⟩
  | 88, _ => ⟨_, rfl⟩
  | 89, _ => ⟨_, rfl⟩
  | 90, _ => ⟨_, rfl⟩
  | 91, _ => ⟨_, rfl⟩
  | 92, _ => ⟨_, rfl⟩
  | 93, _ => ⟨_, rfl⟩
  | 94, _ => ⟨_, rfl⟩
  | 95, _ => ⟨_, rfl⟩
  | 96, _ => ⟨_, rfl⟩
  | 97, _ => ⟨_, rfl⟩
  | 98, _ => ⟨_, rfl⟩
  | 99, _ => ⟨_, rfl⟩
  | 100, _ => ⟨_, rfl⟩
  | 101, _ => ⟨_, rfl⟩
  | 102, _ => ⟨_, rfl⟩
  | 103, _ => ⟨_, rfl⟩
  | 104, _ => ⟨_, rfl⟩
  | 105, _ => ⟨_, rfl⟩
  | 106, _ => ⟨_, rfl⟩
  | 107, _ => ⟨_, rfl⟩
  | 108, _ => ⟨_, rfl⟩
  | 109, _ => ⟨_, rfl⟩
  | 110, _ => ⟨_, rfl⟩
  | 111, _ => ⟨_, rfl⟩
  | 112, _ => ⟨_, rfl⟩
  | 113, _ => ⟨_, rfl⟩
  | 114, _ => ⟨_, rfl⟩
  | 115, _ => ⟨_, rfl⟩
  | 116, _ => ⟨_, rfl⟩
  | 117, _ => ⟨_, rfl⟩
  | 118, _ => ⟨_, rfl⟩
  | 119, _ => ⟨_, rfl⟩
  | 120, _ => ⟨_, rfl⟩
  | 121, _ => ⟨_, rfl⟩
  | 122, _ => ⟨_, rfl⟩
  | 123, _ => ⟨_, rfl⟩
  | 124, _ => ⟨_, rfl⟩
  | 125, _ => ⟨_, rfl⟩
  | 126, _ => ⟨_, rfl⟩
  | 127, _ => ⟨_, rfl⟩
  | 128, _ => ⟨_, rfl⟩
  | 129, _ => ⟨_, rfl⟩
  | 130, _ => ⟨_, rfl⟩
  | 131, _ => ⟨_, rfl⟩
  | 132, _ => ⟨_, rfl⟩
  | 133, _ => ⟨_, rfl⟩
  | 134, _ => ⟨_, rfl⟩
  | 135, _ => ⟨_, rfl⟩
  | 136, _ => ⟨_, rfl⟩
  | 137, _ => ⟨_, rfl⟩
  | 138, _ => ⟨_, rfl⟩
  | 139, _ => ⟨_, rfl⟩
  | 140, _ => ⟨_, rfl⟩
  | 141, _ => ⟨_, rfl⟩
  | 142, _ => ⟨_, rfl⟩
  | 143, _ => ⟨_, rfl⟩
  | 144, _ => ⟨_, rfl⟩
  | 145, _ => ⟨_, rfl⟩
  | 146, _ => ⟨_, rfl⟩
  | 147, _ => ⟨_, rfl⟩
  | 148, _ => ⟨_, rfl⟩
  | 149, _ => ⟨_, rfl⟩
  | 150, _ => ⟨_, rfl⟩
  | 151, _ => ⟨_, rfl⟩
  | 152, _ => ⟨_, rfl⟩
  | 153, _ => ⟨_, rfl⟩
  | 154, _ => ⟨_, rfl⟩
  | 155, _ => ⟨_, rfl⟩
  | 156, _ => ⟨_, rfl⟩
  | 157, _ => ⟨_, rfl⟩
  | 158, _ => ⟨_, rfl⟩
  | 159, _ => ⟨_, rfl⟩
  | 160, _ => ⟨_, rfl⟩
  | 161, _ => ⟨_, rfl⟩
  | 162, _ => ⟨_, rfl⟩
  | k + 163, h => absurd h (by omega)
theorem fl_D (hD : va_D (zA g) (FL g q1 r1 rr q2 r2 q3 q4)) : zD (zG1 g q1 r1 rr q2 r2 q3 q4) := by
  refine ⟨fun i j hi hj e => ?_, fun i hi => ?_⟩
  · obtain ⟨c1, h1⟩ := fl_ad (g := g) (q1 := q1) (r1 := r1) (rr := rr) (q2 := q2) (r2 := r2) (q3 := q3) (q4 := q4) i hi
    obtain ⟨c2, h2⟩ := fl_ad (g := g) (q1 := q1) (r1 := r1) (rr := rr) (q2 := q2) (r2 := r2) (q3 := q3) (q4 := q4) j hj
    have := hD.1 _ _ _ _ h1 h2 e
    rw [← pL_o i hi, ← pL_o j hj, this]
  · obtain ⟨c1, h1⟩ := fl_ad (g := g) (q1 := q1) (r1 := r1) (rr := rr) (q2 := q2) (r2 := r2) (q3 := q3) (q4 := q4) i hi
    exact hD.2 _ _ h1
theorem cell_q {cA : ClassId} {n : Nat} {f f' : Nat → Option Nat} (h : ∀ j, j < n → f j = f' j) : vp_cell cA (n, .inr (.inr (.inr (.inr f)))) = vp_cell cA (n, .inr (.inr (.inr (.inr f')))) := by
  rw [vp_cell_q, vp_cell_q]
  unfold arrV
  congr 2
  funext j
  show va_rf (f j.val) = va_rf (f' j.val)
  rw [h j.val j.isLt]
theorem fl_13 : ∀ j, j < 30 → (if j < 30 then some (rr j) else none) = some (zad (zG1 g q1 r1 rr q2 r2 q3 q4) (43 + j)) := fun j hj => match j, hj with
  | 0, _ => rfl
  | 1, _ => rfl
  | 2, _ => rfl
  | 3, _ => rfl
  | 4, _ => rfl
  | 5, _ => rfl
  | 6, _ => rfl
  | 7, _ => rfl
  | 8, _ => rfl
  | 9, _ => rfl
  | 10, _ => rfl
  | 11, _ => rfl
  | 12, _ => rfl
  | 13, _ => rfl
  | 14, _ => rfl
  | 15, _ => rfl
  | 16, _ => rfl
  | 17, _ => rfl
  | 18, _ => rfl
  | 19, _ => rfl
  | 20, _ => rfl
  | 21, _ => rfl
  | 22, _ => rfl
  | 23, _ => rfl
  | 24, _ => rfl
  | 25, _ => rfl
  | 26, _ => rfl
  | 27, _ => rfl
  | 28, _ => rfl
  | 29, _ => rfl
  | j + 30, h => absurd h (by omega)
theorem fl_17 : ∀ j, j < 6 → (va_up (va_up (va_up (va_up (va_up (va_up (fun _ => none) 0 (some (r1 47))) 1 (some (r1 57))) 2 (some (r1 67))) 3 (some (r1 77))) 4 (some (r1 87))) 5 (some (r1 97))) j = some (zad (zG1 g q1 r1 rr q2 r2 q3 q4) (103 + 10 * j)) := fun j hj => match j, hj with
  | 0, _ => rfl
  | 1, _ => rfl
  | 2, _ => rfl
  | 3, _ => rfl
  | 4, _ => rfl
  | 5, _ => rfl
  | j + 6, h => absurd h (by omega)
theorem fl_c0 {H : Heap} (hP : va_P g.1 vwCl (FL g q1 r1 rr q2 r2 q3 q4) H) : ∀ j, j < 20 → va_at g.1 vwCl (zad (zG1 g q1 r1 rr q2 r2 q3 q4) (0 + j), zcell (zG1 g q1 r1 rr q2 r2 q3 q4) s0 (0 + j)) H := fun j hj => match j, hj with
  | 0, _ => hP 0 _ rfl
  | 1, _ => hP 1 _ rfl
  | 2, _ => hP 2 _ rfl
  | 3, _ => hP 3 _ rfl
  | 4, _ => hP 14 _ rfl
  | 5, _ => hP 15 _ rfl
  | 6, _ => hP 16 _ rfl
  | 7, _ => hP 17 _ rfl
  | 8, _ => hP 18 _ rfl
  | 9, _ => hP 19 _ rfl
  | 10, _ => hP 20 _ rfl
  | 11, _ => hP 21 _ rfl
  | 12, _ => hP 22 _ rfl
  | 13, _ => (hP 23 _ rfl).trans (congrArg some (cell_q (fl_13 (g := g) (q1 := q1) (r1 := r1) (rr := rr) (q2 := q2) (r2 := r2) (q3 := q3) (q4 := q4))))
  | 14, _ => hP 54 _ rfl
  | 15, _ => hP 55 _ rfl
  | 16, _ => hP 76 _ rfl
  | 17, _ => (hP 77 _ rfl).trans (congrArg some (cell_q (fl_17 (g := g) (q1 := q1) (r1 := r1) (rr := rr) (q2 := q2) (r2 := r2) (q3 := q3) (q4 := q4))))
  | 18, _ => hP 138 _ rfl
  | 19, _ => hP 139 _ rfl
  | j + 20, h => absurd h (by omega)
theorem fl_c20 {H : Heap} (hP : va_P g.1 vwCl (FL g q1 r1 rr q2 r2 q3 q4) H) : ∀ j, j < 20 → va_at g.1 vwCl (zad (zG1 g q1 r1 rr q2 r2 q3 q4) (20 + j), zcell (zG1 g q1 r1 rr q2 r2 q3 q4) s0 (20 + j)) H := fun j hj => match j, hj with
  | 0, _ => hP 140 _ rfl
  | 1, _ => hP 141 _ rfl
  | 2, _ => hP 142 _ rfl
  | 3, _ => hP 143 _ rfl
  | 4, _ => hP 144 _ rfl
  | 5, _ => hP 145 _ rfl
  | 6, _ => hP 146 _ rfl
  | 7, _ => hP 147 _ rfl
  | 8, _ => hP 148 _ rfl
  | 9, _ => hP 149 _ rfl
  | 10, _ => hP 150 _ rfl
  | 11, _ => hP 151 _ rfl
  | 12, _ => hP 152 _ rfl
  | 13, _ => hP 153 _ rfl
  | 14, _ => hP 154 _ rfl
  | 15, _ => hP 155 _ rfl
  | 16, _ => hP 156 _ rfl
  | 17, _ => hP 157 _ rfl
  | 18, _ => hP 158 _ rfl
  | 19, _ => hP 159 _ rfl
  | j + 20, h => absurd h (by omega)
theorem fl_c40 {H : Heap} (hP : va_P g.1 vwCl (FL g q1 r1 rr q2 r2 q3 q4) H) : ∀ j, j < 20 → va_at g.1 vwCl (zad (zG1 g q1 r1 rr q2 r2 q3 q4) (40 + j), zcell (zG1 g q1 r1 rr q2 r2 q3 q4) s0 (40 + j)) H := fun j hj => match j, hj with
  | 0, _ => hP 160 _ rfl
  | 1, _ => hP 161 _ rfl
  | 2, _ => hP 162 _ rfl
  | 3, _ => hP 24 _ rfl
  | 4, _ => hP 25 _ rfl
  | 5, _ => hP 26 _ rfl
  | 6, _ => hP 27 _ rfl
  | 7, _ => hP 28 _ rfl
  | 8, _ => hP 29 _ rfl
  | 9, _ => hP 30 _ rfl
  | 10, _ => hP 31 _ rfl
  | 11, _ => hP 32 _ rfl
  | 12, _ => hP 33 _ rfl
  | 13, _ => hP 34 _ rfl
  | 14, _ => hP 35 _ rfl
  | 15, _ => hP 36 _ rfl
  | 16, _ => hP 37 _ rfl
  | 17, _ => hP 38 _ rfl
  | 18, _ => hP 39 _ rfl
  | 19, _ => hP 40 _ rfl
  | j + 20, h => absurd h (by omega)
theorem fl_c60 {H : Heap} (hP : va_P g.1 vwCl (FL g q1 r1 rr q2 r2 q3 q4) H) : ∀ j, j < 20 → va_at g.1 vwCl (zad (zG1 g q1 r1 rr q2 r2 q3 q4) (60 + j), zcell (zG1 g q1 r1 rr q2 r2 q3 q4) s0 (60 + j)) H := fun j hj => match j, hj with
  | 0, _ => hP 41 _ rfl
  | 1, _ => hP 42 _ rfl
  | 2, _ => hP 43 _ rfl
  | 3, _ => hP 44 _ rfl
  | 4, _ => hP 45 _ rfl
  | 5, _ => hP 46 _ rfl
  | 6, _ => hP 47 _ rfl
  | 7, _ => hP 48 _ rfl
  | 8, _ => hP 49 _ rfl
  | 9, _ => hP 50 _ rfl
  | 10, _ => hP 51 _ rfl
  | 11, _ => hP 52 _ rfl
  | 12, _ => hP 53 _ rfl
  | 13, _ => hP 56 _ rfl
  | 14, _ => hP 57 _ rfl
  | 15, _ => hP 58 _ rfl
  | 16, _ => hP 59 _ rfl
  | 17, _ => hP 60 _ rfl
  | 18, _ => hP 61 _ rfl
  | 19, _ => hP 62 _ rfl
  | j + 20, h => absurd h (by omega)
theorem fl_c80 {H : Heap} (hP : va_P g.1 vwCl (FL g q1 r1 rr q2 r2 q3 q4) H) : ∀ j, j < 20 → va_at g.1 vwCl (zad (zG1 g q1 r1 rr q2 r2 q3 q4) (80 + j), zcell (zG1 g q1 r1 rr q2 r2 q3 q4) s0 (80 + j)) H := fun j hj => match j, hj with
  | 0, _ => hP 63 _ rfl
  | 1, _ => hP 64 _ rfl
  | 2, _ => hP 65 _ rfl
  | 3, _ => hP 66 _ rfl
  | 4, _ => hP 67 _ rfl
  | 5, _ => hP 68 _ rfl
  | 6, _ => hP 69 _ rfl
  | 7, _ => hP 70 _ rfl
  | 8, _ => hP 71 _ rfl
  | 9, _ => hP 72 _ rfl
  | 10, _ => hP 73 _ rfl
  | 11, _ => hP 74 _ rfl
  | 12, _ => hP 75 _ rfl
  | 13, _ => hP 4 _ rfl
  | 14, _ => hP 5 _ rfl
  | 15, _ => hP 6 _ rfl
  | 16, _ => hP 7 _ rfl
  | 17, _ => hP 8 _ rfl
  | 18, _ => hP 9 _ rfl
  | 19, _ => hP 10 _ rfl
  | j + 20, h => absurd h (by omega)
theorem fl_c100 {H : Heap} (hP : va_P g.1 vwCl (FL g q1 r1 rr q2 r2 q3 q4) H) : ∀ j, j < 20 → va_at g.1 vwCl (zad (zG1 g q1 r1 rr q2 r2 q3 q4) (100 + j), zcell (zG1 g q1 r1 rr q2 r2 q3 q4) s0 (100 + j)) H := fun j hj => match j, hj with
  | 0, _ => hP 11 _ rfl
  | 1, _ => hP 12 _ rfl
  | 2, _ => hP 13 _ rfl
  | 3, _ => hP 78 _ rfl
  | 4, _ => hP 79 _ rfl
  | 5, _ => hP 80 _ rfl
  | 6, _ => hP 81 _ rfl
  | 7, _ => hP 82 _ rfl
  | 8, _ => hP 83 _ rfl
  | 9, _ => hP 84 _ rfl
  | 10, _ => hP 85 _ rfl
  | 11, _ => hP 86 _ rfl
  | 12, _ => hP 87 _ rfl
  | 13, _ => hP 88 _ rfl
  | 14, _ => hP 89 _ rfl
  | 15, _ => hP 90 _ rfl
  | 16, _ => hP 91 _ rfl
  | 17, _ => hP 92 _ rfl
  | 18, _ => hP 93 _ rfl
  | 19, _ => hP 94 _ rfl
  | j + 20, h => absurd h (by omega)
theorem fl_c120 {H : Heap} (hP : va_P g.1 vwCl (FL g q1 r1 rr q2 r2 q3 q4) H) : ∀ j, j < 20 → va_at g.1 vwCl (zad (zG1 g q1 r1 rr q2 r2 q3 q4) (120 + j), zcell (zG1 g q1 r1 rr q2 r2 q3 q4) s0 (120 + j)) H := fun j hj => match j, hj with
  | 0, _ => hP 95 _ rfl
  | 1, _ => hP 96 _ rfl
  | 2, _ => hP 97 _ rfl
  | 3, _ => hP 98 _ rfl
  | 4, _ => hP 99 _ rfl
  | 5, _ => hP 100 _ rfl
  | 6, _ => hP 101 _ rfl
  | 7, _ => hP 102 _ rfl
  | 8, _ => hP 103 _ rfl
  | 9, _ => hP 104 _ rfl
  | 10, _ => hP 105 _ rfl
  | 11, _ => hP 106 _ rfl
  | 12, _ => hP 107 _ rfl
  | 13, _ => hP 108 _ rfl
  | 14, _ => hP 109 _ rfl
  | 15, _ => hP 110 _ rfl
  | 16, _ => hP 111 _ rfl
  | 17, _ => hP 112 _ rfl
  | 18, _ => hP 113 _ rfl
  | 19, _ => hP 114 _ rfl
  | j + 20, h => absurd h (by omega)
theorem fl_c140 {H : Heap} (hP : va_P g.1 vwCl (FL g q1 r1 rr q2 r2 q3 q4) H) : ∀ j, j < 20 → va_at g.1 vwCl (zad (zG1 g q1 r1 rr q2 r2 q3 q4) (140 + j), zcell (zG1 g q1 r1 rr q2 r2 q3 q4) s0 (140 + j)) H := fun j hj => match j, hj with
  | 0, _ => hP 115 _ rfl
  | 1, _ => hP 116 _ rfl
  | 2, _ => hP 117 _ rfl
  | 3, _ => hP 118 _ rfl
  | 4, _ => hP 119 _ rfl
  | 5, _ => hP 120 _ rfl
  | 6, _ => hP 121 _ rfl
  | 7, _ => hP 122 _ rfl
  | 8, _ => hP 123 _ rfl
  | 9, _ => hP 124 _ rfl
  | 10, _ => hP 125 _ rfl
  | 11, _ => hP 126 _ rfl
  | 12, _ => hP 127 _ rfl
  | 13, _ => hP 128 _ rfl
  | 14, _ => hP 129 _ rfl
  | 15, _ => hP 130 _ rfl
  | 16, _ => hP 131 _ rfl
  | 17, _ => hP 132 _ rfl
  | 18, _ => hP 133 _ rfl
  | 19, _ => hP 134 _ rfl
  | j + 20, h => absurd h (by omega)
theorem fl_c160 {H : Heap} (hP : va_P g.1 vwCl (FL g q1 r1 rr q2 r2 q3 q4) H) : ∀ j, j < 3 → va_at g.1 vwCl (zad (zG1 g q1 r1 rr q2 r2 q3 q4) (160 + j), zcell (zG1 g q1 r1 rr q2 r2 q3 q4) s0 (160 + j)) H := fun j hj => match j, hj with
  | 0, _ => hP 135 _ rfl
  | 1, _ => hP 136 _ rfl
  | 2, _ => hP 137 _ rfl
  | j + 3, h => absurd h (by omega)
set_option maxRecDepth 20000 in
theorem fl_P {H : Heap} (hP : va_P g.1 vwCl (FL g q1 r1 rr q2 r2 q3 q4) H) : va_P (zG1 g q1 r1 rr q2 r2 q3 q4).1 vwCl (zws (zG1 g q1 r1 rr q2 r2 q3 q4) s0) H := by
  intro k q hq
  by_cases hk : k < 163
  · rw [zws_at hk] at hq
    cases hq
    by_cases h20 : k < 20
    · have h := fl_c0 hP (k - 0) (by omega)
      rw [show 0 + (k - 0) = k by omega] at h
      exact h
    by_cases h40 : k < 40
    · have h := fl_c20 hP (k - 20) (by omega)
      rw [show 20 + (k - 20) = k by omega] at h
      exact h
    by_cases h60 : k < 60
    · have h := fl_c40 hP (k - 40) (by omega)
      rw [show 40 + (k - 40) = k by omega] at h
      exact h
    by_cases h80 : k < 80
    · have h := fl_c60 hP (k - 60) (by omega)
      rw [show 60 + (k - 60) = k by omega] at h
      exact h
    by_cases h100 : k < 100
    · have h := fl_c80 hP (k - 80) (by omega)
      rw [show 80 + (k - 80) = k by omega] at h
      exact h
    by_cases h120 : k < 120
    · have h := fl_c100 hP (k - 100) (by omega)
      rw [show 100 + (k - 100) = k by omega] at h
      exact h
    by_cases h140 : k < 140
    · have h := fl_c120 hP (k - 120) (by omega)
      rw [show 120 + (k - 120) = k by omega] at h
      exact h
    by_cases h160 : k < 160
    · have h := fl_c140 hP (k - 140) (by omega)
      rw [show 140 + (k - 140) = k by omega] at h
      exact h
    have h := fl_c160 hP (k - 160) (by omega)
    rw [show 160 + (k - 160) = k by omega] at h
    exact h
  · rw [zws_out hk] at hq; cases hq
end ZWo
