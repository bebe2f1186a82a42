def s_H0 : sM := (140, [[none, none, some (.inl (7, [.inl (.ref 3), .inl (.ref 62), .inl (.ref 121), .inl (.int 0), .inl (.ref 132)])), some (.inl (6, [.inl (.ref 4), .inl (.int 0), .inl (.ref 13), .inl (.int 0), .inl (.int 2), .inl (.int 0), .inl (.int 0), .inl (.int (-1)), .inl (.int 0), .inl (.int 0), .inl (.int 0), .inl (.int 0), .inl (.int 0), .inl (.int 0), .inl (.int 0), .inl (.int 0), .inl (.int 0), .inl (.int (-1))])), some (.inr (3, .inr (.inr [some 5, some 6, some 7, some 8, some 9, some 10, some 11, some 12]))), some (.inl (2, [.inl (.int 0), .inl (.int 0), .inl (.int 0), .inl (.int 0), .inl (.int 0), .inl (.int 0), .inl (.int 0), .inl (.int 0), .inl (.int 0), .inl (.int 1), .inl (.int 0), .inl (.int 0), .inl (.int 0)])), some (.inl (2, [.inl (.int 1), .inl (.int 0), .inl (.int 0), .inl (.int 0), .inl (.int 0), .inl (.int 0), .inl (.int 0), .inl (.int 0), .inl (.int 0), .inl (.int 1), .inl (.int 0), .inl (.int 0), .inl (.int 0)])), some (.inl (2, [.inl (.int 2), .inl (.int 0), .inl (.int 0), .inl (.int 0), .inl (.int 0), .inl (.int 0), .inl (.int 0), .inl (.int 0), .inl (.int 0), .inl (.int 1), .inl (.int 0), .inl (.int 0), .inl (.int 0)])), some (.inl (2, [.inl (.int 3), .inl (.int 0), .inl (.int 0), .inl (.int 0), .inl (.int 0), .inl (.int 0), .inl (.int 0), .inl (.int 0), .inl (.int 0), .inl (.int 1), .inl (.int 0), .inl (.int 0), .inl (.int 0)])), some (.inl (2, [.inl (.int 4), .inl (.int 0), .inl (.int 0), .inl (.int 0), .inl (.int 0), .inl (.int 0), .inl (.int 0), .inl (.int 0), .inl (.int 0), .inl (.int 1), .inl (.int 0), .inl (.int 0), .inl (.int 0)])), some (.inl (2, [.inl (.int 5), .inl (.int 0), .inl (.int 0), .inl (.int 0), .inl (.int 0), .inl (.int 0), .inl (.int 0), .inl (.int 0), .inl (.int 0), .inl (.int 1), .inl (.int 0), .inl (.int 0), .inl (.int 0)])), some (.inl (2, [.inl (.int 6), .inl (.int 0), .inl (.int 0), .inl (.int 0), .inl (.int 0), .inl (.int 0), .inl (.int 0), .inl (.int 0), .inl (.int 0), .inl (.int 1), .inl (.int 0), .inl (.int 0), .inl (.int 0)])), some (.inl (2, [.inl (.int 7), .inl (.int 0), .inl (.int 0), .inl (.int 0), .inl (.int 0), .inl (.int 0), .inl (.int 0), .inl (.int 0), .inl (.int 0), .inl (.int 1), .inl (.int 0), .inl (.int 0), .inl (.int 0)])), some (.inr (4, .inr (.inr [some 14, some 22, some 30, some 38, some 46, some 54]))), some (.inl (3, [.inl (.ref 15), .inl (.int 0), .inl (.int (-1))])), some (.inr (2, .inr (.inr [some 16, some 17, some 18, some 19, some 20, some 21])))],
  [some (.inl (4, [.inl (.int 0), .inl (.int 0), .inl (.int 0), .inl (.int 0), .inl (.int (-1)), .inl (.int 0)])), some (.inl (4, [.inl (.int 0), .inl (.int 0), .inl (.int 0), .inl (.int 0), .inl (.int (-1)), .inl (.int 0)])), some (.inl (4, [.inl (.int 0), .inl (.int 0), .inl (.int 0), .inl (.int 0), .inl (.int (-1)), .inl (.int 0)])), some (.inl (4, [.inl (.int 0), .inl (.int 0), .inl (.int 0), .inl (.int 0), .inl (.int (-1)), .inl (.int 0)])), some (.inl (4, [.inl (.int 0), .inl (.int 0), .inl (.int 0), .inl (.int 0), .inl (.int (-1)), .inl (.int 0)])), some (.inl (4, [.inl (.int 0), .inl (.int 0), .inl (.int 0), .inl (.int 0), .inl (.int (-1)), .inl (.int 0)])), some (.inl (3, [.inl (.ref 23), .inl (.int 0), .inl (.int (-1))])), some (.inr (2, .inr (.inr [some 24, some 25, some 26, some 27, some 28, some 29]))), some (.inl (4, [.inl (.int 0), .inl (.int 0), .inl (.int 0), .inl (.int 0), .inl (.int (-1)), .inl (.int 0)])), some (.inl (4, [.inl (.int 0), .inl (.int 0), .inl (.int 0), .inl (.int 0), .inl (.int (-1)), .inl (.int 0)])), some (.inl (4, [.inl (.int 0), .inl (.int 0), .inl (.int 0), .inl (.int 0), .inl (.int (-1)), .inl (.int 0)])), some (.inl (4, [.inl (.int 0), .inl (.int 0), .inl (.int 0), .inl (.int 0), .inl (.int (-1)), .inl (.int 0)])), some (.inl (4, [.inl (.int 0), .inl (.int 0), .inl (.int 0), .inl (.int 0), .inl (.int (-1)), .inl (.int 0)])), some (.inl (4, [.inl (.int 0), .inl (.int 0), .inl (.int 0), .inl (.int 0), .inl (.int (-1)), .inl (.int 0)])), some (.inl (3, [.inl (.ref 31), .inl (.int 0), .inl (.int (-1))])), some (.inr (2, .inr (.inr [some 32, some 33, some 34, some 35, some 36, some 37])))],
  [some (.inl (4, [.inl (.int 0), .inl (.int 0), .inl (.int 0), .inl (.int 0), .inl (.int (-1)), .inl (.int 0)])), some (.inl (4, [.inl (.int 0), .inl (.int 0), .inl (.int 0), .inl (.int 0), .inl (.int (-1)), .inl (.int 0)])), some (.inl (4, [.inl (.int 0), .inl (.int 0), .inl (.int 0), .inl (.int 0), .inl (.int (-1)), .inl (.int 0)])), some (.inl (4, [.inl (.int 0), .inl (.int 0), .inl (.int 0), .inl (.int 0), .inl (.int (-1)), .inl (.int 0)])), some (.inl (4, [.inl (.int 0), .inl (.int 0), .inl (.int 0), .inl (.int 0), .inl (.int (-1)), .inl (.int 0)])), some (.inl (4, [.inl (.int 0), .inl (.int 0), .inl (.int 0), .inl (.int 0), .inl (.int (-1)), .inl (.int 0)])), some (.inl (3, [.inl (.ref 39), .inl (.int 0), .inl (.int (-1))])), some (.inr (2, .inr (.inr [some 40, some 41, some 42, some 43, some 44, some 45]))), some (.inl (4, [.inl (.int 0), .inl (.int 0), .inl (.int 0), .inl (.int 0), .inl (.int (-1)), .inl (.int 0)])), some (.inl (4, [.inl (.int 0), .inl (.int 0), .inl (.int 0), .inl (.int 0), .inl (.int (-1)), .inl (.int 0)])), some (.inl (4, [.inl (.int 0), .inl (.int 0), .inl (.int 0), .inl (.int 0), .inl (.int (-1)), .inl (.int 0)])), some (.inl (4, [.inl (.int 0), .inl (.int 0), .inl (.int 0), .inl (.int 0), .inl (.int (-1)), .inl (.int 0)])), some (.inl (4, [.inl (.int 0), .inl (.int 0), .inl (.int 0), .inl (.int 0), .inl (.int (-1)), .inl (.int 0)])), some (.inl (4, [.inl (.int 0), .inl (.int 0), .inl (.int 0), .inl (.int 0), .inl (.int (-1)), .inl (.int 0)])), some (.inl (3, [.inl (.ref 47), .inl (.int 0), .inl (.int (-1))])), some (.inr (2, .inr (.inr [some 48, some 49, some 50, some 51, some 52, some 53])))],
  [some (.inl (4, [.inl (.int 0), .inl (.int 0), .inl (.int 0), .inl (.int 0), .inl (.int (-1)), .inl (.int 0)])), some (.inl (4, [.inl (.int 0), .inl (.int 0), .inl (.int 0), .inl (.int 0), .inl (.int (-1)), .inl (.int 0)])), some (.inl (4, [.inl (.int 0), .inl (.int 0), .inl (.int 0), .inl (.int 0), .inl (.int (-1)), .inl (.int 0)])), some (.inl (4, [.inl (.int 0), .inl (.int 0), .inl (.int 0), .inl (.int 0), .inl (.int (-1)), .inl (.int 0)])), some (.inl (4, [.inl (.int 0), .inl (.int 0), .inl (.int 0), .inl (.int 0), .inl (.int (-1)), .inl (.int 0)])), some (.inl (4, [.inl (.int 0), .inl (.int 0), .inl (.int 0), .inl (.int 0), .inl (.int (-1)), .inl (.int 0)])), some (.inl (3, [.inl (.ref 55), .inl (.int 0), .inl (.int (-1))])), some (.inr (2, .inr (.inr [some 56, some 57, some 58, some 59, some 60, some 61]))), some (.inl (4, [.inl (.int 0), .inl (.int 0), .inl (.int 0), .inl (.int 0), .inl (.int (-1)), .inl (.int 0)])), some (.inl (4, [.inl (.int 0), .inl (.int 0), .inl (.int 0), .inl (.int 0), .inl (.int (-1)), .inl (.int 0)])), some (.inl (4, [.inl (.int 0), .inl (.int 0), .inl (.int 0), .inl (.int 0), .inl (.int (-1)), .inl (.int 0)])), some (.inl (4, [.inl (.int 0), .inl (.int 0), .inl (.int 0), .inl (.int 0), .inl (.int (-1)), .inl (.int 0)])), some (.inl (4, [.inl (.int 0), .inl (.int 0), .inl (.int 0), .inl (.int 0), .inl (.int (-1)), .inl (.int 0)])), some (.inl (4, [.inl (.int 0), .inl (.int 0), .inl (.int 0), .inl (.int 0), .inl (.int (-1)), .inl (.int 0)])), some (.inl (6, [.inl (.ref 63), .inl (.int 0), .inl (.ref 72), .inl (.int 0), .inl (.int 2), .inl (.int 0), .inl (.int 0), .inl (.int (-1)), .inl (.int 0), .inl (.int 0), .inl (.int 0), .inl (.int 0), .inl (.int 0), .inl (.int 0), .inl (.int 0), .inl (.int 0), .inl (.int 0), .inl (.int (-1))])), some (.inr (3, .inr (.inr [some 64, some 65, some 66, some 67, some 68, some 69, some 70, some 71])))],
  [some (.inl (2, [.inl (.int 0), .inl (.int 0), .inl (.int 0), .inl (.int 0), .inl (.int 0), .inl (.int 0), .inl (.int 0), .inl (.int 0), .inl (.int 0), .inl (.int 1), .inl (.int 0), .inl (.int 0), .inl (.int 0)])), some (.inl (2, [.inl (.int 1), .inl (.int 0), .inl (.int 0), .inl (.int 0), .inl (.int 0), .inl (.int 0), .inl (.int 0), .inl (.int 0), .inl (.int 0), .inl (.int 1), .inl (.int 0), .inl (.int 0), .inl (.int 0)])), some (.inl (2, [.inl (.int 2), .inl (.int 0), .inl (.int 0), .inl (.int 0), .inl (.int 0), .inl (.int 0), .inl (.int 0), .inl (.int 0), .inl (.int 0), .inl (.int 1), .inl (.int 0), .inl (.int 0), .inl (.int 0)])), some (.inl (2, [.inl (.int 3), .inl (.int 0), .inl (.int 0), .inl (.int 0), .inl (.int 0), .inl (.int 0), .inl (.int 0), .inl (.int 0), .inl (.int 0), .inl (.int 1), .inl (.int 0), .inl (.int 0), .inl (.int 0)])), some (.inl (2, [.inl (.int 4), .inl (.int 0), .inl (.int 0), .inl (.int 0), .inl (.int 0), .inl (.int 0), .inl (.int 0), .inl (.int 0), .inl (.int 0), .inl (.int 1), .inl (.int 0), .inl (.int 0), .inl (.int 0)])), some (.inl (2, [.inl (.int 5), .inl (.int 0), .inl (.int 0), .inl (.int 0), .inl (.int 0), .inl (.int 0), .inl (.int 0), .inl (.int 0), .inl (.int 0), .inl (.int 1), .inl (.int 0), .inl (.int 0), .inl (.int 0)])), some (.inl (2, [.inl (.int 6), .inl (.int 0), .inl (.int 0), .inl (.int 0), .inl (.int 0), .inl (.int 0), .inl (.int 0), .inl (.int 0), .inl (.int 0), .inl (.int 1), .inl (.int 0), .inl (.int 0), .inl (.int 0)])), some (.inl (2, [.inl (.int 7), .inl (.int 0), .inl (.int 0), .inl (.int 0), .inl (.int 0), .inl (.int 0), .inl (.int 0), .inl (.int 0), .inl (.int 0), .inl (.int 1), .inl (.int 0), .inl (.int 0), .inl (.int 0)])), some (.inr (4, .inr (.inr [some 73, some 81, some 89, some 97, some 105, some 113]))), some (.inl (3, [.inl (.ref 74), .inl (.int 0), .inl (.int (-1))])), some (.inr (2, .inr (.inr [some 75, some 76, some 77, some 78, some 79, some 80]))), some (.inl (4, [.inl (.int 0), .inl (.int 0), .inl (.int 0), .inl (.int 0), .inl (.int (-1)), .inl (.int 0)])), some (.inl (4, [.inl (.int 0), .inl (.int 0), .inl (.int 0), .inl (.int 0), .inl (.int (-1)), .inl (.int 0)])), some (.inl (4, [.inl (.int 0), .inl (.int 0), .inl (.int 0), .inl (.int 0), .inl (.int (-1)), .inl (.int 0)])), some (.inl (4, [.inl (.int 0), .inl (.int 0), .inl (.int 0), .inl (.int 0), .inl (.int (-1)), .inl (.int 0)])), some (.inl (4, [.inl (.int 0), .inl (.int 0), .inl (.int 0), .inl (.int 0), .inl (.int (-1)), .inl (.int 0)]))],
  [some (.inl (4, [.inl (.int 0), .inl (.int 0), .inl (.int 0), .inl (.int 0), .inl (.int (-1)), .inl (.int 0)])), some (.inl (3, [.inl (.ref 82), .inl (.int 0), .inl (.int (-1))])), some (.inr (2, .inr (.inr [some 83, some 84, some 85, some 86, some 87, some 88]))), some (.inl (4, [.inl (.int 0), .inl (.int 0), .inl (.int 0), .inl (.int 0), .inl (.int (-1)), .inl (.int 0)])), some (.inl (4, [.inl (.int 0), .inl (.int 0), .inl (.int 0), .inl (.int 0), .inl (.int (-1)), .inl (.int 0)])), some (.inl (4, [.inl (.int 0), .inl (.int 0), .inl (.int 0), .inl (.int 0), .inl (.int (-1)), .inl (.int 0)])), some (.inl (4, [.inl (.int 0), .inl (.int 0), .inl (.int 0), .inl (.int 0), .inl (.int (-1)), .inl (.int 0)])), some (.inl (4, [.inl (.int 0), .inl (.int 0), .inl (.int 0), .inl (.int 0), .inl (.int (-1)), .inl (.int 0)])), some (.inl (4, [.inl (.int 0), .inl (.int 0), .inl (.int 0), .inl (.int 0), .inl (.int (-1)), .inl (.int 0)])), some (.inl (3, [.inl (.ref 90), .inl (.int 0), .inl (.int (-1))])), some (.inr (2, .inr (.inr [some 91, some 92, some 93, some 94, some 95, some 96]))), some (.inl (4, [.inl (.int 0), .inl (.int 0), .inl (.int 0), .inl (.int 0), .inl (.int (-1)), .inl (.int 0)])), some (.inl (4, [.inl (.int 0), .inl (.int 0), .inl (.int 0), .inl (.int 0), .inl (.int (-1)), .inl (.int 0)])), some (.inl (4, [.inl (.int 0), .inl (.int 0), .inl (.int 0), .inl (.int 0), .inl (.int (-1)), .inl (.int 0)])), some (.inl (4, [.inl (.int 0), .inl (.int 0), .inl (.int 0), .inl (.int 0), .inl (.int (-1)), .inl (.int 0)])), some (.inl (4, [.inl (.int 0), .inl (.int 0), .inl (.int 0), .inl (.int 0), .inl (.int (-1)), .inl (.int 0)]))],
  [some (.inl (4, [.inl (.int 0), .inl (.int 0), .inl (.int 0), .inl (.int 0), .inl (.int (-1)), .inl (.int 0)])), some (.inl (3, [.inl (.ref 98), .inl (.int 0), .inl (.int (-1))])), some (.inr (2, .inr (.inr [some 99, some 100, some 101, some 102, some 103, some 104]))), some (.inl (4, [.inl (.int 0), .inl (.int 0), .inl (.int 0), .inl (.int 0), .inl (.int (-1)), .inl (.int 0)])), some (.inl (4, [.inl (.int 0), .inl (.int 0), .inl (.int 0), .inl (.int 0), .inl (.int (-1)), .inl (.int 0)])), some (.inl (4, [.inl (.int 0), .inl (.int 0), .inl (.int 0), .inl (.int 0), .inl (.int (-1)), .inl (.int 0)])), some (.inl (4, [.inl (.int 0), .inl (.int 0), .inl (.int 0), .inl (.int 0), .inl (.int (-1)), .inl (.int 0)])), some (.inl (4, [.inl (.int 0), .inl (.int 0), .inl (.int 0), .inl (.int 0), .inl (.int (-1)), .inl (.int 0)])), some (.inl (4, [.inl (.int 0), .inl (.int 0), .inl (.int 0), .inl (.int 0), .inl (.int (-1)), .inl (.int 0)])), some (.inl (3, [.inl (.ref 106), .inl (.int 0), .inl (.int (-1))])), some (.inr (2, .inr (.inr [some 107, some 108, some 109, some 110, some 111, some 112]))), some (.inl (4, [.inl (.int 0), .inl (.int 0), .inl (.int 0), .inl (.int 0), .inl (.int (-1)), .inl (.int 0)])), some (.inl (4, [.inl (.int 0), .inl (.int 0), .inl (.int 0), .inl (.int 0), .inl (.int (-1)), .inl (.int 0)])), some (.inl (4, [.inl (.int 0), .inl (.int 0), .inl (.int 0), .inl (.int 0), .inl (.int (-1)), .inl (.int 0)])), some (.inl (4, [.inl (.int 0), .inl (.int 0), .inl (.int 0), .inl (.int 0), .inl (.int (-1)), .inl (.int 0)])), some (.inl (4, [.inl (.int 0), .inl (.int 0), .inl (.int 0), .inl (.int 0), .inl (.int (-1)), .inl (.int 0)]))],
  [some (.inl (4, [.inl (.int 0), .inl (.int 0), .inl (.int 0), .inl (.int 0), .inl (.int (-1)), .inl (.int 0)])), some (.inl (3, [.inl (.ref 114), .inl (.int 0), .inl (.int (-1))])), some (.inr (2, .inr (.inr [some 115, some 116, some 117, some 118, some 119, some 120]))), some (.inl (4, [.inl (.int 0), .inl (.int 0), .inl (.int 0), .inl (.int 0), .inl (.int (-1)), .inl (.int 0)])), some (.inl (4, [.inl (.int 0), .inl (.int 0), .inl (.int 0), .inl (.int 0), .inl (.int (-1)), .inl (.int 0)])), some (.inl (4, [.inl (.int 0), .inl (.int 0), .inl (.int 0), .inl (.int 0), .inl (.int (-1)), .inl (.int 0)])), some (.inl (4, [.inl (.int 0), .inl (.int 0), .inl (.int 0), .inl (.int 0), .inl (.int (-1)), .inl (.int 0)])), some (.inl (4, [.inl (.int 0), .inl (.int 0), .inl (.int 0), .inl (.int 0), .inl (.int (-1)), .inl (.int 0)])), some (.inl (4, [.inl (.int 0), .inl (.int 0), .inl (.int 0), .inl (.int 0), .inl (.int (-1)), .inl (.int 0)])), some (.inr (5, .inr (.inr [some 122, some 123, some 124, some 125, some 126, some 127, some 128, some 129, some 130, some 131]))), some (.inl (5, [.inl (.int 0), .inl (.int 0), .inl (.int 0), .inl (.int (-1))])), some (.inl (5, [.inl (.int 0), .inl (.int 0), .inl (.int 0), .inl (.int (-1))])), some (.inl (5, [.inl (.int 0), .inl (.int 0), .inl (.int 0), .inl (.int (-1))])), some (.inl (5, [.inl (.int 0), .inl (.int 0), .inl (.int 0), .inl (.int (-1))])), some (.inl (5, [.inl (.int 0), .inl (.int 0), .inl (.int 0), .inl (.int (-1))])), some (.inl (5, [.inl (.int 0), .inl (.int 0), .inl (.int 0), .inl (.int (-1))]))],
  [some (.inl (5, [.inl (.int 0), .inl (.int 0), .inl (.int 0), .inl (.int (-1))])), some (.inl (5, [.inl (.int 0), .inl (.int 0), .inl (.int 0), .inl (.int (-1))])), some (.inl (5, [.inl (.int 0), .inl (.int 0), .inl (.int 0), .inl (.int (-1))])), some (.inl (5, [.inl (.int 0), .inl (.int 0), .inl (.int 0), .inl (.int (-1))])), some (.inr (0, .inl [.inl (.int 0), .inl (.int 0), .inl (.int 0), .inl (.int 0), .inl (.int 0), .inl (.int 0), .inl (.int 0), .inl (.int 0), .inl (.int 0), .inl (.int 0)])), some (.inl (9, [.inl (.int 0), .inl (.ref 134), .inl (.ref 135), .inl (.long 0)])), some (.inl (1, [.inl (.int 0), .inl (.ref 1), .inl (.int 0)])), some (.inl (8, [.inl (.ref 136), .inl (.ref 137), .inl (.ref 138), .inl (.int 2), .inl (.int 0), .inl (.int (-1)), .inl (.int 0), .inl (.int 0), .inl (.int 0), .inl (.int 0), .inl (.int 0), .inl (.int 0), .inl (.int 0), .inl (.int 0), .inl (.int (-1))])), some (.inl (1, [.inl (.int 0), .inl (.ref 1), .inl (.int 0)])), some (.inl (1, [.inl (.int 0), .inl (.ref 1), .inl (.int 0)])), some (.inr (0, .inl [.inl (.int 0), .inl (.int 0), .inl (.int 0), .inl (.int 0), .inl (.int 0), .inl (.int 0)])), some (.inr (1, .inr (.inl [0]))), none, none, none, none]] ++ List.replicate 31 (List.replicate 16 none))
def s_rig (x : sV) : sE := .inl (6, [.inl (.ref 4), .inl (.int 0), .inl (.ref 13), .inl (.int 0), .inl (.int 2), .inl (.int 0), x, .inl (.int (-1)), .inl (.int 0), .inl (.int 0), .inl (.int 0), .inl (.int 0), .inl (.int 0), .inl (.int 0), .inl (.int 0), .inl (.int 0), .inl (.int 0), .inl (.int (-1))])
def s_reh (x : sV) : sE := .inl (6, [.inl (.ref 63), .inl (.int 0), .inl (.ref 72), .inl (.int 0), .inl (.int 2), .inl (.int 0), x, .inl (.int (-1)), .inl (.int 0), .inl (.int 0), .inl (.int 0), .inl (.int 0), .inl (.int 0), .inl (.int 0), .inl (.int 0), .inl (.int 0), .inl (.int 0), .inl (.int (-1))])
def s_dV : DecidableEq sV := @instDecidableEqSum _ _ inferInstance inferInstance
def s_dLV : DecidableEq (List sV) := @instDecidableEqList _ s_dV
def s_dE0 : DecidableEq (List Int64 ⊕ List (Option Nat)) := @instDecidableEqSum _ _ inferInstance inferInstance
def s_dE1 : DecidableEq (List sV ⊕ List Int64 ⊕ List (Option Nat)) := @instDecidableEqSum _ _ s_dLV s_dE0
def s_dE2 : DecidableEq (Nat × (List sV ⊕ List Int64 ⊕ List (Option Nat))) := @instDecidableEqProd _ _ inferInstance s_dE1
def s_dE3 : DecidableEq (Nat × List sV) := @instDecidableEqProd _ _ inferInstance s_dLV
def s_dE : DecidableEq sE := @instDecidableEqSum _ _ s_dE3 s_dE2
def s_dOE : DecidableEq (Option sE) := fun a b => match a, b with
  | none, none => isTrue rfl
  | none, some _ => isFalse (fun h => by cases h)
  | some _, none => isFalse (fun h => by cases h)
  | some x, some y => match s_dE x y with
    | isTrue h => isTrue (congrArg some h)
    | isFalse h => isFalse (fun q => h (Option.some.inj q))
def s_dLE : DecidableEq (List (Option sE)) := @instDecidableEqList _ s_dOE
def s_dLL : DecidableEq (List (List (Option sE))) := @instDecidableEqList _ s_dLE
def s_dM : DecidableEq sM := @instDecidableEqProd _ _ inferInstance s_dLL
def s_dL1 : DecidableEq (Nat × sV) := @instDecidableEqProd _ _ inferInstance s_dV
def s_dL : DecidableEq sL := @instDecidableEqList _ s_dL1
noncomputable def s_eqM (m m2 : sM) : Bool := @decide (m = m2) (s_dM m m2)
noncomputable def s_eqL (m m2 : sL) : Bool := @decide (m = m2) (s_dL m m2)
theorem s_eqM_i {m m2 : sM} (h : s_eqM m m2 = true) : m = m2 := @of_decide_eq_true _ (s_dM m m2) h
theorem s_eqL_i {m m2 : sL} (h : s_eqL m m2 = true) : m = m2 := @of_decide_eq_true _ (s_dL m m2) h
noncomputable def s_eqK (lv : sL) (m : sM) (o : sOut) : Bool := match o with
  | (.inr (lv1, st1), m1, c1, d1) => s_eqL lv1 lv && (st1.isEmpty && (s_eqM m1 m && (decide (c1 = 0) && decide (d1 = 0))))
  | _ => false
theorem s_eqK_i {lv : sL} {m : sM} {o : sOut} (h : s_eqK lv m o = true) : o = (.inr (lv, []), m, 0, 0) := by
  unfold s_eqK at h
  split at h
  · next lv1 st1 m1 c1 d1 =>
    simp only [Bool.and_eq_true, decide_eq_true_eq, List.isEmpty_iff] at h
    obtain ⟨h1, h2, h3, h4, h5⟩ := h
    rw [s_eqL_i h1, h2, s_eqM_i h3, h4, h5]
  · cases h
def s_lvP (x : sV) : sL := [(3, x), (2, .inl (.int 0)), (0, .inl (.ref 2)), (1, .inr (1, 0))]
def s_lvW (x : sV) : sL := [(2, x), (0, .inl (.ref 2)), (1, .inr (1, 0))]
noncomputable def s_HP (x : sV) : sM := s_wr s_H0 3 (some (s_rig x))
noncomputable def s_HW (x : sV) : sM := s_wr s_H0 62 (some (s_reh x))
noncomputable def s_in1 (I : sI) (n : Int) : Bool := match I[1]? with
  | some r => decide (1 ≤ r.1) && decide (r.2 ≤ n)
  | none => false
noncomputable def s_macA (y : Nat) (I : sI) (lv : sL) (st : List sV) (m : sM) (c d : Nat) : Option (Nat × sL × List sV × sM) := if y = 102 ∧ s_eqL lv (s_lvP (.inl (.int 0))) = true ∧ st.isEmpty = true ∧ c = 0 ∧ d = 0 ∧ s_in1 I 120 = true ∧ s_eqM m s_H0 = true then some (74, s_lvP (.inr (1, 0)), [], s_HP (.inr (1, 0))) else none
noncomputable def s_macB (y : Nat) (I : sI) (lv : sL) (st : List sV) (m : sM) (c d : Nat) : Option (Nat × sL × List sV × sM) := if y = 149 ∧ s_eqL lv (s_lvW (.inl (.int 0))) = true ∧ st.isEmpty = true ∧ c = 0 ∧ d = 0 ∧ s_in1 I 120 = true ∧ s_eqM m s_H0 = true then some (53, s_lvW (.inr (1, 0)), [], s_HW (.inr (1, 0))) else none
noncomputable def s_mac : sMac := fun y pc I lv st m c d => bif Nat.beq pc 56 then s_macA y I lv st m c d else bif Nat.beq pc 35 then s_macB y I lv st m c d else none
noncomputable def s_mac0 : sMac := fun _ _ _ _ _ _ _ _ => none
/-- no symbol in it -/
def s_cl (v : sV) : Bool := match v with
  | .inl _ => true
  | .inr _ => false
def s_clE (e : Option sE) : Bool := match e with
  | none => true
  | some (.inl o) => o.2.all s_cl
  | some (.inr (_, .inl l)) => l.all s_cl
  | some (.inr _) => true
theorem s_cl_v {ε ε2 : Nat → Int32} {v : sV} (h : s_cl v = true) : s_v ε v = s_v ε2 v := by
  cases v with
  | inl w => rfl
  | inr q => cases h
theorem s_cl_i {ε ε2 : Nat → Int32} {v : sV} (h : s_cl v = true) : s_i ε v = s_i ε2 v := by
  cases v with
  | inl w => cases w <;> rfl
  | inr q => cases h
theorem s_clE_ok {ε ε2 : Nat → Int32} {e : Option sE} (h : s_clE e = true) : e.map (s_e ε) = e.map (s_e ε2) := by
  rcases e with _ | (⟨ci, fs⟩ | ⟨t, l | l | l⟩)
  · rfl
  · show some (Sum.inl (ci, fs.map (s_v ε))) = some (Sum.inl (ci, fs.map (s_v ε2)))
    rw [List.map_congr_left fun v hv => s_cl_v (ε := ε) (ε2 := ε2) (List.all_eq_true.mp h v hv)]
  · show some (Sum.inr (t, l.length, Sum.inl (fun i => s_i ε (l.getD i (.inl (.int 0)))))) = some (Sum.inr (t, l.length, Sum.inl (fun i => s_i ε2 (l.getD i (.inl (.int 0))))))
    have e9 : (fun i => s_i ε (l.getD i (.inl (.int 0)))) = fun i => s_i ε2 (l.getD i (.inl (.int 0))) := funext fun i => by
      rcases Nat.lt_or_ge i l.length with hi | hi
      · exact s_cl_i (List.all_eq_true.mp h _ (g_getD_mem hi))
      · rw [g_getD_ge hi]; rfl
    rw [e9]
  · rfl
  · rfl
theorem s_clM_ok {ε ε2 : Nat → Int32} {m : sM} (h : m.2.all (fun c => c.all s_clE) = true) : s_M ε m = s_M ε2 m := by
  unfold s_M
  congr 1
  funext a
  rw [s_rd_def]
  rcases Nat.lt_or_ge (a / 16) m.2.length with h1 | h1
  · have h2 := List.all_eq_true.mp h _ (g_getD_mem (d := []) h1)
    rcases Nat.lt_or_ge (a % 16) (m.2.getD (a / 16) []).length with h3 | h3
    · exact s_clE_ok (List.all_eq_true.mp h2 _ (g_getD_mem h3))
    · rw [g_getD_ge h3]; rfl
  · rw [g_getD_ge h1]; rfl
noncomputable def s_wfb (m : sM) : Bool := (List.range (m.2.length * 16)).all (fun a => decide (a < m.1) || (s_rd m a).isNone)
theorem s_wfb_ok {m : sM} (h : s_wfb m = true) : s_wf m := fun a ha => by
  rcases Nat.lt_or_ge a (m.2.length * 16) with h1 | h1
  · have h2 := List.all_eq_true.mp h a (List.mem_range.mpr h1)
    rcases Bool.or_eq_true_iff.mp h2 with h3 | h3
    · exact absurd (of_decide_eq_true h3) (Nat.not_lt.mpr ha)
    · exact Option.isNone_iff_eq_none.mp h3
  · rw [s_rd_def, g_getD_ge (L := m.2) (by omega)]
    rfl
set_option maxRecDepth 100000 in
theorem s_H0_wf : s_wf s_H0 := s_wfb_ok (by decide +kernel)
set_option maxRecDepth 100000 in
theorem s_H0_cl : s_H0.2.all (fun c => c.all s_clE) = true := by decide +kernel
theorem s_H0_3 : (s_rd s_H0 3).isSome = true := by decide +kernel
theorem s_H0_62 : (s_rd s_H0 62).isSome = true := by decide +kernel
theorem s_HP_eq {ε ε2 : Nat → Int32} {v w : sV} (h : s_v ε v = s_v ε2 w) : s_M ε (s_HP v) = s_M ε2 (s_HP w) := by
  have e1 := s_set_ok (ε := ε) s_H0_wf (a := 3) (e := s_rig v) s_H0_3
  have e2 := s_set_ok (ε := ε2) s_H0_wf (a := 3) (e := s_rig w) s_H0_3
  have e3 : s_e ε (s_rig v) = s_e ε2 (s_rig w) := by
    simp only [s_e, s_rig, List.map_cons, List.map_nil, h]
    rfl
  unfold s_HP
  rw [← e1, ← e2, s_clM_ok (ε := ε) (ε2 := ε2) s_H0_cl, e3]
theorem s_HW_eq {ε ε2 : Nat → Int32} {v w : sV} (h : s_v ε v = s_v ε2 w) : s_M ε (s_HW v) = s_M ε2 (s_HW w) := by
  have e1 := s_set_ok (ε := ε) s_H0_wf (a := 62) (e := s_reh v) s_H0_62
  have e2 := s_set_ok (ε := ε2) s_H0_wf (a := 62) (e := s_reh w) s_H0_62
  have e3 : s_e ε (s_reh v) = s_e ε2 (s_reh w) := by
    simp only [s_e, s_reh, List.map_cons, List.map_nil, h]
    rfl
  unfold s_HW
  rw [← e1, ← e2, s_clM_ok (ε := ε) (ε2 := ε2) s_H0_cl, e3]
set_option maxRecDepth 100000 in
theorem s_HP_0 (ε : Nat → Int32) : s_M ε (s_HP (.inl (.int 0))) = s_M ε s_H0 := by
  have e : s_HP (.inl (.int 0)) = s_H0 := s_eqM_i (by decide +kernel)
  rw [e]
set_option maxRecDepth 100000 in
theorem s_HW_0 (ε : Nat → Int32) : s_M ε (s_HW (.inl (.int 0))) = s_M ε s_H0 := by
  have e : s_HW (.inl (.int 0)) = s_H0 := s_eqM_i (by decide +kernel)
  rw [e]
set_option maxRecDepth 100000 in
theorem s_HP_wf (v : sV) : s_wf (s_HP v) := s_set_wf s_H0_wf s_H0_3 _
theorem s_HW_wf (v : sV) : s_wf (s_HW v) := s_set_wf s_H0_wf s_H0_62 _
theorem s_lvP_eq {ε ε2 : Nat → Int32} {v w : sV} (h : s_v ε v = s_v ε2 w) (h1 : ε 1 = ε2 1) : s_Lv ε (s_lvP v) = s_Lv ε2 (s_lvP w) := by
  show [(3, s_v ε v), (2, Value.int 0), (0, Value.ref 2), (1, Value.int (ε 1 + 0))] = [(3, s_v ε2 w), (2, Value.int 0), (0, Value.ref 2), (1, Value.int (ε2 1 + 0))]
  rw [h, h1]
theorem s_lvW_eq {ε ε2 : Nat → Int32} {v w : sV} (h : s_v ε v = s_v ε2 w) (h1 : ε 1 = ε2 1) : s_Lv ε (s_lvW v) = s_Lv ε2 (s_lvW w) := by
  show [(2, s_v ε v), (0, Value.ref 2), (1, Value.int (ε 1 + 0))] = [(2, s_v ε2 w), (0, Value.ref 2), (1, Value.int (ε2 1 + 0))]
  rw [h, h1]
/-- a loop's head: counter and bound are loaded and compared -/
theorem s_head {xs : Nat → Int32} {L y pc l0 l1 l2 : Nat} {kf k1 : Fin 4} {off : Int} {pcE : Nat} (hT0 : gThr y pc = none) (hT1 : gThr y (pc + 1) = none) (hT2 : gThr y (pc + 1 + 1) = none) (hI0 : gI y pc = some (.iload_n kf, l0)) (hI1 : gI y (pc + 1) = some (.iload_n k1, l1)) (hI2 : gI y (pc + 1 + 1) = some (.if_icmp .ge off, l2)) (htg : g_tg (pc + 1 + 1) off = some pcE) {lv : gL} {M : gM} {c d : Nat} {x s : Int32} (hl0 : lv.lookup (kf : Nat) = some (.int x)) (hl1 : lv.lookup (k1 : Nat) = some (.int s)) {o : gOut} (h : g_R xs L y (if g_c2 .ge x s = true then pcE else pc + 1 + 1 + 3) lv [] M c d o) : g_R xs L y pc lv [] M c d o := by
  refine g_R_stp hT0 hI0 rfl (s_nocal_ok rfl _ _ _) (q := (pc + 1, lv, [.int x], M, c, d)) (by simp only [g_stp, hl0]) ⟨Nat.le_refl _, Nat.le_refl _, Nat.le_refl _⟩ ?_
  refine g_R_stp hT1 hI1 rfl (s_nocal_ok rfl _ _ _) (q := (pc + 1 + 1, lv, [.int s, .int x], M, c, d)) (by simp only [g_stp, hl1]) ⟨Nat.le_refl _, Nat.le_refl _, Nat.le_refl _⟩ ?_
  exact g_R_stp hT2 hI2 rfl (s_nocal_ok rfl _ _ _) (q := (if g_c2 .ge x s = true then pcE else pc + 1 + 1 + 3, lv, [], M, c, d)) (by simp only [g_stp, htg, Option.bind_some, g_pII]) ⟨Nat.le_refl _, Nat.le_refl _, Nat.le_refl _⟩ h
theorem s_ofNat_toInt {n : Nat} (h : n ≤ 1000) : (Int32.ofNat n).toInt = (n : Int) := by
  have : n < 2 ^ 31 := by omega
  exact Int32.toInt_ofNat_of_lt this
/-- the loop, from its head to its end -/
theorem s_lp {xs : Nat → Int32} {L y pc l0 l1 l2 : Nat} {kf k1 : Fin 4} {off : Int} {pcE n : Nat} (hT0 : gThr y pc = none) (hT1 : gThr y (pc + 1) = none) (hT2 : gThr y (pc + 1 + 1) = none) (hI0 : gI y pc = some (.iload_n kf, l0)) (hI1 : gI y (pc + 1) = some (.iload_n k1, l1)) (hI2 : gI y (pc + 1 + 1) = some (.if_icmp .ge off, l2)) (htg : g_tg (pc + 1 + 1) off = some pcE) {lvf : Nat → gL} {Mf : Nat → gM} (hl0 : ∀ j, (lvf j).lookup (kf : Nat) = some (.int (Int32.ofNat j))) (hl1 : ∀ j, (lvf j).lookup (k1 : Nat) = some (.int (Int32.ofNat n))) (hn : n ≤ 1000) {o : gOut}
    (hbody : ∀ j, j < n → g_R xs L y pc (lvf (j + 1)) [] (Mf (j + 1)) 0 0 o → g_R xs L y (pc + 1 + 1 + 3) (lvf j) [] (Mf j) 0 0 o) (h : g_R xs L y pcE (lvf n) [] (Mf n) 0 0 o) : ∀ (r j : Nat), j + r = n → g_R xs L y pc (lvf j) [] (Mf j) 0 0 o
  | 0, j, hj => by
    have hjn : j = n := by omega
    subst hjn
    refine s_head hT0 hT1 hT2 hI0 hI1 hI2 htg (hl0 j) (hl1 j) ?_
    rw [if_pos (by rw [s_c2_ok .ge (Or.inr (Or.inl ⟨rfl, rfl⟩))]; rfl)]
    exact h
  | r + 1, j, hj => by
    have ih := s_lp hT0 hT1 hT2 hI0 hI1 hI2 htg hl0 hl1 hn hbody h r (j + 1) (by omega)
    refine s_head hT0 hT1 hT2 hI0 hI1 hI2 htg (hl0 j) (hl1 j) ?_
    rw [if_neg (by rw [s_c2_ok .ge (Or.inl ⟨rfl, by rw [s_ofNat_toInt (by omega), s_ofNat_toInt hn]; omega⟩)]; decide)]
    exact hbody j (by omega) ih
def s_I7 : sI := [(-2147483648, 2147483647), (-2147483648, 2147483647), (-2147483648, 2147483647), (-2147483648, 2147483647), (-2147483648, 2147483647), (-2147483648, 2147483647), (-2147483648, 2147483647), (0, 3000)]
theorem s_full (x : Int32) : (-2147483648 : Int) ≤ x.toInt ∧ x.toInt ≤ 2147483647 := by
  have h1 := Int32.le_toInt x
  have h2 := Int32.toInt_lt x
  omega
theorem s_I7_ok {ε : Nat → Int32} (h : 0 ≤ (ε 7).toInt ∧ (ε 7).toInt ≤ 3000) : s_sat ε s_I7 := fun n r hr => by
  have hc : n < 8 := (List.getElem?_eq_some_iff.mp hr).1
  match n, hc, hr with
  | 0, _, hr => cases hr; exact s_full _
  | 1, _, hr => cases hr; exact s_full _
  | 2, _, hr => cases hr; exact s_full _
  | 3, _, hr => cases hr; exact s_full _
  | 4, _, hr => cases hr; exact s_full _
  | 5, _, hr => cases hr; exact s_full _
  | 6, _, hr => cases hr; exact s_full _
  | 7, _, hr => cases hr; exact h
set_option maxRecDepth 100000 in
theorem s_bodyP : s_run s_mac0 6 400 (some 56) s_I7 102 61 (s_lvP (.inr (7, 0))) [] (s_HP (.inr (7, 0))) 0 0 (fun _ o => s_eqK (s_lvP (.inr (7, 1))) (s_HP (.inr (7, 1))) o) = true := by decide +kernel
set_option maxRecDepth 100000 in
theorem s_bodyW : s_run s_mac0 6 400 (some 35) s_I7 149 40 (s_lvW (.inr (7, 0))) [] (s_HW (.inr (7, 0))) 0 0 (fun _ o => s_eqK (s_lvW (.inr (7, 1))) (s_HW (.inr (7, 1))) o) = true := by decide +kernel
def s_ε7 (ε : Nat → Int32) (j : Nat) : Nat → Int32 := fun k => if k = 7 then Int32.ofNat j else ε k
theorem s_v7_0 (ε : Nat → Int32) (j : Nat) : s_v (s_ε7 ε j) (.inr (7, 0)) = s_v ε (.inl (.int (Int32.ofNat j))) := by
  show Value.int (Int32.ofNat j + 0) = Value.int (Int32.ofNat j)
  rw [Int32.add_zero]
theorem s_v7_1 (ε : Nat → Int32) (j : Nat) : s_v (s_ε7 ε j) (.inr (7, 1)) = s_v ε (.inl (.int (Int32.ofNat (j + 1)))) := by
  show Value.int (Int32.ofNat j + 1) = Value.int (Int32.ofNat (j + 1))
  rw [Int32.ofNat_add]
  rfl
theorem s_in1_i {ε : Nat → Int32} {I : sI} {k : Int} (hs : s_sat ε I) (h : s_in1 I k = true) : 1 ≤ (ε 1).toInt ∧ (ε 1).toInt ≤ k := by
  unfold s_in1 at h
  split at h
  · next r hr =>
    simp only [Bool.and_eq_true, decide_eq_true_eq] at h
    have := hs 1 r hr
    omega
  · cases h
set_option maxRecDepth 100000 in
theorem s_mac_ok {xs ε : Nat → Int32} (hxs : ∀ n, n < 6 → ε n = xs n) (h6 : ε 6 = ε 0 &&& 31) : s_macok xs ε 6 s_mac := by
  intro y pc I lv st m c d pc1 lv1 st1 m1 h hm hI
  unfold s_mac at h
  cases hb1 : Nat.beq pc 56 with
  | true =>
   rw [hb1] at h
   change s_macA y I lv st m c d = some (pc1, lv1, st1, m1) at h
   unfold s_macA at h
   split at h
   · next hc =>
    have hpc := Nat.eq_of_beq_eq_true hb1
    subst hpc
    obtain ⟨rfl, hlv, hst, rfl, rfl, hin, hmm⟩ := hc
    have hlv := s_eqL_i hlv
    have hmm := s_eqM_i hmm
    have hst := List.isEmpty_iff.mp hst
    subst hlv hmm hst
    cases h
    refine ⟨s_HP_wf _, fun o ho => ?_⟩
    obtain ⟨hb1, hb2⟩ := s_in1_i hI hin
    have hn : Int32.ofNat (ε 1).toInt.toNat = ε 1 := by
      apply Int32.toInt_inj.mp
      rw [s_ofNat_toInt (by omega)]
      omega
    have hbody : ∀ j, j < (ε 1).toInt.toNat → g_R xs 6 102 56 (s_Lv ε (s_lvP (.inl (.int (Int32.ofNat (j + 1)))))) [] (s_M ε (s_HP (.inl (.int (Int32.ofNat (j + 1)))))) 0 0 o → g_R xs 6 102 (56 + 1 + 1 + 3) (s_Lv ε (s_lvP (.inl (.int (Int32.ofNat j))))) [] (s_M ε (s_HP (.inl (.int (Int32.ofNat j))))) 0 0 o := fun j hj hg => by
      have hx7 : ∀ n, n < 6 → s_ε7 ε j n = xs n := fun n hn => by unfold s_ε7; rw [if_neg (by omega)]; exact hxs n hn
      obtain ⟨I1, o1, a1, a2, a3, a4⟩ := s_run_ok (xs := xs) (ε := s_ε7 ε j) (Nat.le_refl 6) hx7 h6 (s_nomac _ _ _) _ _ _ _ _ _ _ _ _ _ _ s_bodyP (s_I7_ok (by show 0 ≤ (Int32.ofNat j).toInt ∧ (Int32.ofNat j).toInt ≤ 3000; rw [s_ofNat_toInt (by omega)]; omega)) (s_HP_wf _)
      have a1 := s_eqK_i a1
      subst a1
      obtain ⟨pc2, hp, a5⟩ := a4
      cases hp
      have a6 := a5 o
      rw [s_lvP_eq (s_v7_1 ε j) rfl, s_HP_eq (s_v7_1 ε j), s_lvP_eq (s_v7_0 ε j) rfl, s_HP_eq (s_v7_0 ε j)] at a6
      exact a6 hg
    have hend : g_R xs 6 102 74 (s_Lv ε (s_lvP (.inl (.int (Int32.ofNat (ε 1).toInt.toNat))))) [] (s_M ε (s_HP (.inl (.int (Int32.ofNat (ε 1).toInt.toNat))))) 0 0 o := by
      have e9 : s_v ε (.inr (1, 0)) = s_v ε (.inl (.int (Int32.ofNat (ε 1).toInt.toNat))) := by
        show Value.int (ε 1 + 0) = Value.int _
        rw [Int32.add_zero, hn]
      rw [← s_lvP_eq e9 rfl, ← s_HP_eq e9]
      exact ho
    have h9 := s_lp (xs := xs) (L := 6) (y := 102) (pc := 56) (kf := 3) (k1 := 1) (off := 16) (pcE := 74) (n := (ε 1).toInt.toNat) (l0 := 1) (l1 := 1) (l2 := 3) (by decide +kernel) (by decide +kernel) (by decide +kernel) (by decide +kernel) (by decide +kernel) (by decide +kernel) (by decide +kernel) (lvf := fun j => s_Lv ε (s_lvP (.inl (.int (Int32.ofNat j))))) (Mf := fun j => s_M ε (s_HP (.inl (.int (Int32.ofNat j))))) (fun j => rfl) (fun j => by rw [hn]; show some (Value.int (ε 1 + 0)) = _; rw [Int32.add_zero]) (by omega) hbody hend _ 0 (Nat.zero_add _)
    have e0 := s_HP_0 ε
    rw [← e0]
    exact h9
   · cases h
  | false =>
   rw [hb1] at h
   cases hb2 : Nat.beq pc 35 with
   | false => rw [hb2] at h; cases h
   | true =>
    rw [hb2] at h
    change s_macB y I lv st m c d = some (pc1, lv1, st1, m1) at h
    unfold s_macB at h
    split at h
    · next hc =>
      have hpc := Nat.eq_of_beq_eq_true hb2
      subst hpc
      obtain ⟨rfl, hlv, hst, rfl, rfl, hin, hmm⟩ := hc
      have hlv := s_eqL_i hlv
      have hmm := s_eqM_i hmm
      have hst := List.isEmpty_iff.mp hst
      subst hlv hmm hst
      cases h
      refine ⟨s_HW_wf _, fun o ho => ?_⟩
      obtain ⟨hb1, hb2⟩ := s_in1_i hI hin
      have hn : Int32.ofNat (ε 1).toInt.toNat = ε 1 := by
        apply Int32.toInt_inj.mp
        rw [s_ofNat_toInt (by omega)]
        omega
      have hbody : ∀ j, j < (ε 1).toInt.toNat → g_R xs 6 149 35 (s_Lv ε (s_lvW (.inl (.int (Int32.ofNat (j + 1)))))) [] (s_M ε (s_HW (.inl (.int (Int32.ofNat (j + 1)))))) 0 0 o → g_R xs 6 149 (35 + 1 + 1 + 3) (s_Lv ε (s_lvW (.inl (.int (Int32.ofNat j))))) [] (s_M ε (s_HW (.inl (.int (Int32.ofNat j))))) 0 0 o := fun j hj hg => by
        have hx7 : ∀ n, n < 6 → s_ε7 ε j n = xs n := fun n hn => by unfold s_ε7; rw [if_neg (by omega)]; exact hxs n hn
        obtain ⟨I1, o1, a1, a2, a3, a4⟩ := s_run_ok (xs := xs) (ε := s_ε7 ε j) (Nat.le_refl 6) hx7 h6 (s_nomac _ _ _) _ _ _ _ _ _ _ _ _ _ _ s_bodyW (s_I7_ok (by show 0 ≤ (Int32.ofNat j).toInt ∧ (Int32.ofNat j).toInt ≤ 3000; rw [s_ofNat_toInt (by omega)]; omega)) (s_HW_wf _)
        have a1 := s_eqK_i a1
        subst a1
        obtain ⟨pc2, hp, a5⟩ := a4
        cases hp
        have a6 := a5 o
        rw [s_lvW_eq (s_v7_1 ε j) rfl, s_HW_eq (s_v7_1 ε j), s_lvW_eq (s_v7_0 ε j) rfl, s_HW_eq (s_v7_0 ε j)] at a6
        exact a6 hg
      have hend : g_R xs 6 149 53 (s_Lv ε (s_lvW (.inl (.int (Int32.ofNat (ε 1).toInt.toNat))))) [] (s_M ε (s_HW (.inl (.int (Int32.ofNat (ε 1).toInt.toNat))))) 0 0 o := by
        have e9 : s_v ε (.inr (1, 0)) = s_v ε (.inl (.int (Int32.ofNat (ε 1).toInt.toNat))) := by
          show Value.int (ε 1 + 0) = Value.int _
          rw [Int32.add_zero, hn]
        rw [← s_lvW_eq e9 rfl, ← s_HW_eq e9]
        exact ho
      have h9 := s_lp (xs := xs) (L := 6) (y := 149) (pc := 35) (kf := 2) (k1 := 1) (off := 16) (pcE := 53) (n := (ε 1).toInt.toNat) (l0 := 1) (l1 := 1) (l2 := 3) (by decide +kernel) (by decide +kernel) (by decide +kernel) (by decide +kernel) (by decide +kernel) (by decide +kernel) (by decide +kernel) (lvf := fun j => s_Lv ε (s_lvW (.inl (.int (Int32.ofNat j))))) (Mf := fun j => s_M ε (s_HW (.inl (.int (Int32.ofNat j))))) (fun j => rfl) (fun j => by rw [hn]; show some (Value.int (ε 1 + 0)) = _; rw [Int32.add_zero]) (by omega) hbody hend _ 0 (Nat.zero_add _)
      have e0 := s_HW_0 ε
      rw [← e0]
      exact h9
    · cases h
