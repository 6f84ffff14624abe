/-! the shape that stays behind the constructors -/
def kdT : List Nat := [10, 101, 7, 101, 9, 0, 100, 1, 100, 100, 100, 100, 100, 9, 0, 100, 1, 100, 100, 9, 0, 100, 1, 100, 100, 4, 100, 9, 0, 100, 1, 100, 100, 5, 100, 3, 100, 100, 8, 100, 100, 100, 6, 100, 0, 100, 100, 100, 100, 100, 100, 100, 100, 104, 2, 100, 2, 100, 2, 100, 2, 100, 100, 100, 100, 105, 1, 100, 100, 1, 100, 100, 1, 100, 100, 100, 12, 101, 101, 100, 100, 100, 100, 100, 100, 100, 100, 100, 100, 100, 100, 103, 100, 100, 100, 100, 100, 100, 100, 100, 102]
def lnT : List Nat := [0, 900, 0, 0, 0, 0, 4, 0, 20, 20, 4, 4, 5, 0, 0, 4, 0, 20, 20, 0, 0, 4, 0, 20, 20, 0, 2000, 0, 0, 4, 0, 20, 20, 0, 5, 0, 5, 5, 0, 4096, 4096, 4096, 0, 300, 0, 0, 120, 5, 0, 0, 300, 300, 300, 4, 0, 2000, 0, 2000, 0, 2000, 0, 2000, 16, 20, 5, 3, 0, 20, 20, 0, 20, 20, 0, 20, 20, 5, 0, 900, 10000, 5, 5, 5, 1920, 120, 2000, 5, 32768, 32768, 2000, 2000, 2000, 2000, 300, 1920, 20, 20, 60, 60, 3, 3, 1]
def rfT : List (Nat × Nat × Nat) := [(0, 0, 1), (0, 2, 2), (0, 5, 25), (0, 6, 65), (0, 11, 75), (2, 5, 10), (2, 6, 11), (2, 7, 12), (4, 1, 5), (4, 2, 6), (4, 4, 7), (7, 0, 8), (7, 1, 9), (13, 1, 14), (13, 2, 15), (13, 4, 16), (16, 0, 17), (16, 1, 18), (19, 1, 20), (19, 2, 21), (19, 4, 22), (22, 0, 23), (22, 1, 24), (25, 0, 26), (25, 2, 33), (25, 3, 35), (25, 4, 38), (25, 5, 42), (25, 6, 53), (25, 7, 62), (25, 8, 63), (25, 10, 64), (27, 1, 28), (27, 2, 29), (27, 4, 30), (30, 0, 31), (30, 1, 32), (33, 0, 34), (35, 0, 36), (35, 1, 37), (38, 0, 39), (38, 1, 40), (38, 2, 41), (42, 0, 43), (42, 5, 46), (42, 7, 47), (42, 11, 50), (42, 12, 51), (42, 13, 52), (53, 0, 54), (53, 1, 56), (53, 2, 58), (53, 3, 60), (54, 1, 55), (56, 1, 57), (58, 1, 59), (60, 1, 61), (65, 0, 66), (65, 1, 69), (65, 2, 72), (66, 0, 67), (66, 1, 68), (69, 0, 70), (69, 1, 71), (72, 0, 73), (72, 1, 74), (76, 5, 77), (76, 16, 78), (76, 18, 79), (76, 19, 80), (76, 20, 81), (76, 21, 82), (76, 23, 83), (76, 25, 84), (76, 26, 85), (76, 27, 86), (76, 28, 87), (76, 29, 88), (76, 30, 89), (76, 31, 90), (76, 32, 91), (76, 33, 92), (76, 34, 93), (76, 37, 94), (76, 38, 95), (76, 39, 96), (76, 40, 97), (76, 41, 98), (76, 42, 99)]
def St (h : Zh) : Prop := 101 ≤ zN h ∧ (∀ i, i < 101 → zK h i = kdT.getD i 0) ∧ (∀ i, i < 101 → zL h i = lnT.getD i 0) ∧ ∀ q, q ∈ rfT → zR h q.1 q.2.1 = some q.2.2
theorem sK0 {h : Zh} (s : St h) : zK h 0 = 10 := s.2.1 0 (by decide)
theorem sK1 {h : Zh} (s : St h) : zK h 1 = 101 := s.2.1 1 (by decide)
theorem sL1 {h : Zh} (s : St h) : zL h 1 = 900 := s.2.2.1 1 (by decide)
theorem sK2 {h : Zh} (s : St h) : zK h 2 = 7 := s.2.1 2 (by decide)
theorem sK3 {h : Zh} (s : St h) : zK h 3 = 101 := s.2.1 3 (by decide)
theorem sL3 {h : Zh} (s : St h) : zL h 3 = 0 := s.2.2.1 3 (by decide)
theorem sK4 {h : Zh} (s : St h) : zK h 4 = 9 := s.2.1 4 (by decide)
theorem sK5 {h : Zh} (s : St h) : zK h 5 = 0 := s.2.1 5 (by decide)
theorem sK6 {h : Zh} (s : St h) : zK h 6 = 100 := s.2.1 6 (by decide)
theorem sL6 {h : Zh} (s : St h) : zL h 6 = 4 := s.2.2.1 6 (by decide)
theorem sK7 {h : Zh} (s : St h) : zK h 7 = 1 := s.2.1 7 (by decide)
theorem sK8 {h : Zh} (s : St h) : zK h 8 = 100 := s.2.1 8 (by decide)
theorem sL8 {h : Zh} (s : St h) : zL h 8 = 20 := s.2.2.1 8 (by decide)
theorem sK9 {h : Zh} (s : St h) : zK h 9 = 100 := s.2.1 9 (by decide)
theorem sL9 {h : Zh} (s : St h) : zL h 9 = 20 := s.2.2.1 9 (by decide)
theorem sK10 {h : Zh} (s : St h) : zK h 10 = 100 := s.2.1 10 (by decide)
theorem sL10 {h : Zh} (s : St h) : zL h 10 = 4 := s.2.2.1 10 (by decide)
theorem sK11 {h : Zh} (s : St h) : zK h 11 = 100 := s.2.1 11 (by decide)
theorem sL11 {h : Zh} (s : St h) : zL h 11 = 4 := s.2.2.1 11 (by decide)
theorem sK12 {h : Zh} (s : St h) : zK h 12 = 100 := s.2.1 12 (by decide)
theorem sL12 {h : Zh} (s : St h) : zL h 12 = 5 := s.2.2.1 12 (by decide)
theorem sK13 {h : Zh} (s : St h) : zK h 13 = 9 := s.2.1 13 (by decide)
theorem sK14 {h : Zh} (s : St h) : zK h 14 = 0 := s.2.1 14 (by decide)
theorem sK15 {h : Zh} (s : St h) : zK h 15 = 100 := s.2.1 15 (by decide)
theorem sL15 {h : Zh} (s : St h) : zL h 15 = 4 := s.2.2.1 15 (by decide)
theorem sK16 {h : Zh} (s : St h) : zK h 16 = 1 := s.2.1 16 (by decide)
theorem sK17 {h : Zh} (s : St h) : zK h 17 = 100 := s.2.1 17 (by decide)
theorem sL17 {h : Zh} (s : St h) : zL h 17 = 20 := s.2.2.1 17 (by decide)
theorem sK18 {h : Zh} (s : St h) : zK h 18 = 100 := s.2.1 18 (by decide)
theorem sL18 {h : Zh} (s : St h) : zL h 18 = 20 := s.2.2.1 18 (by decide)
theorem sK19 {h : Zh} (s : St h) : zK h 19 = 9 := s.2.1 19 (by decide)
theorem sK20 {h : Zh} (s : St h) : zK h 20 = 0 := s.2.1 20 (by decide)
theorem sK21 {h : Zh} (s : St h) : zK h 21 = 100 := s.2.1 21 (by decide)
theorem sL21 {h : Zh} (s : St h) : zL h 21 = 4 := s.2.2.1 21 (by decide)
theorem sK22 {h : Zh} (s : St h) : zK h 22 = 1 := s.2.1 22 (by decide)
theorem sK23 {h : Zh} (s : St h) : zK h 23 = 100 := s.2.1 23 (by decide)
theorem sL23 {h : Zh} (s : St h) : zL h 23 = 20 := s.2.2.1 23 (by decide)
theorem sK24 {h : Zh} (s : St h) : zK h 24 = 100 := s.2.1 24 (by decide)
theorem sL24 {h : Zh} (s : St h) : zL h 24 = 20 := s.2.2.1 24 (by decide)
theorem sK25 {h : Zh} (s : St h) : zK h 25 = 4 := s.2.1 25 (by decide)
theorem sK26 {h : Zh} (s : St h) : zK h 26 = 100 := s.2.1 26 (by decide)
theorem sL26 {h : Zh} (s : St h) : zL h 26 = 2000 := s.2.2.1 26 (by decide)
theorem sK27 {h : Zh} (s : St h) : zK h 27 = 9 := s.2.1 27 (by decide)
theorem sK28 {h : Zh} (s : St h) : zK h 28 = 0 := s.2.1 28 (by decide)
theorem sK29 {h : Zh} (s : St h) : zK h 29 = 100 := s.2.1 29 (by decide)
theorem sL29 {h : Zh} (s : St h) : zL h 29 = 4 := s.2.2.1 29 (by decide)
theorem sK30 {h : Zh} (s : St h) : zK h 30 = 1 := s.2.1 30 (by decide)
theorem sK31 {h : Zh} (s : St h) : zK h 31 = 100 := s.2.1 31 (by decide)
theorem sL31 {h : Zh} (s : St h) : zL h 31 = 20 := s.2.2.1 31 (by decide)
theorem sK32 {h : Zh} (s : St h) : zK h 32 = 100 := s.2.1 32 (by decide)
theorem sL32 {h : Zh} (s : St h) : zL h 32 = 20 := s.2.2.1 32 (by decide)
theorem sK33 {h : Zh} (s : St h) : zK h 33 = 5 := s.2.1 33 (by decide)
theorem sK34 {h : Zh} (s : St h) : zK h 34 = 100 := s.2.1 34 (by decide)
theorem sL34 {h : Zh} (s : St h) : zL h 34 = 5 := s.2.2.1 34 (by decide)
theorem sK35 {h : Zh} (s : St h) : zK h 35 = 3 := s.2.1 35 (by decide)
theorem sK36 {h : Zh} (s : St h) : zK h 36 = 100 := s.2.1 36 (by decide)
theorem sL36 {h : Zh} (s : St h) : zL h 36 = 5 := s.2.2.1 36 (by decide)
theorem sK37 {h : Zh} (s : St h) : zK h 37 = 100 := s.2.1 37 (by decide)
theorem sL37 {h : Zh} (s : St h) : zL h 37 = 5 := s.2.2.1 37 (by decide)
theorem sK38 {h : Zh} (s : St h) : zK h 38 = 8 := s.2.1 38 (by decide)
theorem sK39 {h : Zh} (s : St h) : zK h 39 = 100 := s.2.1 39 (by decide)
theorem sL39 {h : Zh} (s : St h) : zL h 39 = 4096 := s.2.2.1 39 (by decide)
theorem sK40 {h : Zh} (s : St h) : zK h 40 = 100 := s.2.1 40 (by decide)
theorem sL40 {h : Zh} (s : St h) : zL h 40 = 4096 := s.2.2.1 40 (by decide)
theorem sK41 {h : Zh} (s : St h) : zK h 41 = 100 := s.2.1 41 (by decide)
theorem sL41 {h : Zh} (s : St h) : zL h 41 = 4096 := s.2.2.1 41 (by decide)
theorem sK42 {h : Zh} (s : St h) : zK h 42 = 6 := s.2.1 42 (by decide)
theorem sK43 {h : Zh} (s : St h) : zK h 43 = 100 := s.2.1 43 (by decide)
theorem sL43 {h : Zh} (s : St h) : zL h 43 = 300 := s.2.2.1 43 (by decide)
theorem sK44 {h : Zh} (s : St h) : zK h 44 = 0 := s.2.1 44 (by decide)
theorem sK45 {h : Zh} (s : St h) : zK h 45 = 100 := s.2.1 45 (by decide)
theorem sL45 {h : Zh} (s : St h) : zL h 45 = 0 := s.2.2.1 45 (by decide)
theorem sK46 {h : Zh} (s : St h) : zK h 46 = 100 := s.2.1 46 (by decide)
theorem sL46 {h : Zh} (s : St h) : zL h 46 = 120 := s.2.2.1 46 (by decide)
theorem sK47 {h : Zh} (s : St h) : zK h 47 = 100 := s.2.1 47 (by decide)
theorem sL47 {h : Zh} (s : St h) : zL h 47 = 5 := s.2.2.1 47 (by decide)
theorem sK48 {h : Zh} (s : St h) : zK h 48 = 100 := s.2.1 48 (by decide)
theorem sL48 {h : Zh} (s : St h) : zL h 48 = 0 := s.2.2.1 48 (by decide)
theorem sK49 {h : Zh} (s : St h) : zK h 49 = 100 := s.2.1 49 (by decide)
theorem sL49 {h : Zh} (s : St h) : zL h 49 = 0 := s.2.2.1 49 (by decide)
theorem sK50 {h : Zh} (s : St h) : zK h 50 = 100 := s.2.1 50 (by decide)
theorem sL50 {h : Zh} (s : St h) : zL h 50 = 300 := s.2.2.1 50 (by decide)
theorem sK51 {h : Zh} (s : St h) : zK h 51 = 100 := s.2.1 51 (by decide)
theorem sL51 {h : Zh} (s : St h) : zL h 51 = 300 := s.2.2.1 51 (by decide)
theorem sK52 {h : Zh} (s : St h) : zK h 52 = 100 := s.2.1 52 (by decide)
theorem sL52 {h : Zh} (s : St h) : zL h 52 = 300 := s.2.2.1 52 (by decide)
theorem sK53 {h : Zh} (s : St h) : zK h 53 = 104 := s.2.1 53 (by decide)
theorem sL53 {h : Zh} (s : St h) : zL h 53 = 4 := s.2.2.1 53 (by decide)
theorem sK54 {h : Zh} (s : St h) : zK h 54 = 2 := s.2.1 54 (by decide)
theorem sK55 {h : Zh} (s : St h) : zK h 55 = 100 := s.2.1 55 (by decide)
theorem sL55 {h : Zh} (s : St h) : zL h 55 = 2000 := s.2.2.1 55 (by decide)
theorem sK56 {h : Zh} (s : St h) : zK h 56 = 2 := s.2.1 56 (by decide)
theorem sK57 {h : Zh} (s : St h) : zK h 57 = 100 := s.2.1 57 (by decide)
theorem sL57 {h : Zh} (s : St h) : zL h 57 = 2000 := s.2.2.1 57 (by decide)
theorem sK58 {h : Zh} (s : St h) : zK h 58 = 2 := s.2.1 58 (by decide)
theorem sK59 {h : Zh} (s : St h) : zK h 59 = 100 := s.2.1 59 (by decide)
theorem sL59 {h : Zh} (s : St h) : zL h 59 = 2000 := s.2.2.1 59 (by decide)
theorem sK60 {h : Zh} (s : St h) : zK h 60 = 2 := s.2.1 60 (by decide)
theorem sK61 {h : Zh} (s : St h) : zK h 61 = 100 := s.2.1 61 (by decide)
theorem sL61 {h : Zh} (s : St h) : zL h 61 = 2000 := s.2.2.1 61 (by decide)
theorem sK62 {h : Zh} (s : St h) : zK h 62 = 100 := s.2.1 62 (by decide)
theorem sL62 {h : Zh} (s : St h) : zL h 62 = 16 := s.2.2.1 62 (by decide)
theorem sK63 {h : Zh} (s : St h) : zK h 63 = 100 := s.2.1 63 (by decide)
theorem sL63 {h : Zh} (s : St h) : zL h 63 = 20 := s.2.2.1 63 (by decide)
theorem sK64 {h : Zh} (s : St h) : zK h 64 = 100 := s.2.1 64 (by decide)
theorem sL64 {h : Zh} (s : St h) : zL h 64 = 5 := s.2.2.1 64 (by decide)
theorem sK65 {h : Zh} (s : St h) : zK h 65 = 105 := s.2.1 65 (by decide)
theorem sL65 {h : Zh} (s : St h) : zL h 65 = 3 := s.2.2.1 65 (by decide)
theorem sK66 {h : Zh} (s : St h) : zK h 66 = 1 := s.2.1 66 (by decide)
theorem sK67 {h : Zh} (s : St h) : zK h 67 = 100 := s.2.1 67 (by decide)
theorem sL67 {h : Zh} (s : St h) : zL h 67 = 20 := s.2.2.1 67 (by decide)
theorem sK68 {h : Zh} (s : St h) : zK h 68 = 100 := s.2.1 68 (by decide)
theorem sL68 {h : Zh} (s : St h) : zL h 68 = 20 := s.2.2.1 68 (by decide)
theorem sK69 {h : Zh} (s : St h) : zK h 69 = 1 := s.2.1 69 (by decide)
theorem sK70 {h : Zh} (s : St h) : zK h 70 = 100 := s.2.1 70 (by decide)
theorem sL70 {h : Zh} (s : St h) : zL h 70 = 20 := s.2.2.1 70 (by decide)
theorem sK71 {h : Zh} (s : St h) : zK h 71 = 100 := s.2.1 71 (by decide)
theorem sL71 {h : Zh} (s : St h) : zL h 71 = 20 := s.2.2.1 71 (by decide)
theorem sK72 {h : Zh} (s : St h) : zK h 72 = 1 := s.2.1 72 (by decide)
theorem sK73 {h : Zh} (s : St h) : zK h 73 = 100 := s.2.1 73 (by decide)
theorem sL73 {h : Zh} (s : St h) : zL h 73 = 20 := s.2.2.1 73 (by decide)
theorem sK74 {h : Zh} (s : St h) : zK h 74 = 100 := s.2.1 74 (by decide)
theorem sL74 {h : Zh} (s : St h) : zL h 74 = 20 := s.2.2.1 74 (by decide)
theorem sK75 {h : Zh} (s : St h) : zK h 75 = 100 := s.2.1 75 (by decide)
theorem sL75 {h : Zh} (s : St h) : zL h 75 = 5 := s.2.2.1 75 (by decide)
theorem sK76 {h : Zh} (s : St h) : zK h 76 = 12 := s.2.1 76 (by decide)
theorem sK77 {h : Zh} (s : St h) : zK h 77 = 101 := s.2.1 77 (by decide)
theorem sL77 {h : Zh} (s : St h) : zL h 77 = 900 := s.2.2.1 77 (by decide)
theorem sK78 {h : Zh} (s : St h) : zK h 78 = 101 := s.2.1 78 (by decide)
theorem sL78 {h : Zh} (s : St h) : zL h 78 = 10000 := s.2.2.1 78 (by decide)
theorem sK79 {h : Zh} (s : St h) : zK h 79 = 100 := s.2.1 79 (by decide)
theorem sL79 {h : Zh} (s : St h) : zL h 79 = 5 := s.2.2.1 79 (by decide)
theorem sK80 {h : Zh} (s : St h) : zK h 80 = 100 := s.2.1 80 (by decide)
theorem sL80 {h : Zh} (s : St h) : zL h 80 = 5 := s.2.2.1 80 (by decide)
theorem sK81 {h : Zh} (s : St h) : zK h 81 = 100 := s.2.1 81 (by decide)
theorem sL81 {h : Zh} (s : St h) : zL h 81 = 5 := s.2.2.1 81 (by decide)
theorem sK82 {h : Zh} (s : St h) : zK h 82 = 100 := s.2.1 82 (by decide)
theorem sL82 {h : Zh} (s : St h) : zL h 82 = 1920 := s.2.2.1 82 (by decide)
theorem sK83 {h : Zh} (s : St h) : zK h 83 = 100 := s.2.1 83 (by decide)
theorem sL83 {h : Zh} (s : St h) : zL h 83 = 120 := s.2.2.1 83 (by decide)
theorem sK84 {h : Zh} (s : St h) : zK h 84 = 100 := s.2.1 84 (by decide)
theorem sL84 {h : Zh} (s : St h) : zL h 84 = 2000 := s.2.2.1 84 (by decide)
theorem sK85 {h : Zh} (s : St h) : zK h 85 = 100 := s.2.1 85 (by decide)
theorem sL85 {h : Zh} (s : St h) : zL h 85 = 5 := s.2.2.1 85 (by decide)
theorem sK86 {h : Zh} (s : St h) : zK h 86 = 100 := s.2.1 86 (by decide)
theorem sL86 {h : Zh} (s : St h) : zL h 86 = 32768 := s.2.2.1 86 (by decide)
theorem sK87 {h : Zh} (s : St h) : zK h 87 = 100 := s.2.1 87 (by decide)
theorem sL87 {h : Zh} (s : St h) : zL h 87 = 32768 := s.2.2.1 87 (by decide)
theorem sK88 {h : Zh} (s : St h) : zK h 88 = 100 := s.2.1 88 (by decide)
theorem sL88 {h : Zh} (s : St h) : zL h 88 = 2000 := s.2.2.1 88 (by decide)
theorem sK89 {h : Zh} (s : St h) : zK h 89 = 100 := s.2.1 89 (by decide)
theorem sL89 {h : Zh} (s : St h) : zL h 89 = 2000 := s.2.2.1 89 (by decide)
theorem sK90 {h : Zh} (s : St h) : zK h 90 = 100 := s.2.1 90 (by decide)
theorem sL90 {h : Zh} (s : St h) : zL h 90 = 2000 := s.2.2.1 90 (by decide)
theorem sK91 {h : Zh} (s : St h) : zK h 91 = 103 := s.2.1 91 (by decide)
theorem sL91 {h : Zh} (s : St h) : zL h 91 = 2000 := s.2.2.1 91 (by decide)
theorem sK92 {h : Zh} (s : St h) : zK h 92 = 100 := s.2.1 92 (by decide)
theorem sL92 {h : Zh} (s : St h) : zL h 92 = 300 := s.2.2.1 92 (by decide)
theorem sK93 {h : Zh} (s : St h) : zK h 93 = 100 := s.2.1 93 (by decide)
theorem sL93 {h : Zh} (s : St h) : zL h 93 = 1920 := s.2.2.1 93 (by decide)
theorem sK94 {h : Zh} (s : St h) : zK h 94 = 100 := s.2.1 94 (by decide)
theorem sL94 {h : Zh} (s : St h) : zL h 94 = 20 := s.2.2.1 94 (by decide)
theorem sK95 {h : Zh} (s : St h) : zK h 95 = 100 := s.2.1 95 (by decide)
theorem sL95 {h : Zh} (s : St h) : zL h 95 = 20 := s.2.2.1 95 (by decide)
theorem sK96 {h : Zh} (s : St h) : zK h 96 = 100 := s.2.1 96 (by decide)
theorem sL96 {h : Zh} (s : St h) : zL h 96 = 60 := s.2.2.1 96 (by decide)
theorem sK97 {h : Zh} (s : St h) : zK h 97 = 100 := s.2.1 97 (by decide)
theorem sL97 {h : Zh} (s : St h) : zL h 97 = 60 := s.2.2.1 97 (by decide)
theorem sK98 {h : Zh} (s : St h) : zK h 98 = 100 := s.2.1 98 (by decide)
theorem sL98 {h : Zh} (s : St h) : zL h 98 = 3 := s.2.2.1 98 (by decide)
theorem sK99 {h : Zh} (s : St h) : zK h 99 = 100 := s.2.1 99 (by decide)
theorem sL99 {h : Zh} (s : St h) : zL h 99 = 3 := s.2.2.1 99 (by decide)
theorem sK100 {h : Zh} (s : St h) : zK h 100 = 102 := s.2.1 100 (by decide)
theorem sL100 {h : Zh} (s : St h) : zL h 100 = 1 := s.2.2.1 100 (by decide)
theorem sR0_0 {h : Zh} (s : St h) : zR h 0 0 = some 1 := s.2.2.2 (0, 0, 1) (by decide)
theorem sB0_0 {β : Type} {h : Zh} (s : St h) (f : Nat → Option β) : (zR h 0 0).bind f = f 1 := bd_of (sR0_0 s) f
theorem sR0_2 {h : Zh} (s : St h) : zR h 0 2 = some 2 := s.2.2.2 (0, 2, 2) (by decide)
theorem sB0_2 {β : Type} {h : Zh} (s : St h) (f : Nat → Option β) : (zR h 0 2).bind f = f 2 := bd_of (sR0_2 s) f
theorem sR0_5 {h : Zh} (s : St h) : zR h 0 5 = some 25 := s.2.2.2 (0, 5, 25) (by decide)
theorem sB0_5 {β : Type} {h : Zh} (s : St h) (f : Nat → Option β) : (zR h 0 5).bind f = f 25 := bd_of (sR0_5 s) f
theorem sR0_6 {h : Zh} (s : St h) : zR h 0 6 = some 65 := s.2.2.2 (0, 6, 65) (by decide)
theorem sB0_6 {β : Type} {h : Zh} (s : St h) (f : Nat → Option β) : (zR h 0 6).bind f = f 65 := bd_of (sR0_6 s) f
theorem sR0_11 {h : Zh} (s : St h) : zR h 0 11 = some 75 := s.2.2.2 (0, 11, 75) (by decide)
theorem sB0_11 {β : Type} {h : Zh} (s : St h) (f : Nat → Option β) : (zR h 0 11).bind f = f 75 := bd_of (sR0_11 s) f
theorem sR2_5 {h : Zh} (s : St h) : zR h 2 5 = some 10 := s.2.2.2 (2, 5, 10) (by decide)
theorem sB2_5 {β : Type} {h : Zh} (s : St h) (f : Nat → Option β) : (zR h 2 5).bind f = f 10 := bd_of (sR2_5 s) f
theorem sR2_6 {h : Zh} (s : St h) : zR h 2 6 = some 11 := s.2.2.2 (2, 6, 11) (by decide)
theorem sB2_6 {β : Type} {h : Zh} (s : St h) (f : Nat → Option β) : (zR h 2 6).bind f = f 11 := bd_of (sR2_6 s) f
theorem sR2_7 {h : Zh} (s : St h) : zR h 2 7 = some 12 := s.2.2.2 (2, 7, 12) (by decide)
theorem sB2_7 {β : Type} {h : Zh} (s : St h) (f : Nat → Option β) : (zR h 2 7).bind f = f 12 := bd_of (sR2_7 s) f
theorem sR4_1 {h : Zh} (s : St h) : zR h 4 1 = some 5 := s.2.2.2 (4, 1, 5) (by decide)
theorem sB4_1 {β : Type} {h : Zh} (s : St h) (f : Nat → Option β) : (zR h 4 1).bind f = f 5 := bd_of (sR4_1 s) f
theorem sR4_2 {h : Zh} (s : St h) : zR h 4 2 = some 6 := s.2.2.2 (4, 2, 6) (by decide)
theorem sB4_2 {β : Type} {h : Zh} (s : St h) (f : Nat → Option β) : (zR h 4 2).bind f = f 6 := bd_of (sR4_2 s) f
theorem sR4_4 {h : Zh} (s : St h) : zR h 4 4 = some 7 := s.2.2.2 (4, 4, 7) (by decide)
theorem sB4_4 {β : Type} {h : Zh} (s : St h) (f : Nat → Option β) : (zR h 4 4).bind f = f 7 := bd_of (sR4_4 s) f
theorem sR7_0 {h : Zh} (s : St h) : zR h 7 0 = some 8 := s.2.2.2 (7, 0, 8) (by decide)
theorem sB7_0 {β : Type} {h : Zh} (s : St h) (f : Nat → Option β) : (zR h 7 0).bind f = f 8 := bd_of (sR7_0 s) f
theorem sR7_1 {h : Zh} (s : St h) : zR h 7 1 = some 9 := s.2.2.2 (7, 1, 9) (by decide)
theorem sB7_1 {β : Type} {h : Zh} (s : St h) (f : Nat → Option β) : (zR h 7 1).bind f = f 9 := bd_of (sR7_1 s) f
theorem sR13_1 {h : Zh} (s : St h) : zR h 13 1 = some 14 := s.2.2.2 (13, 1, 14) (by decide)
theorem sB13_1 {β : Type} {h : Zh} (s : St h) (f : Nat → Option β) : (zR h 13 1).bind f = f 14 := bd_of (sR13_1 s) f
theorem sR13_2 {h : Zh} (s : St h) : zR h 13 2 = some 15 := s.2.2.2 (13, 2, 15) (by decide)
theorem sB13_2 {β : Type} {h : Zh} (s : St h) (f : Nat → Option β) : (zR h 13 2).bind f = f 15 := bd_of (sR13_2 s) f
theorem sR13_4 {h : Zh} (s : St h) : zR h 13 4 = some 16 := s.2.2.2 (13, 4, 16) (by decide)
theorem sB13_4 {β : Type} {h : Zh} (s : St h) (f : Nat → Option β) : (zR h 13 4).bind f = f 16 := bd_of (sR13_4 s) f
theorem sR16_0 {h : Zh} (s : St h) : zR h 16 0 = some 17 := s.2.2.2 (16, 0, 17) (by decide)
theorem sB16_0 {β : Type} {h : Zh} (s : St h) (f : Nat → Option β) : (zR h 16 0).bind f = f 17 := bd_of (sR16_0 s) f
theorem sR16_1 {h : Zh} (s : St h) : zR h 16 1 = some 18 := s.2.2.2 (16, 1, 18) (by decide)
theorem sB16_1 {β : Type} {h : Zh} (s : St h) (f : Nat → Option β) : (zR h 16 1).bind f = f 18 := bd_of (sR16_1 s) f
theorem sR19_1 {h : Zh} (s : St h) : zR h 19 1 = some 20 := s.2.2.2 (19, 1, 20) (by decide)
theorem sB19_1 {β : Type} {h : Zh} (s : St h) (f : Nat → Option β) : (zR h 19 1).bind f = f 20 := bd_of (sR19_1 s) f
theorem sR19_2 {h : Zh} (s : St h) : zR h 19 2 = some 21 := s.2.2.2 (19, 2, 21) (by decide)
theorem sB19_2 {β : Type} {h : Zh} (s : St h) (f : Nat → Option β) : (zR h 19 2).bind f = f 21 := bd_of (sR19_2 s) f
theorem sR19_4 {h : Zh} (s : St h) : zR h 19 4 = some 22 := s.2.2.2 (19, 4, 22) (by decide)
theorem sB19_4 {β : Type} {h : Zh} (s : St h) (f : Nat → Option β) : (zR h 19 4).bind f = f 22 := bd_of (sR19_4 s) f
theorem sR22_0 {h : Zh} (s : St h) : zR h 22 0 = some 23 := s.2.2.2 (22, 0, 23) (by decide)
theorem sB22_0 {β : Type} {h : Zh} (s : St h) (f : Nat → Option β) : (zR h 22 0).bind f = f 23 := bd_of (sR22_0 s) f
theorem sR22_1 {h : Zh} (s : St h) : zR h 22 1 = some 24 := s.2.2.2 (22, 1, 24) (by decide)
theorem sB22_1 {β : Type} {h : Zh} (s : St h) (f : Nat → Option β) : (zR h 22 1).bind f = f 24 := bd_of (sR22_1 s) f
theorem sR25_0 {h : Zh} (s : St h) : zR h 25 0 = some 26 := s.2.2.2 (25, 0, 26) (by decide)
theorem sB25_0 {β : Type} {h : Zh} (s : St h) (f : Nat → Option β) : (zR h 25 0).bind f = f 26 := bd_of (sR25_0 s) f
theorem sR25_2 {h : Zh} (s : St h) : zR h 25 2 = some 33 := s.2.2.2 (25, 2, 33) (by decide)
theorem sB25_2 {β : Type} {h : Zh} (s : St h) (f : Nat → Option β) : (zR h 25 2).bind f = f 33 := bd_of (sR25_2 s) f
theorem sR25_3 {h : Zh} (s : St h) : zR h 25 3 = some 35 := s.2.2.2 (25, 3, 35) (by decide)
theorem sB25_3 {β : Type} {h : Zh} (s : St h) (f : Nat → Option β) : (zR h 25 3).bind f = f 35 := bd_of (sR25_3 s) f
theorem sR25_4 {h : Zh} (s : St h) : zR h 25 4 = some 38 := s.2.2.2 (25, 4, 38) (by decide)
theorem sB25_4 {β : Type} {h : Zh} (s : St h) (f : Nat → Option β) : (zR h 25 4).bind f = f 38 := bd_of (sR25_4 s) f
theorem sR25_5 {h : Zh} (s : St h) : zR h 25 5 = some 42 := s.2.2.2 (25, 5, 42) (by decide)
theorem sB25_5 {β : Type} {h : Zh} (s : St h) (f : Nat → Option β) : (zR h 25 5).bind f = f 42 := bd_of (sR25_5 s) f
theorem sR25_6 {h : Zh} (s : St h) : zR h 25 6 = some 53 := s.2.2.2 (25, 6, 53) (by decide)
theorem sB25_6 {β : Type} {h : Zh} (s : St h) (f : Nat → Option β) : (zR h 25 6).bind f = f 53 := bd_of (sR25_6 s) f
theorem sR25_7 {h : Zh} (s : St h) : zR h 25 7 = some 62 := s.2.2.2 (25, 7, 62) (by decide)
theorem sB25_7 {β : Type} {h : Zh} (s : St h) (f : Nat → Option β) : (zR h 25 7).bind f = f 62 := bd_of (sR25_7 s) f
theorem sR25_8 {h : Zh} (s : St h) : zR h 25 8 = some 63 := s.2.2.2 (25, 8, 63) (by decide)
theorem sB25_8 {β : Type} {h : Zh} (s : St h) (f : Nat → Option β) : (zR h 25 8).bind f = f 63 := bd_of (sR25_8 s) f
theorem sR25_10 {h : Zh} (s : St h) : zR h 25 10 = some 64 := s.2.2.2 (25, 10, 64) (by decide)
theorem sB25_10 {β : Type} {h : Zh} (s : St h) (f : Nat → Option β) : (zR h 25 10).bind f = f 64 := bd_of (sR25_10 s) f
theorem sR27_1 {h : Zh} (s : St h) : zR h 27 1 = some 28 := s.2.2.2 (27, 1, 28) (by decide)
theorem sB27_1 {β : Type} {h : Zh} (s : St h) (f : Nat → Option β) : (zR h 27 1).bind f = f 28 := bd_of (sR27_1 s) f
theorem sR27_2 {h : Zh} (s : St h) : zR h 27 2 = some 29 := s.2.2.2 (27, 2, 29) (by decide)
theorem sB27_2 {β : Type} {h : Zh} (s : St h) (f : Nat → Option β) : (zR h 27 2).bind f = f 29 := bd_of (sR27_2 s) f
theorem sR27_4 {h : Zh} (s : St h) : zR h 27 4 = some 30 := s.2.2.2 (27, 4, 30) (by decide)
theorem sB27_4 {β : Type} {h : Zh} (s : St h) (f : Nat → Option β) : (zR h 27 4).bind f = f 30 := bd_of (sR27_4 s) f
theorem sR30_0 {h : Zh} (s : St h) : zR h 30 0 = some 31 := s.2.2.2 (30, 0, 31) (by decide)
theorem sB30_0 {β : Type} {h : Zh} (s : St h) (f : Nat → Option β) : (zR h 30 0).bind f = f 31 := bd_of (sR30_0 s) f
theorem sR30_1 {h : Zh} (s : St h) : zR h 30 1 = some 32 := s.2.2.2 (30, 1, 32) (by decide)
theorem sB30_1 {β : Type} {h : Zh} (s : St h) (f : Nat → Option β) : (zR h 30 1).bind f = f 32 := bd_of (sR30_1 s) f
theorem sR33_0 {h : Zh} (s : St h) : zR h 33 0 = some 34 := s.2.2.2 (33, 0, 34) (by decide)
theorem sB33_0 {β : Type} {h : Zh} (s : St h) (f : Nat → Option β) : (zR h 33 0).bind f = f 34 := bd_of (sR33_0 s) f
theorem sR35_0 {h : Zh} (s : St h) : zR h 35 0 = some 36 := s.2.2.2 (35, 0, 36) (by decide)
theorem sB35_0 {β : Type} {h : Zh} (s : St h) (f : Nat → Option β) : (zR h 35 0).bind f = f 36 := bd_of (sR35_0 s) f
theorem sR35_1 {h : Zh} (s : St h) : zR h 35 1 = some 37 := s.2.2.2 (35, 1, 37) (by decide)
theorem sB35_1 {β : Type} {h : Zh} (s : St h) (f : Nat → Option β) : (zR h 35 1).bind f = f 37 := bd_of (sR35_1 s) f
theorem sR38_0 {h : Zh} (s : St h) : zR h 38 0 = some 39 := s.2.2.2 (38, 0, 39) (by decide)
theorem sB38_0 {β : Type} {h : Zh} (s : St h) (f : Nat → Option β) : (zR h 38 0).bind f = f 39 := bd_of (sR38_0 s) f
theorem sR38_1 {h : Zh} (s : St h) : zR h 38 1 = some 40 := s.2.2.2 (38, 1, 40) (by decide)
theorem sB38_1 {β : Type} {h : Zh} (s : St h) (f : Nat → Option β) : (zR h 38 1).bind f = f 40 := bd_of (sR38_1 s) f
theorem sR38_2 {h : Zh} (s : St h) : zR h 38 2 = some 41 := s.2.2.2 (38, 2, 41) (by decide)
theorem sB38_2 {β : Type} {h : Zh} (s : St h) (f : Nat → Option β) : (zR h 38 2).bind f = f 41 := bd_of (sR38_2 s) f
theorem sR42_0 {h : Zh} (s : St h) : zR h 42 0 = some 43 := s.2.2.2 (42, 0, 43) (by decide)
theorem sB42_0 {β : Type} {h : Zh} (s : St h) (f : Nat → Option β) : (zR h 42 0).bind f = f 43 := bd_of (sR42_0 s) f
theorem sR42_5 {h : Zh} (s : St h) : zR h 42 5 = some 46 := s.2.2.2 (42, 5, 46) (by decide)
theorem sB42_5 {β : Type} {h : Zh} (s : St h) (f : Nat → Option β) : (zR h 42 5).bind f = f 46 := bd_of (sR42_5 s) f
theorem sR42_7 {h : Zh} (s : St h) : zR h 42 7 = some 47 := s.2.2.2 (42, 7, 47) (by decide)
theorem sB42_7 {β : Type} {h : Zh} (s : St h) (f : Nat → Option β) : (zR h 42 7).bind f = f 47 := bd_of (sR42_7 s) f
theorem sR42_11 {h : Zh} (s : St h) : zR h 42 11 = some 50 := s.2.2.2 (42, 11, 50) (by decide)
theorem sB42_11 {β : Type} {h : Zh} (s : St h) (f : Nat → Option β) : (zR h 42 11).bind f = f 50 := bd_of (sR42_11 s) f
theorem sR42_12 {h : Zh} (s : St h) : zR h 42 12 = some 51 := s.2.2.2 (42, 12, 51) (by decide)
theorem sB42_12 {β : Type} {h : Zh} (s : St h) (f : Nat → Option β) : (zR h 42 12).bind f = f 51 := bd_of (sR42_12 s) f
theorem sR42_13 {h : Zh} (s : St h) : zR h 42 13 = some 52 := s.2.2.2 (42, 13, 52) (by decide)
theorem sB42_13 {β : Type} {h : Zh} (s : St h) (f : Nat → Option β) : (zR h 42 13).bind f = f 52 := bd_of (sR42_13 s) f
theorem sR53_0 {h : Zh} (s : St h) : zR h 53 0 = some 54 := s.2.2.2 (53, 0, 54) (by decide)
theorem sB53_0 {β : Type} {h : Zh} (s : St h) (f : Nat → Option β) : (zR h 53 0).bind f = f 54 := bd_of (sR53_0 s) f
theorem sR53_1 {h : Zh} (s : St h) : zR h 53 1 = some 56 := s.2.2.2 (53, 1, 56) (by decide)
theorem sB53_1 {β : Type} {h : Zh} (s : St h) (f : Nat → Option β) : (zR h 53 1).bind f = f 56 := bd_of (sR53_1 s) f
theorem sR53_2 {h : Zh} (s : St h) : zR h 53 2 = some 58 := s.2.2.2 (53, 2, 58) (by decide)
theorem sB53_2 {β : Type} {h : Zh} (s : St h) (f : Nat → Option β) : (zR h 53 2).bind f = f 58 := bd_of (sR53_2 s) f
theorem sR53_3 {h : Zh} (s : St h) : zR h 53 3 = some 60 := s.2.2.2 (53, 3, 60) (by decide)
theorem sB53_3 {β : Type} {h : Zh} (s : St h) (f : Nat → Option β) : (zR h 53 3).bind f = f 60 := bd_of (sR53_3 s) f
theorem sR54_1 {h : Zh} (s : St h) : zR h 54 1 = some 55 := s.2.2.2 (54, 1, 55) (by decide)
theorem sB54_1 {β : Type} {h : Zh} (s : St h) (f : Nat → Option β) : (zR h 54 1).bind f = f 55 := bd_of (sR54_1 s) f
theorem sR56_1 {h : Zh} (s : St h) : zR h 56 1 = some 57 := s.2.2.2 (56, 1, 57) (by decide)
theorem sB56_1 {β : Type} {h : Zh} (s : St h) (f : Nat → Option β) : (zR h 56 1).bind f = f 57 := bd_of (sR56_1 s) f
theorem sR58_1 {h : Zh} (s : St h) : zR h 58 1 = some 59 := s.2.2.2 (58, 1, 59) (by decide)
theorem sB58_1 {β : Type} {h : Zh} (s : St h) (f : Nat → Option β) : (zR h 58 1).bind f = f 59 := bd_of (sR58_1 s) f
theorem sR60_1 {h : Zh} (s : St h) : zR h 60 1 = some 61 := s.2.2.2 (60, 1, 61) (by decide)
theorem sB60_1 {β : Type} {h : Zh} (s : St h) (f : Nat → Option β) : (zR h 60 1).bind f = f 61 := bd_of (sR60_1 s) f
theorem sR65_0 {h : Zh} (s : St h) : zR h 65 0 = some 66 := s.2.2.2 (65, 0, 66) (by decide)
theorem sB65_0 {β : Type} {h : Zh} (s : St h) (f : Nat → Option β) : (zR h 65 0).bind f = f 66 := bd_of (sR65_0 s) f
theorem sR65_1 {h : Zh} (s : St h) : zR h 65 1 = some 69 := s.2.2.2 (65, 1, 69) (by decide)
theorem sB65_1 {β : Type} {h : Zh} (s : St h) (f : Nat → Option β) : (zR h 65 1).bind f = f 69 := bd_of (sR65_1 s) f
theorem sR65_2 {h : Zh} (s : St h) : zR h 65 2 = some 72 := s.2.2.2 (65, 2, 72) (by decide)
theorem sB65_2 {β : Type} {h : Zh} (s : St h) (f : Nat → Option β) : (zR h 65 2).bind f = f 72 := bd_of (sR65_2 s) f
theorem sR66_0 {h : Zh} (s : St h) : zR h 66 0 = some 67 := s.2.2.2 (66, 0, 67) (by decide)
theorem sB66_0 {β : Type} {h : Zh} (s : St h) (f : Nat → Option β) : (zR h 66 0).bind f = f 67 := bd_of (sR66_0 s) f
theorem sR66_1 {h : Zh} (s : St h) : zR h 66 1 = some 68 := s.2.2.2 (66, 1, 68) (by decide)
theorem sB66_1 {β : Type} {h : Zh} (s : St h) (f : Nat → Option β) : (zR h 66 1).bind f = f 68 := bd_of (sR66_1 s) f
theorem sR69_0 {h : Zh} (s : St h) : zR h 69 0 = some 70 := s.2.2.2 (69, 0, 70) (by decide)
theorem sB69_0 {β : Type} {h : Zh} (s : St h) (f : Nat → Option β) : (zR h 69 0).bind f = f 70 := bd_of (sR69_0 s) f
theorem sR69_1 {h : Zh} (s : St h) : zR h 69 1 = some 71 := s.2.2.2 (69, 1, 71) (by decide)
theorem sB69_1 {β : Type} {h : Zh} (s : St h) (f : Nat → Option β) : (zR h 69 1).bind f = f 71 := bd_of (sR69_1 s) f
theorem sR72_0 {h : Zh} (s : St h) : zR h 72 0 = some 73 := s.2.2.2 (72, 0, 73) (by decide)
theorem sB72_0 {β : Type} {h : Zh} (s : St h) (f : Nat → Option β) : (zR h 72 0).bind f = f 73 := bd_of (sR72_0 s) f
theorem sR72_1 {h : Zh} (s : St h) : zR h 72 1 = some 74 := s.2.2.2 (72, 1, 74) (by decide)
theorem sB72_1 {β : Type} {h : Zh} (s : St h) (f : Nat → Option β) : (zR h 72 1).bind f = f 74 := bd_of (sR72_1 s) f
theorem sR76_5 {h : Zh} (s : St h) : zR h 76 5 = some 77 := s.2.2.2 (76, 5, 77) (by decide)
theorem sB76_5 {β : Type} {h : Zh} (s : St h) (f : Nat → Option β) : (zR h 76 5).bind f = f 77 := bd_of (sR76_5 s) f
theorem sR76_16 {h : Zh} (s : St h) : zR h 76 16 = some 78 := s.2.2.2 (76, 16, 78) (by decide)
theorem sB76_16 {β : Type} {h : Zh} (s : St h) (f : Nat → Option β) : (zR h 76 16).bind f = f 78 := bd_of (sR76_16 s) f
theorem sR76_18 {h : Zh} (s : St h) : zR h 76 18 = some 79 := s.2.2.2 (76, 18, 79) (by decide)
theorem sB76_18 {β : Type} {h : Zh} (s : St h) (f : Nat → Option β) : (zR h 76 18).bind f = f 79 := bd_of (sR76_18 s) f
theorem sR76_19 {h : Zh} (s : St h) : zR h 76 19 = some 80 := s.2.2.2 (76, 19, 80) (by decide)
theorem sB76_19 {β : Type} {h : Zh} (s : St h) (f : Nat → Option β) : (zR h 76 19).bind f = f 80 := bd_of (sR76_19 s) f
theorem sR76_20 {h : Zh} (s : St h) : zR h 76 20 = some 81 := s.2.2.2 (76, 20, 81) (by decide)
theorem sB76_20 {β : Type} {h : Zh} (s : St h) (f : Nat → Option β) : (zR h 76 20).bind f = f 81 := bd_of (sR76_20 s) f
theorem sR76_21 {h : Zh} (s : St h) : zR h 76 21 = some 82 := s.2.2.2 (76, 21, 82) (by decide)
theorem sB76_21 {β : Type} {h : Zh} (s : St h) (f : Nat → Option β) : (zR h 76 21).bind f = f 82 := bd_of (sR76_21 s) f
theorem sR76_23 {h : Zh} (s : St h) : zR h 76 23 = some 83 := s.2.2.2 (76, 23, 83) (by decide)
theorem sB76_23 {β : Type} {h : Zh} (s : St h) (f : Nat → Option β) : (zR h 76 23).bind f = f 83 := bd_of (sR76_23 s) f
theorem sR76_25 {h : Zh} (s : St h) : zR h 76 25 = some 84 := s.2.2.2 (76, 25, 84) (by decide)
theorem sB76_25 {β : Type} {h : Zh} (s : St h) (f : Nat → Option β) : (zR h 76 25).bind f = f 84 := bd_of (sR76_25 s) f
theorem sR76_26 {h : Zh} (s : St h) : zR h 76 26 = some 85 := s.2.2.2 (76, 26, 85) (by decide)
theorem sB76_26 {β : Type} {h : Zh} (s : St h) (f : Nat → Option β) : (zR h 76 26).bind f = f 85 := bd_of (sR76_26 s) f
theorem sR76_27 {h : Zh} (s : St h) : zR h 76 27 = some 86 := s.2.2.2 (76, 27, 86) (by decide)
theorem sB76_27 {β : Type} {h : Zh} (s : St h) (f : Nat → Option β) : (zR h 76 27).bind f = f 86 := bd_of (sR76_27 s) f
theorem sR76_28 {h : Zh} (s : St h) : zR h 76 28 = some 87 := s.2.2.2 (76, 28, 87) (by decide)
theorem sB76_28 {β : Type} {h : Zh} (s : St h) (f : Nat → Option β) : (zR h 76 28).bind f = f 87 := bd_of (sR76_28 s) f
theorem sR76_29 {h : Zh} (s : St h) : zR h 76 29 = some 88 := s.2.2.2 (76, 29, 88) (by decide)
theorem sB76_29 {β : Type} {h : Zh} (s : St h) (f : Nat → Option β) : (zR h 76 29).bind f = f 88 := bd_of (sR76_29 s) f
theorem sR76_30 {h : Zh} (s : St h) : zR h 76 30 = some 89 := s.2.2.2 (76, 30, 89) (by decide)
theorem sB76_30 {β : Type} {h : Zh} (s : St h) (f : Nat → Option β) : (zR h 76 30).bind f = f 89 := bd_of (sR76_30 s) f
theorem sR76_31 {h : Zh} (s : St h) : zR h 76 31 = some 90 := s.2.2.2 (76, 31, 90) (by decide)
theorem sB76_31 {β : Type} {h : Zh} (s : St h) (f : Nat → Option β) : (zR h 76 31).bind f = f 90 := bd_of (sR76_31 s) f
theorem sR76_32 {h : Zh} (s : St h) : zR h 76 32 = some 91 := s.2.2.2 (76, 32, 91) (by decide)
theorem sB76_32 {β : Type} {h : Zh} (s : St h) (f : Nat → Option β) : (zR h 76 32).bind f = f 91 := bd_of (sR76_32 s) f
theorem sR76_33 {h : Zh} (s : St h) : zR h 76 33 = some 92 := s.2.2.2 (76, 33, 92) (by decide)
theorem sB76_33 {β : Type} {h : Zh} (s : St h) (f : Nat → Option β) : (zR h 76 33).bind f = f 92 := bd_of (sR76_33 s) f
theorem sR76_34 {h : Zh} (s : St h) : zR h 76 34 = some 93 := s.2.2.2 (76, 34, 93) (by decide)
theorem sB76_34 {β : Type} {h : Zh} (s : St h) (f : Nat → Option β) : (zR h 76 34).bind f = f 93 := bd_of (sR76_34 s) f
theorem sR76_37 {h : Zh} (s : St h) : zR h 76 37 = some 94 := s.2.2.2 (76, 37, 94) (by decide)
theorem sB76_37 {β : Type} {h : Zh} (s : St h) (f : Nat → Option β) : (zR h 76 37).bind f = f 94 := bd_of (sR76_37 s) f
theorem sR76_38 {h : Zh} (s : St h) : zR h 76 38 = some 95 := s.2.2.2 (76, 38, 95) (by decide)
theorem sB76_38 {β : Type} {h : Zh} (s : St h) (f : Nat → Option β) : (zR h 76 38).bind f = f 95 := bd_of (sR76_38 s) f
theorem sR76_39 {h : Zh} (s : St h) : zR h 76 39 = some 96 := s.2.2.2 (76, 39, 96) (by decide)
theorem sB76_39 {β : Type} {h : Zh} (s : St h) (f : Nat → Option β) : (zR h 76 39).bind f = f 96 := bd_of (sR76_39 s) f
theorem sR76_40 {h : Zh} (s : St h) : zR h 76 40 = some 97 := s.2.2.2 (76, 40, 97) (by decide)
theorem sB76_40 {β : Type} {h : Zh} (s : St h) (f : Nat → Option β) : (zR h 76 40).bind f = f 97 := bd_of (sR76_40 s) f
theorem sR76_41 {h : Zh} (s : St h) : zR h 76 41 = some 98 := s.2.2.2 (76, 41, 98) (by decide)
theorem sB76_41 {β : Type} {h : Zh} (s : St h) (f : Nat → Option β) : (zR h 76 41).bind f = f 98 := bd_of (sR76_41 s) f
theorem sR76_42 {h : Zh} (s : St h) : zR h 76 42 = some 99 := s.2.2.2 (76, 42, 99) (by decide)
theorem sB76_42 {β : Type} {h : Zh} (s : St h) (f : Nat → Option β) : (zR h 76 42).bind f = f 99 := bd_of (sR76_42 s) f
theorem St.fm {S : List Nat} {h h' : Zh} (s : St h) (f : Fm S h h') : St h' := ⟨by
    have : zN h' = zN h := by unfold zN; rw [f.1]
    rw [this]; exact s.1, fun i hi => by rw [f.K]; exact s.2.1 i hi, fun i hi => by rw [f.L]; exact s.2.2.1 i hi, fun q hq => by rw [f.R]; exact s.2.2.2 q hq⟩
theorem St.sI {h : Zh} (s : St h) (a k : Nat) (v : Int32) : St (zsI h a k v) := s.fm (Fm_sI (S := [a]) h k v (by simp))
theorem St.aI {h : Zh} (s : St h) (a : Nat) (f : Nat → Int32) : St (zaI h a f) := s.fm (Fm_aI (S := [a]) h f (by simp))
theorem St.sJ {h : Zh} (s : St h) (a k : Nat) (v : Int64) : St (zsJ h a k v) := s
