/-! THE CLASS'S CONSTRUCTOR: its calls run by the kernel -/
def ax_sg1 : ax_W := [(.inr 1, [.ref 2, .int 0]),
  (.inl .byte, List.replicate 2000 (.int 0))]
def ax_sg2 : ax_W := [(.inr 2, [.ref 15, .ref 4, .ref 13, .ref 14, .int 0, .int 34, .int 0, .int 0, .int (-1), .int (-1)]),
  (.inr 3, [.ref 5, .ref 6, .ref 7, .ref 8, .ref 9, .ref 10, .ref 11, .ref 12, .int 8, .int 0, .int 0, .int 0, .int 0, .int 50, .int 0, .int 0]),
  (.inl .int, [.int 0, .int 0, .int 0, .int 0]),
  (.inl .int, List.replicate 5 (.int 0)),
  (.inl .int, List.replicate 20 (.int 0)),
  (.inl .int, List.replicate 10 (.int 0)),
  (.inl .int, List.replicate 10 (.int 0)),
  (.inl .int, List.replicate 10 (.int 0)),
  (.inl .int, ([.int 8] ++ ([.int 7] ++ ([.int 8] ++ ([.int 7] ++ ([.int 25] ++ ([.int 7] ++ ([.int 0] ++ ([.int 7] ++ (List.replicate 400 (.int 0))))))))))),
  (.inl .int, [.int 0, .int 2, .int 4, .int 6]),
  (.inl .long, [.long 0, .long 0, .long 0, .long 0]),
  (.inl .long, List.replicate 5 (.long 0)),
  (.inr 4, [.ref 1, .ref 16, .ref 17, .ref 18, .ref 19, .ref 20, .int 0, .int 0]),
  (.inl .long, [.long 1752777, .long 161140, .long 11882963, .long 5948362, .long 230501935, .long 330936265, .long 3211399, .long 194785936, .long 375400, .long 267362, .long 377761, .long 249, .long 399641, .long 107681, .long 260045, .long 11190, .long 7871591333, .long 1842002, .long 11570, .long 168984, .long 13898, .long 12387257, .long 1065]),
  (.inl .int, List.replicate 401 (.int 0)),
  (.inl .int, List.replicate 401 (.int 0)),
  (.inl .int, List.replicate 401 (.int 0)),
  (.inl .long, List.replicate 401 (.long 0))]
def ax_sg3 : ax_W := [(.inr 3, [.ref 22, .ref 23, .ref 24, .ref 25, .ref 26, .ref 27, .ref 28, .ref 29, .int 8, .int 0, .int 0, .int 0, .int 0, .int 50, .int 0, .int 0]),
  (.inl .int, [.int 0, .int 0, .int 0, .int 0]),
  (.inl .int, List.replicate 5 (.int 0)),
  (.inl .int, List.replicate 20 (.int 0)),
  (.inl .int, List.replicate 10 (.int 0)),
  (.inl .int, List.replicate 10 (.int 0)),
  (.inl .int, List.replicate 10 (.int 0)),
  (.inl .int, ([.int 8] ++ ([.int 7] ++ ([.int 8] ++ ([.int 7] ++ ([.int 25] ++ ([.int 7] ++ ([.int 0] ++ ([.int 7] ++ (List.replicate 400 (.int 0))))))))))),
  (.inl .int, [.int 0, .int 2, .int 4, .int 6])]
def ax_sg4 : ax_W := [(.inr 5, [.ref 21, .ref 32, .ref 31]),
  (.inl .int, [.int 0, .int 0, .int 0, .int 0]),
  (.inr 6, [.ref 21, .ref 33, .ref 34]),
  (.inl .int, List.replicate 32 (.int 0)),
  (.inl .int, List.replicate 9 (.int 0))]
def ax_sg5 : ax_W := [(.inr 7, [.ref 36, .ref 37, .ref 38, .ref 39, .int 0, .int 0, .int 0, .int 0]),
  (.inl .int, List.replicate 16 (.int 0)),
  (.inl .int, List.replicate 20 (.int 0)),
  (.inl .int, [.int 0, .int 0, .int 0, .int 0]),
  (.inl .int, List.replicate 5 (.int 0))]
def ax_sg6 : ax_W := [(.inr 8, [.ref 21, .ref 30, .ref 35, .ref 41, .ref 46, .ref 47]),
  (.inr 7, [.ref 42, .ref 43, .ref 44, .ref 45, .int 0, .int 0, .int 0, .int 0]),
  (.inl .int, List.replicate 16 (.int 0)),
  (.inl .int, List.replicate 20 (.int 0)),
  (.inl .int, [.int 0, .int 0, .int 0, .int 0]),
  (.inl .int, List.replicate 5 (.int 0)),
  (.inl (.object "HeadCloths$State"), [.ref 48, .ref 53, .ref 58]),
  (.inl .int, [.int 0, .int 0, .int 0]),
  (.inr 7, [.ref 49, .ref 50, .ref 51, .ref 52, .int 0, .int 0, .int 0, .int 0]),
  (.inl .int, List.replicate 16 (.int 0)),
  (.inl .int, List.replicate 20 (.int 0)),
  (.inl .int, [.int 0, .int 0, .int 0, .int 0]),
  (.inl .int, List.replicate 5 (.int 0)),
  (.inr 7, [.ref 54, .ref 55, .ref 56, .ref 57, .int 0, .int 0, .int 0, .int 0]),
  (.inl .int, List.replicate 16 (.int 0)),
  (.inl .int, List.replicate 20 (.int 0)),
  (.inl .int, [.int 0, .int 0, .int 0, .int 0]),
  (.inl .int, List.replicate 5 (.int 0)),
  (.inr 7, [.ref 59, .ref 60, .ref 61, .ref 62, .int 0, .int 0, .int 0, .int 0]),
  (.inl .int, List.replicate 16 (.int 0)),
  (.inl .int, List.replicate 20 (.int 0)),
  (.inl .int, [.int 0, .int 0, .int 0, .int 0]),
  (.inl .int, List.replicate 5 (.int 0))]
def ax_sg7 : ax_W := [(.inr 9, [.ref 21, .ref 30, .ref 35, .ref 64, .ref 65, .ref 66, .ref 67, .int 0]),
  (.inl .int, List.replicate 20 (.int 0)),
  (.inl .int, List.replicate 20 (.int 0)),
  (.inl .int, List.replicate 20 (.int 0)),
  (.inl .boolean, List.replicate 20 (.int 0))]
def ax_sg8 : ax_W := [(.inr 10, [.ref 69, .int 0, .int 0]),
  (.inl (.object "HeadCloths$State"), [.ref 70, .ref 75, .ref 80, .ref 85, .ref 90, .ref 95, .ref 100, .ref 105, .ref 110, .ref 115, .ref 120, .ref 125, .ref 130, .ref 135, .ref 140, .ref 145, .ref 150, .ref 155, .ref 160, .ref 165, .ref 170, .ref 175, .ref 180, .ref 185, .ref 190, .ref 195, .ref 200, .ref 205, .ref 210, .ref 215, .ref 220, .ref 225, .ref 230, .ref 235, .ref 240, .ref 245, .ref 250, .ref 255, .ref 260, .ref 265]),
  (.inr 7, [.ref 71, .ref 72, .ref 73, .ref 74, .int 0, .int 0, .int 0, .int 0]),
  (.inl .int, List.replicate 16 (.int 0)),
  (.inl .int, List.replicate 20 (.int 0)),
  (.inl .int, [.int 0, .int 0, .int 0, .int 0]),
  (.inl .int, List.replicate 5 (.int 0)),
  (.inr 7, [.ref 76, .ref 77, .ref 78, .ref 79, .int 0, .int 0, .int 0, .int 0]),
  (.inl .int, List.replicate 16 (.int 0)),
  (.inl .int, List.replicate 20 (.int 0)),
  (.inl .int, [.int 0, .int 0, .int 0, .int 0]),
  (.inl .int, List.replicate 5 (.int 0)),
  (.inr 7, [.ref 81, .ref 82, .ref 83, .ref 84, .int 0, .int 0, .int 0, .int 0]),
  (.inl .int, List.replicate 16 (.int 0)),
  (.inl .int, List.replicate 20 (.int 0)),
  (.inl .int, [.int 0, .int 0, .int 0, .int 0]),
  (.inl .int, List.replicate 5 (.int 0)),
  (.inr 7, [.ref 86, .ref 87, .ref 88, .ref 89, .int 0, .int 0, .int 0, .int 0]),
  (.inl .int, List.replicate 16 (.int 0)),
  (.inl .int, List.replicate 20 (.int 0)),
  (.inl .int, [.int 0, .int 0, .int 0, .int 0]),
  (.inl .int, List.replicate 5 (.int 0)),
  (.inr 7, [.ref 91, .ref 92, .ref 93, .ref 94, .int 0, .int 0, .int 0, .int 0]),
  (.inl .int, List.replicate 16 (.int 0)),
  (.inl .int, List.replicate 20 (.int 0)),
  (.inl .int, [.int 0, .int 0, .int 0, .int 0]),
  (.inl .int, List.replicate 5 (.int 0)),
  (.inr 7, [.ref 96, .ref 97, .ref 98, .ref 99, .int 0, .int 0, .int 0, .int 0]),
  (.inl .int, List.replicate 16 (.int 0)),
  (.inl .int, List.replicate 20 (.int 0)),
  (.inl .int, [.int 0, .int 0, .int 0, .int 0]),
  (.inl .int, List.replicate 5 (.int 0)),
  (.inr 7, [.ref 101, .ref 102, .ref 103, .ref 104, .int 0, .int 0, .int 0, .int 0]),
  (.inl .int, List.replicate 16 (.int 0)),
  (.inl .int, List.replicate 20 (.int 0)),
  (.inl .int, [.int 0, .int 0, .int 0, .int 0]),
  (.inl .int, List.replicate 5 (.int 0)),
  (.inr 7, [.ref 106, .ref 107, .ref 108, .ref 109, .int 0, .int 0, .int 0, .int 0]),
  (.inl .int, List.replicate 16 (.int 0)),
  (.inl .int, List.replicate 20 (.int 0)),
  (.inl .int, [.int 0, .int 0, .int 0, .int 0]),
  (.inl .int, List.replicate 5 (.int 0)),
  (.inr 7, [.ref 111, .ref 112, .ref 113, .ref 114, .int 0, .int 0, .int 0, .int 0]),
  (.inl .int, List.replicate 16 (.int 0)),
  (.inl .int, List.replicate 20 (.int 0)),
  (.inl .int, [.int 0, .int 0, .int 0, .int 0]),
  (.inl .int, List.replicate 5 (.int 0)),
  (.inr 7, [.ref 116, .ref 117, .ref 118, .ref 119, .int 0, .int 0, .int 0, .int 0]),
  (.inl .int, List.replicate 16 (.int 0)),
  (.inl .int, List.replicate 20 (.int 0)),
  (.inl .int, [.int 0, .int 0, .int 0, .int 0]),
  (.inl .int, List.replicate 5 (.int 0)),
  (.inr 7, [.ref 121, .ref 122, .ref 123, .ref 124, .int 0, .int 0, .int 0, .int 0]),
  (.inl .int, List.replicate 16 (.int 0)),
  (.inl .int, List.replicate 20 (.int 0)),
  (.inl .int, [.int 0, .int 0, .int 0, .int 0]),
  (.inl .int, List.replicate 5 (.int 0)),
  (.inr 7, [.ref 126, .ref 127, .ref 128, .ref 129, .int 0, .int 0, .int 0, .int 0]),
  (.inl .int, List.replicate 16 (.int 0)),
  (.inl .int, List.replicate 20 (.int 0)),
  (.inl .int, [.int 0, .int 0, .int 0, .int 0]),
  (.inl .int, List.replicate 5 (.int 0)),
  (.inr 7, [.ref 131, .ref 132, .ref 133, .ref 134, .int 0, .int 0, .int 0, .int 0]),
  (.inl .int, List.replicate 16 (.int 0)),
  (.inl .int, List.replicate 20 (.int 0)),
  (.inl .int, [.int 0, .int 0, .int 0, .int 0]),
  (.inl .int, List.replicate 5 (.int 0)),
  (.inr 7, [.ref 136, .ref 137, .ref 138, .ref 139, .int 0, .int 0, .int 0, .int 0]),
  (.inl .int, List.replicate 16 (.int 0)),
  (.inl .int, List.replicate 20 (.int 0)),
  (.inl .int, [.int 0, .int 0, .int 0, .int 0]),
  (.inl .int, List.replicate 5 (.int 0)),
  (.inr 7, [.ref 141, .ref 142, .ref 143, .ref 144, .int 0, .int 0, .int 0, .int 0]),
  (.inl .int, List.replicate 16 (.int 0)),
  (.inl .int, List.replicate 20 (.int 0)),
  (.inl .int, [.int 0, .int 0, .int 0, .int 0]),
  (.inl .int, List.replicate 5 (.int 0)),
  (.inr 7, [.ref 146, .ref 147, .ref 148, .ref 149, .int 0, .int 0, .int 0, .int 0]),
  (.inl .int, List.replicate 16 (.int 0)),
  (.inl .int, List.replicate 20 (.int 0)),
  (.inl .int, [.int 0, .int 0, .int 0, .int 0]),
  (.inl .int, List.replicate 5 (.int 0)),
  (.inr 7, [.ref 151, .ref 152, .ref 153, .ref 154, .int 0, .int 0, .int 0, .int 0]),
  (.inl .int, List.replicate 16 (.int 0)),
  (.inl .int, List.replicate 20 (.int 0)),
  (.inl .int, [.int 0, .int 0, .int 0, .int 0]),
  (.inl .int, List.replicate 5 (.int 0)),
  (.inr 7, [.ref 156, .ref 157, .ref 158, .ref 159, .int 0, .int 0, .int 0, .int 0]),
  (.inl .int, List.replicate 16 (.int 0)),
  (.inl .int, List.replicate 20 (.int 0)),
  (.inl .int, [.int 0, .int 0, .int 0, .int 0]),
  (.inl .int, List.replicate 5 (.int 0)),
  (.inr 7, [.ref 161, .ref 162, .ref 163, .ref 164, .int 0, .int 0, .int 0, .int 0]),
  (.inl .int, List.replicate 16 (.int 0)),
  (.inl .int, List.replicate 20 (.int 0)),
  (.inl .int, [.int 0, .int 0, .int 0, .int 0]),
  (.inl .int, List.replicate 5 (.int 0)),
  (.inr 7, [.ref 166, .ref 167, .ref 168, .ref 169, .int 0, .int 0, .int 0, .int 0]),
  (.inl .int, List.replicate 16 (.int 0)),
  (.inl .int, List.replicate 20 (.int 0)),
  (.inl .int, [.int 0, .int 0, .int 0, .int 0]),
  (.inl .int, List.replicate 5 (.int 0)),
  (.inr 7, [.ref 171, .ref 172, .ref 173, .ref 174, .int 0, .int 0, .int 0, .int 0]),
  (.inl .int, List.replicate 16 (.int 0)),
  (.inl .int, List.replicate 20 (.int 0)),
  (.inl .int, [.int 0, .int 0, .int 0, .int 0]),
  (.inl .int, List.replicate 5 (.int 0)),
  (.inr 7, [.ref 176, .ref 177, .ref 178, .ref 179, .int 0, .int 0, .int 0, .int 0]),
  (.inl .int, List.replicate 16 (.int 0)),
  (.inl .int, List.replicate 20 (.int 0)),
  (.inl .int, [.int 0, .int 0, .int 0, .int 0]),
  (.inl .int, List.replicate 5 (.int 0)),
  (.inr 7, [.ref 181, .ref 182, .ref 183, .ref 184, .int 0, .int 0, .int 0, .int 0]),
  (.inl .int, List.replicate 16 (.int 0)),
  (.inl .int, List.replicate 20 (.int 0)),
  (.inl .int, [.int 0, .int 0, .int 0, .int 0]),
  (.inl .int, List.replicate 5 (.int 0)),
  (.inr 7, [.ref 186, .ref 187, .ref 188, .ref 189, .int 0, .int 0, .int 0, .int 0]),
  (.inl .int, List.replicate 16 (.int 0)),
  (.inl .int, List.replicate 20 (.int 0)),
  (.inl .int, [.int 0, .int 0, .int 0, .int 0]),
  (.inl .int, List.replicate 5 (.int 0)),
  (.inr 7, [.ref 191, .ref 192, .ref 193, .ref 194, .int 0, .int 0, .int 0, .int 0]),
  (.inl .int, List.replicate 16 (.int 0)),
  (.inl .int, List.replicate 20 (.int 0)),
  (.inl .int, [.int 0, .int 0, .int 0, .int 0]),
  (.inl .int, List.replicate 5 (.int 0)),
  (.inr 7, [.ref 196, .ref 197, .ref 198, .ref 199, .int 0, .int 0, .int 0, .int 0]),
  (.inl .int, List.replicate 16 (.int 0)),
  (.inl .int, List.replicate 20 (.int 0)),
  (.inl .int, [.int 0, .int 0, .int 0, .int 0]),
  (.inl .int, List.replicate 5 (.int 0)),
  (.inr 7, [.ref 201, .ref 202, .ref 203, .ref 204, .int 0, .int 0, .int 0, .int 0]),
  (.inl .int, List.replicate 16 (.int 0)),
  (.inl .int, List.replicate 20 (.int 0)),
  (.inl .int, [.int 0, .int 0, .int 0, .int 0]),
  (.inl .int, List.replicate 5 (.int 0)),
  (.inr 7, [.ref 206, .ref 207, .ref 208, .ref 209, .int 0, .int 0, .int 0, .int 0]),
  (.inl .int, List.replicate 16 (.int 0)),
  (.inl .int, List.replicate 20 (.int 0)),
  (.inl .int, [.int 0, .int 0, .int 0, .int 0]),
  (.inl .int, List.replicate 5 (.int 0)),
  (.inr 7, [.ref 211, .ref 212, .ref 213, .ref 214, .int 0, .int 0, .int 0, .int 0]),
  (.inl .int, List.replicate 16 (.int 0)),
  (.inl .int, List.replicate 20 (.int 0)),
  (.inl .int, [.int 0, .int 0, .int 0, .int 0]),
  (.inl .int, List.replicate 5 (.int 0)),
  (.inr 7, [.ref 216, .ref 217, .ref 218, .ref 219, .int 0, .int 0, .int 0, .int 0]),
  (.inl .int, List.replicate 16 (.int 0)),
  (.inl .int, List.replicate 20 (.int 0)),
  (.inl .int, [.int 0, .int 0, .int 0, .int 0]),
  (.inl .int, List.replicate 5 (.int 0)),
  (.inr 7, [.ref 221, .ref 222, .ref 223, .ref 224, .int 0, .int 0, .int 0, .int 0]),
  (.inl .int, List.replicate 16 (.int 0)),
  (.inl .int, List.replicate 20 (.int 0)),
  (.inl .int, [.int 0, .int 0, .int 0, .int 0]),
  (.inl .int, List.replicate 5 (.int 0)),
  (.inr 7, [.ref 226, .ref 227, .ref 228, .ref 229, .int 0, .int 0, .int 0, .int 0]),
  (.inl .int, List.replicate 16 (.int 0)),
  (.inl .int, List.replicate 20 (.int 0)),
  (.inl .int, [.int 0, .int 0, .int 0, .int 0]),
  (.inl .int, List.replicate 5 (.int 0)),
  (.inr 7, [.ref 231, .ref 232, .ref 233, .ref 234, .int 0, .int 0, .int 0, .int 0]),
  (.inl .int, List.replicate 16 (.int 0)),
  (.inl .int, List.replicate 20 (.int 0)),
  (.inl .int, [.int 0, .int 0, .int 0, .int 0]),
  (.inl .int, List.replicate 5 (.int 0)),
  (.inr 7, [.ref 236, .ref 237, .ref 238, .ref 239, .int 0, .int 0, .int 0, .int 0]),
  (.inl .int, List.replicate 16 (.int 0)),
  (.inl .int, List.replicate 20 (.int 0)),
  (.inl .int, [.int 0, .int 0, .int 0, .int 0]),
  (.inl .int, List.replicate 5 (.int 0)),
  (.inr 7, [.ref 241, .ref 242, .ref 243, .ref 244, .int 0, .int 0, .int 0, .int 0]),
  (.inl .int, List.replicate 16 (.int 0)),
  (.inl .int, List.replicate 20 (.int 0)),
  (.inl .int, [.int 0, .int 0, .int 0, .int 0]),
  (.inl .int, List.replicate 5 (.int 0)),
  (.inr 7, [.ref 246, .ref 247, .ref 248, .ref 249, .int 0, .int 0, .int 0, .int 0]),
  (.inl .int, List.replicate 16 (.int 0)),
  (.inl .int, List.replicate 20 (.int 0)),
  (.inl .int, [.int 0, .int 0, .int 0, .int 0]),
  (.inl .int, List.replicate 5 (.int 0)),
  (.inr 7, [.ref 251, .ref 252, .ref 253, .ref 254, .int 0, .int 0, .int 0, .int 0]),
  (.inl .int, List.replicate 16 (.int 0)),
  (.inl .int, List.replicate 20 (.int 0)),
  (.inl .int, [.int 0, .int 0, .int 0, .int 0]),
  (.inl .int, List.replicate 5 (.int 0)),
  (.inr 7, [.ref 256, .ref 257, .ref 258, .ref 259, .int 0, .int 0, .int 0, .int 0]),
  (.inl .int, List.replicate 16 (.int 0)),
  (.inl .int, List.replicate 20 (.int 0)),
  (.inl .int, [.int 0, .int 0, .int 0, .int 0]),
  (.inl .int, List.replicate 5 (.int 0)),
  (.inr 7, [.ref 261, .ref 262, .ref 263, .ref 264, .int 0, .int 0, .int 0, .int 0]),
  (.inl .int, List.replicate 16 (.int 0)),
  (.inl .int, List.replicate 20 (.int 0)),
  (.inl .int, [.int 0, .int 0, .int 0, .int 0]),
  (.inl .int, List.replicate 5 (.int 0)),
  (.inr 7, [.ref 266, .ref 267, .ref 268, .ref 269, .int 0, .int 0, .int 0, .int 0]),
  (.inl .int, List.replicate 16 (.int 0)),
  (.inl .int, List.replicate 20 (.int 0)),
  (.inl .int, [.int 0, .int 0, .int 0, .int 0]),
  (.inl .int, List.replicate 5 (.int 0))]
def ax_sg9 : ax_W := [(.inr 11, [.ref 271, .int 0]),
  (.inl (.object "HeadCloths$State"), [.ref 272, .ref 277, .ref 282]),
  (.inr 7, [.ref 273, .ref 274, .ref 275, .ref 276, .int 0, .int 0, .int 0, .int 0]),
  (.inl .int, List.replicate 16 (.int 0)),
  (.inl .int, List.replicate 20 (.int 0)),
  (.inl .int, [.int 0, .int 0, .int 0, .int 0]),
  (.inl .int, List.replicate 5 (.int 0)),
  (.inr 7, [.ref 278, .ref 279, .ref 280, .ref 281, .int 0, .int 0, .int 0, .int 0]),
  (.inl .int, List.replicate 16 (.int 0)),
  (.inl .int, List.replicate 20 (.int 0)),
  (.inl .int, [.int 0, .int 0, .int 0, .int 0]),
  (.inl .int, List.replicate 5 (.int 0)),
  (.inr 7, [.ref 283, .ref 284, .ref 285, .ref 286, .int 0, .int 0, .int 0, .int 0]),
  (.inl .int, List.replicate 16 (.int 0)),
  (.inl .int, List.replicate 20 (.int 0)),
  (.inl .int, [.int 0, .int 0, .int 0, .int 0]),
  (.inl .int, List.replicate 5 (.int 0))]
theorem ax_j1 : ax_ex ax_ro0 ax_cts ax_pg 30 58 ax_cd1 0 [(0, .ref 1)] [] ((.inr 0, List.replicate 9 (.null)) :: ([(.inr 1, [.null, .int 0])])) = some (none, ((.inr 0, List.replicate 9 (.null)) :: (ax_sg1))) := by decide +kernel
theorem ax_j2 : ax_ex ax_ro0 ax_cts ax_pg 11323 58 ax_cd2 0 [(0, .ref 3), (1, .ref 1)] [] ((.inr 0, [.ref 1, .null, .null, .null, .null, .null, .null, .null, .null]) :: (ax_sg1 ++ ([(.inr 2, [.null, .null, .null, .null, .int 0, .int 0, .int 0, .int 0, .int 0, .int 0])]))) = some (none, ((.inr 0, [.ref 1, .null, .null, .null, .null, .null, .null, .null, .null]) :: (ax_sg1 ++ (ax_sg2)))) := by decide +kernel
theorem ax_j3 : ax_ex ax_ro0 ax_cts ax_pg 442 58 ax_cd3 0 [(0, .ref 21)] [] ((.inr 0, [.ref 1, .ref 3, .null, .null, .null, .null, .null, .null, .null]) :: (ax_sg1 ++ (ax_sg2 ++ ([(.inr 3, [.null, .null, .null, .null, .null, .null, .null, .null, .int 0, .int 0, .int 0, .int 0, .int 0, .int 0, .int 0, .int 0])])))) = some (none, ((.inr 0, [.ref 1, .ref 3, .null, .null, .null, .null, .null, .null, .null]) :: (ax_sg1 ++ (ax_sg2 ++ (ax_sg3))))) := by decide +kernel
theorem ax_j4 : ax_ex ax_ro0 ax_cts ax_pg 50 58 ax_cd17 0 [(0, .ref 30), (1, .ref 21)] [] ((.inr 0, [.ref 1, .ref 3, .ref 21, .null, .null, .null, .null, .null, .null]) :: (ax_sg1 ++ (ax_sg2 ++ (ax_sg3 ++ ([(.inr 5, [.null, .null, .null])]))))) = some (none, ((.inr 0, [.ref 1, .ref 3, .ref 21, .null, .null, .null, .null, .null, .null]) :: (ax_sg1 ++ (ax_sg2 ++ (ax_sg3 ++ (ax_sg4)))))) := by decide +kernel
theorem ax_j5 : ax_ex ax_ro0 ax_cts ax_pg 51 58 ax_cd19 0 [(0, .ref 35)] [] ((.inr 0, [.ref 1, .ref 3, .ref 21, .ref 30, .null, .null, .null, .null, .null]) :: (ax_sg1 ++ (ax_sg2 ++ (ax_sg3 ++ (ax_sg4 ++ ([(.inr 7, [.null, .null, .null, .null, .int 0, .int 0, .int 0, .int 0])])))))) = some (none, ((.inr 0, [.ref 1, .ref 3, .ref 21, .ref 30, .null, .null, .null, .null, .null]) :: (ax_sg1 ++ (ax_sg2 ++ (ax_sg3 ++ (ax_sg4 ++ (ax_sg5))))))) := by decide +kernel
theorem ax_j6 : ax_ex ax_ro0 ax_cts ax_pg 218 58 ax_cd20 0 [(0, .ref 40), (1, .ref 21), (2, .ref 30), (3, .ref 35)] [] ((.inr 0, [.ref 1, .ref 3, .ref 21, .ref 30, .ref 35, .null, .null, .null, .null]) :: (ax_sg1 ++ (ax_sg2 ++ (ax_sg3 ++ (ax_sg4 ++ (ax_sg5 ++ ([(.inr 8, List.replicate 6 (.null))]))))))) = some (none, ((.inr 0, [.ref 1, .ref 3, .ref 21, .ref 30, .ref 35, .null, .null, .null, .null]) :: (ax_sg1 ++ (ax_sg2 ++ (ax_sg3 ++ (ax_sg4 ++ (ax_sg5 ++ (ax_sg6)))))))) := by decide +kernel
theorem ax_j7 : ax_ex ax_ro0 ax_cts ax_pg 51 58 ax_cd21 0 [(0, .ref 63), (1, .ref 21), (2, .ref 30), (3, .ref 35)] [] ((.inr 0, [.ref 1, .ref 3, .ref 21, .ref 30, .ref 35, .ref 40, .null, .null, .null]) :: (ax_sg1 ++ (ax_sg2 ++ (ax_sg3 ++ (ax_sg4 ++ (ax_sg5 ++ (ax_sg6 ++ ([(.inr 9, [.null, .null, .null, .null, .null, .null, .null, .int 0])])))))))) = some (none, ((.inr 0, [.ref 1, .ref 3, .ref 21, .ref 30, .ref 35, .ref 40, .null, .null, .null]) :: (ax_sg1 ++ (ax_sg2 ++ (ax_sg3 ++ (ax_sg4 ++ (ax_sg5 ++ (ax_sg6 ++ (ax_sg7))))))))) := by decide +kernel
theorem ax_j8 : ax_ex ax_ro0 ax_cts ax_pg 1840 58 ax_cd22 0 [(0, .ref 68)] [] ((.inr 0, [.ref 1, .ref 3, .ref 21, .ref 30, .ref 35, .ref 40, .ref 63, .null, .null]) :: (ax_sg1 ++ (ax_sg2 ++ (ax_sg3 ++ (ax_sg4 ++ (ax_sg5 ++ (ax_sg6 ++ (ax_sg7 ++ ([(.inr 10, [.null, .int 0, .int 0])]))))))))) = some (none, ((.inr 0, [.ref 1, .ref 3, .ref 21, .ref 30, .ref 35, .ref 40, .ref 63, .null, .null]) :: (ax_sg1 ++ (ax_sg2 ++ (ax_sg3 ++ (ax_sg4 ++ (ax_sg5 ++ (ax_sg6 ++ (ax_sg7 ++ (ax_sg8)))))))))) := by decide +kernel
theorem ax_j9 : ax_ex ax_ro0 ax_cts ax_pg 172 58 ax_cd23 0 [(0, .ref 270)] [] ((.inr 0, [.ref 1, .ref 3, .ref 21, .ref 30, .ref 35, .ref 40, .ref 63, .ref 68, .null]) :: (ax_sg1 ++ (ax_sg2 ++ (ax_sg3 ++ (ax_sg4 ++ (ax_sg5 ++ (ax_sg6 ++ (ax_sg7 ++ (ax_sg8 ++ ([(.inr 11, [.null, .int 0])])))))))))) = some (none, ((.inr 0, [.ref 1, .ref 3, .ref 21, .ref 30, .ref 35, .ref 40, .ref 63, .ref 68, .null]) :: (ax_sg1 ++ (ax_sg2 ++ (ax_sg3 ++ (ax_sg4 ++ (ax_sg5 ++ (ax_sg6 ++ (ax_sg7 ++ (ax_sg8 ++ (ax_sg9))))))))))) := by decide +kernel
theorem ax_w1eq : ((.inr 0, [.ref 1, .ref 3, .ref 21, .ref 30, .ref 35, .ref 40, .ref 63, .ref 68, .ref 270]) :: (ax_sg1 ++ (ax_sg2 ++ (ax_sg3 ++ (ax_sg4 ++ (ax_sg5 ++ (ax_sg6 ++ (ax_sg7 ++ (ax_sg8 ++ (ax_sg9)))))))))) = ax_W1 := by decide +kernel
set_option maxRecDepth 100000 in
theorem ax_init1 (xs : List Int32) : Wp xs 59 ax_cd0 0 [(0, .ref 0)] [] [(.inr 0, List.replicate 9 (.null))] (fun r w' => r = none ∧ w' = ax_W1) := by
  refine wp_go (i' := 1) (lv' := [(0, .ref 0)]) (st' := [.ref 0]) (w' := [(.inr 0, List.replicate 9 (.null))]) rfl rfl ?_
  refine wp_go (i' := 2) (lv' := [(0, .ref 0)]) (st' := []) (w' := [(.inr 0, List.replicate 9 (.null))]) rfl rfl ?_
  refine wp_go (i' := 3) (lv' := [(0, .ref 0)]) (st' := [.ref 0]) (w' := [(.inr 0, List.replicate 9 (.null))]) rfl rfl ?_
  refine wp_go (i' := 4) (lv' := [(0, .ref 0)]) (st' := [.ref 1, .ref 0]) (w' := ((.inr 0, List.replicate 9 (.null)) :: ([(.inr 1, [.null, .int 0])]))) rfl rfl ?_
  refine wp_go (i' := 5) (lv' := [(0, .ref 0)]) (st' := [.ref 1, .ref 1, .ref 0]) (w' := ((.inr 0, List.replicate 9 (.null)) :: ([(.inr 1, [.null, .int 0])]))) rfl rfl ?_
  refine wp_call (Q' := fun r w' => r = none ∧ w' = ((.inr 0, List.replicate 9 (.null)) :: (ax_sg1))) rfl rfl ⟨30, none, _, ax_ex_ro (ax_Ro_ok xs) _ _ _ _ _ _ _ _ ax_j1, rfl, rfl⟩ ?_
  intro r w' hq
  obtain ⟨rfl, rfl⟩ := hq
  refine wp_go (i' := 7) (lv' := [(0, .ref 0)]) (st' := []) (w' := ((.inr 0, [.ref 1, .null, .null, .null, .null, .null, .null, .null, .null]) :: (ax_sg1))) rfl rfl ?_
  refine wp_go (i' := 8) (lv' := [(0, .ref 0)]) (st' := [.ref 0]) (w' := ((.inr 0, [.ref 1, .null, .null, .null, .null, .null, .null, .null, .null]) :: (ax_sg1))) rfl rfl ?_
  refine wp_go (i' := 9) (lv' := [(0, .ref 0)]) (st' := [.ref 3, .ref 0]) (w' := ((.inr 0, [.ref 1, .null, .null, .null, .null, .null, .null, .null, .null]) :: (ax_sg1 ++ ([(.inr 2, [.null, .null, .null, .null, .int 0, .int 0, .int 0, .int 0, .int 0, .int 0])])))) rfl rfl ?_
  refine wp_go (i' := 10) (lv' := [(0, .ref 0)]) (st' := [.ref 3, .ref 3, .ref 0]) (w' := ((.inr 0, [.ref 1, .null, .null, .null, .null, .null, .null, .null, .null]) :: (ax_sg1 ++ ([(.inr 2, [.null, .null, .null, .null, .int 0, .int 0, .int 0, .int 0, .int 0, .int 0])])))) rfl rfl ?_
  refine wp_go (i' := 11) (lv' := [(0, .ref 0)]) (st' := [.ref 0, .ref 3, .ref 3, .ref 0]) (w' := ((.inr 0, [.ref 1, .null, .null, .null, .null, .null, .null, .null, .null]) :: (ax_sg1 ++ ([(.inr 2, [.null, .null, .null, .null, .int 0, .int 0, .int 0, .int 0, .int 0, .int 0])])))) rfl rfl ?_
  refine wp_go (i' := 12) (lv' := [(0, .ref 0)]) (st' := [.ref 1, .ref 3, .ref 3, .ref 0]) (w' := ((.inr 0, [.ref 1, .null, .null, .null, .null, .null, .null, .null, .null]) :: (ax_sg1 ++ ([(.inr 2, [.null, .null, .null, .null, .int 0, .int 0, .int 0, .int 0, .int 0, .int 0])])))) rfl rfl ?_
  refine wp_call (Q' := fun r w' => r = none ∧ w' = ((.inr 0, [.ref 1, .null, .null, .null, .null, .null, .null, .null, .null]) :: (ax_sg1 ++ (ax_sg2)))) rfl rfl ⟨11323, none, _, ax_ex_ro (ax_Ro_ok xs) _ _ _ _ _ _ _ _ ax_j2, rfl, rfl⟩ ?_
  intro r w' hq
  obtain ⟨rfl, rfl⟩ := hq
  refine wp_go (i' := 14) (lv' := [(0, .ref 0)]) (st' := []) (w' := ((.inr 0, [.ref 1, .ref 3, .null, .null, .null, .null, .null, .null, .null]) :: (ax_sg1 ++ (ax_sg2)))) rfl rfl ?_
  refine wp_go (i' := 15) (lv' := [(0, .ref 0)]) (st' := [.ref 0]) (w' := ((.inr 0, [.ref 1, .ref 3, .null, .null, .null, .null, .null, .null, .null]) :: (ax_sg1 ++ (ax_sg2)))) rfl rfl ?_
  refine wp_go (i' := 16) (lv' := [(0, .ref 0)]) (st' := [.ref 21, .ref 0]) (w' := ((.inr 0, [.ref 1, .ref 3, .null, .null, .null, .null, .null, .null, .null]) :: (ax_sg1 ++ (ax_sg2 ++ ([(.inr 3, [.null, .null, .null, .null, .null, .null, .null, .null, .int 0, .int 0, .int 0, .int 0, .int 0, .int 0, .int 0, .int 0])]))))) rfl rfl ?_
  refine wp_go (i' := 17) (lv' := [(0, .ref 0)]) (st' := [.ref 21, .ref 21, .ref 0]) (w' := ((.inr 0, [.ref 1, .ref 3, .null, .null, .null, .null, .null, .null, .null]) :: (ax_sg1 ++ (ax_sg2 ++ ([(.inr 3, [.null, .null, .null, .null, .null, .null, .null, .null, .int 0, .int 0, .int 0, .int 0, .int 0, .int 0, .int 0, .int 0])]))))) rfl rfl ?_
  refine wp_call (Q' := fun r w' => r = none ∧ w' = ((.inr 0, [.ref 1, .ref 3, .null, .null, .null, .null, .null, .null, .null]) :: (ax_sg1 ++ (ax_sg2 ++ (ax_sg3))))) rfl rfl ⟨442, none, _, ax_ex_ro (ax_Ro_ok xs) _ _ _ _ _ _ _ _ ax_j3, rfl, rfl⟩ ?_
  intro r w' hq
  obtain ⟨rfl, rfl⟩ := hq
  refine wp_go (i' := 19) (lv' := [(0, .ref 0)]) (st' := []) (w' := ((.inr 0, [.ref 1, .ref 3, .ref 21, .null, .null, .null, .null, .null, .null]) :: (ax_sg1 ++ (ax_sg2 ++ (ax_sg3))))) rfl rfl ?_
  refine wp_go (i' := 20) (lv' := [(0, .ref 0)]) (st' := [.ref 0]) (w' := ((.inr 0, [.ref 1, .ref 3, .ref 21, .null, .null, .null, .null, .null, .null]) :: (ax_sg1 ++ (ax_sg2 ++ (ax_sg3))))) rfl rfl ?_
  refine wp_go (i' := 21) (lv' := [(0, .ref 0)]) (st' := [.ref 30, .ref 0]) (w' := ((.inr 0, [.ref 1, .ref 3, .ref 21, .null, .null, .null, .null, .null, .null]) :: (ax_sg1 ++ (ax_sg2 ++ (ax_sg3 ++ ([(.inr 5, [.null, .null, .null])])))))) rfl rfl ?_
  refine wp_go (i' := 22) (lv' := [(0, .ref 0)]) (st' := [.ref 30, .ref 30, .ref 0]) (w' := ((.inr 0, [.ref 1, .ref 3, .ref 21, .null, .null, .null, .null, .null, .null]) :: (ax_sg1 ++ (ax_sg2 ++ (ax_sg3 ++ ([(.inr 5, [.null, .null, .null])])))))) rfl rfl ?_
  refine wp_go (i' := 23) (lv' := [(0, .ref 0)]) (st' := [.ref 0, .ref 30, .ref 30, .ref 0]) (w' := ((.inr 0, [.ref 1, .ref 3, .ref 21, .null, .null, .null, .null, .null, .null]) :: (ax_sg1 ++ (ax_sg2 ++ (ax_sg3 ++ ([(.inr 5, [.null, .null, .null])])))))) rfl rfl ?_
  refine wp_go (i' := 24) (lv' := [(0, .ref 0)]) (st' := [.ref 21, .ref 30, .ref 30, .ref 0]) (w' := ((.inr 0, [.ref 1, .ref 3, .ref 21, .null, .null, .null, .null, .null, .null]) :: (ax_sg1 ++ (ax_sg2 ++ (ax_sg3 ++ ([(.inr 5, [.null, .null, .null])])))))) rfl rfl ?_
  refine wp_call (Q' := fun r w' => r = none ∧ w' = ((.inr 0, [.ref 1, .ref 3, .ref 21, .null, .null, .null, .null, .null, .null]) :: (ax_sg1 ++ (ax_sg2 ++ (ax_sg3 ++ (ax_sg4)))))) rfl rfl ⟨50, none, _, ax_ex_ro (ax_Ro_ok xs) _ _ _ _ _ _ _ _ ax_j4, rfl, rfl⟩ ?_
  intro r w' hq
  obtain ⟨rfl, rfl⟩ := hq
  refine wp_go (i' := 26) (lv' := [(0, .ref 0)]) (st' := []) (w' := ((.inr 0, [.ref 1, .ref 3, .ref 21, .ref 30, .null, .null, .null, .null, .null]) :: (ax_sg1 ++ (ax_sg2 ++ (ax_sg3 ++ (ax_sg4)))))) rfl rfl ?_
  refine wp_go (i' := 27) (lv' := [(0, .ref 0)]) (st' := [.ref 0]) (w' := ((.inr 0, [.ref 1, .ref 3, .ref 21, .ref 30, .null, .null, .null, .null, .null]) :: (ax_sg1 ++ (ax_sg2 ++ (ax_sg3 ++ (ax_sg4)))))) rfl rfl ?_
  refine wp_go (i' := 28) (lv' := [(0, .ref 0)]) (st' := [.ref 35, .ref 0]) (w' := ((.inr 0, [.ref 1, .ref 3, .ref 21, .ref 30, .null, .null, .null, .null, .null]) :: (ax_sg1 ++ (ax_sg2 ++ (ax_sg3 ++ (ax_sg4 ++ ([(.inr 7, [.null, .null, .null, .null, .int 0, .int 0, .int 0, .int 0])]))))))) rfl rfl ?_
  refine wp_go (i' := 29) (lv' := [(0, .ref 0)]) (st' := [.ref 35, .ref 35, .ref 0]) (w' := ((.inr 0, [.ref 1, .ref 3, .ref 21, .ref 30, .null, .null, .null, .null, .null]) :: (ax_sg1 ++ (ax_sg2 ++ (ax_sg3 ++ (ax_sg4 ++ ([(.inr 7, [.null, .null, .null, .null, .int 0, .int 0, .int 0, .int 0])]))))))) rfl rfl ?_
  refine wp_call (Q' := fun r w' => r = none ∧ w' = ((.inr 0, [.ref 1, .ref 3, .ref 21, .ref 30, .null, .null, .null, .null, .null]) :: (ax_sg1 ++ (ax_sg2 ++ (ax_sg3 ++ (ax_sg4 ++ (ax_sg5))))))) rfl rfl ⟨51, none, _, ax_ex_ro (ax_Ro_ok xs) _ _ _ _ _ _ _ _ ax_j5, rfl, rfl⟩ ?_
  intro r w' hq
  obtain ⟨rfl, rfl⟩ := hq
  refine wp_go (i' := 31) (lv' := [(0, .ref 0)]) (st' := []) (w' := ((.inr 0, [.ref 1, .ref 3, .ref 21, .ref 30, .ref 35, .null, .null, .null, .null]) :: (ax_sg1 ++ (ax_sg2 ++ (ax_sg3 ++ (ax_sg4 ++ (ax_sg5))))))) rfl rfl ?_
  refine wp_go (i' := 32) (lv' := [(0, .ref 0)]) (st' := [.ref 0]) (w' := ((.inr 0, [.ref 1, .ref 3, .ref 21, .ref 30, .ref 35, .null, .null, .null, .null]) :: (ax_sg1 ++ (ax_sg2 ++ (ax_sg3 ++ (ax_sg4 ++ (ax_sg5))))))) rfl rfl ?_
  refine wp_go (i' := 33) (lv' := [(0, .ref 0)]) (st' := [.ref 40, .ref 0]) (w' := ((.inr 0, [.ref 1, .ref 3, .ref 21, .ref 30, .ref 35, .null, .null, .null, .null]) :: (ax_sg1 ++ (ax_sg2 ++ (ax_sg3 ++ (ax_sg4 ++ (ax_sg5 ++ ([(.inr 8, List.replicate 6 (.null))])))))))) rfl rfl ?_
  refine wp_go (i' := 34) (lv' := [(0, .ref 0)]) (st' := [.ref 40, .ref 40, .ref 0]) (w' := ((.inr 0, [.ref 1, .ref 3, .ref 21, .ref 30, .ref 35, .null, .null, .null, .null]) :: (ax_sg1 ++ (ax_sg2 ++ (ax_sg3 ++ (ax_sg4 ++ (ax_sg5 ++ ([(.inr 8, List.replicate 6 (.null))])))))))) rfl rfl ?_
  refine wp_go (i' := 35) (lv' := [(0, .ref 0)]) (st' := [.ref 0, .ref 40, .ref 40, .ref 0]) (w' := ((.inr 0, [.ref 1, .ref 3, .ref 21, .ref 30, .ref 35, .null, .null, .null, .null]) :: (ax_sg1 ++ (ax_sg2 ++ (ax_sg3 ++ (ax_sg4 ++ (ax_sg5 ++ ([(.inr 8, List.replicate 6 (.null))])))))))) rfl rfl ?_
  refine wp_go (i' := 36) (lv' := [(0, .ref 0)]) (st' := [.ref 21, .ref 40, .ref 40, .ref 0]) (w' := ((.inr 0, [.ref 1, .ref 3, .ref 21, .ref 30, .ref 35, .null, .null, .null, .null]) :: (ax_sg1 ++ (ax_sg2 ++ (ax_sg3 ++ (ax_sg4 ++ (ax_sg5 ++ ([(.inr 8, List.replicate 6 (.null))])))))))) rfl rfl ?_
  refine wp_go (i' := 37) (lv' := [(0, .ref 0)]) (st' := [.ref 0, .ref 21, .ref 40, .ref 40, .ref 0]) (w' := ((.inr 0, [.ref 1, .ref 3, .ref 21, .ref 30, .ref 35, .null, .null, .null, .null]) :: (ax_sg1 ++ (ax_sg2 ++ (ax_sg3 ++ (ax_sg4 ++ (ax_sg5 ++ ([(.inr 8, List.replicate 6 (.null))])))))))) rfl rfl ?_
  refine wp_go (i' := 38) (lv' := [(0, .ref 0)]) (st' := [.ref 30, .ref 21, .ref 40, .ref 40, .ref 0]) (w' := ((.inr 0, [.ref 1, .ref 3, .ref 21, .ref 30, .ref 35, .null, .null, .null, .null]) :: (ax_sg1 ++ (ax_sg2 ++ (ax_sg3 ++ (ax_sg4 ++ (ax_sg5 ++ ([(.inr 8, List.replicate 6 (.null))])))))))) rfl rfl ?_
  refine wp_go (i' := 39) (lv' := [(0, .ref 0)]) (st' := [.ref 0, .ref 30, .ref 21, .ref 40, .ref 40, .ref 0]) (w' := ((.inr 0, [.ref 1, .ref 3, .ref 21, .ref 30, .ref 35, .null, .null, .null, .null]) :: (ax_sg1 ++ (ax_sg2 ++ (ax_sg3 ++ (ax_sg4 ++ (ax_sg5 ++ ([(.inr 8, List.replicate 6 (.null))])))))))) rfl rfl ?_
  refine wp_go (i' := 40) (lv' := [(0, .ref 0)]) (st' := [.ref 35, .ref 30, .ref 21, .ref 40, .ref 40, .ref 0]) (w' := ((.inr 0, [.ref 1, .ref 3, .ref 21, .ref 30, .ref 35, .null, .null, .null, .null]) :: (ax_sg1 ++ (ax_sg2 ++ (ax_sg3 ++ (ax_sg4 ++ (ax_sg5 ++ ([(.inr 8, List.replicate 6 (.null))])))))))) rfl rfl ?_
  refine wp_call (Q' := fun r w' => r = none ∧ w' = ((.inr 0, [.ref 1, .ref 3, .ref 21, .ref 30, .ref 35, .null, .null, .null, .null]) :: (ax_sg1 ++ (ax_sg2 ++ (ax_sg3 ++ (ax_sg4 ++ (ax_sg5 ++ (ax_sg6)))))))) rfl rfl ⟨218, none, _, ax_ex_ro (ax_Ro_ok xs) _ _ _ _ _ _ _ _ ax_j6, rfl, rfl⟩ ?_
  intro r w' hq
  obtain ⟨rfl, rfl⟩ := hq
  refine wp_go (i' := 42) (lv' := [(0, .ref 0)]) (st' := []) (w' := ((.inr 0, [.ref 1, .ref 3, .ref 21, .ref 30, .ref 35, .ref 40, .null, .null, .null]) :: (ax_sg1 ++ (ax_sg2 ++ (ax_sg3 ++ (ax_sg4 ++ (ax_sg5 ++ (ax_sg6)))))))) rfl rfl ?_
  refine wp_go (i' := 43) (lv' := [(0, .ref 0)]) (st' := [.ref 0]) (w' := ((.inr 0, [.ref 1, .ref 3, .ref 21, .ref 30, .ref 35, .ref 40, .null, .null, .null]) :: (ax_sg1 ++ (ax_sg2 ++ (ax_sg3 ++ (ax_sg4 ++ (ax_sg5 ++ (ax_sg6)))))))) rfl rfl ?_
  refine wp_go (i' := 44) (lv' := [(0, .ref 0)]) (st' := [.ref 63, .ref 0]) (w' := ((.inr 0, [.ref 1, .ref 3, .ref 21, .ref 30, .ref 35, .ref 40, .null, .null, .null]) :: (ax_sg1 ++ (ax_sg2 ++ (ax_sg3 ++ (ax_sg4 ++ (ax_sg5 ++ (ax_sg6 ++ ([(.inr 9, [.null, .null, .null, .null, .null, .null, .null, .int 0])]))))))))) rfl rfl ?_
  refine wp_go (i' := 45) (lv' := [(0, .ref 0)]) (st' := [.ref 63, .ref 63, .ref 0]) (w' := ((.inr 0, [.ref 1, .ref 3, .ref 21, .ref 30, .ref 35, .ref 40, .null, .null, .null]) :: (ax_sg1 ++ (ax_sg2 ++ (ax_sg3 ++ (ax_sg4 ++ (ax_sg5 ++ (ax_sg6 ++ ([(.inr 9, [.null, .null, .null, .null, .null, .null, .null, .int 0])]))))))))) rfl rfl ?_
  refine wp_go (i' := 46) (lv' := [(0, .ref 0)]) (st' := [.ref 0, .ref 63, .ref 63, .ref 0]) (w' := ((.inr 0, [.ref 1, .ref 3, .ref 21, .ref 30, .ref 35, .ref 40, .null, .null, .null]) :: (ax_sg1 ++ (ax_sg2 ++ (ax_sg3 ++ (ax_sg4 ++ (ax_sg5 ++ (ax_sg6 ++ ([(.inr 9, [.null, .null, .null, .null, .null, .null, .null, .int 0])]))))))))) rfl rfl ?_
  refine wp_go (i' := 47) (lv' := [(0, .ref 0)]) (st' := [.ref 21, .ref 63, .ref 63, .ref 0]) (w' := ((.inr 0, [.ref 1, .ref 3, .ref 21, .ref 30, .ref 35, .ref 40, .null, .null, .null]) :: (ax_sg1 ++ (ax_sg2 ++ (ax_sg3 ++ (ax_sg4 ++ (ax_sg5 ++ (ax_sg6 ++ ([(.inr 9, [.null, .null, .null, .null, .null, .null, .null, .int 0])]))))))))) rfl rfl ?_
  refine wp_go (i' := 48) (lv' := [(0, .ref 0)]) (st' := [.ref 0, .ref 21, .ref 63, .ref 63, .ref 0]) (w' := ((.inr 0, [.ref 1, .ref 3, .ref 21, .ref 30, .ref 35, .ref 40, .null, .null, .null]) :: (ax_sg1 ++ (ax_sg2 ++ (ax_sg3 ++ (ax_sg4 ++ (ax_sg5 ++ (ax_sg6 ++ ([(.inr 9, [.null, .null, .null, .null, .null, .null, .null, .int 0])]))))))))) rfl rfl ?_
  refine wp_go (i' := 49) (lv' := [(0, .ref 0)]) (st' := [.ref 30, .ref 21, .ref 63, .ref 63, .ref 0]) (w' := ((.inr 0, [.ref 1, .ref 3, .ref 21, .ref 30, .ref 35, .ref 40, .null, .null, .null]) :: (ax_sg1 ++ (ax_sg2 ++ (ax_sg3 ++ (ax_sg4 ++ (ax_sg5 ++ (ax_sg6 ++ ([(.inr 9, [.null, .null, .null, .null, .null, .null, .null, .int 0])]))))))))) rfl rfl ?_
  refine wp_go (i' := 50) (lv' := [(0, .ref 0)]) (st' := [.ref 0, .ref 30, .ref 21, .ref 63, .ref 63, .ref 0]) (w' := ((.inr 0, [.ref 1, .ref 3, .ref 21, .ref 30, .ref 35, .ref 40, .null, .null, .null]) :: (ax_sg1 ++ (ax_sg2 ++ (ax_sg3 ++ (ax_sg4 ++ (ax_sg5 ++ (ax_sg6 ++ ([(.inr 9, [.null, .null, .null, .null, .null, .null, .null, .int 0])]))))))))) rfl rfl ?_
  refine wp_go (i' := 51) (lv' := [(0, .ref 0)]) (st' := [.ref 35, .ref 30, .ref 21, .ref 63, .ref 63, .ref 0]) (w' := ((.inr 0, [.ref 1, .ref 3, .ref 21, .ref 30, .ref 35, .ref 40, .null, .null, .null]) :: (ax_sg1 ++ (ax_sg2 ++ (ax_sg3 ++ (ax_sg4 ++ (ax_sg5 ++ (ax_sg6 ++ ([(.inr 9, [.null, .null, .null, .null, .null, .null, .null, .int 0])]))))))))) rfl rfl ?_
  refine wp_call (Q' := fun r w' => r = none ∧ w' = ((.inr 0, [.ref 1, .ref 3, .ref 21, .ref 30, .ref 35, .ref 40, .null, .null, .null]) :: (ax_sg1 ++ (ax_sg2 ++ (ax_sg3 ++ (ax_sg4 ++ (ax_sg5 ++ (ax_sg6 ++ (ax_sg7))))))))) rfl rfl ⟨51, none, _, ax_ex_ro (ax_Ro_ok xs) _ _ _ _ _ _ _ _ ax_j7, rfl, rfl⟩ ?_
  intro r w' hq
  obtain ⟨rfl, rfl⟩ := hq
  refine wp_go (i' := 53) (lv' := [(0, .ref 0)]) (st' := []) (w' := ((.inr 0, [.ref 1, .ref 3, .ref 21, .ref 30, .ref 35, .ref 40, .ref 63, .null, .null]) :: (ax_sg1 ++ (ax_sg2 ++ (ax_sg3 ++ (ax_sg4 ++ (ax_sg5 ++ (ax_sg6 ++ (ax_sg7))))))))) rfl rfl ?_
  refine wp_go (i' := 54) (lv' := [(0, .ref 0)]) (st' := [.ref 0]) (w' := ((.inr 0, [.ref 1, .ref 3, .ref 21, .ref 30, .ref 35, .ref 40, .ref 63, .null, .null]) :: (ax_sg1 ++ (ax_sg2 ++ (ax_sg3 ++ (ax_sg4 ++ (ax_sg5 ++ (ax_sg6 ++ (ax_sg7))))))))) rfl rfl ?_
  refine wp_go (i' := 55) (lv' := [(0, .ref 0)]) (st' := [.ref 68, .ref 0]) (w' := ((.inr 0, [.ref 1, .ref 3, .ref 21, .ref 30, .ref 35, .ref 40, .ref 63, .null, .null]) :: (ax_sg1 ++ (ax_sg2 ++ (ax_sg3 ++ (ax_sg4 ++ (ax_sg5 ++ (ax_sg6 ++ (ax_sg7 ++ ([(.inr 10, [.null, .int 0, .int 0])])))))))))) rfl rfl ?_
  refine wp_go (i' := 56) (lv' := [(0, .ref 0)]) (st' := [.ref 68, .ref 68, .ref 0]) (w' := ((.inr 0, [.ref 1, .ref 3, .ref 21, .ref 30, .ref 35, .ref 40, .ref 63, .null, .null]) :: (ax_sg1 ++ (ax_sg2 ++ (ax_sg3 ++ (ax_sg4 ++ (ax_sg5 ++ (ax_sg6 ++ (ax_sg7 ++ ([(.inr 10, [.null, .int 0, .int 0])])))))))))) rfl rfl ?_
  refine wp_call (Q' := fun r w' => r = none ∧ w' = ((.inr 0, [.ref 1, .ref 3, .ref 21, .ref 30, .ref 35, .ref 40, .ref 63, .null, .null]) :: (ax_sg1 ++ (ax_sg2 ++ (ax_sg3 ++ (ax_sg4 ++ (ax_sg5 ++ (ax_sg6 ++ (ax_sg7 ++ (ax_sg8)))))))))) rfl rfl ⟨1840, none, _, ax_ex_ro (ax_Ro_ok xs) _ _ _ _ _ _ _ _ ax_j8, rfl, rfl⟩ ?_
  intro r w' hq
  obtain ⟨rfl, rfl⟩ := hq
  refine wp_go (i' := 58) (lv' := [(0, .ref 0)]) (st' := []) (w' := ((.inr 0, [.ref 1, .ref 3, .ref 21, .ref 30, .ref 35, .ref 40, .ref 63, .ref 68, .null]) :: (ax_sg1 ++ (ax_sg2 ++ (ax_sg3 ++ (ax_sg4 ++ (ax_sg5 ++ (ax_sg6 ++ (ax_sg7 ++ (ax_sg8)))))))))) rfl rfl ?_
  refine wp_go (i' := 59) (lv' := [(0, .ref 0)]) (st' := [.ref 0]) (w' := ((.inr 0, [.ref 1, .ref 3, .ref 21, .ref 30, .ref 35, .ref 40, .ref 63, .ref 68, .null]) :: (ax_sg1 ++ (ax_sg2 ++ (ax_sg3 ++ (ax_sg4 ++ (ax_sg5 ++ (ax_sg6 ++ (ax_sg7 ++ (ax_sg8)))))))))) rfl rfl ?_
  refine wp_go (i' := 60) (lv' := [(0, .ref 0)]) (st' := [.ref 270, .ref 0]) (w' := ((.inr 0, [.ref 1, .ref 3, .ref 21, .ref 30, .ref 35, .ref 40, .ref 63, .ref 68, .null]) :: (ax_sg1 ++ (ax_sg2 ++ (ax_sg3 ++ (ax_sg4 ++ (ax_sg5 ++ (ax_sg6 ++ (ax_sg7 ++ (ax_sg8 ++ ([(.inr 11, [.null, .int 0])]))))))))))) rfl rfl ?_
  refine wp_go (i' := 61) (lv' := [(0, .ref 0)]) (st' := [.ref 270, .ref 270, .ref 0]) (w' := ((.inr 0, [.ref 1, .ref 3, .ref 21, .ref 30, .ref 35, .ref 40, .ref 63, .ref 68, .null]) :: (ax_sg1 ++ (ax_sg2 ++ (ax_sg3 ++ (ax_sg4 ++ (ax_sg5 ++ (ax_sg6 ++ (ax_sg7 ++ (ax_sg8 ++ ([(.inr 11, [.null, .int 0])]))))))))))) rfl rfl ?_
  refine wp_call (Q' := fun r w' => r = none ∧ w' = ((.inr 0, [.ref 1, .ref 3, .ref 21, .ref 30, .ref 35, .ref 40, .ref 63, .ref 68, .null]) :: (ax_sg1 ++ (ax_sg2 ++ (ax_sg3 ++ (ax_sg4 ++ (ax_sg5 ++ (ax_sg6 ++ (ax_sg7 ++ (ax_sg8 ++ (ax_sg9))))))))))) rfl rfl ⟨172, none, _, ax_ex_ro (ax_Ro_ok xs) _ _ _ _ _ _ _ _ ax_j9, rfl, rfl⟩ ?_
  intro r w' hq
  obtain ⟨rfl, rfl⟩ := hq
  refine wp_go (i' := 63) (lv' := [(0, .ref 0)]) (st' := []) (w' := ((.inr 0, [.ref 1, .ref 3, .ref 21, .ref 30, .ref 35, .ref 40, .ref 63, .ref 68, .ref 270]) :: (ax_sg1 ++ (ax_sg2 ++ (ax_sg3 ++ (ax_sg4 ++ (ax_sg5 ++ (ax_sg6 ++ (ax_sg7 ++ (ax_sg8 ++ (ax_sg9))))))))))) rfl rfl ?_
  refine wp_end rfl rfl ?_
  exact ⟨rfl, ax_w1eq⟩
