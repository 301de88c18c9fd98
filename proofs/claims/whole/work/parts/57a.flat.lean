/-! ===== the start: what the statement gives, the world, the law walked ===== -/
def fl0 : List Cond := flatC (Cond.and given_1 narrow_1)
def plX : List Nat := [30, 40, 50, 62, 78, 91, 106, 121, 137, 154, 172, 189, 209, 228, 251]
def plC : List Nat := [31, 41, 51, 63, 79, 92, 107, 122, 138, 155, 173, 190, 210, 229, 252]
def plA : List Nat := [32, 42, 52, 64, 80, 93, 108, 123, 139, 156, 174, 191, 211, 230, 253]
def plL : List Nat := [33, 43, 53, 65, 81, 94, 109, 124, 140, 157, 175, 192, 212, 231, 254]
def plE : List (List Nat) := [[34, 35, 36, 37, 38, 39], [44, 45, 46, 47, 48], [54, 55, 56, 57, 58, 59], [66, 67, 68, 69, 70, 71, 72, 73, 74], [82, 83, 84, 85, 86], [95, 96, 97, 98, 99, 100], [110, 111, 112, 113, 114], [125, 126, 127, 128, 129], [141, 142, 143, 144, 145], [158, 159, 160, 161, 162], [176, 177, 178], [193, 194, 195, 196, 197], [213, 214, 215], [232, 233, 234, 235, 236, 237], [255, 256, 257, 258]]
def plN : List (List Nat) := [[0, 49, 60, 75, 87, 101, 115, 130, 146, 163, 179, 198, 216, 238, 259], [0, 0, 61, 76, 88, 102, 116, 131, 147, 164, 180, 199, 217, 239, 260], [0, 0, 0, 77, 89, 103, 117, 132, 148, 165, 181, 200, 218, 240, 261], [0, 0, 0, 0, 90, 104, 118, 133, 149, 166, 182, 201, 219, 241, 262], [0, 0, 0, 0, 0, 105, 119, 134, 150, 167, 183, 202, 220, 242, 263], [0, 0, 0, 0, 0, 0, 120, 135, 151, 168, 184, 203, 221, 243, 264], [0, 0, 0, 0, 0, 0, 0, 136, 152, 169, 185, 204, 222, 244, 265], [0, 0, 0, 0, 0, 0, 0, 0, 153, 170, 186, 205, 223, 245, 266], [0, 0, 0, 0, 0, 0, 0, 0, 0, 171, 187, 206, 224, 246, 267], [0, 0, 0, 0, 0, 0, 0, 0, 0, 0, 188, 207, 225, 247, 268], [0, 0, 0, 0, 0, 0, 0, 0, 0, 0, 0, 208, 226, 248, 269], [0, 0, 0, 0, 0, 0, 0, 0, 0, 0, 0, 0, 227, 249, 270], [0, 0, 0, 0, 0, 0, 0, 0, 0, 0, 0, 0, 0, 250, 271], [0, 0, 0, 0, 0, 0, 0, 0, 0, 0, 0, 0, 0, 0, 272], [0, 0, 0, 0, 0, 0, 0, 0, 0, 0, 0, 0, 0, 0, 0]]
def plB : List Nat := [7, 8, 9, 10, 11, 12]
theorem fl_X : ∀ i, i < 15 → fl0[plX.getD i 0]? = some (Cond.exactly (Term.string "CoinFountain$Text" (stI.getD i 0)) "java/lang/String") := by decide +kernel
theorem fl_C : ∀ i, i < 15 → fl0[plC.getD i 0]? = some (Cond.eq (.field (Term.string "CoinFountain$Text" (stI.getD i 0)) "java/lang/String" "coder" "B") (.int 0)) := by decide +kernel
theorem fl_A : ∀ i, i < 15 → fl0[plA.getD i 0]? = some (Cond.arrayOf (Term.field (Term.string "CoinFountain$Text" (stI.getD i 0)) "java/lang/String" "value" "[B") .byte) := by decide +kernel
theorem fl_L : ∀ i, i < 15 → fl0[plL.getD i 0]? = some (Cond.eq (.length (Term.field (Term.string "CoinFountain$Text" (stI.getD i 0)) "java/lang/String" "value" "[B")) (.int (Int32.ofNat (stN.getD i 0)))) := by decide +kernel
theorem fl_E : ∀ i, i < 15 → ∀ j, j < stN.getD i 0 → fl0[(plE.getD i []).getD j 0]? = some (Cond.eq (.elem (Term.field (Term.string "CoinFountain$Text" (stI.getD i 0)) "java/lang/String" "value" "[B") (.int (Int32.ofNat j))) (.int ((stB.getD i []).getD j 0))) := by decide +kernel
theorem fl_N : ∀ i, i < 15 → ∀ j, j < 15 → i < j → fl0[(plN.getD i []).getD j 0]? = some (Cond.not (Cond.eq (Term.string "CoinFountain$Text" (stI.getD i 0)) (Term.string "CoinFountain$Text" (stI.getD j 0)))) := by decide +kernel
theorem fl_B : ∀ j, j < 6 → fl0[plB.getD j 0]? = some (Cond.eq (.elem (.static "CoinFountain" "ABOVE" "[I") (.int (Int32.ofNat j))) (.int (abL.getD j 0))) := by decide +kernel
theorem fl_a : fl0[5]? = some (Cond.arrayOf (.static "CoinFountain" "ABOVE" "[I") .int) := by decide +kernel
theorem fl_l : fl0[6]? = some (Cond.eq (.length (.static "CoinFountain" "ABOVE" "[I")) (.int 6)) := by decide +kernel
theorem fl_c : fl0[13]? = some (Cond.eq (.static "java/lang/String" "COMPACT_STRINGS" "Z") (.int 1)) := by decide +kernel
theorem fl_f : fl0[14]? = some (Cond.isRef (.static "jdk/internal/util/Preconditions" "SIOOBE_FORMATTER" "Ljava/util/function/BiFunction;")) := by decide +kernel
