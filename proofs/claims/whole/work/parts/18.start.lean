/-! THE START: what the Statement gives, the world that the constructors make, the law up to its loop -/
def st_fl : List Cond := flatC (Jvm.Cond.and given_1 narrow_1)
def st_is (i : Nat) (c : Cond) : Bool := decide (st_fl[i]? = some c)
def st_t62 : List Int32 := [0, 12, 16, 21]
def st_p62 : List Nat := [7, 8, 9, 10]
theorem st_k62 : (st_is 5 (Cond.arrayOf (.static "IllLight$Reader" "WORDS_OF_SORT" "[I") .int) && st_is 6 (Cond.eq (.length (.static "IllLight$Reader" "WORDS_OF_SORT" "[I")) (.int (Int32.ofNat 4))) && (List.range 4).all (fun j => st_is (st_p62.getD j 0) (Cond.eq (.elem (.static "IllLight$Reader" "WORDS_OF_SORT" "[I") (.int (Int32.ofNat j))) (.int (st_t62.getD j 0))))) = true := by decide +kernel
def st_t63 : List Int32 := [2, 2, 2, 3, 4, 1, 1, 0, 2, 1, 0, 1, 2, 3, 1, 0, 1, 1, 1, 1, 1]
def st_p63 : List Nat := [19, 20, 21, 22, 23, 24, 25, 26, 27, 28, 29, 30, 31, 32, 33, 34, 35, 36, 37, 38, 39]
theorem st_k63 : (st_is 17 (Cond.arrayOf (.static "IllLight$Reader" "NUMBERS_OF_WORD" "[I") .int) && st_is 18 (Cond.eq (.length (.static "IllLight$Reader" "NUMBERS_OF_WORD" "[I")) (.int (Int32.ofNat 21))) && (List.range 21).all (fun j => st_is (st_p63.getD j 0) (Cond.eq (.elem (.static "IllLight$Reader" "NUMBERS_OF_WORD" "[I") (.int (Int32.ofNat j))) (.int (st_t63.getD j 0))))) = true := by decide +kernel
def st_t64 : List Int32 := [8, 8, 0, 0, 7, 7, 0, 0, 7, 7, 0, 0, 7, 7, 7, 0, 7, 7, 9, 9, 20, 0, 0, 0, 9, 0, 0, 0, 0, 0, 0, 0, 9, 23, 0, 0, 9, 0, 0, 0, 0, 0, 0, 0, 3, 0, 0, 0, 3, 3, 0, 0, 3, 3, 9, 0, 3, 0, 0, 0, 0, 0, 0, 0, 10, 0, 0, 0, 6, 0, 0, 0, 9, 0, 0, 0, 23, 0, 0, 0, 23, 0, 0, 0]
def st_p64 : List Nat := [43, 44, 45, 46, 47, 48, 49, 50, 51, 52, 53, 54, 55, 56, 57, 58, 59, 60, 61, 62, 63, 64, 65, 66, 67, 68, 69, 70, 71, 72, 73, 74, 75, 76, 77, 78, 79, 80, 81, 82, 83, 84, 85, 86, 87, 88, 89, 90, 91, 92, 93, 94, 95, 96, 97, 98, 99, 100, 101, 102, 103, 104, 105, 106, 107, 108, 109, 110, 111, 112, 113, 114, 115, 116, 117, 118, 119, 120, 121, 122, 123, 124, 125, 126]
theorem st_k64 : (st_is 41 (Cond.arrayOf (.static "IllLight$Reader" "MOST" "[I") .int) && st_is 42 (Cond.eq (.length (.static "IllLight$Reader" "MOST" "[I")) (.int (Int32.ofNat 84))) && (List.range 84).all (fun j => st_is (st_p64.getD j 0) (Cond.eq (.elem (.static "IllLight$Reader" "MOST" "[I") (.int (Int32.ofNat j))) (.int (st_t64.getD j 0))))) = true := by decide +kernel
def st_sb : List (List Int32) := [[115, 105, 122, 101], [108, 97, 109, 112], [114, 111, 99, 107], [103, 117, 97, 114, 100], [115, 104, 105, 112], [108, 105, 109, 105, 116], [112, 108, 97, 105, 110], [104, 105, 114, 101, 100], [108, 97, 116, 101], [100, 105, 118, 105, 100, 101, 100], [97, 115, 108, 101, 101, 112], [108, 111, 121, 97, 108], [103, 111], [109, 101, 97, 110], [116, 104, 114, 111, 119], [104, 111, 117, 114], [109, 97, 110], [101, 114, 114, 111, 114, 115], [108, 105, 116], [100, 97, 114, 107], []]
def st_sp : List (List Nat) := [[167, 168, 169, 170], [175, 176, 177, 178], [184, 185, 186, 187], [194, 195, 196, 197, 198], [206, 207, 208, 209], [218, 219, 220, 221, 222], [232, 233, 234, 235, 236], [247, 248, 249, 250, 251], [263, 264, 265, 266], [279, 280, 281, 282, 283, 284, 285], [299, 300, 301, 302, 303, 304], [319, 320, 321, 322, 323], [339, 340], [357, 358, 359, 360], [378, 379, 380, 381, 382], [401, 402, 403, 404], [424, 425, 426], [447, 448, 449, 450, 451, 452], [474, 475, 476], [499, 500, 501, 502], []]
def st_s4 : List (Nat × Nat × Nat × Nat) := [(163, 164, 165, 166), (171, 172, 173, 174), (180, 181, 182, 183), (190, 191, 192, 193), (202, 203, 204, 205), (214, 215, 216, 217), (228, 229, 230, 231), (243, 244, 245, 246), (259, 260, 261, 262), (275, 276, 277, 278), (295, 296, 297, 298), (315, 316, 317, 318), (335, 336, 337, 338), (353, 354, 355, 356), (374, 375, 376, 377), (397, 398, 399, 400), (420, 421, 422, 423), (443, 444, 445, 446), (470, 471, 472, 473), (495, 496, 497, 498), (522, 523, 524, 525)]
def st_sr : List Nat := [510, 511, 512, 513, 514, 515, 516, 517, 518, 519, 520, 521, 522, 523, 524, 525, 526, 527, 528, 529, 530]
theorem st_kc : (st_is 11 (Cond.eq (.static "java/lang/String" "COMPACT_STRINGS" "Z") (.int 1)) && st_is 12 (Cond.isRef (.static "jdk/internal/util/Preconditions" "SIOOBE_FORMATTER" "Ljava/util/function/BiFunction;"))) = true := by decide +kernel
def st_wA : List CE := [.inl (7, [.inr (some (some 1)), .inr (some (some 41)), .inr (some (some 162)), .inr (some (some 163)), .inr (some (some 182)), .inr (some (some 193)), .inr (some (some 203))]), .inl (6, [.inr (some (some 2)), .inl 0, .inl 0, .inl (-1), .inr (some (some 3)), .inr (some (some 4)), .inr (some (some 5)), .inr (some (some 6))]), .inr (0, 600, [], []), .inr (0, 3, [], []), .inr (10, 2, [], [(1, 24), (0, 7)]), .inr (13, 2, [], [(1, 34), (0, 17)]), .inr (12, 2, [], [(1, 37), (0, 20)]), .inl (0, [.inl 6, .inl 6, .inl 0, .inl 1, .inr none, .inl 0, .inr (some (some 8)), .inr (some (some 9)), .inl 0, .inr (some (some 10)), .inr (some (some 11)), .inr (some (some 12)), .inr (some (some 13)), .inr (some (some 14)), .inr (some (some 15)), .inr (some (some 16))]), .inr (0, 4, [], []), .inr (0, 4, [], []), .inr (0, 4, [], []), .inr (0, 4, [], []), .inr (0, 4, [], []), .inr (0, 4, [], []), .inr (0, 16, [], []), .inr (0, 16, [], []), .inr (0, 16, [], []), .inl (3, [.inl 0, .inr (some (some 18)), .inr (some (some 19))]), .inr (0, 40, [], []), .inr (0, 120, [], []), .inl (2, [.inl 0, .inr (some (some 21)), .inl 1, .inl 0, .inl 0, .inr (some (some 22)), .inr (some (some 23))]), .inr (0, 6, [], []), .inr (0, 10, [], []), .inr (0, 10, [], []), .inl (0, [.inl 6, .inl 6, .inl 0, .inl 1, .inr none, .inl 0, .inr (some (some 25)), .inr (some (some 26)), .inl 0, .inr (some (some 27)), .inr (some (some 28)), .inr (some (some 29)), .inr (some (some 30)), .inr (some (some 31)), .inr (some (some 32)), .inr (some (some 33))]), .inr (0, 4, [], []), .inr (0, 4, [], []), .inr (0, 4, [], []), .inr (0, 4, [], []), .inr (0, 4, [], []), .inr (0, 4, [], []), .inr (0, 16, [], []), .inr (0, 16, [], []), .inr (0, 16, [], []), .inl (3, [.inl 0, .inr (some (some 35)), .inr (some (some 36))]), .inr (0, 40, [], []), .inr (0, 120, [], []), .inl (2, [.inl 0, .inr (some (some 38)), .inl 1, .inl 0, .inl 0, .inr (some (some 39)), .inr (some (some 40))]), .inr (0, 6, [], []), .inr (0, 10, [], []), .inr (0, 10, [], []), .inr (16, 3, [], [(2, 122), (1, 82), (0, 42)]), .inl (6, [.inr (some (some 43)), .inl 0, .inl 0, .inl (-1), .inr (some (some 44)), .inr (some (some 45)), .inr (some (some 46)), .inr (some (some 47))]), .inr (0, 600, [], []), .inr (0, 3, [], []), .inr (10, 2, [], [(1, 65), (0, 48)]), .inr (13, 2, [], [(1, 75), (0, 58)]), .inr (12, 2, [], [(1, 78), (0, 61)]), .inl (0, [.inl 6, .inl 6, .inl 0, .inl 1, .inr none, .inl 0, .inr (some (some 49)), .inr (some (some 50)), .inl 0, .inr (some (some 51)), .inr (some (some 52)), .inr (some (some 53)), .inr (some (some 54)), .inr (some (some 55)), .inr (some (some 56)), .inr (some (some 57))]), .inr (0, 4, [], []), .inr (0, 4, [], []), .inr (0, 4, [], []), .inr (0, 4, [], []), .inr (0, 4, [], []), .inr (0, 4, [], []), .inr (0, 16, [], []), .inr (0, 16, [], []), .inr (0, 16, [], []), .inl (3, [.inl 0, .inr (some (some 59)), .inr (some (some 60))]), .inr (0, 40, [], []), .inr (0, 120, [], []), .inl (2, [.inl 0, .inr (some (some 62)), .inl 1, .inl 0, .inl 0, .inr (some (some 63)), .inr (some (some 64))]), .inr (0, 6, [], []), .inr (0, 10, [], []), .inr (0, 10, [], []), .inl (0, [.inl 6, .inl 6, .inl 0, .inl 1, .inr none, .inl 0, .inr (some (some 66)), .inr (some (some 67)), .inl 0, .inr (some (some 68)), .inr (some (some 69)), .inr (some (some 70)), .inr (some (some 71)), .inr (some (some 72)), .inr (some (some 73)), .inr (some (some 74))]), .inr (0, 4, [], []), .inr (0, 4, [], []), .inr (0, 4, [], []), .inr (0, 4, [], []), .inr (0, 4, [], []), .inr (0, 4, [], []), .inr (0, 16, [], []), .inr (0, 16, [], []), .inr (0, 16, [], []), .inl (3, [.inl 0, .inr (some (some 76)), .inr (some (some 77))]), .inr (0, 40, [], []), .inr (0, 120, [], []), .inl (2, [.inl 0, .inr (some (some 79)), .inl 1, .inl 0, .inl 0, .inr (some (some 80)), .inr (some (some 81))]), .inr (0, 6, [], []), .inr (0, 10, [], []), .inr (0, 10, [], []), .inl (6, [.inr (some (some 83)), .inl 0, .inl 0, .inl (-1), .inr (some (some 84)), .inr (some (some 85)), .inr (some (some 86)), .inr (some (some 87))]), .inr (0, 600, [], []), .inr (0, 3, [], []), .inr (10, 2, [], [(1, 105), (0, 88)]), .inr (13, 2, [], [(1, 115), (0, 98)]), .inr (12, 2, [], [(1, 118), (0, 101)]), .inl (0, [.inl 6, .inl 6, .inl 0, .inl 1, .inr none, .inl 0, .inr (some (some 89)), .inr (some (some 90)), .inl 0, .inr (some (some 91)), .inr (some (some 92)), .inr (some (some 93)), .inr (some (some 94)), .inr (some (some 95)), .inr (some (some 96)), .inr (some (some 97))]), .inr (0, 4, [], []), .inr (0, 4, [], []), .inr (0, 4, [], []), .inr (0, 4, [], []), .inr (0, 4, [], []), .inr (0, 4, [], []), .inr (0, 16, [], []), .inr (0, 16, [], []), .inr (0, 16, [], []), .inl (3, [.inl 0, .inr (some (some 99)), .inr (some (some 100))]), .inr (0, 40, [], []), .inr (0, 120, [], []), .inl (2, [.inl 0, .inr (some (some 102)), .inl 1, .inl 0, .inl 0, .inr (some (some 103)), .inr (some (some 104))]), .inr (0, 6, [], []), .inr (0, 10, [], []), .inr (0, 10, [], []), .inl (0, [.inl 6, .inl 6, .inl 0, .inl 1, .inr none, .inl 0, .inr (some (some 106)), .inr (some (some 107)), .inl 0, .inr (some (some 108)), .inr (some (some 109)), .inr (some (some 110)), .inr (some (some 111)), .inr (some (some 112)), .inr (some (some 113)), .inr (some (some 114))]), .inr (0, 4, [], []), .inr (0, 4, [], []), .inr (0, 4, [], []), .inr (0, 4, [], []), .inr (0, 4, [], []), .inr (0, 4, [], []), .inr (0, 16, [], []), .inr (0, 16, [], []), .inr (0, 16, [], []), .inl (3, [.inl 0, .inr (some (some 116)), .inr (some (some 117))]), .inr (0, 40, [], []), .inr (0, 120, [], []), .inl (2, [.inl 0, .inr (some (some 119)), .inl 1, .inl 0, .inl 0, .inr (some (some 120)), .inr (some (some 121))]), .inr (0, 6, [], []), .inr (0, 10, [], []), .inr (0, 10, [], []), .inl (6, [.inr (some (some 123)), .inl 0, .inl 0, .inl (-1), .inr (some (some 124)), .inr (some (some 125)), .inr (some (some 126)), .inr (some (some 127))]), .inr (0, 600, [], []), .inr (0, 3, [], []), .inr (10, 2, [], [(1, 145), (0, 128)]), .inr (13, 2, [], [(1, 155), (0, 138)]), .inr (12, 2, [], [(1, 158), (0, 141)]), .inl (0, [.inl 6, .inl 6, .inl 0, .inl 1, .inr none, .inl 0, .inr (some (some 129)), .inr (some (some 130)), .inl 0, .inr (some (some 131)), .inr (some (some 132)), .inr (some (some 133)), .inr (some (some 134)), .inr (some (some 135)), .inr (some (some 136)), .inr (some (some 137))]), .inr (0, 4, [], []), .inr (0, 4, [], []), .inr (0, 4, [], []), .inr (0, 4, [], []), .inr (0, 4, [], []), .inr (0, 4, [], []), .inr (0, 16, [], []), .inr (0, 16, [], []), .inr (0, 16, [], []), .inl (3, [.inl 0, .inr (some (some 139)), .inr (some (some 140))]), .inr (0, 40, [], []), .inr (0, 120, [], []), .inl (2, [.inl 0, .inr (some (some 142)), .inl 1, .inl 0, .inl 0, .inr (some (some 143)), .inr (some (some 144))]), .inr (0, 6, [], []), .inr (0, 10, [], []), .inr (0, 10, [], []), .inl (0, [.inl 6, .inl 6, .inl 0, .inl 1, .inr none, .inl 0, .inr (some (some 146)), .inr (some (some 147)), .inl 0, .inr (some (some 148)), .inr (some (some 149)), .inr (some (some 150)), .inr (some (some 151)), .inr (some (some 152)), .inr (some (some 153)), .inr (some (some 154))]), .inr (0, 4, [], []), .inr (0, 4, [], []), .inr (0, 4, [], []), .inr (0, 4, [], []), .inr (0, 4, [], []), .inr (0, 4, [], []), .inr (0, 16, [], []), .inr (0, 16, [], []), .inr (0, 16, [], []), .inl (3, [.inl 0, .inr (some (some 156)), .inr (some (some 157))]), .inr (0, 40, [], []), .inr (0, 120, [], []), .inl (2, [.inl 0, .inr (some (some 159)), .inl 1, .inl 0, .inl 0, .inr (some (some 160)), .inr (some (some 161))]), .inr (0, 6, [], []), .inr (0, 10, [], []), .inr (0, 10, [], []), .inr (2, 3, [], []), .inl (4, [.inr (some (some 164)), .inr (some (some 174)), .inr (some (some 177)), .inl 0, .inl 0, .inr (some (some 181)), .inl 0, .inl 0, .inl 0, .inl 0, .inl 0, .inl 0]), .inl (0, [.inl 6, .inl 6, .inl 0, .inl 1, .inr none, .inl 0, .inr (some (some 165)), .inr (some (some 166)), .inl 0, .inr (some (some 167)), .inr (some (some 168)), .inr (some (some 169)), .inr (some (some 170)), .inr (some (some 171)), .inr (some (some 172)), .inr (some (some 173))]), .inr (0, 4, [], []), .inr (0, 4, [], []), .inr (0, 4, [], []), .inr (0, 4, [], []), .inr (0, 4, [], []), .inr (0, 4, [], []), .inr (0, 16, [], []), .inr (0, 16, [], []), .inr (0, 16, [], []), .inl (3, [.inl 0, .inr (some (some 175)), .inr (some (some 176))]), .inr (0, 40, [], []), .inr (0, 120, [], []), .inl (2, [.inl 0, .inr (some (some 178)), .inl 1, .inl 0, .inl 0, .inr (some (some 179)), .inr (some (some 180))]), .inr (0, 6, [], []), .inr (0, 10, [], []), .inr (0, 10, [], []), .inr (0, 4, [], []), .inl (1, [.inr (some (some 183)), .inl 0, .inl 0, .inl 0, .inl 0, .inl 0]), .inl (0, [.inl 6, .inl 6, .inl 0, .inl 1, .inr none, .inl 0, .inr (some (some 184)), .inr (some (some 185)), .inl 0, .inr (some (some 186)), .inr (some (some 187)), .inr (some (some 188)), .inr (some (some 189)), .inr (some (some 190)), .inr (some (some 191)), .inr (some (some 192))]), .inr (0, 4, [], []), .inr (0, 4, [], []), .inr (0, 4, [], []), .inr (0, 4, [], []), .inr (0, 4, [], []), .inr (0, 4, [], []), .inr (0, 16, [], []), .inr (0, 16, [], []), .inr (0, 16, [], []), .inl (0, [.inl 6, .inl 6, .inl 0, .inl 1, .inr none, .inl 0, .inr (some (some 194)), .inr (some (some 195)), .inl 0, .inr (some (some 196)), .inr (some (some 197)), .inr (some (some 198)), .inr (some (some 199)), .inr (some (some 200)), .inr (some (some 201)), .inr (some (some 202))]), .inr (0, 4, [], []), .inr (0, 4, [], []), .inr (0, 4, [], []), .inr (0, 4, [], []), .inr (0, 4, [], []), .inr (0, 4, [], []), .inr (0, 16, [], []), .inr (0, 16, [], []), .inr (0, 16, [], []), .inl (5, [.inr none, .inr none, .inr none, .inr none, .inr none, .inl 0, .inr (some (some 204))]), .inr (1, 64, [], [])]
def st_wB : List CE := [.inl (7, [.inr (some (some 1)), .inr (some (some 41)), .inr (some (some 162)), .inr (some (some 163)), .inr (some (some 182)), .inr (some (some 193)), .inr (some (some 203))]), .inl (6, [.inr (some (some 2)), .inl 0, .inl 0, .inl (-1), .inr (some (some 3)), .inr (some (some 4)), .inr (some (some 5)), .inr (some (some 6))]), .inr (0, 600, [], []), .inr (0, 3, [], []), .inr (10, 2, [], [(1, 24), (0, 7)]), .inr (13, 2, [], [(1, 34), (0, 17)]), .inr (12, 2, [], [(1, 37), (0, 20)]), .inl (0, [.inl 6, .inl 6, .inl 0, .inl 1, .inr none, .inl 0, .inr (some (some 8)), .inr (some (some 9)), .inl 0, .inr (some (some 10)), .inr (some (some 11)), .inr (some (some 12)), .inr (some (some 13)), .inr (some (some 14)), .inr (some (some 15)), .inr (some (some 16))]), .inr (0, 4, [], []), .inr (0, 4, [], []), .inr (0, 4, [], []), .inr (0, 4, [], []), .inr (0, 4, [], []), .inr (0, 4, [], []), .inr (0, 16, [], []), .inr (0, 16, [], []), .inr (0, 16, [], []), .inl (3, [.inl 0, .inr (some (some 18)), .inr (some (some 19))]), .inr (0, 40, [], []), .inr (0, 120, [], []), .inl (2, [.inl 0, .inr (some (some 21)), .inl 1, .inl 0, .inl 0, .inr (some (some 22)), .inr (some (some 23))]), .inr (0, 6, [], []), .inr (0, 10, [], []), .inr (0, 10, [], []), .inl (0, [.inl 6, .inl 6, .inl 0, .inl 1, .inr none, .inl 0, .inr (some (some 25)), .inr (some (some 26)), .inl 0, .inr (some (some 27)), .inr (some (some 28)), .inr (some (some 29)), .inr (some (some 30)), .inr (some (some 31)), .inr (some (some 32)), .inr (some (some 33))]), .inr (0, 4, [], []), .inr (0, 4, [], []), .inr (0, 4, [], []), .inr (0, 4, [], []), .inr (0, 4, [], []), .inr (0, 4, [], []), .inr (0, 16, [], []), .inr (0, 16, [], []), .inr (0, 16, [], []), .inl (3, [.inl 0, .inr (some (some 35)), .inr (some (some 36))]), .inr (0, 40, [], []), .inr (0, 120, [], []), .inl (2, [.inl 0, .inr (some (some 38)), .inl 1, .inl 0, .inl 0, .inr (some (some 39)), .inr (some (some 40))]), .inr (0, 6, [], []), .inr (0, 10, [], []), .inr (0, 10, [], []), .inr (16, 3, [], [(2, 122), (1, 82), (0, 42)]), .inl (6, [.inr (some (some 43)), .inl 0, .inl 0, .inl (-1), .inr (some (some 44)), .inr (some (some 45)), .inr (some (some 46)), .inr (some (some 47))]), .inr (0, 600, [], []), .inr (0, 3, [], []), .inr (10, 2, [], [(1, 65), (0, 48)]), .inr (13, 2, [], [(1, 75), (0, 58)]), .inr (12, 2, [], [(1, 78), (0, 61)]), .inl (0, [.inl 6, .inl 6, .inl 0, .inl 1, .inr none, .inl 0, .inr (some (some 49)), .inr (some (some 50)), .inl 0, .inr (some (some 51)), .inr (some (some 52)), .inr (some (some 53)), .inr (some (some 54)), .inr (some (some 55)), .inr (some (some 56)), .inr (some (some 57))]), .inr (0, 4, [], []), .inr (0, 4, [], []), .inr (0, 4, [], []), .inr (0, 4, [], []), .inr (0, 4, [], []), .inr (0, 4, [], []), .inr (0, 16, [], []), .inr (0, 16, [], []), .inr (0, 16, [], []), .inl (3, [.inl 0, .inr (some (some 59)), .inr (some (some 60))]), .inr (0, 40, [], []), .inr (0, 120, [], []), .inl (2, [.inl 0, .inr (some (some 62)), .inl 1, .inl 0, .inl 0, .inr (some (some 63)), .inr (some (some 64))]), .inr (0, 6, [], []), .inr (0, 10, [], []), .inr (0, 10, [], []), .inl (0, [.inl 6, .inl 6, .inl 0, .inl 1, .inr none, .inl 0, .inr (some (some 66)), .inr (some (some 67)), .inl 0, .inr (some (some 68)), .inr (some (some 69)), .inr (some (some 70)), .inr (some (some 71)), .inr (some (some 72)), .inr (some (some 73)), .inr (some (some 74))]), .inr (0, 4, [], []), .inr (0, 4, [], []), .inr (0, 4, [], []), .inr (0, 4, [], []), .inr (0, 4, [], []), .inr (0, 4, [], []), .inr (0, 16, [], []), .inr (0, 16, [], []), .inr (0, 16, [], []), .inl (3, [.inl 0, .inr (some (some 76)), .inr (some (some 77))]), .inr (0, 40, [], []), .inr (0, 120, [], []), .inl (2, [.inl 0, .inr (some (some 79)), .inl 1, .inl 0, .inl 0, .inr (some (some 80)), .inr (some (some 81))]), .inr (0, 6, [], []), .inr (0, 10, [], []), .inr (0, 10, [], []), .inl (6, [.inr (some (some 83)), .inl 0, .inl 0, .inl (-1), .inr (some (some 84)), .inr (some (some 85)), .inr (some (some 86)), .inr (some (some 87))]), .inr (0, 600, [], []), .inr (0, 3, [], []), .inr (10, 2, [], [(1, 105), (0, 88)]), .inr (13, 2, [], [(1, 115), (0, 98)]), .inr (12, 2, [], [(1, 118), (0, 101)]), .inl (0, [.inl 6, .inl 6, .inl 0, .inl 1, .inr none, .inl 0, .inr (some (some 89)), .inr (some (some 90)), .inl 0, .inr (some (some 91)), .inr (some (some 92)), .inr (some (some 93)), .inr (some (some 94)), .inr (some (some 95)), .inr (some (some 96)), .inr (some (some 97))]), .inr (0, 4, [], []), .inr (0, 4, [], []), .inr (0, 4, [], []), .inr (0, 4, [], []), .inr (0, 4, [], []), .inr (0, 4, [], []), .inr (0, 16, [], []), .inr (0, 16, [], []), .inr (0, 16, [], []), .inl (3, [.inl 0, .inr (some (some 99)), .inr (some (some 100))]), .inr (0, 40, [], []), .inr (0, 120, [], []), .inl (2, [.inl 0, .inr (some (some 102)), .inl 1, .inl 0, .inl 0, .inr (some (some 103)), .inr (some (some 104))]), .inr (0, 6, [], []), .inr (0, 10, [], []), .inr (0, 10, [], []), .inl (0, [.inl 6, .inl 6, .inl 0, .inl 1, .inr none, .inl 0, .inr (some (some 106)), .inr (some (some 107)), .inl 0, .inr (some (some 108)), .inr (some (some 109)), .inr (some (some 110)), .inr (some (some 111)), .inr (some (some 112)), .inr (some (some 113)), .inr (some (some 114))]), .inr (0, 4, [], []), .inr (0, 4, [], []), .inr (0, 4, [], []), .inr (0, 4, [], []), .inr (0, 4, [], []), .inr (0, 4, [], []), .inr (0, 16, [], []), .inr (0, 16, [], []), .inr (0, 16, [], []), .inl (3, [.inl 0, .inr (some (some 116)), .inr (some (some 117))]), .inr (0, 40, [], []), .inr (0, 120, [], []), .inl (2, [.inl 0, .inr (some (some 119)), .inl 1, .inl 0, .inl 0, .inr (some (some 120)), .inr (some (some 121))]), .inr (0, 6, [], []), .inr (0, 10, [], []), .inr (0, 10, [], []), .inl (6, [.inr (some (some 123)), .inl 0, .inl 0, .inl (-1), .inr (some (some 124)), .inr (some (some 125)), .inr (some (some 126)), .inr (some (some 127))]), .inr (0, 600, [], []), .inr (0, 3, [], []), .inr (10, 2, [], [(1, 145), (0, 128)]), .inr (13, 2, [], [(1, 155), (0, 138)]), .inr (12, 2, [], [(1, 158), (0, 141)]), .inl (0, [.inl 6, .inl 6, .inl 0, .inl 1, .inr none, .inl 0, .inr (some (some 129)), .inr (some (some 130)), .inl 0, .inr (some (some 131)), .inr (some (some 132)), .inr (some (some 133)), .inr (some (some 134)), .inr (some (some 135)), .inr (some (some 136)), .inr (some (some 137))]), .inr (0, 4, [], []), .inr (0, 4, [], []), .inr (0, 4, [], []), .inr (0, 4, [], []), .inr (0, 4, [], []), .inr (0, 4, [], []), .inr (0, 16, [], []), .inr (0, 16, [], []), .inr (0, 16, [], []), .inl (3, [.inl 0, .inr (some (some 139)), .inr (some (some 140))]), .inr (0, 40, [], []), .inr (0, 120, [], []), .inl (2, [.inl 0, .inr (some (some 142)), .inl 1, .inl 0, .inl 0, .inr (some (some 143)), .inr (some (some 144))]), .inr (0, 6, [], []), .inr (0, 10, [], []), .inr (0, 10, [], []), .inl (0, [.inl 6, .inl 6, .inl 0, .inl 1, .inr none, .inl 0, .inr (some (some 146)), .inr (some (some 147)), .inl 0, .inr (some (some 148)), .inr (some (some 149)), .inr (some (some 150)), .inr (some (some 151)), .inr (some (some 152)), .inr (some (some 153)), .inr (some (some 154))]), .inr (0, 4, [], []), .inr (0, 4, [], []), .inr (0, 4, [], []), .inr (0, 4, [], []), .inr (0, 4, [], []), .inr (0, 4, [], []), .inr (0, 16, [], []), .inr (0, 16, [], []), .inr (0, 16, [], []), .inl (3, [.inl 0, .inr (some (some 156)), .inr (some (some 157))]), .inr (0, 40, [], []), .inr (0, 120, [], []), .inl (2, [.inl 0, .inr (some (some 159)), .inl 1, .inl 0, .inl 0, .inr (some (some 160)), .inr (some (some 161))]), .inr (0, 6, [], []), .inr (0, 10, [], []), .inr (0, 10, [], []), .inr (2, 3, [], []), .inl (4, [.inr (some (some 164)), .inr (some (some 174)), .inr (some (some 177)), .inl 0, .inl 0, .inr (some (some 181)), .inl 0, .inl 0, .inl 0, .inl 0, .inl 0, .inl 0]), .inl (0, [.inl 6, .inl 6, .inl 0, .inl 1, .inr none, .inl 0, .inr (some (some 165)), .inr (some (some 166)), .inl 0, .inr (some (some 167)), .inr (some (some 168)), .inr (some (some 169)), .inr (some (some 170)), .inr (some (some 171)), .inr (some (some 172)), .inr (some (some 173))]), .inr (0, 4, [], []), .inr (0, 4, [], []), .inr (0, 4, [], []), .inr (0, 4, [], []), .inr (0, 4, [], []), .inr (0, 4, [], []), .inr (0, 16, [], []), .inr (0, 16, [], []), .inr (0, 16, [], []), .inl (3, [.inl 0, .inr (some (some 175)), .inr (some (some 176))]), .inr (0, 40, [], []), .inr (0, 120, [], []), .inl (2, [.inl 0, .inr (some (some 178)), .inl 1, .inl 0, .inl 0, .inr (some (some 179)), .inr (some (some 180))]), .inr (0, 6, [], []), .inr (0, 10, [], []), .inr (0, 10, [], []), .inr (0, 4, [], []), .inl (1, [.inr (some (some 183)), .inl 0, .inl 0, .inl 0, .inl 0, .inl 0]), .inl (0, [.inl 6, .inl 6, .inl 0, .inl 1, .inr none, .inl 0, .inr (some (some 184)), .inr (some (some 185)), .inl 0, .inr (some (some 186)), .inr (some (some 187)), .inr (some (some 188)), .inr (some (some 189)), .inr (some (some 190)), .inr (some (some 191)), .inr (some (some 192))]), .inr (0, 4, [], []), .inr (0, 4, [], []), .inr (0, 4, [], []), .inr (0, 4, [], []), .inr (0, 4, [], []), .inr (0, 4, [], []), .inr (0, 16, [], []), .inr (0, 16, [], []), .inr (0, 16, [], []), .inl (0, [.inl 6, .inl 6, .inl 0, .inl 1, .inr none, .inl 0, .inr (some (some 194)), .inr (some (some 195)), .inl 0, .inr (some (some 196)), .inr (some (some 197)), .inr (some (some 198)), .inr (some (some 199)), .inr (some (some 200)), .inr (some (some 201)), .inr (some (some 202))]), .inr (0, 4, [], []), .inr (0, 4, [], []), .inr (0, 4, [], []), .inr (0, 4, [], []), .inr (0, 4, [], []), .inr (0, 4, [], []), .inr (0, 16, [], []), .inr (0, 16, [], []), .inr (0, 16, [], []), .inl (5, [.inr none, .inr none, .inr none, .inr none, .inr none, .inl 0, .inr (some (some 204))]), .inr (1, 64, [], []), .inl (8, [.inr (some (some 206)), .inr (some (some 207)), .inl 0, .inl 0, .inl 0, .inl 0, .inl 0, .inl 0, .inl 0, .inl 0, .inl 0, .inl 0, .inr (some (some 208)), .inl 0, .inl 0, .inl 0, .inl 0, .inr (some (some 209)), .inr (some (some 210)), .inl 0, .inl 0, .inr (some (some 211)), .inl 0, .inl 0, .inl 0, .inl 0, .inl 0, .inr (some (some 212)), .inr (some (some 213)), .inr (some (some 214)), .inl 0, .inl 0, .inr (some (some 215)), .inr (some (some 216)), .inr none, .inr none, .inl 0]), .inr (0, 5104, [(6, (-1))], []), .inr (2, 3, [], []), .inr (0, 161, [], []), .inr (0, 48, [], []), .inr (0, 4, [], []), .inr (0, 4, [], []), .inr (0, 64, [], []), .inr (2, 64, [], []), .inr (2, 64, [], []), .inr (2, 64, [], []), .inr (2, 64, [], [])]
def st_ix : List (Nat × List Nat) := [(0, [7, 24, 48, 65, 88, 105, 128, 145, 164, 183, 193]), (1, [182]), (2, [20, 37, 61, 78, 101, 118, 141, 158, 177]), (3, [17, 34, 58, 75, 98, 115, 138, 155, 174]), (4, [163]), (5, [203]), (6, [1, 42, 82, 122]), (7, [0]), (8, [205]), (10, [8, 25, 49, 66, 89, 106, 129, 146, 165, 184, 194]), (11, [9, 26, 50, 67, 90, 107, 130, 147, 166, 185, 195]), (12, [10, 27, 51, 68, 91, 108, 131, 148, 167, 186, 196]), (13, [11, 28, 52, 69, 92, 109, 132, 149, 168, 187, 197]), (14, [12, 29, 53, 70, 93, 110, 133, 150, 169, 188, 198]), (15, [13, 30, 54, 71, 94, 111, 134, 151, 170, 189, 199]), (16, [14, 31, 55, 72, 95, 112, 135, 152, 171, 190, 200]), (17, [15, 32, 56, 73, 96, 113, 136, 153, 172, 191, 201]), (18, [16, 33, 57, 74, 97, 114, 137, 154, 173, 192, 202]), (19, [21, 38, 62, 79, 102, 119, 142, 159, 178]), (20, [22, 39, 63, 80, 103, 120, 143, 160, 179]), (21, [23, 40, 64, 81, 104, 121, 144, 161, 180]), (22, [18, 35, 59, 76, 99, 116, 139, 156, 175]), (23, [19, 36, 60, 77, 100, 117, 140, 157, 176]), (24, [181]), (25, [204]), (26, [2, 43, 83, 123]), (27, [3, 44, 84, 124]), (28, [4, 45, 85, 125]), (29, [5, 46, 86, 126]), (30, [6, 47, 87, 127]), (31, [41]), (32, [162]), (33, [206]), (34, [207]), (35, [208]), (36, [209]), (37, [210]), (38, [211]), (39, [212]), (40, [213]), (41, [214]), (42, [215]), (43, [216])]
def st_eL {α : Type} (f : α → α → Bool) : List α → List α → Bool
  | [], [] => true
  | a :: x, b :: y => f a b && st_eL f x y
  | _, _ => false
theorem st_eL_ok {α : Type} {f : α → α → Bool} (hf : ∀ a b, f a b = true → a = b) : ∀ {x y : List α}, st_eL f x y = true → x = y
  | [], [], _ => rfl
  | a :: x, b :: y, h => by
    have h : (f a b && st_eL f x y) = true := h
    rw [Bool.and_eq_true] at h
    rw [hf a b h.1, st_eL_ok hf h.2]
  | [], _ :: _, h => by cases h
  | _ :: _, [], h => by cases h
def st_eF (a b : CF) : Bool := match a, b with
  | .inl x, .inl y => decide (x = y)
  | .inr x, .inr y => decide (x = y)
  | _, _ => false
theorem st_eF_ok (a b : CF) (h : st_eF a b = true) : a = b := by
  unfold st_eF at h
  split at h
  · rw [of_decide_eq_true h]
  · rw [of_decide_eq_true h]
  · cases h
def st_eE (a b : CE) : Bool := match a, b with
  | .inl (c, fs), .inl (c', fs') => decide (c = c') && st_eL st_eF fs fs'
  | .inr (k, n, is, rs), .inr (k', n', is', rs') => decide (k = k') && decide (n = n') && st_eL (fun p q => decide (p = q)) is is' && st_eL (fun p q => decide (p = q)) rs rs'
  | _, _ => false
theorem st_eE_ok (a b : CE) (h : st_eE a b = true) : a = b := by
  unfold st_eE at h
  split at h
  · rw [Bool.and_eq_true, decide_eq_true_eq] at h
    rw [h.1, st_eL_ok st_eF_ok h.2]
  · simp only [Bool.and_eq_true, decide_eq_true_eq] at h
    rw [h.1.1.1, h.1.1.2, st_eL_ok (fun _ _ z => of_decide_eq_true z) h.1.2, st_eL_ok (fun _ _ z => of_decide_eq_true z) h.2]
  · cases h
def st_eO (a : Option (List CE)) (w : List CE) : Bool := match a with
  | some v => st_eL st_eE v w
  | none => false
theorem st_eO_ok {a : Option (List CE)} {w : List CE} (h : st_eO a w = true) : a = some w := by
  unfold st_eO at h
  split at h
  · rw [st_eL_ok st_eE_ok h]
  · cases h
theorem st_runA0 : st_eO (cn_ex 4000 (7, 0, cn_ent 7 0, [], [.inl (7, cn_df 7)], 0, 0)) st_wA = true := by decide +kernel
theorem st_runB0 : st_eO (cn_ex 400 (8, 0, cn_ent 8 205, [], st_wA ++ [.inl (8, cn_df 8)], 0, 0)) st_wB = true := by decide +kernel
theorem st_runA : cn_ex 4000 (7, 0, cn_ent 7 0, [], [.inl (7, cn_df 7)], 0, 0) = some st_wA := st_eO_ok st_runA0
theorem st_runB : cn_ex 400 (8, 0, cn_ent 8 205, [], st_wA ++ [.inl (8, cn_df 8)], 0, 0) = some st_wB := st_eO_ok st_runB0
/-- an object's place among the cells -/
def st_i (t i : Nat) : Nat := pm_nth ((pm_lk st_ix t).getD []) i 0
def st_iv (e : CE) (k : Nat) : Int32 := match e with
  | .inl (_, fs) => match fs[k]? with
    | some (.inl x) => x
    | _ => 0
  | .inr (_, _, is, _) => (is.lookup k).getD 0
/-- the first heap -/
def st_h0 (ex : Nat → Nat → Nat → Int32) : PH := (fun t i k => if t < 60 then st_iv (st_wB.getD (st_i t i) (.inl (0, []))) k else ex t i k, fun _ _ _ => 0)
def st_rk (v : PV) (k : Nat) : Bool := match v with
  | some (.inr (.inr (some (t, i)))) => decide (t < 60) && decide (st_i t i = k)
  | _ => false
def st_fck (t i f : Nat) (v : CF) : Bool := match pm_fty t f, v with
  | 0, .inl _ => true
  | 2, .inl _ => true
  | 1, .inr none => true
  | 3, .inr (some (some k)) => st_rk (pm_rf t f i) k
  | _, _ => false
def st_ck (q : Nat × Nat) : Bool := match st_wB[st_i q.1 q.2]? with
  | none => false
  | some (.inl (ci, fs)) => decide (q.1 < 9) && decide (ci = q.1) && decide (fs.length = pm_nf q.1) && (List.range fs.length).all (fun f => match fs[f]? with
    | some v => st_fck q.1 q.2 f v
    | none => false)
  | some (.inr (kd, n, _, rs)) => decide (10 ≤ q.1) && decide (q.1 < 44) && decide (n = (pm_nth pm_at (q.1 - 10) (9, 0)).2) && decide (cn_ty kd = pm_aty q.1) && (match pm_ak q.1 with
    | 0 => decide (kd = 0)
    | 1 => decide (kd = 1)
    | 2 => decide (kd = 2)
    | 3 => decide (10 ≤ kd) && (List.range n).all (fun j => match rs.lookup j with
      | some k => st_rk (pm_aref q.1 q.2 j) k
      | none => false)
    | _ => false)
theorem st_ck_all : pm_obs.all st_ck = true := by decide +kernel
theorem st_inj : (pm_obs.map fun q => st_i q.1 q.2).Nodup := by decide +kernel
theorem st_rk_of {v : PV} {k : Nat} (h : st_rk v k = true) : ∃ t i, v = vr t i ∧ t < 60 ∧ st_i t i = k := by
  unfold st_rk at h
  split at h
  · rename_i t i
    rw [Bool.and_eq_true, decide_eq_true_eq, decide_eq_true_eq] at h
    exact ⟨t, i, rfl, h.1, h.2⟩
  · cases h
theorem arrV_congr {cI : ClassId} {N : Nat} {f g : Nat → Value} (h : ∀ j, j < N → f j = g j) : arrV cI N f = arrV cI N g := by
  unfold arrV
  congr 1
  congr 1
  funext j
  exact h j.val j.isLt
section STW
variable {D : va_G} {A : Nat → Prop} {as : Nat → Nat} {cA : Nat → ClassId} {adx : Nat → Nat → Nat} {ex : Nat → Nat → Nat → Int32}
def st_ad (as : Nat → Nat) (adx : Nat → Nat → Nat) (t i : Nat) : Nat := if t < 60 then as (st_i t i) else adx t i
def st_cA (cA : Nat → ClassId) (t i : Nat) : ClassId := cA (st_i t i)
theorem st_ad_lt {t i : Nat} (h : t < 60) : st_ad as adx t i = as (st_i t i) := if_pos h
theorem st_P {H : Heap} (hP : va_P D vwCl (cn_ws as cA st_wB) H) : va_P D vwCl (pm_ws (st_ad as adx) (st_cA cA) (st_h0 ex)) H := by
  intro k q hk
  unfold pm_ws at hk
  rw [List.getElem?_map] at hk
  cases ek : pm_obs[k]? with
  | none => rw [ek] at hk; cases hk
  | some o =>
    obtain ⟨t, i⟩ := o
    rw [ek] at hk
    have hk := Option.some.inj hk
    subst hk
    have hob := List.mem_of_getElem? ek
    have htag := tf_tag _ hob
    simp only at htag
    have hc := List.all_eq_true.mp st_ck_all _ hob
    unfold st_ck at hc
    have ht60 : t < 60 := by omega
    show va_at D vwCl (st_ad as adx t i, pm_cell (st_ad as adx) (st_cA cA) (st_h0 ex) t i) H
    split at hc
    · cases hc
    · rename_i ci fs hw
      simp only [Bool.and_eq_true, decide_eq_true_eq] at hc
      obtain ⟨⟨⟨c1, c2⟩, c3⟩, c4⟩ := hc
      subst c2
      have hat := hP (st_i ci i) (as (st_i ci i), .inr (ci, fs.map (cn_fv as))) (by rw [cn_ws_get, hw]; rfl)
      rw [pm_cell_o c1, st_ad_lt ht60]
      have e1 : (List.range (pm_nf ci)).map (pm_fv (st_ad as adx) (st_h0 ex) ci i) = fs.map (cn_fv as) := by
        refine List.ext_getElem? fun f => ?_
        rw [List.getElem?_map, List.getElem?_map, ← c3]
        by_cases hf : f < fs.length
        · rw [List.getElem?_range hf]
          have c5 := List.all_eq_true.mp c4 f (List.mem_range.mpr hf)
          rw [List.getElem?_eq_getElem hf] at c5 ⊢
          simp only at c5
          show some (pm_fv (st_ad as adx) (st_h0 ex) ci i f) = some (cn_fv as fs[f])
          have ev : (st_h0 ex).1 ci i f = st_iv (.inl (ci, fs)) f := by
            show (if ci < 60 then _ else _) = _
            rw [if_pos ht60, List.getD_eq_getElem?_getD, hw]
            rfl
          have ev2 : st_iv (.inl (ci, fs)) f = match fs[f] with
            | .inl x => x
            | _ => 0 := by
            unfold st_iv
            dsimp only
            rw [List.getElem?_eq_getElem hf]
            cases fs[f] <;> rfl
          unfold st_fck at c5
          unfold pm_fv
          split at c5
          · rename_i e2 e3
            rw [e2, ev, ev2, e3]
            rfl
          · rename_i e2 e3
            rw [e2, ev, ev2, e3]
            rfl
          · rename_i e2 e3
            rw [e2, e3]
            rfl
          · rename_i kk e2 e3
            rw [e2, e3]
            obtain ⟨t', i', g1, g2, g3⟩ := st_rk_of c5
            rw [g1]
            show some (pm_mp (st_ad as adx) .null (vr t' i')) = some (Value.ref (as kk))
            rw [pm_mp_ref (by omega), st_ad_lt g2, g3]
          · cases c5
        · rw [List.getElem?_eq_none_iff.mpr (by rw [List.length_range]; omega), List.getElem?_eq_none_iff.mpr (Nat.not_lt.mp hf)]
          rfl
      rw [e1]
      exact hat
    · rename_i kd n is rs hw
      simp only [Bool.and_eq_true, decide_eq_true_eq] at hc
      obtain ⟨⟨⟨⟨c1, c2⟩, c3⟩, c4⟩, c5⟩ := hc
      have hat := hP (st_i t i) (as (st_i t i), cn_ce as (cA (st_i t i)) (.inr (kd, n, is, rs))) (by rw [cn_ws_get, hw]; rfl)
      have ev : (st_h0 ex).1 t i = fun j => (is.lookup j).getD 0 := by
        funext j
        show (if t < 60 then _ else _) = _
        rw [if_pos ht60, List.getD_eq_getElem?_getD, hw]
        rfl
      have hat : H[as (st_i t i)]? = some (vp_cell (cA (st_i t i)) (n, if kd = 1 then .inr (.inl (fun _ => 0)) else if kd < 3 then .inl (fun j => (is.lookup j).getD 0) else .inr (.inr (.inr (.inr (fun j => (rs.lookup j).map as)))))) := hat
      split at c5
      · rename_i hk
        have c5 := of_decide_eq_true c5
        subst c5
        rw [pm_cell_I (by omega) hk (by decide) (by decide), st_ad_lt ht60, ev, ← c3]
        exact hat
      · rename_i hk
        have c5 := of_decide_eq_true c5
        subst c5
        rw [pm_cell_L (by omega) hk, st_ad_lt ht60, ← c3]
        exact hat
      · rename_i hk
        have c5 := of_decide_eq_true c5
        subst c5
        rw [pm_cell_I (by omega) hk (by decide) (by decide), st_ad_lt ht60, ev, ← c3]
        exact hat
      · rename_i hk
        simp only [Bool.and_eq_true, decide_eq_true_eq] at c5
        obtain ⟨c6, c7⟩ := c5
        rw [pm_cell_R (by omega) hk, st_ad_lt ht60, ← c3]
        show H[as (st_i t i)]? = some (vp_cell (cA (st_i t i)) (n, .inr (.inr (.inr (.inr (fun j => pm_aad (st_ad as adx) (pm_aref t i j)))))))
        rw [hat, if_neg (by omega), if_neg (by omega), vp_cell_q, vp_cell_q]
        congr 1
        refine arrV_congr fun j hj => ?_
        have c8 := List.all_eq_true.mp c7 j (List.mem_range.mpr hj)
        split at c8
        · rename_i kk hl
          obtain ⟨t', i', g1, g2, g3⟩ := st_rk_of c8
          rw [hl, g1]
          show va_rf (some (as kk)) = va_rf (some (st_ad as adx t' i'))
          rw [st_ad_lt g2, g3]
        · cases c8
      · cases c5
theorem st_D (hD : va_D A (cn_ws as cA st_wB)) : va_D A (pm_ws (st_ad as adx) (st_cA cA) (st_h0 ex)) := by
  have key : ∀ k t i : Nat, pm_obs[k]? = some (t, i) → t < 60 ∧ ∃ e, (cn_ws as cA st_wB)[st_i t i]? = some (as (st_i t i), e) := by
    intro k t i ek
    have hob := List.mem_of_getElem? ek
    have htag := tf_tag _ hob
    simp only at htag
    have hc := List.all_eq_true.mp st_ck_all _ hob
    unfold st_ck at hc
    refine ⟨by omega, ?_⟩
    rw [cn_ws_get]
    dsimp only at hc
    cases hw : st_wB[st_i t i]? with
    | none => rw [hw] at hc; cases hc
    | some e => exact ⟨_, rfl⟩
  refine ⟨fun i j p q hi hj hpq => ?_, fun k q hk => ?_⟩
  · unfold pm_ws at hi hj
    rw [List.getElem?_map] at hi hj
    cases ei : pm_obs[i]? with
    | none => rw [ei] at hi; cases hi
    | some a =>
      cases ej : pm_obs[j]? with
      | none => rw [ej] at hj; cases hj
      | some b =>
        obtain ⟨ta, ia⟩ := a
        obtain ⟨tb, ib⟩ := b
        rw [ei] at hi; rw [ej] at hj
        have hi := Option.some.inj hi
        have hj := Option.some.inj hj
        subst hi; subst hj
        obtain ⟨la, xa, ha⟩ := key _ _ _ ei
        obtain ⟨lb, xb, hb⟩ := key _ _ _ ej
        have hpq : st_ad as adx ta ia = st_ad as adx tb ib := hpq
        rw [st_ad_lt la, st_ad_lt lb] at hpq
        have e1 := hD.1 _ _ _ _ ha hb hpq
        have hp := List.pairwise_iff_getElem.mp st_inj
        have gi : (pm_obs.map fun q => st_i q.1 q.2)[i]? = some (st_i ta ia) := by rw [List.getElem?_map, ei]; rfl
        have gj : (pm_obs.map fun q => st_i q.1 q.2)[j]? = some (st_i tb ib) := by rw [List.getElem?_map, ej]; rfl
        obtain ⟨hi1, hi2⟩ := List.getElem?_eq_some_iff.mp gi
        obtain ⟨hj1, hj2⟩ := List.getElem?_eq_some_iff.mp gj
        rcases Nat.lt_trichotomy i j with h | h | h
        · exact absurd (hi2.trans (e1.trans hj2.symm)) (hp i j hi1 hj1 h)
        · exact h
        · exact absurd (hj2.trans (e1.symm.trans hi2.symm)) (hp j i hj1 hi1 h)
  · unfold pm_ws at hk
    rw [List.getElem?_map] at hk
    cases ek : pm_obs[k]? with
    | none => rw [ek] at hk; cases hk
    | some a =>
      obtain ⟨t, i⟩ := a
      rw [ek] at hk
      have hk := Option.some.inj hk
      subst hk
      obtain ⟨l1, x1, h1⟩ := key _ _ _ ek
      show A (st_ad as adx t i)
      rw [st_ad_lt l1]
      exact hD.2 _ _ h1
theorem st_K {s : State} (hT : cn_Ty D cA st_wB s) : va_K D vwCl (pm_tys (st_cA cA)) s := by
  obtain ⟨tys, hK, hty⟩ := hT
  refine ⟨hK.1, fun k q hk => ?_⟩
  unfold pm_tys at hk
  rw [List.getElem?_map] at hk
  cases ek : (pm_obs.filter fun q => decide (10 ≤ q.1))[k]? with
  | none => rw [ek] at hk; cases hk
  | some o =>
    obtain ⟨t, i⟩ := o
    rw [ek] at hk
    have hk := Option.some.inj hk
    subst hk
    have hm := List.mem_filter.mp (List.mem_of_getElem? ek)
    have h10 : 10 ≤ t := by simpa using hm.2
    have hc := List.all_eq_true.mp st_ck_all _ hm.1
    unfold st_ck at hc
    split at hc
    · cases hc
    · simp only [Bool.and_eq_true, decide_eq_true_eq] at hc
      omega
    · rename_i kd n is rs hw
      simp only [Bool.and_eq_true, decide_eq_true_eq] at hc
      obtain ⟨t0, ht0⟩ := hty _ _ _ _ _ hw
      rw [hc.1.2] at ht0
      exact hK.2 t0 _ ht0
end STW
