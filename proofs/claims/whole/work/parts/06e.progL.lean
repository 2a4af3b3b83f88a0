set_option maxRecDepth 100000 in
def pL_fair : List xRow := [(0, 1, .aload_n 2, [], 0, 0),
  (1, 2, .iconst 0, [], 0, 0),
  (2, 3, .aload_n 0, [], 0, 0),
  (3, 4, .iload_n 1, [], 0, 0),
  (4, 7, .invokevirtual 7, [0, 101], 0, 0),
  (7, 8, .i2l, [], 0, 0),
  (8, 9, .lastore, [], 0, 0),
  (9, 12, .goto 6, [15], 0, 0),
  (12, 13, .astore_n 3, [], 0, 0),
  (13, 14, .iconst 1, [], 1, 0),
  (14, 15, .ireturn, [], 0, 0),
  (15, 16, .iconst 0, [], 0, 0),
  (16, 17, .ireturn, [], 0, 0)]
def mL_fair : xM := (302, 13, cL_fair, 4, (some .int), pL_fair)
set_option maxRecDepth 100000 in
theorem gL_fair : xgd mL_fair := ⟨by decide +kernel, xat_in (p := 3142) rfl, by decide +kernel, by decide +kernel, by decide, by decide +kernel, by decide +kernel⟩
set_option maxRecDepth 100000 in
def pL_count : List xRow := [(0, 1, .aload_n 2, [], 0, 0),
  (1, 2, .iconst 0, [], 0, 0),
  (2, 3, .aload_n 0, [], 0, 0),
  (3, 4, .iload_n 1, [], 0, 0),
  (4, 7, .invokevirtual 15, [0, 103], 0, 0),
  (7, 8, .i2l, [], 0, 0),
  (8, 9, .lastore, [], 0, 0),
  (9, 12, .goto 6, [15], 0, 0),
  (12, 13, .astore_n 3, [], 0, 0),
  (13, 14, .iconst 1, [], 1, 0),
  (14, 15, .ireturn, [], 0, 0),
  (15, 16, .iconst 0, [], 0, 0),
  (16, 17, .ireturn, [], 0, 0)]
def mL_count : xM := (303, 13, cL_count, 4, (some .int), pL_count)
set_option maxRecDepth 100000 in
theorem gL_count : xgd mL_count := ⟨by decide +kernel, xat_in (p := 4153) rfl, by decide +kernel, by decide +kernel, by decide, by decide +kernel, by decide +kernel⟩
set_option maxRecDepth 100000 in
def pL_one : List xRow := [(0, 1, .aload_n 3, [], 0, 0),
  (1, 2, .iconst 0, [], 0, 0),
  (2, 3, .aload_n 0, [], 0, 0),
  (3, 4, .iload_n 1, [], 0, 0),
  (4, 5, .iload_n 2, [], 0, 0),
  (5, 8, .invokevirtual 20, [0, 104], 0, 0),
  (8, 9, .i2l, [], 0, 0),
  (9, 10, .lastore, [], 0, 0),
  (10, 13, .goto 7, [17], 0, 0),
  (13, 15, .astore 4, [], 0, 0),
  (15, 16, .iconst 1, [], 1, 0),
  (16, 17, .ireturn, [], 0, 0),
  (17, 18, .iconst 0, [], 0, 0),
  (18, 19, .ireturn, [], 0, 0)]
def mL_one : xM := (304, 13, cL_one, 5, (some .int), pL_one)
set_option maxRecDepth 100000 in
theorem gL_one : xgd mL_one := ⟨by decide +kernel, xat_in (p := 4193) rfl, by decide +kernel, by decide +kernel, by decide, by decide +kernel, by decide +kernel⟩
set_option maxRecDepth 100000 in
def pL_needle : List xRow := [(0, 1, .aload_n 3, [], 0, 0),
  (1, 2, .iconst 0, [], 0, 0),
  (2, 3, .aload_n 0, [], 0, 0),
  (3, 4, .iload_n 1, [], 0, 0),
  (4, 5, .iload_n 2, [], 0, 0),
  (5, 8, .invokevirtual 24, [0, 105], 0, 0),
  (8, 9, .i2l, [], 0, 0),
  (9, 10, .lastore, [], 0, 0),
  (10, 13, .goto 7, [17], 0, 0),
  (13, 15, .astore 4, [], 0, 0),
  (15, 16, .iconst 1, [], 1, 0),
  (16, 17, .ireturn, [], 0, 0),
  (17, 18, .iconst 0, [], 0, 0),
  (18, 19, .ireturn, [], 0, 0)]
def mL_needle : xM := (305, 13, cL_needle, 5, (some .int), pL_needle)
set_option maxRecDepth 100000 in
theorem gL_needle : xgd mL_needle := ⟨by decide +kernel, xat_in (p := 4213) rfl, by decide +kernel, by decide +kernel, by decide, by decide +kernel, by decide +kernel⟩
set_option maxRecDepth 100000 in
def pL_saying : List xRow := [(0, 1, .aload_n 3, [], 0, 0),
  (1, 2, .iconst 0, [], 0, 0),
  (2, 3, .aload_n 0, [], 0, 0),
  (3, 4, .iload_n 1, [], 0, 0),
  (4, 5, .iload_n 2, [], 0, 0),
  (5, 8, .invokevirtual 27, [0, 106], 0, 0),
  (8, 9, .i2l, [], 0, 0),
  (9, 10, .lastore, [], 0, 0),
  (10, 13, .goto 7, [17], 0, 0),
  (13, 15, .astore 4, [], 0, 0),
  (15, 16, .iconst 1, [], 1, 0),
  (16, 17, .ireturn, [], 0, 0),
  (17, 18, .iconst 0, [], 0, 0),
  (18, 19, .ireturn, [], 0, 0)]
def mL_saying : xM := (306, 13, cL_saying, 5, (some .int), pL_saying)
set_option maxRecDepth 100000 in
theorem gL_saying : xgd mL_saying := ⟨by decide +kernel, xat_in (p := 4229) rfl, by decide +kernel, by decide +kernel, by decide, by decide +kernel, by decide +kernel⟩
set_option maxRecDepth 100000 in
def pL_shows : List xRow := [(0, 1, .aload_n 3, [], 0, 0),
  (1, 2, .iconst 0, [], 0, 0),
  (2, 3, .aload_n 0, [], 0, 0),
  (3, 4, .iload_n 1, [], 0, 0),
  (4, 5, .iload_n 2, [], 0, 0),
  (5, 8, .invokevirtual 30, [0, 107], 0, 0),
  (8, 9, .i2l, [], 0, 0),
  (9, 10, .lastore, [], 0, 0),
  (10, 13, .goto 7, [17], 0, 0),
  (13, 15, .astore 4, [], 0, 0),
  (15, 16, .iconst 1, [], 1, 0),
  (16, 17, .ireturn, [], 0, 0),
  (17, 18, .iconst 0, [], 0, 0),
  (18, 19, .ireturn, [], 0, 0)]
def mL_shows : xM := (307, 13, cL_shows, 5, (some .int), pL_shows)
set_option maxRecDepth 100000 in
theorem gL_shows : xgd mL_shows := ⟨by decide +kernel, xat_in (p := 5005) rfl, by decide +kernel, by decide +kernel, by decide, by decide +kernel, by decide +kernel⟩
set_option maxRecDepth 100000 in
def pL_last : List xRow := [(0, 1, .aload_n 3, [], 0, 0),
  (1, 2, .iconst 0, [], 0, 0),
  (2, 3, .aload_n 0, [], 0, 0),
  (3, 4, .iload_n 1, [], 0, 0),
  (4, 5, .iload_n 2, [], 0, 0),
  (5, 8, .invokevirtual 33, [0, 108], 0, 0),
  (8, 9, .i2l, [], 0, 0),
  (9, 10, .lastore, [], 0, 0),
  (10, 13, .goto 7, [17], 0, 0),
  (13, 15, .astore 4, [], 0, 0),
  (15, 16, .iconst 1, [], 1, 0),
  (16, 17, .ireturn, [], 0, 0),
  (17, 18, .iconst 0, [], 0, 0),
  (18, 19, .ireturn, [], 0, 0)]
def mL_last : xM := (308, 13, cL_last, 5, (some .int), pL_last)
set_option maxRecDepth 100000 in
theorem gL_last : xgd mL_last := ⟨by decide +kernel, xat_in (p := 5019) rfl, by decide +kernel, by decide +kernel, by decide, by decide +kernel, by decide +kernel⟩
set_option maxRecDepth 100000 in
def pL_points : List xRow := [(0, 1, .aload_n 3, [], 0, 0),
  (1, 2, .iconst 0, [], 0, 0),
  (2, 3, .aload_n 0, [], 0, 0),
  (3, 4, .iload_n 1, [], 0, 0),
  (4, 5, .iload_n 2, [], 0, 0),
  (5, 8, .invokevirtual 36, [0, 109], 0, 0),
  (8, 9, .i2l, [], 0, 0),
  (9, 10, .lastore, [], 0, 0),
  (10, 13, .goto 7, [17], 0, 0),
  (13, 15, .astore 4, [], 0, 0),
  (15, 16, .iconst 1, [], 1, 0),
  (16, 17, .ireturn, [], 0, 0),
  (17, 18, .iconst 0, [], 0, 0),
  (18, 19, .ireturn, [], 0, 0)]
def mL_points : xM := (309, 13, cL_points, 5, (some .int), pL_points)
set_option maxRecDepth 100000 in
theorem gL_points : xgd mL_points := ⟨by decide +kernel, xat_in (p := 5026) rfl, by decide +kernel, by decide +kernel, by decide, by decide +kernel, by decide +kernel⟩
set_option maxRecDepth 100000 in
def pL_accused : List xRow := [(0, 1, .aload_n 2, [], 0, 0),
  (1, 2, .iconst 0, [], 0, 0),
  (2, 3, .aload_n 0, [], 0, 0),
  (3, 4, .iload_n 1, [], 0, 0),
  (4, 7, .invokevirtual 39, [0, 111], 0, 0),
  (7, 8, .i2l, [], 0, 0),
  (8, 9, .lastore, [], 0, 0),
  (9, 12, .goto 6, [15], 0, 0),
  (12, 13, .astore_n 3, [], 0, 0),
  (13, 14, .iconst 1, [], 1, 0),
  (14, 15, .ireturn, [], 0, 0),
  (15, 16, .iconst 0, [], 0, 0),
  (16, 17, .ireturn, [], 0, 0)]
def mL_accused : xM := (310, 13, cL_accused, 4, (some .int), pL_accused)
set_option maxRecDepth 100000 in
theorem gL_accused : xgd mL_accused := ⟨by decide +kernel, xat_in (p := 5037) rfl, by decide +kernel, by decide +kernel, by decide, by decide +kernel, by decide +kernel⟩
set_option maxRecDepth 100000 in
def pL_tell : List xRow := [(0, 2, .aload 4, [], 0, 0),
  (2, 3, .iconst 0, [], 0, 0),
  (3, 4, .aload_n 0, [], 0, 0),
  (4, 5, .iload_n 1, [], 0, 0),
  (5, 6, .iload_n 2, [], 0, 0),
  (6, 7, .iload_n 3, [], 0, 0),
  (7, 10, .invokevirtual 42, [0, 112], 0, 0),
  (10, 11, .i2l, [], 0, 0),
  (11, 12, .lastore, [], 0, 0),
  (12, 15, .goto 7, [19], 0, 0),
  (15, 17, .astore 5, [], 0, 0),
  (17, 18, .iconst 1, [], 1, 0),
  (18, 19, .ireturn, [], 0, 0),
  (19, 20, .iconst 0, [], 0, 0),
  (20, 21, .ireturn, [], 0, 0)]
def mL_tell : xM := (311, 13, cL_tell, 6, (some .int), pL_tell)
set_option maxRecDepth 100000 in
theorem gL_tell : xgd mL_tell := ⟨by decide +kernel, xat_in (p := 5062) rfl, by decide +kernel, by decide +kernel, by decide, by decide +kernel, by decide +kernel⟩
set_option maxRecDepth 100000 in
def pL_rust : List xRow := [(0, 1, .aload_n 3, [], 0, 0),
  (1, 2, .iconst 0, [], 0, 0),
  (2, 3, .aload_n 0, [], 0, 0),
  (3, 4, .iload_n 1, [], 0, 0),
  (4, 5, .iload_n 2, [], 0, 0),
  (5, 8, .invokevirtual 46, [0, 114], 0, 0),
  (8, 9, .i2l, [], 0, 0),
  (9, 10, .lastore, [], 0, 0),
  (10, 13, .goto 7, [17], 0, 0),
  (13, 15, .astore 4, [], 0, 0),
  (15, 16, .iconst 1, [], 1, 0),
  (16, 17, .ireturn, [], 0, 0),
  (17, 18, .iconst 0, [], 0, 0),
  (18, 19, .ireturn, [], 0, 0)]
def mL_rust : xM := (312, 13, cL_rust, 5, (some .int), pL_rust)
set_option maxRecDepth 100000 in
theorem gL_rust : xgd mL_rust := ⟨by decide +kernel, xat_in (p := 5070) rfl, by decide +kernel, by decide +kernel, by decide, by decide +kernel, by decide +kernel⟩
set_option maxRecDepth 100000 in
def pL_carry : List xRow := [(0, 2, .aload 4, [], 0, 0),
  (2, 3, .iconst 0, [], 0, 0),
  (3, 4, .aload_n 0, [], 0, 0),
  (4, 5, .iload_n 1, [], 0, 0),
  (5, 6, .iload_n 2, [], 0, 0),
  (6, 7, .iload_n 3, [], 0, 0),
  (7, 10, .invokevirtual 49, [0, 115], 0, 0),
  (10, 11, .i2l, [], 0, 0),
  (11, 12, .lastore, [], 0, 0),
  (12, 15, .goto 7, [19], 0, 0),
  (15, 17, .astore 5, [], 0, 0),
  (17, 18, .iconst 1, [], 1, 0),
  (18, 19, .ireturn, [], 0, 0),
  (19, 20, .iconst 0, [], 0, 0),
  (20, 21, .ireturn, [], 0, 0)]
def mL_carry : xM := (313, 13, cL_carry, 6, (some .int), pL_carry)
set_option maxRecDepth 100000 in
theorem gL_carry : xgd mL_carry := ⟨by decide +kernel, xat_in (p := 5078) rfl, by decide +kernel, by decide +kernel, by decide, by decide +kernel, by decide +kernel⟩
set_option maxRecDepth 100000 in
def pL_just : List xRow := [(0, 2, .aload 4, [], 0, 0),
  (2, 3, .iconst 0, [], 0, 0),
  (3, 4, .aload_n 0, [], 0, 0),
  (4, 5, .iload_n 1, [], 0, 0),
  (5, 6, .iload_n 2, [], 0, 0),
  (6, 7, .iload_n 3, [], 0, 0),
  (7, 10, .invokevirtual 52, [0, 118], 0, 0),
  (10, 11, .i2l, [], 0, 0),
  (11, 12, .lastore, [], 0, 0),
  (12, 15, .goto 11, [23], 0, 0),
  (15, 17, .astore 5, [], 0, 0),
  (17, 18, .iconst 1, [], 1, 0),
  (18, 19, .ireturn, [], 0, 0),
  (19, 21, .astore 5, [], 0, 0),
  (21, 22, .iconst 2, [], 2, 0),
  (22, 23, .ireturn, [], 0, 0),
  (23, 24, .iconst 0, [], 0, 0),
  (24, 25, .ireturn, [], 0, 0)]
def mL_just : xM := (314, 13, cL_just, 6, (some .int), pL_just)
set_option maxRecDepth 100000 in
theorem gL_just : xgd mL_just := ⟨by decide +kernel, xat_in (p := 5089) rfl, by decide +kernel, by decide +kernel, by decide, by decide +kernel, by decide +kernel⟩
set_option maxRecDepth 100000 in
def pL_apart : List xRow := [(0, 1, .aload_n 3, [], 0, 0),
  (1, 2, .iconst 0, [], 0, 0),
  (2, 3, .aload_n 0, [], 0, 0),
  (3, 4, .iload_n 1, [], 0, 0),
  (4, 5, .iload_n 2, [], 0, 0),
  (5, 8, .invokevirtual 55, [0, 119], 0, 0),
  (8, 9, .i2l, [], 0, 0),
  (9, 10, .lastore, [], 0, 0),
  (10, 13, .goto 7, [17], 0, 0),
  (13, 15, .astore 4, [], 0, 0),
  (15, 16, .iconst 1, [], 1, 0),
  (16, 17, .ireturn, [], 0, 0),
  (17, 18, .iconst 0, [], 0, 0),
  (18, 19, .ireturn, [], 0, 0)]
def mL_apart : xM := (315, 13, cL_apart, 5, (some .int), pL_apart)
set_option maxRecDepth 100000 in
theorem gL_apart : xgd mL_apart := ⟨by decide +kernel, xat_in (p := 5116) rfl, by decide +kernel, by decide +kernel, by decide, by decide +kernel, by decide +kernel⟩
set_option maxRecDepth 100000 in
def pL_alibi : List xRow := [(0, 2, .aload 4, [], 0, 0),
  (2, 3, .iconst 0, [], 0, 0),
  (3, 4, .aload_n 0, [], 0, 0),
  (4, 5, .iload_n 1, [], 0, 0),
  (5, 6, .iload_n 2, [], 0, 0),
  (6, 7, .iload_n 3, [], 0, 0),
  (7, 10, .invokevirtual 58, [0, 120], 0, 0),
  (10, 11, .i2l, [], 0, 0),
  (11, 12, .lastore, [], 0, 0),
  (12, 15, .goto 11, [23], 0, 0),
  (15, 17, .astore 5, [], 0, 0),
  (17, 18, .iconst 1, [], 1, 0),
  (18, 19, .ireturn, [], 0, 0),
  (19, 21, .astore 5, [], 0, 0),
  (21, 22, .iconst 2, [], 2, 0),
  (22, 23, .ireturn, [], 0, 0),
  (23, 24, .iconst 0, [], 0, 0),
  (24, 25, .ireturn, [], 0, 0)]
def mL_alibi : xM := (316, 13, cL_alibi, 6, (some .int), pL_alibi)
set_option maxRecDepth 100000 in
theorem gL_alibi : xgd mL_alibi := ⟨by decide +kernel, xat_in (p := 5153) rfl, by decide +kernel, by decide +kernel, by decide, by decide +kernel, by decide +kernel⟩
set_option maxRecDepth 100000 in
def pL_plan : List xRow := [(0, 2, .aload 4, [], 0, 0),
  (2, 3, .iconst 0, [], 0, 0),
  (3, 4, .aload_n 0, [], 0, 0),
  (4, 5, .iload_n 1, [], 0, 0),
  (5, 6, .iload_n 2, [], 0, 0),
  (6, 7, .iload_n 3, [], 0, 0),
  (7, 10, .invokevirtual 61, [0, 121], 0, 0),
  (10, 11, .i2l, [], 0, 0),
  (11, 12, .lastore, [], 0, 0),
  (12, 15, .goto 11, [23], 0, 0),
  (15, 17, .astore 5, [], 0, 0),
  (17, 18, .iconst 1, [], 1, 0),
  (18, 19, .ireturn, [], 0, 0),
  (19, 21, .astore 5, [], 0, 0),
  (21, 22, .iconst 2, [], 2, 0),
  (22, 23, .ireturn, [], 0, 0),
  (23, 24, .iconst 0, [], 0, 0),
  (24, 25, .ireturn, [], 0, 0)]
def mL_plan : xM := (317, 13, cL_plan, 6, (some .int), pL_plan)
set_option maxRecDepth 100000 in
theorem gL_plan : xgd mL_plan := ⟨by decide +kernel, xat_in (p := 5160) rfl, by decide +kernel, by decide +kernel, by decide, by decide +kernel, by decide +kernel⟩
set_option maxRecDepth 100000 in
def pL_see : List xRow := [(0, 2, .aload 4, [], 0, 0),
  (2, 3, .iconst 0, [], 0, 0),
  (3, 4, .aload_n 0, [], 0, 0),
  (4, 5, .iload_n 1, [], 0, 0),
  (5, 6, .iload_n 2, [], 0, 0),
  (6, 7, .iload_n 3, [], 0, 0),
  (7, 10, .invokevirtual 64, [0, 122], 0, 0),
  (10, 11, .i2l, [], 0, 0),
  (11, 12, .lastore, [], 0, 0),
  (12, 15, .goto 7, [19], 0, 0),
  (15, 17, .astore 5, [], 0, 0),
  (17, 18, .iconst 1, [], 1, 0),
  (18, 19, .ireturn, [], 0, 0),
  (19, 20, .iconst 0, [], 0, 0),
  (20, 21, .ireturn, [], 0, 0)]
def mL_see : xM := (318, 13, cL_see, 6, (some .int), pL_see)
set_option maxRecDepth 100000 in
theorem gL_see : xgd mL_see := ⟨by decide +kernel, xat_in (p := 5188) rfl, by decide +kernel, by decide +kernel, by decide, by decide +kernel, by decide +kernel⟩
set_option maxRecDepth 100000 in
def pL_suspects : List xRow := [(0, 1, .aload_n 2, [], 0, 0),
  (1, 2, .iconst 0, [], 0, 0),
  (2, 3, .aload_n 0, [], 0, 0),
  (3, 4, .iload_n 1, [], 0, 0),
  (4, 7, .invokevirtual 67, [0, 125], 0, 0),
  (7, 8, .i2l, [], 0, 0),
  (8, 9, .lastore, [], 0, 0),
  (9, 12, .goto 6, [15], 0, 0),
  (12, 13, .astore_n 3, [], 0, 0),
  (13, 14, .iconst 1, [], 1, 0),
  (14, 15, .ireturn, [], 0, 0),
  (15, 16, .iconst 0, [], 0, 0),
  (16, 17, .ireturn, [], 0, 0)]
def mL_suspects : xM := (319, 13, cL_suspects, 4, (some .int), pL_suspects)
set_option maxRecDepth 100000 in
theorem gL_suspects : xgd mL_suspects := ⟨by decide +kernel, xat_in (p := 5199) rfl, by decide +kernel, by decide +kernel, by decide, by decide +kernel, by decide +kernel⟩
set_option maxRecDepth 100000 in
def pL_spots : List xRow := [(0, 1, .aload_n 3, [], 0, 0),
  (1, 2, .iconst 0, [], 0, 0),
  (2, 3, .aload_n 0, [], 0, 0),
  (3, 4, .iload_n 1, [], 0, 0),
  (4, 5, .iload_n 2, [], 0, 0),
  (5, 8, .invokevirtual 70, [0, 126], 0, 0),
  (8, 9, .i2l, [], 0, 0),
  (9, 10, .lastore, [], 0, 0),
  (10, 13, .goto 7, [17], 0, 0),
  (13, 15, .astore 4, [], 0, 0),
  (15, 16, .iconst 1, [], 1, 0),
  (16, 17, .ireturn, [], 0, 0),
  (17, 18, .iconst 0, [], 0, 0),
  (18, 19, .ireturn, [], 0, 0)]
def mL_spots : xM := (320, 13, cL_spots, 5, (some .int), pL_spots)
set_option maxRecDepth 100000 in
theorem gL_spots : xgd mL_spots := ⟨by decide +kernel, xat_in (p := 5219) rfl, by decide +kernel, by decide +kernel, by decide, by decide +kernel, by decide +kernel⟩
set_option maxRecDepth 100000 in
def pL_saucer : List xRow := [(0, 2, .aload 4, [], 0, 0),
  (2, 3, .iconst 0, [], 0, 0),
  (3, 4, .aload_n 0, [], 0, 0),
  (4, 5, .iload_n 1, [], 0, 0),
  (5, 6, .iload_n 2, [], 0, 0),
  (6, 7, .iload_n 3, [], 0, 0),
  (7, 10, .invokevirtual 73, [0, 127], 0, 0),
  (10, 11, .i2l, [], 0, 0),
  (11, 12, .lastore, [], 0, 0),
  (12, 15, .goto 11, [23], 0, 0),
  (15, 17, .astore 5, [], 0, 0),
  (17, 18, .iconst 1, [], 1, 0),
  (18, 19, .ireturn, [], 0, 0),
  (19, 21, .astore 5, [], 0, 0),
  (21, 22, .iconst 2, [], 2, 0),
  (22, 23, .ireturn, [], 0, 0),
  (23, 24, .iconst 0, [], 0, 0),
  (24, 25, .ireturn, [], 0, 0)]
def mL_saucer : xM := (321, 13, cL_saucer, 6, (some .int), pL_saucer)
set_option maxRecDepth 100000 in
theorem gL_saucer : xgd mL_saucer := ⟨by decide +kernel, xat_in (p := 5235) rfl, by decide +kernel, by decide +kernel, by decide, by decide +kernel, by decide +kernel⟩
set_option maxRecDepth 100000 in
def pL_game : List xRow := [(0, 2, .aload 6, [], 0, 0),
  (2, 3, .iconst 0, [], 0, 0),
  (3, 4, .aload_n 0, [], 0, 0),
  (4, 5, .iload_n 1, [], 0, 0),
  (5, 6, .iload_n 2, [], 0, 0),
  (6, 7, .iload_n 3, [], 0, 0),
  (7, 9, .iload 4, [], 0, 0),
  (9, 11, .iload 5, [], 0, 0),
  (11, 14, .invokevirtual 76, [0, 128], 0, 0),
  (14, 15, .i2l, [], 0, 0),
  (15, 16, .lastore, [], 0, 0),
  (16, 19, .goto 11, [27], 0, 0),
  (19, 21, .astore 7, [], 0, 0),
  (21, 22, .iconst 1, [], 1, 0),
  (22, 23, .ireturn, [], 0, 0),
  (23, 25, .astore 7, [], 0, 0),
  (25, 26, .iconst 2, [], 2, 0),
  (26, 27, .ireturn, [], 0, 0),
  (27, 28, .iconst 0, [], 0, 0),
  (28, 29, .ireturn, [], 0, 0)]
def mL_game : xM := (322, 13, cL_game, 8, (some .int), pL_game)
set_option maxRecDepth 100000 in
theorem gL_game : xgd mL_game := ⟨by decide +kernel, xat_in (p := 6006) rfl, by decide +kernel, by decide +kernel, by decide, by decide +kernel, by decide +kernel⟩
set_option maxRecDepth 100000 in
def pL_years : List xRow := [(0, 2, .aload 4, [], 0, 0),
  (2, 3, .iconst 0, [], 0, 0),
  (3, 4, .aload_n 0, [], 0, 0),
  (4, 5, .iload_n 1, [], 0, 0),
  (5, 6, .iload_n 2, [], 0, 0),
  (6, 7, .iload_n 3, [], 0, 0),
  (7, 10, .invokevirtual 80, [0, 129], 0, 0),
  (10, 11, .i2l, [], 0, 0),
  (11, 12, .lastore, [], 0, 0),
  (12, 15, .goto 11, [23], 0, 0),
  (15, 17, .astore 5, [], 0, 0),
  (17, 18, .iconst 1, [], 1, 0),
  (18, 19, .ireturn, [], 0, 0),
  (19, 21, .astore 5, [], 0, 0),
  (21, 22, .iconst 2, [], 2, 0),
  (22, 23, .ireturn, [], 0, 0),
  (23, 24, .iconst 0, [], 0, 0),
  (24, 25, .ireturn, [], 0, 0)]
def mL_years : xM := (323, 13, cL_years, 6, (some .int), pL_years)
set_option maxRecDepth 100000 in
theorem gL_years : xgd mL_years := ⟨by decide +kernel, xat_in (p := 6032) rfl, by decide +kernel, by decide +kernel, by decide, by decide +kernel, by decide +kernel⟩
set_option maxRecDepth 100000 in
def pL_shown : List xRow := [(0, 1, .aload_n 3, [], 0, 0),
  (1, 2, .iconst 0, [], 0, 0),
  (2, 3, .aload_n 0, [], 0, 0),
  (3, 4, .iload_n 1, [], 0, 0),
  (4, 5, .iload_n 2, [], 0, 0),
  (5, 8, .invokevirtual 83, [0, 130], 0, 0),
  (8, 9, .i2l, [], 0, 0),
  (9, 10, .lastore, [], 0, 0),
  (10, 13, .goto 7, [17], 0, 0),
  (13, 15, .astore 4, [], 0, 0),
  (15, 16, .iconst 1, [], 1, 0),
  (16, 17, .ireturn, [], 0, 0),
  (17, 18, .iconst 0, [], 0, 0),
  (18, 19, .ireturn, [], 0, 0)]
def mL_shown : xM := (324, 13, cL_shown, 5, (some .int), pL_shown)
set_option maxRecDepth 100000 in
theorem gL_shown : xgd mL_shown := ⟨by decide +kernel, xat_in (p := 6047) rfl, by decide +kernel, by decide +kernel, by decide, by decide +kernel, by decide +kernel⟩
set_option maxRecDepth 100000 in
def pL_named : List xRow := [(0, 1, .aload_n 3, [], 0, 0),
  (1, 2, .iconst 0, [], 0, 0),
  (2, 3, .aload_n 0, [], 0, 0),
  (3, 4, .iload_n 1, [], 0, 0),
  (4, 5, .iload_n 2, [], 0, 0),
  (5, 8, .invokevirtual 86, [0, 131], 0, 0),
  (8, 9, .i2l, [], 0, 0),
  (9, 10, .lastore, [], 0, 0),
  (10, 13, .goto 7, [17], 0, 0),
  (13, 15, .astore 4, [], 0, 0),
  (15, 16, .iconst 1, [], 1, 0),
  (16, 17, .ireturn, [], 0, 0),
  (17, 18, .iconst 0, [], 0, 0),
  (18, 19, .ireturn, [], 0, 0)]
def mL_named : xM := (325, 13, cL_named, 5, (some .int), pL_named)
set_option maxRecDepth 100000 in
theorem gL_named : xgd mL_named := ⟨by decide +kernel, xat_in (p := 6054) rfl, by decide +kernel, by decide +kernel, by decide, by decide +kernel, by decide +kernel⟩
set_option maxRecDepth 100000 in
def pL_butFor : List xRow := [(0, 1, .aload_n 2, [], 0, 0),
  (1, 2, .iconst 0, [], 0, 0),
  (2, 3, .aload_n 0, [], 0, 0),
  (3, 4, .iload_n 1, [], 0, 0),
  (4, 7, .invokevirtual 89, [0, 132], 0, 0),
  (7, 8, .i2l, [], 0, 0),
  (8, 9, .lastore, [], 0, 0),
  (9, 12, .goto 6, [15], 0, 0),
  (12, 13, .astore_n 3, [], 0, 0),
  (13, 14, .iconst 1, [], 1, 0),
  (14, 15, .ireturn, [], 0, 0),
  (15, 16, .iconst 0, [], 0, 0),
  (16, 17, .ireturn, [], 0, 0)]
def mL_butFor : xM := (326, 13, cL_butFor, 4, (some .int), pL_butFor)
set_option maxRecDepth 100000 in
theorem gL_butFor : xgd mL_butFor := ⟨by decide +kernel, xat_in (p := 6061) rfl, by decide +kernel, by decide +kernel, by decide, by decide +kernel, by decide +kernel⟩
set_option maxRecDepth 100000 in
def pL_rusted : List xRow := [(0, 1, .aload_n 2, [], 0, 0),
  (1, 2, .iconst 0, [], 0, 0),
  (2, 3, .aload_n 0, [], 0, 0),
  (3, 4, .iload_n 1, [], 0, 0),
  (4, 7, .invokevirtual 92, [0, 133], 0, 0),
  (7, 8, .i2l, [], 0, 0),
  (8, 9, .lastore, [], 0, 0),
  (9, 12, .goto 6, [15], 0, 0),
  (12, 13, .astore_n 3, [], 0, 0),
  (13, 14, .iconst 1, [], 1, 0),
  (14, 15, .ireturn, [], 0, 0),
  (15, 16, .iconst 0, [], 0, 0),
  (16, 17, .ireturn, [], 0, 0)]
def mL_rusted : xM := (327, 13, cL_rusted, 4, (some .int), pL_rusted)
set_option maxRecDepth 100000 in
theorem gL_rusted : xgd mL_rusted := ⟨by decide +kernel, xat_in (p := 6069) rfl, by decide +kernel, by decide +kernel, by decide, by decide +kernel, by decide +kernel⟩
set_option maxRecDepth 100000 in
def pL_ears : List xRow := [(0, 1, .aload_n 3, [], 0, 0),
  (1, 2, .iconst 0, [], 0, 0),
  (2, 3, .aload_n 0, [], 0, 0),
  (3, 4, .iload_n 1, [], 0, 0),
  (4, 5, .iload_n 2, [], 0, 0),
  (5, 8, .invokevirtual 95, [0, 134], 0, 0),
  (8, 9, .i2l, [], 0, 0),
  (9, 10, .lastore, [], 0, 0),
  (10, 13, .goto 7, [17], 0, 0),
  (13, 15, .astore 4, [], 0, 0),
  (15, 16, .iconst 1, [], 1, 0),
  (16, 17, .ireturn, [], 0, 0),
  (17, 18, .iconst 0, [], 0, 0),
  (18, 19, .ireturn, [], 0, 0)]
def mL_ears : xM := (328, 13, cL_ears, 5, (some .int), pL_ears)
set_option maxRecDepth 100000 in
theorem gL_ears : xgd mL_ears := ⟨by decide +kernel, xat_in (p := 6077) rfl, by decide +kernel, by decide +kernel, by decide, by decide +kernel, by decide +kernel⟩
set_option maxRecDepth 100000 in
def pL_hideouts : List xRow := [(0, 2, .aload 5, [], 0, 0),
  (2, 3, .iconst 0, [], 0, 0),
  (3, 4, .aload_n 0, [], 0, 0),
  (4, 5, .iload_n 1, [], 0, 0),
  (5, 6, .iload_n 2, [], 0, 0),
  (6, 7, .iload_n 3, [], 0, 0),
  (7, 9, .iload 4, [], 0, 0),
  (9, 12, .invokevirtual 98, [0, 135], 0, 0),
  (12, 13, .i2l, [], 0, 0),
  (13, 14, .lastore, [], 0, 0),
  (14, 17, .goto 11, [25], 0, 0),
  (17, 19, .astore 6, [], 0, 0),
  (19, 20, .iconst 1, [], 1, 0),
  (20, 21, .ireturn, [], 0, 0),
  (21, 23, .astore 6, [], 0, 0),
  (23, 24, .iconst 2, [], 2, 0),
  (24, 25, .ireturn, [], 0, 0),
  (25, 26, .iconst 0, [], 0, 0),
  (26, 27, .ireturn, [], 0, 0)]
def mL_hideouts : xM := (329, 13, cL_hideouts, 7, (some .int), pL_hideouts)
set_option maxRecDepth 100000 in
theorem gL_hideouts : xgd mL_hideouts := ⟨by decide +kernel, xat_in (p := 6088) rfl, by decide +kernel, by decide +kernel, by decide, by decide +kernel, by decide +kernel⟩
set_option maxRecDepth 100000 in
def pL_pardon : List xRow := [(0, 1, .aload_n 3, [], 0, 0),
  (1, 2, .iconst 0, [], 0, 0),
  (2, 3, .aload_n 0, [], 0, 0),
  (3, 4, .iload_n 1, [], 0, 0),
  (4, 5, .iload_n 2, [], 0, 0),
  (5, 8, .invokevirtual 102, [0, 136], 0, 0),
  (8, 9, .i2l, [], 0, 0),
  (9, 10, .lastore, [], 0, 0),
  (10, 13, .goto 7, [17], 0, 0),
  (13, 15, .astore 4, [], 0, 0),
  (15, 16, .iconst 1, [], 1, 0),
  (16, 17, .ireturn, [], 0, 0),
  (17, 18, .iconst 0, [], 0, 0),
  (18, 19, .ireturn, [], 0, 0)]
def mL_pardon : xM := (330, 13, cL_pardon, 5, (some .int), pL_pardon)
set_option maxRecDepth 100000 in
theorem gL_pardon : xgd mL_pardon := ⟨by decide +kernel, xat_in (p := 6095) rfl, by decide +kernel, by decide +kernel, by decide, by decide +kernel, by decide +kernel⟩
set_option maxRecDepth 100000 in
def pL_falsely : List xRow := [(0, 1, .aload_n 2, [], 0, 0),
  (1, 2, .iconst 0, [], 0, 0),
  (2, 3, .aload_n 0, [], 0, 0),
  (3, 4, .iload_n 1, [], 0, 0),
  (4, 7, .invokevirtual 105, [0, 137], 0, 0),
  (7, 8, .i2l, [], 0, 0),
  (8, 9, .lastore, [], 0, 0),
  (9, 12, .goto 6, [15], 0, 0),
  (12, 13, .astore_n 3, [], 0, 0),
  (13, 14, .iconst 1, [], 1, 0),
  (14, 15, .ireturn, [], 0, 0),
  (15, 16, .iconst 0, [], 0, 0),
  (16, 17, .ireturn, [], 0, 0)]
def mL_falsely : xM := (331, 13, cL_falsely, 4, (some .int), pL_falsely)
set_option maxRecDepth 100000 in
theorem gL_falsely : xgd mL_falsely := ⟨by decide +kernel, xat_in (p := 6102) rfl, by decide +kernel, by decide +kernel, by decide, by decide +kernel, by decide +kernel⟩
set_option maxRecDepth 100000 in
def pL_first : List xRow := [(0, 1, .aload_n 2, [], 0, 0),
  (1, 2, .iconst 0, [], 0, 0),
  (2, 3, .aload_n 0, [], 0, 0),
  (3, 4, .iload_n 1, [], 0, 0),
  (4, 7, .invokevirtual 108, [0, 139], 0, 0),
  (7, 8, .i2l, [], 0, 0),
  (8, 9, .lastore, [], 0, 0),
  (9, 12, .goto 6, [15], 0, 0),
  (12, 13, .astore_n 3, [], 0, 0),
  (13, 14, .iconst 1, [], 1, 0),
  (14, 15, .ireturn, [], 0, 0),
  (15, 16, .iconst 0, [], 0, 0),
  (16, 17, .ireturn, [], 0, 0)]
def mL_first : xM := (332, 13, cL_first, 4, (some .int), pL_first)
set_option maxRecDepth 100000 in
theorem gL_first : xgd mL_first := ⟨by decide +kernel, xat_in (p := 6114) rfl, by decide +kernel, by decide +kernel, by decide, by decide +kernel, by decide +kernel⟩
set_option maxRecDepth 100000 in
def pL_busiest : List xRow := [(0, 1, .aload_n 2, [], 0, 0),
  (1, 2, .iconst 0, [], 0, 0),
  (2, 3, .aload_n 0, [], 0, 0),
  (3, 4, .iload_n 1, [], 0, 0),
  (4, 7, .invokevirtual 111, [0, 140], 0, 0),
  (7, 8, .i2l, [], 0, 0),
  (8, 9, .lastore, [], 0, 0),
  (9, 12, .goto 6, [15], 0, 0),
  (12, 13, .astore_n 3, [], 0, 0),
  (13, 14, .iconst 1, [], 1, 0),
  (14, 15, .ireturn, [], 0, 0),
  (15, 16, .iconst 0, [], 0, 0),
  (16, 17, .ireturn, [], 0, 0)]
def mL_busiest : xM := (333, 13, cL_busiest, 4, (some .int), pL_busiest)
set_option maxRecDepth 100000 in
theorem gL_busiest : xgd mL_busiest := ⟨by decide +kernel, xat_in (p := 6121) rfl, by decide +kernel, by decide +kernel, by decide, by decide +kernel, by decide +kernel⟩
